theorem dX10_copy_0 : decode cX10_copy 0 = .ok (.iload_n 2, 1) := by decide +kernel
theorem dX10_copy_1 : decode cX10_copy 1 = .ok (.ifCond .lt 8, 3) := by decide +kernel
theorem dX10_copy_4 : decode cX10_copy 4 = .ok (.iload_n 3, 1) := by decide +kernel
theorem dX10_copy_5 : decode cX10_copy 5 = .ok (.iconst 1, 1) := by decide +kernel
theorem dX10_copy_6 : decode cX10_copy 6 = .ok (.if_icmp .ge 9, 3) := by decide +kernel
theorem dX10_copy_9 : decode cX10_copy 9 = .ok (.aload_n 0, 1) := by decide +kernel
theorem dX10_copy_10 : decode cX10_copy 10 = .ok (.iconst 1, 1) := by decide +kernel
theorem dX10_copy_11 : decode cX10_copy 11 = .ok (.invokevirtual 204, 3) := by decide +kernel
theorem dX10_copy_14 : decode cX10_copy 14 = .ok (.ireturn, 1) := by decide +kernel
theorem dX10_copy_15 : decode cX10_copy 15 = .ok (.aload_n 0, 1) := by decide +kernel
theorem dX10_copy_16 : decode cX10_copy 16 = .ok (.iload_n 1, 1) := by decide +kernel
theorem dX10_copy_17 : decode cX10_copy 17 = .ok (.invokevirtual 451, 3) := by decide +kernel
theorem dX10_copy_20 : decode cX10_copy 20 = .ok (.ifCond .ne 9, 3) := by decide +kernel
theorem dX10_copy_23 : decode cX10_copy 23 = .ok (.aload_n 0, 1) := by decide +kernel
theorem dX10_copy_24 : decode cX10_copy 24 = .ok (.iconst 2, 1) := by decide +kernel
theorem dX10_copy_25 : decode cX10_copy 25 = .ok (.invokevirtual 204, 3) := by decide +kernel
theorem dX10_copy_28 : decode cX10_copy 28 = .ok (.ireturn, 1) := by decide +kernel
theorem dX10_copy_29 : decode cX10_copy 29 = .ok (.aload_n 0, 1) := by decide +kernel
theorem dX10_copy_30 : decode cX10_copy 30 = .ok (.getfield 8, 3) := by decide +kernel
theorem dX10_copy_33 : decode cX10_copy 33 = .ok (.iconst 0, 1) := by decide +kernel
theorem dX10_copy_34 : decode cX10_copy 34 = .ok (.iaload, 1) := by decide +kernel
theorem dX10_copy_35 : decode cX10_copy 35 = .ok (.bipush 10, 2) := by decide +kernel
theorem dX10_copy_37 : decode cX10_copy 37 = .ok (.if_icmp .ne 9, 3) := by decide +kernel
theorem dX10_copy_40 : decode cX10_copy 40 = .ok (.aload_n 0, 1) := by decide +kernel
theorem dX10_copy_41 : decode cX10_copy 41 = .ok (.iconst 3, 1) := by decide +kernel
theorem dX10_copy_42 : decode cX10_copy 42 = .ok (.invokevirtual 204, 3) := by decide +kernel
theorem dX10_copy_45 : decode cX10_copy 45 = .ok (.ireturn, 1) := by decide +kernel
theorem dX10_copy_46 : decode cX10_copy 46 = .ok (.iload_n 2, 1) := by decide +kernel
theorem dX10_copy_47 : decode cX10_copy 47 = .ok (.aload_n 0, 1) := by decide +kernel
theorem dX10_copy_48 : decode cX10_copy 48 = .ok (.iload_n 1, 1) := by decide +kernel
theorem dX10_copy_49 : decode cX10_copy 49 = .ok (.invokevirtual 396, 3) := by decide +kernel
theorem dX10_copy_52 : decode cX10_copy 52 = .ok (.if_icmp .gt 14, 3) := by decide +kernel
theorem dX10_copy_55 : decode cX10_copy 55 = .ok (.iload_n 3, 1) := by decide +kernel
theorem dX10_copy_56 : decode cX10_copy 56 = .ok (.aload_n 0, 1) := by decide +kernel
theorem dX10_copy_57 : decode cX10_copy 57 = .ok (.iload_n 1, 1) := by decide +kernel
theorem dX10_copy_58 : decode cX10_copy 58 = .ok (.invokevirtual 396, 3) := by decide +kernel
theorem dX10_copy_61 : decode cX10_copy 61 = .ok (.iload_n 2, 1) := by decide +kernel
theorem dX10_copy_62 : decode cX10_copy 62 = .ok (.isub, 1) := by decide +kernel
theorem dX10_copy_63 : decode cX10_copy 63 = .ok (.if_icmp .le 9, 3) := by decide +kernel
theorem dX10_copy_66 : decode cX10_copy 66 = .ok (.aload_n 0, 1) := by decide +kernel
theorem dX10_copy_67 : decode cX10_copy 67 = .ok (.iconst 5, 1) := by decide +kernel
theorem dX10_copy_68 : decode cX10_copy 68 = .ok (.invokevirtual 204, 3) := by decide +kernel
theorem dX10_copy_71 : decode cX10_copy 71 = .ok (.ireturn, 1) := by decide +kernel
theorem dX10_copy_72 : decode cX10_copy 72 = .ok (.aload_n 0, 1) := by decide +kernel
theorem dX10_copy_73 : decode cX10_copy 73 = .ok (.iconst 0, 1) := by decide +kernel
theorem dX10_copy_74 : decode cX10_copy 74 = .ok (.sipush 7820, 3) := by decide +kernel
theorem dX10_copy_77 : decode cX10_copy 77 = .ok (.invokevirtual 193, 3) := by decide +kernel
theorem dX10_copy_80 : decode cX10_copy 80 = .ok (.aload_n 0, 1) := by decide +kernel
theorem dX10_copy_81 : decode cX10_copy 81 = .ok (.getfield 8, 3) := by decide +kernel
theorem dX10_copy_84 : decode cX10_copy 84 = .ok (.iconst 0, 1) := by decide +kernel
theorem dX10_copy_85 : decode cX10_copy 85 = .ok (.iaload, 1) := by decide +kernel
theorem dX10_copy_86 : decode cX10_copy 86 = .ok (.istore 4, 2) := by decide +kernel
theorem dX10_copy_88 : decode cX10_copy 88 = .ok (.iconst 0, 1) := by decide +kernel
theorem dX10_copy_89 : decode cX10_copy 89 = .ok (.istore 5, 2) := by decide +kernel
theorem dX10_copy_91 : decode cX10_copy 91 = .ok (.iload 5, 2) := by decide +kernel
theorem dX10_copy_93 : decode cX10_copy 93 = .ok (.iload_n 3, 1) := by decide +kernel
theorem dX10_copy_94 : decode cX10_copy 94 = .ok (.if_icmp .ge 26, 3) := by decide +kernel
theorem dX10_copy_97 : decode cX10_copy 97 = .ok (.aload_n 0, 1) := by decide +kernel
theorem dX10_copy_98 : decode cX10_copy 98 = .ok (.iload 4, 2) := by decide +kernel
theorem dX10_copy_100 : decode cX10_copy 100 = .ok (.iload 5, 2) := by decide +kernel
theorem dX10_copy_102 : decode cX10_copy 102 = .ok (.aload_n 0, 1) := by decide +kernel
theorem dX10_copy_103 : decode cX10_copy 103 = .ok (.iload_n 1, 1) := by decide +kernel
theorem dX10_copy_104 : decode cX10_copy 104 = .ok (.iload_n 2, 1) := by decide +kernel
theorem dX10_copy_105 : decode cX10_copy 105 = .ok (.iload 5, 2) := by decide +kernel
theorem dX10_copy_107 : decode cX10_copy 107 = .ok (.iadd, 1) := by decide +kernel
theorem dX10_copy_108 : decode cX10_copy 108 = .ok (.invokevirtual 399, 3) := by decide +kernel
theorem dX10_copy_111 : decode cX10_copy 111 = .ok (.invokevirtual 473, 3) := by decide +kernel
theorem dX10_copy_114 : decode cX10_copy 114 = .ok (.iinc 5 1, 3) := by decide +kernel
theorem dX10_copy_117 : decode cX10_copy 117 = .ok (.goto (-26), 3) := by decide +kernel
theorem dX10_copy_120 : decode cX10_copy 120 = .ok (.aload_n 0, 1) := by decide +kernel
theorem dX10_copy_121 : decode cX10_copy 121 = .ok (.getfield 8, 3) := by decide +kernel
theorem dX10_copy_124 : decode cX10_copy 124 = .ok (.iconst 1, 1) := by decide +kernel
theorem dX10_copy_125 : decode cX10_copy 125 = .ok (.iload 4, 2) := by decide +kernel
theorem dX10_copy_127 : decode cX10_copy 127 = .ok (.iadd, 1) := by decide +kernel
theorem dX10_copy_128 : decode cX10_copy 128 = .ok (.iload_n 3, 1) := by decide +kernel
theorem dX10_copy_129 : decode cX10_copy 129 = .ok (.iastore, 1) := by decide +kernel
theorem dX10_copy_130 : decode cX10_copy 130 = .ok (.aload_n 0, 1) := by decide +kernel
theorem dX10_copy_131 : decode cX10_copy 131 = .ok (.getfield 8, 3) := by decide +kernel
theorem dX10_copy_134 : decode cX10_copy 134 = .ok (.iconst 0, 1) := by decide +kernel
theorem dX10_copy_135 : decode cX10_copy 135 = .ok (.dup2, 1) := by decide +kernel
theorem dX10_copy_136 : decode cX10_copy 136 = .ok (.iaload, 1) := by decide +kernel
theorem dX10_copy_137 : decode cX10_copy 137 = .ok (.iconst 1, 1) := by decide +kernel
theorem dX10_copy_138 : decode cX10_copy 138 = .ok (.iadd, 1) := by decide +kernel
theorem dX10_copy_139 : decode cX10_copy 139 = .ok (.iastore, 1) := by decide +kernel
theorem dX10_copy_140 : decode cX10_copy 140 = .ok (.aload_n 0, 1) := by decide +kernel
theorem dX10_copy_141 : decode cX10_copy 141 = .ok (.iload 4, 2) := by decide +kernel
theorem dX10_copy_143 : decode cX10_copy 143 = .ok (.invokevirtual 476, 3) := by decide +kernel
theorem dX10_copy_146 : decode cX10_copy 146 = .ok (.ireturn, 1) := by decide +kernel
def mwX10_copym : List Cond := .code yX10_copy cX10_copy 6 (some .int) :: (([.methodLink RX10 204 yX10_refuse, .instanceMethod yX10_refuse, .selects RX10 yX10_refuse yX10_refuse, .initialized RX10, .methodLink RX10 451 yX10_isDoc, .instanceMethod yX10_isDoc, .selects RX10 yX10_isDoc yX10_isDoc, .fieldLink RX10 8 "PatternGateModel" "all" "[I", .methodLink RX10 396 yX10_sizeOf, .instanceMethod yX10_sizeOf, .selects RX10 yX10_sizeOf yX10_sizeOf, .methodLink RX10 193 yX10_copies, .instanceMethod yX10_copies, .selects RX10 yX10_copies yX10_copies, .methodLink RX10 476 yX10_acted_, .instanceMethod yX10_acted_, .selects RX10 yX10_acted_ yX10_acted_, .methodLink RX10 399 yX10_at, .instanceMethod yX10_at, .selects RX10 yX10_at yX10_at, .methodLink RX10 473 yX10_sets, .instanceMethod yX10_sets, .selects RX10 yX10_sets yX10_sets] : List Cond) ++ (wsX100 ++ (mwX10_refusem ++ (mwX10_isDocm ++ (mwX10_sizeOfm ++ (mwX10_copiesm ++ (mwX10_acted_m ++ (mwX10_atm ++ (mwX10_setsm)))))))))
theorem fin_X10_copym_X10 : ∀ w ∈ wsX100, w ∈ mwX10_copym := fun w h => List.mem_cons_of_mem _ (List.mem_append_right _ (List.mem_append_left _ h))
set_option maxRecDepth 20000 in
theorem mg_X10_copym_X10_refuse_204 : GoodIn mwX10_copym (wsV RX10 204 RX10 yX10_refuse mwX10_refusem) := gi_app (A := [.methodLink RX10 204 yX10_refuse, .instanceMethod yX10_refuse, .selects RX10 yX10_refuse yX10_refuse, .initialized RX10]) (goodIn_r _ [1, 2, 3, 4] (by decide +kernel) (by decide +kernel)) (gi_sub gd_mwX10_refusem (fun w h => List.mem_cons_of_mem _ (List.mem_append_right _ (List.mem_append_right _ (List.mem_append_left _ h)))))
set_option maxRecDepth 20000 in
theorem mg_X10_copym_X10_isDoc_451 : GoodIn mwX10_copym (wsV RX10 451 RX10 yX10_isDoc mwX10_isDocm) := gi_app (A := [.methodLink RX10 451 yX10_isDoc, .instanceMethod yX10_isDoc, .selects RX10 yX10_isDoc yX10_isDoc, .initialized RX10]) (goodIn_r _ [5, 6, 7, 4] (by decide +kernel) (by decide +kernel)) (gi_sub gd_mwX10_isDocm (fun w h => List.mem_cons_of_mem _ (List.mem_append_right _ (List.mem_append_right _ (List.mem_append_right _ (List.mem_append_left _ h))))))
set_option maxRecDepth 20000 in
theorem mg_X10_copym_X10_sizeOf_396 : GoodIn mwX10_copym (wsV RX10 396 RX10 yX10_sizeOf mwX10_sizeOfm) := gi_app (A := [.methodLink RX10 396 yX10_sizeOf, .instanceMethod yX10_sizeOf, .selects RX10 yX10_sizeOf yX10_sizeOf, .initialized RX10]) (goodIn_r _ [9, 10, 11, 4] (by decide +kernel) (by decide +kernel)) (gi_sub gd_mwX10_sizeOfm (fun w h => List.mem_cons_of_mem _ (List.mem_append_right _ (List.mem_append_right _ (List.mem_append_right _ (List.mem_append_right _ (List.mem_append_left _ h)))))))
set_option maxRecDepth 20000 in
theorem mg_X10_copym_X10_copies_193 : GoodIn mwX10_copym (wsV RX10 193 RX10 yX10_copies mwX10_copiesm) := gi_app (A := [.methodLink RX10 193 yX10_copies, .instanceMethod yX10_copies, .selects RX10 yX10_copies yX10_copies, .initialized RX10]) (goodIn_r _ [12, 13, 14, 4] (by decide +kernel) (by decide +kernel)) (gi_sub gd_mwX10_copiesm (fun w h => List.mem_cons_of_mem _ (List.mem_append_right _ (List.mem_append_right _ (List.mem_append_right _ (List.mem_append_right _ (List.mem_append_right _ (List.mem_append_left _ h))))))))
set_option maxRecDepth 20000 in
theorem mg_X10_copym_X10_acted__476 : GoodIn mwX10_copym (wsV RX10 476 RX10 yX10_acted_ mwX10_acted_m) := gi_app (A := [.methodLink RX10 476 yX10_acted_, .instanceMethod yX10_acted_, .selects RX10 yX10_acted_ yX10_acted_, .initialized RX10]) (goodIn_r _ [15, 16, 17, 4] (by decide +kernel) (by decide +kernel)) (gi_sub gd_mwX10_acted_m (fun w h => List.mem_cons_of_mem _ (List.mem_append_right _ (List.mem_append_right _ (List.mem_append_right _ (List.mem_append_right _ (List.mem_append_right _ (List.mem_append_right _ (List.mem_append_left _ h)))))))))
set_option maxRecDepth 20000 in
theorem mg_X10_copym_X10_at_399 : GoodIn mwX10_copym (wsV RX10 399 RX10 yX10_at mwX10_atm) := gi_app (A := [.methodLink RX10 399 yX10_at, .instanceMethod yX10_at, .selects RX10 yX10_at yX10_at, .initialized RX10]) (goodIn_r _ [18, 19, 20, 4] (by decide +kernel) (by decide +kernel)) (gi_sub gd_mwX10_atm (fun w h => List.mem_cons_of_mem _ (List.mem_append_right _ (List.mem_append_right _ (List.mem_append_right _ (List.mem_append_right _ (List.mem_append_right _ (List.mem_append_right _ (List.mem_append_right _ (List.mem_append_left _ h))))))))))
set_option maxRecDepth 20000 in
theorem mg_X10_copym_X10_sets_473 : GoodIn mwX10_copym (wsV RX10 473 RX10 yX10_sets mwX10_setsm) := gi_app (A := [.methodLink RX10 473 yX10_sets, .instanceMethod yX10_sets, .selects RX10 yX10_sets yX10_sets, .initialized RX10]) (goodIn_r _ [21, 22, 23, 4] (by decide +kernel) (by decide +kernel)) (gi_sub gd_mwX10_setsm (fun w h => List.mem_cons_of_mem _ (List.mem_append_right _ (List.mem_append_right _ (List.mem_append_right _ (List.mem_append_right _ (List.mem_append_right _ (List.mem_append_right _ (List.mem_append_right _ (List.mem_append_right _ (h)))))))))))
set_option maxHeartbeats 4000000 in
set_option maxRecDepth 100000 in
theorem m_copy (l : Launch) (dC : Nat → ClassId) (dI : Nat → Nat → Nat) (ad : Nat → Nat) (kc : Nat → ClassId) (x0 x1 x2 x3 x4 x5 x6 x7 x8 x9 x10 x11 x12 x13 x14 x15 x16 x17 x18 x19 x20 x21 : Int32) (f0 f1 f2 f3 f4 f5 f6 f7 f8 f9 f10 f11 f12 f13 f14 f15 f16 f17 f18 f19 f20 f21 : Nat → Int32) (fL : Nat → Nat → Int64) (fN : Nat → Nat → Int32) (fP : Nat → Nat → Nat) (fM : Nat → Nat → Int32) (fO : Nat → Nat → Int32) (sz : Nat) (i1 i2 i3 : Int32) (q0 : mI x1.toInt x2.toInt x3.toInt f0 fP) : Met l yX10_copy mwX10_copym ({ frames := 3, cells := 0, slots := 0, locals := 180 }) (va_Pc [.ref (ad 0), .int i1, .int i2, .int i3] (fun U => U.heap.size = sz ∧ va_P (dC, dI) vwCl (mW ad kc x0 x1 x2 x3 x4 x5 x6 x7 x8 x9 x10 x11 x12 x13 x14 x15 x16 x17 x18 x19 x20 x21 f0 f1 f2 f3 f4 f5 f6 f7 f8 f9 f10 f11 f12 f13 f14 f15 f16 f17 f18 f19 f20 f21 fL fN fP fM fO) U.heap ∧ va_K (dC, dI) vwCl (mT kc) U ∧ va_D (fun _ => True) (mW ad kc x0 x1 x2 x3 x4 x5 x6 x7 x8 x9 x10 x11 x12 x13 x14 x15 x16 x17 x18 x19 x20 x21 f0 f1 f2 f3 f4 f5 f6 f7 f8 f9 f10 f11 f12 f13 f14 f15 f16 f17 f18 f19 f20 f21 fL fN fP fM fO))) (va_Qi (fun (o9 u9 : Int32) => o9 = u9) (fun (o9 : Int32) t => ∃ (y0 y1 : Int32) (g0 : Nat → Int32), (mI y1.toInt x2.toInt x3.toInt g0 fP) ∧ va_P (dC, dI) vwCl (mW ad kc y0 y1 x2 x3 x4 x5 x6 x7 x8 x9 x10 x11 x12 x13 x14 x15 x16 x17 x18 x19 x20 x21 g0 f1 f2 f3 f4 f5 f6 f7 f8 f9 f10 f11 f12 f13 f14 f15 f16 f17 f18 f19 f20 f21 fL fN fP fM fO) t.heap ∧ va_K (dC, dI) vwCl (mT kc) t ∧ va_D (va_A (mW ad kc x0 x1 x2 x3 x4 x5 x6 x7 x8 x9 x10 x11 x12 x13 x14 x15 x16 x17 x18 x19 x20 x21 f0 f1 f2 f3 f4 f5 f6 f7 f8 f9 f10 f11 f12 f13 f14 f15 f16 f17 f18 f19 f20 f21 fL fN fP fM fO) sz) (mW ad kc y0 y1 x2 x3 x4 x5 x6 x7 x8 x9 x10 x11 x12 x13 x14 x15 x16 x17 x18 x19 x20 x21 g0 f1 f2 f3 f4 f5 f6 f7 f8 f9 f10 f11 f12 f13 f14 f15 f16 f17 f18 f19 f20 f21 fL fN fP fM fO)) (va_A (mW ad kc x0 x1 x2 x3 x4 x5 x6 x7 x8 x9 x10 x11 x12 x13 x14 x15 x16 x17 x18 x19 x20 x21 f0 f1 f2 f3 f4 f5 f6 f7 f8 f9 f10 f11 f12 f13 f14 f15 f16 f17 f18 f19 f20 f21 fL fN fP fM fO) sz)) 0 0 (va_A (mW ad kc x0 x1 x2 x3 x4 x5 x6 x7 x8 x9 x10 x11 x12 x13 x14 x15 x16 x17 x18 x19 x20 x21 f0 f1 f2 f3 f4 f5 f6 f7 f8 f9 f10 f11 f12 f13 f14 f15 f16 f17 f18 f19 f20 f21 fL fN fP fM fO) sz) := by
  refine Met.ofW (cc := cX10_copy) (maxL := 6) (ret := (some .int)) (by decide +kernel) rfl ?_
  intro p e s m args below meth c s₁ B hml hv
  obtain ⟨rfl, hsz, hP, hK, hD0⟩ := hv
  have hx := B.exec
  have hb := B.bytes
  have hr := B.returns
  have hts := atoms_spec (ws := mwX10_copym) B.pre
  have hown : s.vm.findClass RX10 = some m.cls := findClass_of_methodNamed B.named
  have hlocks := B.notSynchronized
  subst hsz
  have hD := hD0.self (sz := s.heap.size)
  generalize hAe : va_A (mW ad kc x0 x1 x2 x3 x4 x5 x6 x7 x8 x9 x10 x11 x12 x13 x14 x15 x16 x17 x18 x19 x20 x21 f0 f1 f2 f3 f4 f5 f6 f7 f8 f9 f10 f11 f12 f13 f14 f15 f16 f17 f18 f19 f20 f21 fL fN fP fM fO) s.heap.size = A at hD ⊢
  have hA : ∀ q : Nat, s.heap.size ≤ q → A q := fun q h => by rw [← hAe]; exact Or.inr h
  have hP : va_P (dC, dI) vwCl (mW ad kc x0 x1 x2 x3 x4 x5 x6 x7 x8 x9 x10 x11 x12 x13 x14 x15 x16 x17 x18 x19 x20 x21 f0 f1 f2 f3 f4 f5 f6 f7 f8 f9 f10 f11 f12 f13 f14 f15 f16 f17 f18 f19 f20 f21 fL fN fP fM fO) s.heap := hP
  have hD : va_D A (mW ad kc x0 x1 x2 x3 x4 x5 x6 x7 x8 x9 x10 x11 x12 x13 x14 x15 x16 x17 x18 x19 x20 x21 f0 f1 f2 f3 f4 f5 f6 f7 f8 f9 f10 f11 f12 f13 f14 f15 f16 f17 f18 f19 f20 f21 fL fN fP fM fO) := hD
  have hK : va_K (dC, dI) vwCl (mT kc) s := hK
  generalize hH : s.heap = H at hP ⊢
  have hS : va_S A s.heap H [] := by rw [← hH]; exact va_S.rf
  have hl := lv_entry ([.ref (ad 0), .int i1, .int i2, .int i3]) (n := 6) (Nat.le_of_ble_eq_true rfl)
  rw [lg_entry_eq]
  generalize (lg_sl ([.ref (ad 0), .int i1, .int i2, .int i3]) ++ List.replicate (6 - (lg_sl ([.ref (ad 0), .int i1, .int i2, .int i3])).length) Slot.unset).toArray = ls at hl ⊢
  have hl : lv_has ls 6 [(0, .ref (ad 0)), (1, .int i1), (2, .int i2), (3, .int i3)] := hl
  have rg_i1 := i_rng i1
  have rg_i2 := i_rng i2
  have rg_i3 := i_rng i3
  have hd := q0.d
  have hpi := q0.p
  have hq1 := q0.1
  have hq2 := q0.2.1
  have hq3 := q0.2.2.1
  have hd10 := hd.n0
  have hp8 := hd.P0
  refine lv_iload_n hx hb dX10_copy_0 rfl (lv_at hl 2 rfl) ?_
  refine lv_if_lt (tgt := 9) hx hb dX10_copy_1 (by decide) (fun k_1 => ?_) (fun k_1 => ?_)
  · have tk_1 := c_lt (a := i2.toInt) (b := 0) rfl (by decide) k_1
    refine lv_aload_n hx hb dX10_copy_9 rfl (lv_at hl 0 rfl) ?_
    refine lv_iconst (v := 1) hx hb dX10_copy_10 (by decide) ?_
    have lit_1 : (1 : Int32).toInt = 1 := by decide
    have hFc := m_free hD hS hA
    refine va_calli (va_runV (As := [.int 1]) (rest := []) ⟨hx, hb, hml, hown, hts⟩ (m_refuse l dC dI ad kc x0 x1 x2 x3 x4 x5 x6 x7 x8 x9 x10 x11 x12 x13 x14 x15 x16 x17 x18 x19 x20 x21 f0 f1 f2 f3 f4 f5 f6 f7 f8 f9 f10 f11 f12 f13 f14 f15 f16 f17 f18 f19 f20 f21 fL fN fP fM fO H.size 1 ) (cwV 1 hts mg_X10_copym_X10_refuse_204 rfl rfl rfl (by decide +kernel) ⟨Nat.le_of_ble_eq_true rfl, Nat.le_of_ble_eq_true rfl⟩) ⟨fun a U g mk q => by obtain ⟨q0, q1, qP, qK, qD⟩ := q; exact ⟨q0, q1, qP, va_K.moved (u := U) (U := U.calling g mk a) (Vm.Alike.refl U.vm) qK, qD⟩, va_recv hK hP (ci := 10) (q0 := 0) rfl rfl, fun U hU hW => ⟨rfl, by rw [hU], by rw [hU]; exact hP, va_K.moved hW.alike hK, hD.weaken (fun _ _ _ _ => trivial)⟩⟩ rfl rfl hl.1 rfl (lv_room (Nat.le_of_ble_eq_true rfl)) dX10_copy_11 ⟨Nat.le_of_ble_eq_true rfl, Nat.le_of_ble_eq_true rfl⟩) hS (fun q _ h => hFc q h) hFc (fun r_3 u t H1 locs ht hvm hw hB hz1 hk1 hS => ?_)
    subst hw
    obtain ⟨hr_3_0, hP, hK1, hD1⟩ := hB
    rw [ht] at hP
    have hD := hD1.weaken (fun k q _ h => hFc q.1 h)
    clear hz1 hk1 hFc hD1 hK1 hvm
    generalize H1 = H at hP hS ⊢
    have rg_r_3 := i_rng r_3
    have hP : va_P (dC, dI) vwCl (mW ad kc 1 x1 x2 x3 x4 x5 x6 x7 x8 x9 x10 x11 x12 x13 x14 x15 x16 x17 x18 x19 x20 x21 f0 f1 f2 f3 f4 f5 f6 f7 f8 f9 f10 f11 f12 f13 f14 f15 f16 f17 f18 f19 f20 f21 fL fN fP fM fO) H := hP
    have hD : va_D A (mW ad kc 1 x1 x2 x3 x4 x5 x6 x7 x8 x9 x10 x11 x12 x13 x14 x15 x16 x17 x18 x19 x20 x21 f0 f1 f2 f3 f4 f5 f6 f7 f8 f9 f10 f11 f12 f13 f14 f15 f16 f17 f18 f19 f20 f21 fL fN fP fM fO) := hD
    have lit_3 : (1 : Int32).toInt = 1 := by decide
    exact W.iret hx hb hr (fun t ht hW => ⟨⟨_, _, rfl, rfl, 1, x1, f0, q0, by rw [ht]; exact hP, va_K.moved hW.alike hK, hD⟩, hS.F ht⟩) hS.2.2 dX10_copy_14
  · have tk_1 := c_nlt (a := i2.toInt) (b := 0) rfl (by decide) k_1
    refine lv_iload_n hx hb dX10_copy_4 rfl (lv_at hl 3 rfl) ?_
    refine lv_iconst (v := 1) hx hb dX10_copy_5 (by decide) ?_
    refine lv_icmp_ge (tgt := 15) hx hb dX10_copy_6 (by decide) (fun k_5 => ?_) (fun k_5 => ?_)
    · have tk_5 := c_ge (a := i3.toInt) (b := 1) rfl (by decide) k_5
      refine lv_aload_n hx hb dX10_copy_15 rfl (lv_at hl 0 rfl) ?_
      refine lv_iload_n hx hb dX10_copy_16 rfl (lv_at hl 1 rfl) ?_
      refine vp_callSi (W.runV (As := [.int i1]) (rest := []) ⟨hx, hb, hml, hown, hts⟩ (m_isDoc l dC dI ad kc x0 x1 x2 x3 x4 x5 x6 x7 x8 x9 x10 x11 x12 x13 x14 x15 x16 x17 x18 x19 x20 x21 f0 f1 f2 f3 f4 f5 f6 f7 f8 f9 f10 f11 f12 f13 f14 f15 f16 f17 f18 f19 f20 f21 fL fN fP fM fO i1 ) (cwV 1 hts mg_X10_copym_X10_isDoc_451 rfl rfl rfl (by decide +kernel) ⟨Nat.le_of_ble_eq_true rfl, Nat.le_of_ble_eq_true rfl⟩) ⟨fun a U g mk q => by obtain ⟨q0, qP, qK⟩ := q; exact ⟨q0, qP, va_K.moved (u := U) (U := U.calling g mk a) (Vm.Alike.refl U.vm) qK⟩, va_recv hK hP (ci := 10) (q0 := 0) rfl rfl, fun U hU hW => ⟨rfl, by rw [hU]; exact hP, va_K.moved hW.alike hK⟩⟩ rfl rfl hl.1 rfl (lv_room (Nat.le_of_ble_eq_true rfl)) dX10_copy_17 ⟨Nat.le_of_ble_eq_true rfl, Nat.le_of_ble_eq_true rfl⟩) (fun r_6 hr_6 => ?_)
      have rg_r_6 := i_rng r_6
      refine lv_if_ne (tgt := 29) hx hb dX10_copy_20 (by decide) (fun k_7 => ?_) (fun k_7 => ?_)
      · have tk_7 := c_ne (a := r_6.toInt) (b := 0) rfl (by decide) k_7
        refine lv_aload_n hx hb dX10_copy_29 rfl (lv_at hl 0 rfl) ?_
        refine va_get (D := (dC, dI)) (ci := 10) (v := .ref (ad 1)) (C := RX10) (T := TX10) (N := 48) hx hb hts fin_X10_copym_X10 hown hK hP 0 rfl rfl 0 (by decide) (hts (.fieldLink RX10 8 "PatternGateModel" "all" "[I") (List.mem_of_getElem? (i := 8) (by decide +kernel))) (fun _ h9 => h9) rfl dX10_copy_30 ?_
        refine lv_iconst (v := 0) hx hb dX10_copy_33 (by decide) ?_
        refine va_iald hx hb hK hP 1 0 rfl rfl (i := 0) (by unfold vp_in; decide +kernel) dX10_copy_34 ?_
        refine lv_topi (fun y_8 ey_8 => ?_)
        have rg_y_8 := i_rng y_8
        have vy_8 := vI_lda (f := f0) (i := 0) (a := 0) ey_8 (by first | omega | decide)
        have rg_y_8 := i_rng y_8
        refine lv_bipush (v := 10) hx hb dX10_copy_35 (by decide) ?_
        refine lv_icmp_ne (tgt := 46) hx hb dX10_copy_37 (by decide) (fun k_9 => ?_) (fun k_9 => ?_)
        · have tk_9 := c_ne (a := y_8.toInt) (b := 10) rfl (by decide) k_9
          refine lv_iload_n hx hb dX10_copy_46 rfl (lv_at hl 2 rfl) ?_
          refine lv_aload_n hx hb dX10_copy_47 rfl (lv_at hl 0 rfl) ?_
          refine lv_iload_n hx hb dX10_copy_48 rfl (lv_at hl 1 rfl) ?_
          refine vp_callSi (W.runV (As := [.int i1]) (rest := [.int i2]) ⟨hx, hb, hml, hown, hts⟩ (m_sizeOf l dC dI ad kc x0 x1 x2 x3 x4 x5 x6 x7 x8 x9 x10 x11 x12 x13 x14 x15 x16 x17 x18 x19 x20 x21 f0 f1 f2 f3 f4 f5 f6 f7 f8 f9 f10 f11 f12 f13 f14 f15 f16 f17 f18 f19 f20 f21 fL fN fP fM fO i1 (by first | omega | assumption | decide | (have l0 := Int32.toInt_zero; omega)) (by first | omega | assumption | decide | (have l0 := Int32.toInt_zero; omega))) (cwV 1 hts mg_X10_copym_X10_sizeOf_396 rfl rfl rfl (by decide +kernel) ⟨Nat.le_of_ble_eq_true rfl, Nat.le_of_ble_eq_true rfl⟩) ⟨fun a U g mk q => by obtain ⟨q0, qP, qK⟩ := q; exact ⟨q0, qP, va_K.moved (u := U) (U := U.calling g mk a) (Vm.Alike.refl U.vm) qK⟩, va_recv hK hP (ci := 10) (q0 := 0) rfl rfl, fun U hU hW => ⟨rfl, by rw [hU]; exact hP, va_K.moved hW.alike hK⟩⟩ rfl rfl hl.1 rfl (lv_room (Nat.le_of_ble_eq_true rfl)) dX10_copy_49 ⟨Nat.le_of_ble_eq_true rfl, Nat.le_of_ble_eq_true rfl⟩) (fun r_10 hr_10 => ?_)
          have rg_r_10 := i_rng r_10
          have hlr_10 := OKd.sz hd (d := i1.toInt) (by omega) (by omega)
          refine lv_icmp_gt (tgt := 66) hx hb dX10_copy_52 (by decide) (fun k_11 => ?_) (fun k_11 => ?_)
          · have tk_11 := c_gt (a := i2.toInt) (b := r_10.toInt) rfl rfl k_11
            refine lv_aload_n hx hb dX10_copy_66 rfl (lv_at hl 0 rfl) ?_
            refine lv_iconst (v := 5) hx hb dX10_copy_67 (by decide) ?_
            have lit_11 : (5 : Int32).toInt = 5 := by decide
            have hFc := m_free hD hS hA
            refine va_calli (va_runV (As := [.int 5]) (rest := []) ⟨hx, hb, hml, hown, hts⟩ (m_refuse l dC dI ad kc x0 x1 x2 x3 x4 x5 x6 x7 x8 x9 x10 x11 x12 x13 x14 x15 x16 x17 x18 x19 x20 x21 f0 f1 f2 f3 f4 f5 f6 f7 f8 f9 f10 f11 f12 f13 f14 f15 f16 f17 f18 f19 f20 f21 fL fN fP fM fO H.size 5 ) (cwV 1 hts mg_X10_copym_X10_refuse_204 rfl rfl rfl (by decide +kernel) ⟨Nat.le_of_ble_eq_true rfl, Nat.le_of_ble_eq_true rfl⟩) ⟨fun a U g mk q => by obtain ⟨q0, q1, qP, qK, qD⟩ := q; exact ⟨q0, q1, qP, va_K.moved (u := U) (U := U.calling g mk a) (Vm.Alike.refl U.vm) qK, qD⟩, va_recv hK hP (ci := 10) (q0 := 0) rfl rfl, fun U hU hW => ⟨rfl, by rw [hU], by rw [hU]; exact hP, va_K.moved hW.alike hK, hD.weaken (fun _ _ _ _ => trivial)⟩⟩ rfl rfl hl.1 rfl (lv_room (Nat.le_of_ble_eq_true rfl)) dX10_copy_68 ⟨Nat.le_of_ble_eq_true rfl, Nat.le_of_ble_eq_true rfl⟩) hS (fun q _ h => hFc q h) hFc (fun r_13 u t H1 locs ht hvm hw hB hz1 hk1 hS => ?_)
            subst hw
            obtain ⟨hr_13_0, hP, hK1, hD1⟩ := hB
            rw [ht] at hP
            have hD := hD1.weaken (fun k q _ h => hFc q.1 h)
            clear hz1 hk1 hFc hD1 hK1 hvm
            generalize H1 = H at hP hS ⊢
            have rg_r_13 := i_rng r_13
            have hP : va_P (dC, dI) vwCl (mW ad kc 5 x1 x2 x3 x4 x5 x6 x7 x8 x9 x10 x11 x12 x13 x14 x15 x16 x17 x18 x19 x20 x21 f0 f1 f2 f3 f4 f5 f6 f7 f8 f9 f10 f11 f12 f13 f14 f15 f16 f17 f18 f19 f20 f21 fL fN fP fM fO) H := hP
            have hD : va_D A (mW ad kc 5 x1 x2 x3 x4 x5 x6 x7 x8 x9 x10 x11 x12 x13 x14 x15 x16 x17 x18 x19 x20 x21 f0 f1 f2 f3 f4 f5 f6 f7 f8 f9 f10 f11 f12 f13 f14 f15 f16 f17 f18 f19 f20 f21 fL fN fP fM fO) := hD
            have lit_13 : (5 : Int32).toInt = 5 := by decide
            exact W.iret hx hb hr (fun t ht hW => ⟨⟨_, _, rfl, rfl, 5, x1, f0, q0, by rw [ht]; exact hP, va_K.moved hW.alike hK, hD⟩, hS.F ht⟩) hS.2.2 dX10_copy_71
          · have tk_11 := c_ngt (a := i2.toInt) (b := r_10.toInt) rfl rfl k_11
            refine lv_iload_n hx hb dX10_copy_55 rfl (lv_at hl 3 rfl) ?_
            refine lv_aload_n hx hb dX10_copy_56 rfl (lv_at hl 0 rfl) ?_
            refine lv_iload_n hx hb dX10_copy_57 rfl (lv_at hl 1 rfl) ?_
            refine vp_callSi (W.runV (As := [.int i1]) (rest := [.int i3]) ⟨hx, hb, hml, hown, hts⟩ (m_sizeOf l dC dI ad kc x0 x1 x2 x3 x4 x5 x6 x7 x8 x9 x10 x11 x12 x13 x14 x15 x16 x17 x18 x19 x20 x21 f0 f1 f2 f3 f4 f5 f6 f7 f8 f9 f10 f11 f12 f13 f14 f15 f16 f17 f18 f19 f20 f21 fL fN fP fM fO i1 (by first | omega | assumption | decide | (have l0 := Int32.toInt_zero; omega)) (by first | omega | assumption | decide | (have l0 := Int32.toInt_zero; omega))) (cwV 1 hts mg_X10_copym_X10_sizeOf_396 rfl rfl rfl (by decide +kernel) ⟨Nat.le_of_ble_eq_true rfl, Nat.le_of_ble_eq_true rfl⟩) ⟨fun a U g mk q => by obtain ⟨q0, qP, qK⟩ := q; exact ⟨q0, qP, va_K.moved (u := U) (U := U.calling g mk a) (Vm.Alike.refl U.vm) qK⟩, va_recv hK hP (ci := 10) (q0 := 0) rfl rfl, fun U hU hW => ⟨rfl, by rw [hU]; exact hP, va_K.moved hW.alike hK⟩⟩ rfl rfl hl.1 rfl (lv_room (Nat.le_of_ble_eq_true rfl)) dX10_copy_58 ⟨Nat.le_of_ble_eq_true rfl, Nat.le_of_ble_eq_true rfl⟩) (fun r_15 hr_15 => ?_)
            have rg_r_15 := i_rng r_15
            have hlr_15 := OKd.sz hd (d := i1.toInt) (by omega) (by omega)
            refine lv_iload_n hx hb dX10_copy_61 rfl (lv_at hl 2 rfl) ?_
            refine lv_isub hx hb dX10_copy_62 ?_
            refine lv_topi (fun y_16 ey_16 => ?_)
            first | have ty_16 := i_sub (a := r_15.toInt) (b := i2.toInt) rfl rfl ey_16 (by omega) (by omega) | skip
            refine lv_icmp_le (tgt := 72) hx hb dX10_copy_63 (by decide) (fun k_17 => ?_) (fun k_17 => ?_)
            · have tk_17 := c_le (a := i3.toInt) (b := y_16.toInt) rfl rfl k_17
              refine lv_aload_n hx hb dX10_copy_72 rfl (lv_at hl 0 rfl) ?_
              refine lv_iconst (v := 0) hx hb dX10_copy_73 (by decide) ?_
              refine lv_sipush (v := 7820) hx hb dX10_copy_74 (by decide) ?_
              have lit_17 : (0 : Int32).toInt = 0 := by decide
              have lit_18 : (7820 : Int32).toInt = 7820 := by decide
              have hFc := m_free hD hS hA
              refine va_callv (va_runV (As := [.int 0, .int 7820]) (rest := []) ⟨hx, hb, hml, hown, hts⟩ (m_copies l dC dI ad kc x0 x1 x2 x3 x4 x5 x6 x7 x8 x9 x10 x11 x12 x13 x14 x15 x16 x17 x18 x19 x20 x21 f0 f1 f2 f3 f4 f5 f6 f7 f8 f9 f10 f11 f12 f13 f14 f15 f16 f17 f18 f19 f20 f21 fL fN fP fM fO H.size 0 7820 (by first | omega | assumption | decide | (have l0 := Int32.toInt_zero; omega)) (by first | omega | assumption | decide | (have l0 := Int32.toInt_zero; omega)) (by first | omega | assumption | decide | (have l0 := Int32.toInt_zero; omega)) (by first | omega | assumption | decide | (have l0 := Int32.toInt_zero; omega)) (by first | omega | assumption | decide | (have l0 := Int32.toInt_zero; omega))) (cwV 2 hts mg_X10_copym_X10_copies_193 rfl rfl rfl (by decide +kernel) ⟨Nat.le_of_ble_eq_true rfl, Nat.le_of_ble_eq_true rfl⟩) ⟨fun a U g mk q => by obtain ⟨q0, q1, qP, qK, qD⟩ := q; exact ⟨q0, q1, qP, va_K.moved (u := U) (U := U.calling g mk a) (Vm.Alike.refl U.vm) qK, qD⟩, va_recv hK hP (ci := 10) (q0 := 0) rfl rfl, fun U hU hW => ⟨rfl, by rw [hU], by rw [hU]; exact hP, va_K.moved hW.alike hK, hD.weaken (fun _ _ _ _ => trivial)⟩⟩ rfl rfl hl.1 rfl (lv_room (Nat.le_of_ble_eq_true rfl)) dX10_copy_77 ⟨Nat.le_of_ble_eq_true rfl, Nat.le_of_ble_eq_true rfl⟩) hS (fun q _ h => hFc q h) hFc (fun u t H1 locs ht hvm hw hB hz1 hk1 hS => ?_)
              obtain ⟨f_21, hr_20_0, hP, hK1, hD1⟩ := hB
              rw [ht] at hP
              have hD := hD1.weaken (fun k q _ h => hFc q.1 h)
              clear hz1 hk1 hFc hD1 hK1 hvm
              generalize H1 = H at hP hS ⊢
              have hP : va_P (dC, dI) vwCl (mW ad kc x0 x1 x2 x3 x4 x5 x6 x7 x8 x9 x10 x11 x12 x13 x14 x15 x16 x17 x18 x19 x20 x21 f_21 f1 f2 f3 f4 f5 f6 f7 f8 f9 f10 f11 f12 f13 f14 f15 f16 f17 f18 f19 f20 f21 fL fN fP fM fO) H := hP
              have hD : va_D A (mW ad kc x0 x1 x2 x3 x4 x5 x6 x7 x8 x9 x10 x11 x12 x13 x14 x15 x16 x17 x18 x19 x20 x21 f_21 f1 f2 f3 f4 f5 f6 f7 f8 f9 f10 f11 f12 f13 f14 f15 f16 f17 f18 f19 f20 f21 fL fN fP fM fO) := hD
              have hc9 : CP f0 f_21 0 7820 := by have h9 := hr_20_0; rw [(show (0 : Int32).toInt = 0 by decide), (show (7820 : Int32).toInt = 7820 by decide)] at h9; exact h9
              have hA9 := q0.aside hc9
              have hd9 := hA9.1
              have hm9 := hA9.2
              have hsm : ∀ z : Int, 0 ≤ z → z < 7820 → vI f_21 z = vI f0 z := fun z h1 h2 => by rw [hc9 z h1, if_neg (by omega)]
              refine lv_aload_n hx hb dX10_copy_80 rfl (lv_at hl 0 rfl) ?_
              refine va_get (D := (dC, dI)) (ci := 10) (v := .ref (ad 1)) (C := RX10) (T := TX10) (N := 48) hx hb hts fin_X10_copym_X10 hown hK hP 0 rfl rfl 0 (by decide) (hts (.fieldLink RX10 8 "PatternGateModel" "all" "[I") (List.mem_of_getElem? (i := 8) (by decide +kernel))) (fun _ h9 => h9) rfl dX10_copy_81 ?_
              refine lv_iconst (v := 0) hx hb dX10_copy_84 (by decide) ?_
              refine va_iald hx hb hK hP 1 0 rfl rfl (i := 0) (by unfold vp_in; decide +kernel) dX10_copy_85 ?_
              refine lv_topi (fun y_22 ey_22 => ?_)
              have rg_y_22 := i_rng y_22
              have vy_22 := vI_lda (f := f_21) (i := 0) (a := 0) ey_22 (by first | omega | decide)
              have rg_y_22 := i_rng y_22
              have hn9 : y_22.toInt = vI f0 0 := vy_22.trans (hsm 0 (by omega) (by omega))
              have hss := hsm (1 + i1.toInt) (by omega) (by omega)
              refine lv_istore (lv' := [(4, .int y_22), (0, .ref (ad 0)), (1, .int i1), (2, .int i2), (3, .int i3)]) hx hb dX10_copy_86 hl (by decide) rfl (fun ls hl => ?_)
              refine lv_iconst (v := 0) hx hb dX10_copy_88 (by decide) ?_
              refine lv_istore (lv' := [(5, .int 0), (4, .int y_22), (0, .ref (ad 0)), (1, .int i1), (2, .int i2), (3, .int i3)]) hx hb dX10_copy_89 hl (by decide) rfl (fun ls hl => ?_)
              have loop91 : ∀ (lm91 : Nat) (kk : Int32) (ga : Nat → Int32), (0 ≤ kk.toInt ∧ kk.toInt ≤ 60) → (∀ z : Int, 0 ≤ z → (z < 11 + 60 * y_22.toInt ∨ 71 + 60 * y_22.toInt ≤ z) → vI ga z = vI f_21 z) → (∀ k : Int, 0 ≤ k → k < kk.toInt → 0 ≤ vI ga (11 + 60 * y_22.toInt + k) ∧ vI ga (11 + 60 * y_22.toInt + k) ≤ 25) → (kk.toInt ≤ i3.toInt) → ((60 - kk.toInt).toNat) < lm91 → ∀ (H : Heap) (locs : List Loc) (ls : Array Slot), va_P (dC, dI) vwCl (mW ad kc x0 x1 x2 x3 x4 x5 x6 x7 x8 x9 x10 x11 x12 x13 x14 x15 x16 x17 x18 x19 x20 x21 ga f1 f2 f3 f4 f5 f6 f7 f8 f9 f10 f11 f12 f13 f14 f15 f16 f17 f18 f19 f20 f21 fL fN fP fM fO) H → va_D A (mW ad kc x0 x1 x2 x3 x4 x5 x6 x7 x8 x9 x10 x11 x12 x13 x14 x15 x16 x17 x18 x19 x20 x21 ga f1 f2 f3 f4 f5 f6 f7 f8 f9 f10 f11 f12 f13 f14 f15 f16 f17 f18 f19 f20 f21 fL fN fP fM fO) → va_S A s.heap H locs → lv_has ls 6 [(5, .int kk), (4, .int y_22), (0, .ref (ad 0)), (1, .int i1), (2, .int i2), (3, .int i3)] → W p l e (headSpec mwX10_copym ({ frames := 3, cells := 0, slots := 0, locals := 180 })).room s m ([.ref (ad 0), .int i1, .int i2, .int i3]).toArray below meth c H locs 0 0 (MQ below (va_Qi (fun (o9 u9 : Int32) => o9 = u9) (fun (o9 : Int32) t => ∃ (y0 y1 : Int32) (g0 : Nat → Int32), (mI y1.toInt x2.toInt x3.toInt g0 fP) ∧ va_P (dC, dI) vwCl (mW ad kc y0 y1 x2 x3 x4 x5 x6 x7 x8 x9 x10 x11 x12 x13 x14 x15 x16 x17 x18 x19 x20 x21 g0 f1 f2 f3 f4 f5 f6 f7 f8 f9 f10 f11 f12 f13 f14 f15 f16 f17 f18 f19 f20 f21 fL fN fP fM fO) t.heap ∧ va_K (dC, dI) vwCl (mT kc) t ∧ va_D A (mW ad kc y0 y1 x2 x3 x4 x5 x6 x7 x8 x9 x10 x11 x12 x13 x14 x15 x16 x17 x18 x19 x20 x21 g0 f1 f2 f3 f4 f5 f6 f7 f8 f9 f10 f11 f12 f13 f14 f15 f16 f17 f18 f19 f20 f21 fL fN fP fM fO)) A) ([.ref (ad 0), .int i1, .int i2, .int i3]).toArray s 0 0 A) (F0 m 91 ls []) := by
                intro lm91
                induction lm91 with
                | zero => intro kk ga v91_0 v91_1 v91_2 v91_3 hm91; exact absurd hm91 (Nat.not_lt_zero _)
                | succ lm91 ih91 =>
                  intro kk ga v91_0 v91_1 v91_2 v91_3 hm91 H locs ls hP hD hS hl
                  have rg_kk := i_rng kk
                  refine lv_iload hx hb dX10_copy_91 (lv_at hl 0 rfl) ?_
                  refine lv_iload_n hx hb dX10_copy_93 rfl (lv_at hl 5 rfl) ?_
                  refine lv_icmp_ge (tgt := 120) hx hb dX10_copy_94 (by decide) (fun k_23 => ?_) (fun k_23 => ?_)
                  · have tk_23 := c_ge (a := kk.toInt) (b := i3.toInt) rfl rfl k_23
                    refine lv_aload_n hx hb dX10_copy_120 rfl (lv_at hl 2 rfl) ?_
                    refine va_get (D := (dC, dI)) (ci := 10) (v := .ref (ad 1)) (C := RX10) (T := TX10) (N := 48) hx hb hts fin_X10_copym_X10 hown hK hP 0 rfl rfl 0 (by decide) (hts (.fieldLink RX10 8 "PatternGateModel" "all" "[I") (List.mem_of_getElem? (i := 8) (by decide +kernel))) (fun _ h9 => h9) rfl dX10_copy_121 ?_
                    refine lv_iconst (v := 1) hx hb dX10_copy_124 (by decide) ?_
                    refine lv_iload hx hb dX10_copy_125 (lv_at hl 1 rfl) ?_
                    refine lv_iadd hx hb dX10_copy_127 ?_
                    refine lv_topi (fun y_24 ey_24 => ?_)
                    first | have ty_24 := i_add (a := 1) (b := y_22.toInt) (by decide) rfl ey_24 (by omega) (by omega) | skip
                    refine lv_iload_n hx hb dX10_copy_128 rfl (lv_at hl 5 rfl) ?_
                    refine va_iast hx hb hK hP hD hS 1 0 rfl rfl (i := y_24) (vp_of (a := y_24.toInt) rfl (by omega) (by omega)) dX10_copy_129 (fun H locs hP hD hS => ?_)
                    generalize hf_f_25 : upd ga _ _ = f_25 at hP hD
                    have uf_25 := vI_up (a := (1 + y_22.toInt)) (b := i3.toInt) hf_f_25 (by first | omega | decide) (by omega) rfl
                    have hP : va_P (dC, dI) vwCl (mW ad kc x0 x1 x2 x3 x4 x5 x6 x7 x8 x9 x10 x11 x12 x13 x14 x15 x16 x17 x18 x19 x20 x21 f_25 f1 f2 f3 f4 f5 f6 f7 f8 f9 f10 f11 f12 f13 f14 f15 f16 f17 f18 f19 f20 f21 fL fN fP fM fO) H := hP
                    have hD : va_D A (mW ad kc x0 x1 x2 x3 x4 x5 x6 x7 x8 x9 x10 x11 x12 x13 x14 x15 x16 x17 x18 x19 x20 x21 f_25 f1 f2 f3 f4 f5 f6 f7 f8 f9 f10 f11 f12 f13 f14 f15 f16 f17 f18 f19 f20 f21 fL fN fP fM fO) := hD
                    refine lv_aload_n hx hb dX10_copy_130 rfl (lv_at hl 2 rfl) ?_
                    refine va_get (D := (dC, dI)) (ci := 10) (v := .ref (ad 1)) (C := RX10) (T := TX10) (N := 48) hx hb hts fin_X10_copym_X10 hown hK hP 0 rfl rfl 0 (by decide) (hts (.fieldLink RX10 8 "PatternGateModel" "all" "[I") (List.mem_of_getElem? (i := 8) (by decide +kernel))) (fun _ h9 => h9) rfl dX10_copy_131 ?_
                    refine lv_iconst (v := 0) hx hb dX10_copy_134 (by decide) ?_
                    refine lv_dup2_11 hx hb dX10_copy_135 rfl rfl ?_
                    refine va_iald hx hb hK hP 1 0 rfl rfl (i := 0) (by unfold vp_in; decide +kernel) dX10_copy_136 ?_
                    refine lv_topi (fun y_26 ey_26 => ?_)
                    have rg_y_26 := i_rng y_26
                    have vy_26 := vI_lda (f := f_25) (i := 0) (a := 0) ey_26 (by first | omega | decide)
                    have rg_y_26 := i_rng y_26
                    have hy7 : y_26.toInt = vI f0 0 := vy_26.trans ((uf_25.2 0 (by omega) (by omega)).trans ((v91_1 0 (by omega) (by omega)).trans (hsm 0 (by omega) (by omega))))
                    refine lv_iconst (v := 1) hx hb dX10_copy_137 (by decide) ?_
                    refine lv_iadd hx hb dX10_copy_138 ?_
                    refine lv_topi (fun y_27 ey_27 => ?_)
                    first | have ty_27 := i_add (a := y_26.toInt) (b := 1) rfl (by decide) ey_27 (by omega) (by omega) | skip
                    refine va_iast hx hb hK hP hD hS 1 0 rfl rfl (i := 0) (by unfold vp_in; decide +kernel) dX10_copy_139 (fun H locs hP hD hS => ?_)
                    generalize hf_f_28 : upd f_25 _ _ = f_28 at hP hD
                    have uf_28 := vI_up (a := 0) (b := y_27.toInt) hf_f_28 (by first | omega | decide) (by omega) rfl
                    have hP : va_P (dC, dI) vwCl (mW ad kc x0 x1 x2 x3 x4 x5 x6 x7 x8 x9 x10 x11 x12 x13 x14 x15 x16 x17 x18 x19 x20 x21 f_28 f1 f2 f3 f4 f5 f6 f7 f8 f9 f10 f11 f12 f13 f14 f15 f16 f17 f18 f19 f20 f21 fL fN fP fM fO) H := hP
                    have hD : va_D A (mW ad kc x0 x1 x2 x3 x4 x5 x6 x7 x8 x9 x10 x11 x12 x13 x14 x15 x16 x17 x18 x19 x20 x21 f_28 f1 f2 f3 f4 f5 f6 f7 f8 f9 f10 f11 f12 f13 f14 f15 f16 f17 f18 f19 f20 f21 fL fN fP fM fO) := hD
                    have hd6 := OKd.doc (g := f_28) (n := i3.toInt) (d := y_22.toInt) hd9 (by have h9 := hsm 0 (by omega) (by omega); omega) (by omega) (by omega) (by omega) (fun k h1 h2 => by rw [uf_28.2 _ (by omega) (by omega), uf_25.2 _ (by omega) (by omega)]; exact v91_2 k h1 (by omega)) (by have h9 := uf_28.1; omega) (by rw [uf_28.2 _ (by omega) (by omega)]; exact uf_25.1) (fun z z1 z2 z3 z4 => by rw [uf_28.2 z z1 (by omega), uf_25.2 z z1 (by omega)]; exact v91_1 z z1 z4)
                    have hm6 := hm9.far (fun z hz => by rw [uf_28.2 z (by omega) (by omega), uf_25.2 z (by omega) (by omega)]; exact v91_1 z (by omega) (by omega))
                    refine lv_aload_n hx hb dX10_copy_140 rfl (lv_at hl 2 rfl) ?_
                    refine lv_iload hx hb dX10_copy_141 (lv_at hl 1 rfl) ?_
                    have hFc := m_free hD hS hA
                    refine va_calli (va_runV (As := [.int y_22]) (rest := []) ⟨hx, hb, hml, hown, hts⟩ (m_actedV l dC dI ad kc x0 x1 x2 x3 x4 x5 x6 x7 x8 x9 x10 x11 x12 x13 x14 x15 x16 x17 x18 x19 x20 x21 f_28 f1 f2 f3 f4 f5 f6 f7 f8 f9 f10 f11 f12 f13 f14 f15 f16 f17 f18 f19 f20 f21 fL fN fP fM fO H.size y_22 (by first | omega | assumption | decide | (have l0 := Int32.toInt_zero; omega)) (by first | omega | assumption | decide | (have l0 := Int32.toInt_zero; omega)) hd6 hm6) (cwV 1 hts mg_X10_copym_X10_acted__476 rfl rfl rfl (by decide +kernel) ⟨Nat.le_of_ble_eq_true rfl, Nat.le_of_ble_eq_true rfl⟩) ⟨fun a U g mk q => by obtain ⟨q0, q1, qP, qK, qD⟩ := q; exact ⟨q0, q1, qP, va_K.moved (u := U) (U := U.calling g mk a) (Vm.Alike.refl U.vm) qK, qD⟩, va_recv hK hP (ci := 10) (q0 := 0) rfl rfl, fun U hU hW => ⟨rfl, by rw [hU], by rw [hU]; exact hP, va_K.moved hW.alike hK, hD.weaken (fun _ _ _ _ => trivial)⟩⟩ rfl rfl hl.1 rfl (lv_room (Nat.le_of_ble_eq_true rfl)) dX10_copy_143 ⟨Nat.le_of_ble_eq_true rfl, Nat.le_of_ble_eq_true rfl⟩) hS (fun q _ h => hFc q h) hFc (fun r_29 u t H1 locs ht hvm hw hB hz1 hk1 hS => ?_)
                    subst hw
                    obtain ⟨x_30, x_31, f_32, hr_29_0, hr_29_1, hr_29_2, hP, hK1, hD1⟩ := hB
                    rw [ht] at hP
                    have hD := hD1.weaken (fun k q _ h => hFc q.1 h)
                    clear hz1 hk1 hFc hD1 hK1 hvm
                    generalize H1 = H at hP hS ⊢
                    have rg_x_30 := i_rng x_30
                    have rg_x_31 := i_rng x_31
                    have rg_r_29 := i_rng r_29
                    have hP : va_P (dC, dI) vwCl (mW ad kc x_30 x_31 x2 x3 x4 x5 x6 x7 x8 x9 x10 x11 x12 x13 x14 x15 x16 x17 x18 x19 x20 x21 f_32 f1 f2 f3 f4 f5 f6 f7 f8 f9 f10 f11 f12 f13 f14 f15 f16 f17 f18 f19 f20 f21 fL fN fP fM fO) H := hP
                    have hD : va_D A (mW ad kc x_30 x_31 x2 x3 x4 x5 x6 x7 x8 x9 x10 x11 x12 x13 x14 x15 x16 x17 x18 x19 x20 x21 f_32 f1 f2 f3 f4 f5 f6 f7 f8 f9 f10 f11 f12 f13 f14 f15 f16 f17 f18 f19 f20 f21 fL fN fP fM fO) := hD
                    exact W.iret hx hb hr (fun t ht hW => ⟨⟨_, _, rfl, rfl, x_30, x_31, f_32, (mC.mI hr_29_1 hr_29_0 (by have h9 := hr_29_2; omega) hq2 hq3 hpi), by rw [ht]; exact hP, va_K.moved hW.alike hK, hD⟩, hS.F ht⟩) hS.2.2 dX10_copy_146
                  · have tk_23 := c_nge (a := kk.toInt) (b := i3.toInt) rfl rfl k_23
                    refine lv_aload_n hx hb dX10_copy_97 rfl (lv_at hl 2 rfl) ?_
                    refine lv_iload hx hb dX10_copy_98 (lv_at hl 1 rfl) ?_
                    refine lv_iload hx hb dX10_copy_100 (lv_at hl 0 rfl) ?_
                    refine lv_aload_n hx hb dX10_copy_102 rfl (lv_at hl 2 rfl) ?_
                    refine lv_iload_n hx hb dX10_copy_103 rfl (lv_at hl 3 rfl) ?_
                    refine lv_iload_n hx hb dX10_copy_104 rfl (lv_at hl 4 rfl) ?_
                    refine lv_iload hx hb dX10_copy_105 (lv_at hl 0 rfl) ?_
                    refine lv_iadd hx hb dX10_copy_107 ?_
                    refine lv_topi (fun y_33 ey_33 => ?_)
                    first | have ty_33 := i_add (a := i2.toInt) (b := kk.toInt) rfl rfl ey_33 (by omega) (by omega) | skip
                    refine vp_callSi (W.runV (As := [.int i1, .int y_33]) (rest := [.int kk, .int y_22, .ref (ad 0)]) ⟨hx, hb, hml, hown, hts⟩ (m_at l dC dI ad kc x0 x1 x2 x3 x4 x5 x6 x7 x8 x9 x10 x11 x12 x13 x14 x15 x16 x17 x18 x19 x20 x21 ga f1 f2 f3 f4 f5 f6 f7 f8 f9 f10 f11 f12 f13 f14 f15 f16 f17 f18 f19 f20 f21 fL fN fP fM fO i1 y_33 (by first | omega | assumption | decide | (have l0 := Int32.toInt_zero; omega)) (by first | omega | assumption | decide | (have l0 := Int32.toInt_zero; omega)) (by first | omega | assumption | decide | (have l0 := Int32.toInt_zero; omega)) (by first | omega | assumption | decide | (have l0 := Int32.toInt_zero; omega))) (cwV 2 hts mg_X10_copym_X10_at_399 rfl rfl rfl (by decide +kernel) ⟨Nat.le_of_ble_eq_true rfl, Nat.le_of_ble_eq_true rfl⟩) ⟨fun a U g mk q => by obtain ⟨q0, qP, qK⟩ := q; exact ⟨q0, qP, va_K.moved (u := U) (U := U.calling g mk a) (Vm.Alike.refl U.vm) qK⟩, va_recv hK hP (ci := 10) (q0 := 0) rfl rfl, fun U hU hW => ⟨rfl, by rw [hU]; exact hP, va_K.moved hW.alike hK⟩⟩ rfl rfl hl.1 rfl (lv_room (Nat.le_of_ble_eq_true rfl)) dX10_copy_108 ⟨Nat.le_of_ble_eq_true rfl, Nat.le_of_ble_eq_true rfl⟩) (fun r_34 hr_34 => ?_)
                    have rg_r_34 := i_rng r_34
                    have hl9 := hd.lt (d := i1.toInt) (k := y_33.toInt) (by omega) (by omega) (by omega) (by omega)
                    have hl8 : r_34.toInt = vI f0 (11 + 60 * i1.toInt + y_33.toInt) := hr_34.trans ((v91_1 _ (by omega) (by omega)).trans (hsm _ (by omega) (by omega)))
                    have hFc := m_free hD hS hA
                    refine va_callv (va_runV (As := [.int y_22, .int kk, .int r_34]) (rest := []) ⟨hx, hb, hml, hown, hts⟩ (m_sets l dC dI ad kc x0 x1 x2 x3 x4 x5 x6 x7 x8 x9 x10 x11 x12 x13 x14 x15 x16 x17 x18 x19 x20 x21 ga f1 f2 f3 f4 f5 f6 f7 f8 f9 f10 f11 f12 f13 f14 f15 f16 f17 f18 f19 f20 f21 fL fN fP fM fO H.size y_22 kk r_34 (by first | omega | assumption | decide | (have l0 := Int32.toInt_zero; omega)) (by first | omega | assumption | decide | (have l0 := Int32.toInt_zero; omega))) (cwV 3 hts mg_X10_copym_X10_sets_473 rfl rfl rfl (by decide +kernel) ⟨Nat.le_of_ble_eq_true rfl, Nat.le_of_ble_eq_true rfl⟩) ⟨fun a U g mk q => by obtain ⟨q0, q1, qP, qK, qD⟩ := q; exact ⟨q0, q1, qP, va_K.moved (u := U) (U := U.calling g mk a) (Vm.Alike.refl U.vm) qK, qD⟩, va_recv hK hP (ci := 10) (q0 := 0) rfl rfl, fun U hU hW => ⟨rfl, by rw [hU], by rw [hU]; exact hP, va_K.moved hW.alike hK, hD.weaken (fun _ _ _ _ => trivial)⟩⟩ rfl rfl hl.1 rfl (lv_room (Nat.le_of_ble_eq_true rfl)) dX10_copy_111 ⟨Nat.le_of_ble_eq_true rfl, Nat.le_of_ble_eq_true rfl⟩) hS (fun q _ h => hFc q h) hFc (fun u t H1 locs ht hvm hw hB hz1 hk1 hS => ?_)
                    obtain ⟨f_36, hr_35_0, hP, hK1, hD1⟩ := hB
                    rw [ht] at hP
                    have hD := hD1.weaken (fun k q _ h => hFc q.1 h)
                    clear hz1 hk1 hFc hD1 hK1 hvm
                    generalize H1 = H at hP hS ⊢
                    have hP : va_P (dC, dI) vwCl (mW ad kc x0 x1 x2 x3 x4 x5 x6 x7 x8 x9 x10 x11 x12 x13 x14 x15 x16 x17 x18 x19 x20 x21 f_36 f1 f2 f3 f4 f5 f6 f7 f8 f9 f10 f11 f12 f13 f14 f15 f16 f17 f18 f19 f20 f21 fL fN fP fM fO) H := hP
                    have hD : va_D A (mW ad kc x0 x1 x2 x3 x4 x5 x6 x7 x8 x9 x10 x11 x12 x13 x14 x15 x16 x17 x18 x19 x20 x21 f_36 f1 f2 f3 f4 f5 f6 f7 f8 f9 f10 f11 f12 f13 f14 f15 f16 f17 f18 f19 f20 f21 fL fN fP fM fO) := hD
                    obtain ⟨y_37, ey_37⟩ : ∃ y : Int32, y = kk + 1 := ⟨_, rfl⟩
                    first | have ty_37 := i_add (a := kk.toInt) (b := 1) rfl (by decide) ey_37 (by omega) (by omega) | skip
                    refine lv_iinc (v := y_37) (lv' := [(5, .int y_37), (4, .int y_22), (0, .ref (ad 0)), (1, .int i1), (2, .int i2), (3, .int i3)]) hx hb dX10_copy_114 hl (k := 0) rfl (by rw [ey_37]; rfl) (by decide) rfl (fun ls hl => ?_)
                    refine lv_goto (tgt := 91) hx hb dX10_copy_117 (by decide) ?_
                    exact ih91 y_37 f_36 (by first | omega | assumption | decide) (fun z h1 h2 => (hr_35_0.2 z h1 (by omega)).trans (v91_1 z h1 h2)) (by rw [show y_37.toInt = kk.toInt + 1 by omega]; exact dl_step v91_2 hr_35_0 (by omega) (by omega) (by omega)) (by first | omega | assumption | decide) (by omega) _ _ ls hP hD hS (lv_sub hl [0, 1, 2, 3, 4, 5] rfl)
              have lit_37 : (0 : Int32).toInt = 0 := by decide
              exact loop91 _ 0 f_21 (by first | omega | assumption | decide) (fun _ _ _ => rfl) (fun k h1 h2 => by omega) (by first | omega | assumption | decide) (Nat.lt_succ_self _) _ _ ls hP hD hS (lv_sub hl [0, 1, 2, 3, 4, 5] rfl)
            · have tk_17 := c_nle (a := i3.toInt) (b := y_16.toInt) rfl rfl k_17
              refine lv_aload_n hx hb dX10_copy_66 rfl (lv_at hl 0 rfl) ?_
              refine lv_iconst (v := 5) hx hb dX10_copy_67 (by decide) ?_
              have lit_38 : (5 : Int32).toInt = 5 := by decide
              have hFc := m_free hD hS hA
              refine va_calli (va_runV (As := [.int 5]) (rest := []) ⟨hx, hb, hml, hown, hts⟩ (m_refuse l dC dI ad kc x0 x1 x2 x3 x4 x5 x6 x7 x8 x9 x10 x11 x12 x13 x14 x15 x16 x17 x18 x19 x20 x21 f0 f1 f2 f3 f4 f5 f6 f7 f8 f9 f10 f11 f12 f13 f14 f15 f16 f17 f18 f19 f20 f21 fL fN fP fM fO H.size 5 ) (cwV 1 hts mg_X10_copym_X10_refuse_204 rfl rfl rfl (by decide +kernel) ⟨Nat.le_of_ble_eq_true rfl, Nat.le_of_ble_eq_true rfl⟩) ⟨fun a U g mk q => by obtain ⟨q0, q1, qP, qK, qD⟩ := q; exact ⟨q0, q1, qP, va_K.moved (u := U) (U := U.calling g mk a) (Vm.Alike.refl U.vm) qK, qD⟩, va_recv hK hP (ci := 10) (q0 := 0) rfl rfl, fun U hU hW => ⟨rfl, by rw [hU], by rw [hU]; exact hP, va_K.moved hW.alike hK, hD.weaken (fun _ _ _ _ => trivial)⟩⟩ rfl rfl hl.1 rfl (lv_room (Nat.le_of_ble_eq_true rfl)) dX10_copy_68 ⟨Nat.le_of_ble_eq_true rfl, Nat.le_of_ble_eq_true rfl⟩) hS (fun q _ h => hFc q h) hFc (fun r_40 u t H1 locs ht hvm hw hB hz1 hk1 hS => ?_)
              subst hw
              obtain ⟨hr_40_0, hP, hK1, hD1⟩ := hB
              rw [ht] at hP
              have hD := hD1.weaken (fun k q _ h => hFc q.1 h)
              clear hz1 hk1 hFc hD1 hK1 hvm
              generalize H1 = H at hP hS ⊢
              have rg_r_40 := i_rng r_40
              have hP : va_P (dC, dI) vwCl (mW ad kc 5 x1 x2 x3 x4 x5 x6 x7 x8 x9 x10 x11 x12 x13 x14 x15 x16 x17 x18 x19 x20 x21 f0 f1 f2 f3 f4 f5 f6 f7 f8 f9 f10 f11 f12 f13 f14 f15 f16 f17 f18 f19 f20 f21 fL fN fP fM fO) H := hP
              have hD : va_D A (mW ad kc 5 x1 x2 x3 x4 x5 x6 x7 x8 x9 x10 x11 x12 x13 x14 x15 x16 x17 x18 x19 x20 x21 f0 f1 f2 f3 f4 f5 f6 f7 f8 f9 f10 f11 f12 f13 f14 f15 f16 f17 f18 f19 f20 f21 fL fN fP fM fO) := hD
              have lit_40 : (5 : Int32).toInt = 5 := by decide
              exact W.iret hx hb hr (fun t ht hW => ⟨⟨_, _, rfl, rfl, 5, x1, f0, q0, by rw [ht]; exact hP, va_K.moved hW.alike hK, hD⟩, hS.F ht⟩) hS.2.2 dX10_copy_71
        · have tk_9 := c_eq (a := y_8.toInt) (b := 10) rfl (by decide) k_9
          refine lv_aload_n hx hb dX10_copy_40 rfl (lv_at hl 0 rfl) ?_
          refine lv_iconst (v := 3) hx hb dX10_copy_41 (by decide) ?_
          have lit_41 : (3 : Int32).toInt = 3 := by decide
          have hFc := m_free hD hS hA
          refine va_calli (va_runV (As := [.int 3]) (rest := []) ⟨hx, hb, hml, hown, hts⟩ (m_refuse l dC dI ad kc x0 x1 x2 x3 x4 x5 x6 x7 x8 x9 x10 x11 x12 x13 x14 x15 x16 x17 x18 x19 x20 x21 f0 f1 f2 f3 f4 f5 f6 f7 f8 f9 f10 f11 f12 f13 f14 f15 f16 f17 f18 f19 f20 f21 fL fN fP fM fO H.size 3 ) (cwV 1 hts mg_X10_copym_X10_refuse_204 rfl rfl rfl (by decide +kernel) ⟨Nat.le_of_ble_eq_true rfl, Nat.le_of_ble_eq_true rfl⟩) ⟨fun a U g mk q => by obtain ⟨q0, q1, qP, qK, qD⟩ := q; exact ⟨q0, q1, qP, va_K.moved (u := U) (U := U.calling g mk a) (Vm.Alike.refl U.vm) qK, qD⟩, va_recv hK hP (ci := 10) (q0 := 0) rfl rfl, fun U hU hW => ⟨rfl, by rw [hU], by rw [hU]; exact hP, va_K.moved hW.alike hK, hD.weaken (fun _ _ _ _ => trivial)⟩⟩ rfl rfl hl.1 rfl (lv_room (Nat.le_of_ble_eq_true rfl)) dX10_copy_42 ⟨Nat.le_of_ble_eq_true rfl, Nat.le_of_ble_eq_true rfl⟩) hS (fun q _ h => hFc q h) hFc (fun r_43 u t H1 locs ht hvm hw hB hz1 hk1 hS => ?_)
          subst hw
          obtain ⟨hr_43_0, hP, hK1, hD1⟩ := hB
          rw [ht] at hP
          have hD := hD1.weaken (fun k q _ h => hFc q.1 h)
          clear hz1 hk1 hFc hD1 hK1 hvm
          generalize H1 = H at hP hS ⊢
          have rg_r_43 := i_rng r_43
          have hP : va_P (dC, dI) vwCl (mW ad kc 3 x1 x2 x3 x4 x5 x6 x7 x8 x9 x10 x11 x12 x13 x14 x15 x16 x17 x18 x19 x20 x21 f0 f1 f2 f3 f4 f5 f6 f7 f8 f9 f10 f11 f12 f13 f14 f15 f16 f17 f18 f19 f20 f21 fL fN fP fM fO) H := hP
          have hD : va_D A (mW ad kc 3 x1 x2 x3 x4 x5 x6 x7 x8 x9 x10 x11 x12 x13 x14 x15 x16 x17 x18 x19 x20 x21 f0 f1 f2 f3 f4 f5 f6 f7 f8 f9 f10 f11 f12 f13 f14 f15 f16 f17 f18 f19 f20 f21 fL fN fP fM fO) := hD
          have lit_43 : (3 : Int32).toInt = 3 := by decide
          exact W.iret hx hb hr (fun t ht hW => ⟨⟨_, _, rfl, rfl, 3, x1, f0, q0, by rw [ht]; exact hP, va_K.moved hW.alike hK, hD⟩, hS.F ht⟩) hS.2.2 dX10_copy_45
      · have tk_7 := c_eq (a := r_6.toInt) (b := 0) rfl (by decide) k_7
        refine lv_aload_n hx hb dX10_copy_23 rfl (lv_at hl 0 rfl) ?_
        refine lv_iconst (v := 2) hx hb dX10_copy_24 (by decide) ?_
        have lit_44 : (2 : Int32).toInt = 2 := by decide
        have hFc := m_free hD hS hA
        refine va_calli (va_runV (As := [.int 2]) (rest := []) ⟨hx, hb, hml, hown, hts⟩ (m_refuse l dC dI ad kc x0 x1 x2 x3 x4 x5 x6 x7 x8 x9 x10 x11 x12 x13 x14 x15 x16 x17 x18 x19 x20 x21 f0 f1 f2 f3 f4 f5 f6 f7 f8 f9 f10 f11 f12 f13 f14 f15 f16 f17 f18 f19 f20 f21 fL fN fP fM fO H.size 2 ) (cwV 1 hts mg_X10_copym_X10_refuse_204 rfl rfl rfl (by decide +kernel) ⟨Nat.le_of_ble_eq_true rfl, Nat.le_of_ble_eq_true rfl⟩) ⟨fun a U g mk q => by obtain ⟨q0, q1, qP, qK, qD⟩ := q; exact ⟨q0, q1, qP, va_K.moved (u := U) (U := U.calling g mk a) (Vm.Alike.refl U.vm) qK, qD⟩, va_recv hK hP (ci := 10) (q0 := 0) rfl rfl, fun U hU hW => ⟨rfl, by rw [hU], by rw [hU]; exact hP, va_K.moved hW.alike hK, hD.weaken (fun _ _ _ _ => trivial)⟩⟩ rfl rfl hl.1 rfl (lv_room (Nat.le_of_ble_eq_true rfl)) dX10_copy_25 ⟨Nat.le_of_ble_eq_true rfl, Nat.le_of_ble_eq_true rfl⟩) hS (fun q _ h => hFc q h) hFc (fun r_46 u t H1 locs ht hvm hw hB hz1 hk1 hS => ?_)
        subst hw
        obtain ⟨hr_46_0, hP, hK1, hD1⟩ := hB
        rw [ht] at hP
        have hD := hD1.weaken (fun k q _ h => hFc q.1 h)
        clear hz1 hk1 hFc hD1 hK1 hvm
        generalize H1 = H at hP hS ⊢
        have rg_r_46 := i_rng r_46
        have hP : va_P (dC, dI) vwCl (mW ad kc 2 x1 x2 x3 x4 x5 x6 x7 x8 x9 x10 x11 x12 x13 x14 x15 x16 x17 x18 x19 x20 x21 f0 f1 f2 f3 f4 f5 f6 f7 f8 f9 f10 f11 f12 f13 f14 f15 f16 f17 f18 f19 f20 f21 fL fN fP fM fO) H := hP
        have hD : va_D A (mW ad kc 2 x1 x2 x3 x4 x5 x6 x7 x8 x9 x10 x11 x12 x13 x14 x15 x16 x17 x18 x19 x20 x21 f0 f1 f2 f3 f4 f5 f6 f7 f8 f9 f10 f11 f12 f13 f14 f15 f16 f17 f18 f19 f20 f21 fL fN fP fM fO) := hD
        have lit_46 : (2 : Int32).toInt = 2 := by decide
        exact W.iret hx hb hr (fun t ht hW => ⟨⟨_, _, rfl, rfl, 2, x1, f0, q0, by rw [ht]; exact hP, va_K.moved hW.alike hK, hD⟩, hS.F ht⟩) hS.2.2 dX10_copy_28
    · have tk_5 := c_nge (a := i3.toInt) (b := 1) rfl (by decide) k_5
      refine lv_aload_n hx hb dX10_copy_9 rfl (lv_at hl 0 rfl) ?_
      refine lv_iconst (v := 1) hx hb dX10_copy_10 (by decide) ?_
      have lit_47 : (1 : Int32).toInt = 1 := by decide
      have hFc := m_free hD hS hA
      refine va_calli (va_runV (As := [.int 1]) (rest := []) ⟨hx, hb, hml, hown, hts⟩ (m_refuse l dC dI ad kc x0 x1 x2 x3 x4 x5 x6 x7 x8 x9 x10 x11 x12 x13 x14 x15 x16 x17 x18 x19 x20 x21 f0 f1 f2 f3 f4 f5 f6 f7 f8 f9 f10 f11 f12 f13 f14 f15 f16 f17 f18 f19 f20 f21 fL fN fP fM fO H.size 1 ) (cwV 1 hts mg_X10_copym_X10_refuse_204 rfl rfl rfl (by decide +kernel) ⟨Nat.le_of_ble_eq_true rfl, Nat.le_of_ble_eq_true rfl⟩) ⟨fun a U g mk q => by obtain ⟨q0, q1, qP, qK, qD⟩ := q; exact ⟨q0, q1, qP, va_K.moved (u := U) (U := U.calling g mk a) (Vm.Alike.refl U.vm) qK, qD⟩, va_recv hK hP (ci := 10) (q0 := 0) rfl rfl, fun U hU hW => ⟨rfl, by rw [hU], by rw [hU]; exact hP, va_K.moved hW.alike hK, hD.weaken (fun _ _ _ _ => trivial)⟩⟩ rfl rfl hl.1 rfl (lv_room (Nat.le_of_ble_eq_true rfl)) dX10_copy_11 ⟨Nat.le_of_ble_eq_true rfl, Nat.le_of_ble_eq_true rfl⟩) hS (fun q _ h => hFc q h) hFc (fun r_49 u t H1 locs ht hvm hw hB hz1 hk1 hS => ?_)
      subst hw
      obtain ⟨hr_49_0, hP, hK1, hD1⟩ := hB
      rw [ht] at hP
      have hD := hD1.weaken (fun k q _ h => hFc q.1 h)
      clear hz1 hk1 hFc hD1 hK1 hvm
      generalize H1 = H at hP hS ⊢
      have rg_r_49 := i_rng r_49
      have hP : va_P (dC, dI) vwCl (mW ad kc 1 x1 x2 x3 x4 x5 x6 x7 x8 x9 x10 x11 x12 x13 x14 x15 x16 x17 x18 x19 x20 x21 f0 f1 f2 f3 f4 f5 f6 f7 f8 f9 f10 f11 f12 f13 f14 f15 f16 f17 f18 f19 f20 f21 fL fN fP fM fO) H := hP
      have hD : va_D A (mW ad kc 1 x1 x2 x3 x4 x5 x6 x7 x8 x9 x10 x11 x12 x13 x14 x15 x16 x17 x18 x19 x20 x21 f0 f1 f2 f3 f4 f5 f6 f7 f8 f9 f10 f11 f12 f13 f14 f15 f16 f17 f18 f19 f20 f21 fL fN fP fM fO) := hD
      have lit_49 : (1 : Int32).toInt = 1 := by decide
      exact W.iret hx hb hr (fun t ht hW => ⟨⟨_, _, rfl, rfl, 1, x1, f0, q0, by rw [ht]; exact hP, va_K.moved hW.alike hK, hD⟩, hS.F ht⟩) hS.2.2 dX10_copy_14
theorem dX10_drop_0 : decode cX10_drop 0 = .ok (.aload_n 0, 1) := by decide +kernel
theorem dX10_drop_1 : decode cX10_drop 1 = .ok (.iload_n 1, 1) := by decide +kernel
theorem dX10_drop_2 : decode cX10_drop 2 = .ok (.invokevirtual 451, 3) := by decide +kernel
theorem dX10_drop_5 : decode cX10_drop 5 = .ok (.ifCond .ne 9, 3) := by decide +kernel
theorem dX10_drop_8 : decode cX10_drop 8 = .ok (.aload_n 0, 1) := by decide +kernel
theorem dX10_drop_9 : decode cX10_drop 9 = .ok (.iconst 2, 1) := by decide +kernel
theorem dX10_drop_10 : decode cX10_drop 10 = .ok (.invokevirtual 204, 3) := by decide +kernel
theorem dX10_drop_13 : decode cX10_drop 13 = .ok (.ireturn, 1) := by decide +kernel
theorem dX10_drop_14 : decode cX10_drop 14 = .ok (.aload_n 0, 1) := by decide +kernel
theorem dX10_drop_15 : decode cX10_drop 15 = .ok (.iconst 0, 1) := by decide +kernel
theorem dX10_drop_16 : decode cX10_drop 16 = .ok (.sipush 7820, 3) := by decide +kernel
theorem dX10_drop_19 : decode cX10_drop 19 = .ok (.invokevirtual 193, 3) := by decide +kernel
theorem dX10_drop_22 : decode cX10_drop 22 = .ok (.iload_n 1, 1) := by decide +kernel
theorem dX10_drop_23 : decode cX10_drop 23 = .ok (.iconst 1, 1) := by decide +kernel
theorem dX10_drop_24 : decode cX10_drop 24 = .ok (.iadd, 1) := by decide +kernel
theorem dX10_drop_25 : decode cX10_drop 25 = .ok (.istore_n 2, 1) := by decide +kernel
theorem dX10_drop_26 : decode cX10_drop 26 = .ok (.iload_n 2, 1) := by decide +kernel
theorem dX10_drop_27 : decode cX10_drop 27 = .ok (.aload_n 0, 1) := by decide +kernel
theorem dX10_drop_28 : decode cX10_drop 28 = .ok (.getfield 8, 3) := by decide +kernel
theorem dX10_drop_31 : decode cX10_drop 31 = .ok (.iconst 0, 1) := by decide +kernel
theorem dX10_drop_32 : decode cX10_drop 32 = .ok (.iaload, 1) := by decide +kernel
theorem dX10_drop_33 : decode cX10_drop 33 = .ok (.if_icmp .ge 52, 3) := by decide +kernel
theorem dX10_drop_36 : decode cX10_drop 36 = .ok (.aload_n 0, 1) := by decide +kernel
theorem dX10_drop_37 : decode cX10_drop 37 = .ok (.getfield 8, 3) := by decide +kernel
theorem dX10_drop_40 : decode cX10_drop 40 = .ok (.iconst 1, 1) := by decide +kernel
theorem dX10_drop_41 : decode cX10_drop 41 = .ok (.iload_n 2, 1) := by decide +kernel
theorem dX10_drop_42 : decode cX10_drop 42 = .ok (.iadd, 1) := by decide +kernel
theorem dX10_drop_43 : decode cX10_drop 43 = .ok (.iconst 1, 1) := by decide +kernel
theorem dX10_drop_44 : decode cX10_drop 44 = .ok (.isub, 1) := by decide +kernel
theorem dX10_drop_45 : decode cX10_drop 45 = .ok (.aload_n 0, 1) := by decide +kernel
theorem dX10_drop_46 : decode cX10_drop 46 = .ok (.iload_n 2, 1) := by decide +kernel
theorem dX10_drop_47 : decode cX10_drop 47 = .ok (.invokevirtual 396, 3) := by decide +kernel
theorem dX10_drop_50 : decode cX10_drop 50 = .ok (.iastore, 1) := by decide +kernel
theorem dX10_drop_51 : decode cX10_drop 51 = .ok (.iconst 0, 1) := by decide +kernel
theorem dX10_drop_52 : decode cX10_drop 52 = .ok (.istore_n 3, 1) := by decide +kernel
theorem dX10_drop_53 : decode cX10_drop 53 = .ok (.iload_n 3, 1) := by decide +kernel
theorem dX10_drop_54 : decode cX10_drop 54 = .ok (.bipush 60, 2) := by decide +kernel
theorem dX10_drop_56 : decode cX10_drop 56 = .ok (.if_icmp .ge 23, 3) := by decide +kernel
theorem dX10_drop_59 : decode cX10_drop 59 = .ok (.aload_n 0, 1) := by decide +kernel
theorem dX10_drop_60 : decode cX10_drop 60 = .ok (.iload_n 2, 1) := by decide +kernel
theorem dX10_drop_61 : decode cX10_drop 61 = .ok (.iconst 1, 1) := by decide +kernel
theorem dX10_drop_62 : decode cX10_drop 62 = .ok (.isub, 1) := by decide +kernel
theorem dX10_drop_63 : decode cX10_drop 63 = .ok (.iload_n 3, 1) := by decide +kernel
theorem dX10_drop_64 : decode cX10_drop 64 = .ok (.aload_n 0, 1) := by decide +kernel
theorem dX10_drop_65 : decode cX10_drop 65 = .ok (.iload_n 2, 1) := by decide +kernel
theorem dX10_drop_66 : decode cX10_drop 66 = .ok (.iload_n 3, 1) := by decide +kernel
theorem dX10_drop_67 : decode cX10_drop 67 = .ok (.invokevirtual 399, 3) := by decide +kernel
theorem dX10_drop_70 : decode cX10_drop 70 = .ok (.invokevirtual 473, 3) := by decide +kernel
theorem dX10_drop_73 : decode cX10_drop 73 = .ok (.iinc 3 1, 3) := by decide +kernel
theorem dX10_drop_76 : decode cX10_drop 76 = .ok (.goto (-23), 3) := by decide +kernel
theorem dX10_drop_79 : decode cX10_drop 79 = .ok (.iinc 2 1, 3) := by decide +kernel
theorem dX10_drop_82 : decode cX10_drop 82 = .ok (.goto (-56), 3) := by decide +kernel
theorem dX10_drop_85 : decode cX10_drop 85 = .ok (.aload_n 0, 1) := by decide +kernel
theorem dX10_drop_86 : decode cX10_drop 86 = .ok (.getfield 8, 3) := by decide +kernel
theorem dX10_drop_89 : decode cX10_drop 89 = .ok (.iconst 0, 1) := by decide +kernel
theorem dX10_drop_90 : decode cX10_drop 90 = .ok (.dup2, 1) := by decide +kernel
theorem dX10_drop_91 : decode cX10_drop 91 = .ok (.iaload, 1) := by decide +kernel
theorem dX10_drop_92 : decode cX10_drop 92 = .ok (.iconst 1, 1) := by decide +kernel
theorem dX10_drop_93 : decode cX10_drop 93 = .ok (.isub, 1) := by decide +kernel
theorem dX10_drop_94 : decode cX10_drop 94 = .ok (.iastore, 1) := by decide +kernel
theorem dX10_drop_95 : decode cX10_drop 95 = .ok (.aload_n 0, 1) := by decide +kernel
theorem dX10_drop_96 : decode cX10_drop 96 = .ok (.aload_n 0, 1) := by decide +kernel
theorem dX10_drop_97 : decode cX10_drop 97 = .ok (.getfield 8, 3) := by decide +kernel
theorem dX10_drop_100 : decode cX10_drop 100 = .ok (.iconst 0, 1) := by decide +kernel
theorem dX10_drop_101 : decode cX10_drop 101 = .ok (.iaload, 1) := by decide +kernel
theorem dX10_drop_102 : decode cX10_drop 102 = .ok (.invokevirtual 476, 3) := by decide +kernel
theorem dX10_drop_105 : decode cX10_drop 105 = .ok (.ireturn, 1) := by decide +kernel
def mwX10_dropm : List Cond := .code yX10_drop cX10_drop 4 (some .int) :: (([.methodLink RX10 451 yX10_isDoc, .instanceMethod yX10_isDoc, .selects RX10 yX10_isDoc yX10_isDoc, .initialized RX10, .methodLink RX10 193 yX10_copies, .instanceMethod yX10_copies, .selects RX10 yX10_copies yX10_copies, .fieldLink RX10 8 "PatternGateModel" "all" "[I", .methodLink RX10 476 yX10_acted_, .instanceMethod yX10_acted_, .selects RX10 yX10_acted_ yX10_acted_, .methodLink RX10 396 yX10_sizeOf, .instanceMethod yX10_sizeOf, .selects RX10 yX10_sizeOf yX10_sizeOf, .methodLink RX10 399 yX10_at, .instanceMethod yX10_at, .selects RX10 yX10_at yX10_at, .methodLink RX10 473 yX10_sets, .instanceMethod yX10_sets, .selects RX10 yX10_sets yX10_sets, .methodLink RX10 204 yX10_refuse, .instanceMethod yX10_refuse, .selects RX10 yX10_refuse yX10_refuse] : List Cond) ++ (wsX100 ++ (mwX10_isDocm ++ (mwX10_copiesm ++ (mwX10_acted_m ++ (mwX10_sizeOfm ++ (mwX10_atm ++ (mwX10_setsm ++ (mwX10_refusem)))))))))
theorem fin_X10_dropm_X10 : ∀ w ∈ wsX100, w ∈ mwX10_dropm := fun w h => List.mem_cons_of_mem _ (List.mem_append_right _ (List.mem_append_left _ h))
set_option maxRecDepth 20000 in
theorem mg_X10_dropm_X10_isDoc_451 : GoodIn mwX10_dropm (wsV RX10 451 RX10 yX10_isDoc mwX10_isDocm) := gi_app (A := [.methodLink RX10 451 yX10_isDoc, .instanceMethod yX10_isDoc, .selects RX10 yX10_isDoc yX10_isDoc, .initialized RX10]) (goodIn_r _ [1, 2, 3, 4] (by decide +kernel) (by decide +kernel)) (gi_sub gd_mwX10_isDocm (fun w h => List.mem_cons_of_mem _ (List.mem_append_right _ (List.mem_append_right _ (List.mem_append_left _ h)))))
set_option maxRecDepth 20000 in
theorem mg_X10_dropm_X10_copies_193 : GoodIn mwX10_dropm (wsV RX10 193 RX10 yX10_copies mwX10_copiesm) := gi_app (A := [.methodLink RX10 193 yX10_copies, .instanceMethod yX10_copies, .selects RX10 yX10_copies yX10_copies, .initialized RX10]) (goodIn_r _ [5, 6, 7, 4] (by decide +kernel) (by decide +kernel)) (gi_sub gd_mwX10_copiesm (fun w h => List.mem_cons_of_mem _ (List.mem_append_right _ (List.mem_append_right _ (List.mem_append_right _ (List.mem_append_left _ h))))))
set_option maxRecDepth 20000 in
theorem mg_X10_dropm_X10_acted__476 : GoodIn mwX10_dropm (wsV RX10 476 RX10 yX10_acted_ mwX10_acted_m) := gi_app (A := [.methodLink RX10 476 yX10_acted_, .instanceMethod yX10_acted_, .selects RX10 yX10_acted_ yX10_acted_, .initialized RX10]) (goodIn_r _ [9, 10, 11, 4] (by decide +kernel) (by decide +kernel)) (gi_sub gd_mwX10_acted_m (fun w h => List.mem_cons_of_mem _ (List.mem_append_right _ (List.mem_append_right _ (List.mem_append_right _ (List.mem_append_right _ (List.mem_append_left _ h)))))))
set_option maxRecDepth 20000 in
theorem mg_X10_dropm_X10_sizeOf_396 : GoodIn mwX10_dropm (wsV RX10 396 RX10 yX10_sizeOf mwX10_sizeOfm) := gi_app (A := [.methodLink RX10 396 yX10_sizeOf, .instanceMethod yX10_sizeOf, .selects RX10 yX10_sizeOf yX10_sizeOf, .initialized RX10]) (goodIn_r _ [12, 13, 14, 4] (by decide +kernel) (by decide +kernel)) (gi_sub gd_mwX10_sizeOfm (fun w h => List.mem_cons_of_mem _ (List.mem_append_right _ (List.mem_append_right _ (List.mem_append_right _ (List.mem_append_right _ (List.mem_append_right _ (List.mem_append_left _ h))))))))
set_option maxRecDepth 20000 in
theorem mg_X10_dropm_X10_at_399 : GoodIn mwX10_dropm (wsV RX10 399 RX10 yX10_at mwX10_atm) := gi_app (A := [.methodLink RX10 399 yX10_at, .instanceMethod yX10_at, .selects RX10 yX10_at yX10_at, .initialized RX10]) (goodIn_r _ [15, 16, 17, 4] (by decide +kernel) (by decide +kernel)) (gi_sub gd_mwX10_atm (fun w h => List.mem_cons_of_mem _ (List.mem_append_right _ (List.mem_append_right _ (List.mem_append_right _ (List.mem_append_right _ (List.mem_append_right _ (List.mem_append_right _ (List.mem_append_left _ h)))))))))
set_option maxRecDepth 20000 in
theorem mg_X10_dropm_X10_sets_473 : GoodIn mwX10_dropm (wsV RX10 473 RX10 yX10_sets mwX10_setsm) := gi_app (A := [.methodLink RX10 473 yX10_sets, .instanceMethod yX10_sets, .selects RX10 yX10_sets yX10_sets, .initialized RX10]) (goodIn_r _ [18, 19, 20, 4] (by decide +kernel) (by decide +kernel)) (gi_sub gd_mwX10_setsm (fun w h => List.mem_cons_of_mem _ (List.mem_append_right _ (List.mem_append_right _ (List.mem_append_right _ (List.mem_append_right _ (List.mem_append_right _ (List.mem_append_right _ (List.mem_append_right _ (List.mem_append_left _ h))))))))))
set_option maxRecDepth 20000 in
theorem mg_X10_dropm_X10_refuse_204 : GoodIn mwX10_dropm (wsV RX10 204 RX10 yX10_refuse mwX10_refusem) := gi_app (A := [.methodLink RX10 204 yX10_refuse, .instanceMethod yX10_refuse, .selects RX10 yX10_refuse yX10_refuse, .initialized RX10]) (goodIn_r _ [21, 22, 23, 4] (by decide +kernel) (by decide +kernel)) (gi_sub gd_mwX10_refusem (fun w h => List.mem_cons_of_mem _ (List.mem_append_right _ (List.mem_append_right _ (List.mem_append_right _ (List.mem_append_right _ (List.mem_append_right _ (List.mem_append_right _ (List.mem_append_right _ (List.mem_append_right _ (h)))))))))))
set_option maxHeartbeats 4000000 in
set_option maxRecDepth 100000 in
theorem m_drop (l : Launch) (dC : Nat → ClassId) (dI : Nat → Nat → Nat) (ad : Nat → Nat) (kc : Nat → ClassId) (x0 x1 x2 x3 x4 x5 x6 x7 x8 x9 x10 x11 x12 x13 x14 x15 x16 x17 x18 x19 x20 x21 : Int32) (f0 f1 f2 f3 f4 f5 f6 f7 f8 f9 f10 f11 f12 f13 f14 f15 f16 f17 f18 f19 f20 f21 : Nat → Int32) (fL : Nat → Nat → Int64) (fN : Nat → Nat → Int32) (fP : Nat → Nat → Nat) (fM : Nat → Nat → Int32) (fO : Nat → Nat → Int32) (sz : Nat) (i1 : Int32) (q0 : mI x1.toInt x2.toInt x3.toInt f0 fP) : Met l yX10_drop mwX10_dropm ({ frames := 3, cells := 0, slots := 0, locals := 180 }) (va_Pc [.ref (ad 0), .int i1] (fun U => U.heap.size = sz ∧ va_P (dC, dI) vwCl (mW ad kc x0 x1 x2 x3 x4 x5 x6 x7 x8 x9 x10 x11 x12 x13 x14 x15 x16 x17 x18 x19 x20 x21 f0 f1 f2 f3 f4 f5 f6 f7 f8 f9 f10 f11 f12 f13 f14 f15 f16 f17 f18 f19 f20 f21 fL fN fP fM fO) U.heap ∧ va_K (dC, dI) vwCl (mT kc) U ∧ va_D (fun _ => True) (mW ad kc x0 x1 x2 x3 x4 x5 x6 x7 x8 x9 x10 x11 x12 x13 x14 x15 x16 x17 x18 x19 x20 x21 f0 f1 f2 f3 f4 f5 f6 f7 f8 f9 f10 f11 f12 f13 f14 f15 f16 f17 f18 f19 f20 f21 fL fN fP fM fO))) (va_Qi (fun (o9 u9 : Int32) => o9 = u9) (fun (o9 : Int32) t => ∃ (y0 y1 : Int32) (g0 : Nat → Int32), (mI y1.toInt x2.toInt x3.toInt g0 fP) ∧ va_P (dC, dI) vwCl (mW ad kc y0 y1 x2 x3 x4 x5 x6 x7 x8 x9 x10 x11 x12 x13 x14 x15 x16 x17 x18 x19 x20 x21 g0 f1 f2 f3 f4 f5 f6 f7 f8 f9 f10 f11 f12 f13 f14 f15 f16 f17 f18 f19 f20 f21 fL fN fP fM fO) t.heap ∧ va_K (dC, dI) vwCl (mT kc) t ∧ va_D (va_A (mW ad kc x0 x1 x2 x3 x4 x5 x6 x7 x8 x9 x10 x11 x12 x13 x14 x15 x16 x17 x18 x19 x20 x21 f0 f1 f2 f3 f4 f5 f6 f7 f8 f9 f10 f11 f12 f13 f14 f15 f16 f17 f18 f19 f20 f21 fL fN fP fM fO) sz) (mW ad kc y0 y1 x2 x3 x4 x5 x6 x7 x8 x9 x10 x11 x12 x13 x14 x15 x16 x17 x18 x19 x20 x21 g0 f1 f2 f3 f4 f5 f6 f7 f8 f9 f10 f11 f12 f13 f14 f15 f16 f17 f18 f19 f20 f21 fL fN fP fM fO)) (va_A (mW ad kc x0 x1 x2 x3 x4 x5 x6 x7 x8 x9 x10 x11 x12 x13 x14 x15 x16 x17 x18 x19 x20 x21 f0 f1 f2 f3 f4 f5 f6 f7 f8 f9 f10 f11 f12 f13 f14 f15 f16 f17 f18 f19 f20 f21 fL fN fP fM fO) sz)) 0 0 (va_A (mW ad kc x0 x1 x2 x3 x4 x5 x6 x7 x8 x9 x10 x11 x12 x13 x14 x15 x16 x17 x18 x19 x20 x21 f0 f1 f2 f3 f4 f5 f6 f7 f8 f9 f10 f11 f12 f13 f14 f15 f16 f17 f18 f19 f20 f21 fL fN fP fM fO) sz) := by
  refine Met.ofW (cc := cX10_drop) (maxL := 4) (ret := (some .int)) (by decide +kernel) rfl ?_
  intro p e s m args below meth c s₁ B hml hv
  obtain ⟨rfl, hsz, hP, hK, hD0⟩ := hv
  have hx := B.exec
  have hb := B.bytes
  have hr := B.returns
  have hts := atoms_spec (ws := mwX10_dropm) B.pre
  have hown : s.vm.findClass RX10 = some m.cls := findClass_of_methodNamed B.named
  have hlocks := B.notSynchronized
  subst hsz
  have hD := hD0.self (sz := s.heap.size)
  generalize hAe : va_A (mW ad kc x0 x1 x2 x3 x4 x5 x6 x7 x8 x9 x10 x11 x12 x13 x14 x15 x16 x17 x18 x19 x20 x21 f0 f1 f2 f3 f4 f5 f6 f7 f8 f9 f10 f11 f12 f13 f14 f15 f16 f17 f18 f19 f20 f21 fL fN fP fM fO) s.heap.size = A at hD ⊢
  have hA : ∀ q : Nat, s.heap.size ≤ q → A q := fun q h => by rw [← hAe]; exact Or.inr h
  have hP : va_P (dC, dI) vwCl (mW ad kc x0 x1 x2 x3 x4 x5 x6 x7 x8 x9 x10 x11 x12 x13 x14 x15 x16 x17 x18 x19 x20 x21 f0 f1 f2 f3 f4 f5 f6 f7 f8 f9 f10 f11 f12 f13 f14 f15 f16 f17 f18 f19 f20 f21 fL fN fP fM fO) s.heap := hP
  have hD : va_D A (mW ad kc x0 x1 x2 x3 x4 x5 x6 x7 x8 x9 x10 x11 x12 x13 x14 x15 x16 x17 x18 x19 x20 x21 f0 f1 f2 f3 f4 f5 f6 f7 f8 f9 f10 f11 f12 f13 f14 f15 f16 f17 f18 f19 f20 f21 fL fN fP fM fO) := hD
  have hK : va_K (dC, dI) vwCl (mT kc) s := hK
  generalize hH : s.heap = H at hP ⊢
  have hS : va_S A s.heap H [] := by rw [← hH]; exact va_S.rf
  have hl := lv_entry ([.ref (ad 0), .int i1]) (n := 4) (Nat.le_of_ble_eq_true rfl)
  rw [lg_entry_eq]
  generalize (lg_sl ([.ref (ad 0), .int i1]) ++ List.replicate (4 - (lg_sl ([.ref (ad 0), .int i1])).length) Slot.unset).toArray = ls at hl ⊢
  have hl : lv_has ls 4 [(0, .ref (ad 0)), (1, .int i1)] := hl
  have rg_i1 := i_rng i1
  have hd := q0.d
  have hpi := q0.p
  have hq1 := q0.1
  have hq2 := q0.2.1
  have hq3 := q0.2.2.1
  have hd10 := hd.n0
  have hp8 := hd.P0
  refine lv_aload_n hx hb dX10_drop_0 rfl (lv_at hl 0 rfl) ?_
  refine lv_iload_n hx hb dX10_drop_1 rfl (lv_at hl 1 rfl) ?_
  refine vp_callSi (W.runV (As := [.int i1]) (rest := []) ⟨hx, hb, hml, hown, hts⟩ (m_isDoc l dC dI ad kc x0 x1 x2 x3 x4 x5 x6 x7 x8 x9 x10 x11 x12 x13 x14 x15 x16 x17 x18 x19 x20 x21 f0 f1 f2 f3 f4 f5 f6 f7 f8 f9 f10 f11 f12 f13 f14 f15 f16 f17 f18 f19 f20 f21 fL fN fP fM fO i1 ) (cwV 1 hts mg_X10_dropm_X10_isDoc_451 rfl rfl rfl (by decide +kernel) ⟨Nat.le_of_ble_eq_true rfl, Nat.le_of_ble_eq_true rfl⟩) ⟨fun a U g mk q => by obtain ⟨q0, qP, qK⟩ := q; exact ⟨q0, qP, va_K.moved (u := U) (U := U.calling g mk a) (Vm.Alike.refl U.vm) qK⟩, va_recv hK hP (ci := 10) (q0 := 0) rfl rfl, fun U hU hW => ⟨rfl, by rw [hU]; exact hP, va_K.moved hW.alike hK⟩⟩ rfl rfl hl.1 rfl (lv_room (Nat.le_of_ble_eq_true rfl)) dX10_drop_2 ⟨Nat.le_of_ble_eq_true rfl, Nat.le_of_ble_eq_true rfl⟩) (fun r_1 hr_1 => ?_)
  have rg_r_1 := i_rng r_1
  refine lv_if_ne (tgt := 14) hx hb dX10_drop_5 (by decide) (fun k_2 => ?_) (fun k_2 => ?_)
  · have tk_2 := c_ne (a := r_1.toInt) (b := 0) rfl (by decide) k_2
    refine lv_aload_n hx hb dX10_drop_14 rfl (lv_at hl 0 rfl) ?_
    refine lv_iconst (v := 0) hx hb dX10_drop_15 (by decide) ?_
    refine lv_sipush (v := 7820) hx hb dX10_drop_16 (by decide) ?_
    have lit_2 : (0 : Int32).toInt = 0 := by decide
    have lit_3 : (7820 : Int32).toInt = 7820 := by decide
    have hFc := m_free hD hS hA
    refine va_callv (va_runV (As := [.int 0, .int 7820]) (rest := []) ⟨hx, hb, hml, hown, hts⟩ (m_copies l dC dI ad kc x0 x1 x2 x3 x4 x5 x6 x7 x8 x9 x10 x11 x12 x13 x14 x15 x16 x17 x18 x19 x20 x21 f0 f1 f2 f3 f4 f5 f6 f7 f8 f9 f10 f11 f12 f13 f14 f15 f16 f17 f18 f19 f20 f21 fL fN fP fM fO H.size 0 7820 (by first | omega | assumption | decide | (have l0 := Int32.toInt_zero; omega)) (by first | omega | assumption | decide | (have l0 := Int32.toInt_zero; omega)) (by first | omega | assumption | decide | (have l0 := Int32.toInt_zero; omega)) (by first | omega | assumption | decide | (have l0 := Int32.toInt_zero; omega)) (by first | omega | assumption | decide | (have l0 := Int32.toInt_zero; omega))) (cwV 2 hts mg_X10_dropm_X10_copies_193 rfl rfl rfl (by decide +kernel) ⟨Nat.le_of_ble_eq_true rfl, Nat.le_of_ble_eq_true rfl⟩) ⟨fun a U g mk q => by obtain ⟨q0, q1, qP, qK, qD⟩ := q; exact ⟨q0, q1, qP, va_K.moved (u := U) (U := U.calling g mk a) (Vm.Alike.refl U.vm) qK, qD⟩, va_recv hK hP (ci := 10) (q0 := 0) rfl rfl, fun U hU hW => ⟨rfl, by rw [hU], by rw [hU]; exact hP, va_K.moved hW.alike hK, hD.weaken (fun _ _ _ _ => trivial)⟩⟩ rfl rfl hl.1 rfl (lv_room (Nat.le_of_ble_eq_true rfl)) dX10_drop_19 ⟨Nat.le_of_ble_eq_true rfl, Nat.le_of_ble_eq_true rfl⟩) hS (fun q _ h => hFc q h) hFc (fun u t H1 locs ht hvm hw hB hz1 hk1 hS => ?_)
    obtain ⟨f_6, hr_5_0, hP, hK1, hD1⟩ := hB
    rw [ht] at hP
    have hD := hD1.weaken (fun k q _ h => hFc q.1 h)
    clear hz1 hk1 hFc hD1 hK1 hvm
    generalize H1 = H at hP hS ⊢
    have hP : va_P (dC, dI) vwCl (mW ad kc x0 x1 x2 x3 x4 x5 x6 x7 x8 x9 x10 x11 x12 x13 x14 x15 x16 x17 x18 x19 x20 x21 f_6 f1 f2 f3 f4 f5 f6 f7 f8 f9 f10 f11 f12 f13 f14 f15 f16 f17 f18 f19 f20 f21 fL fN fP fM fO) H := hP
    have hD : va_D A (mW ad kc x0 x1 x2 x3 x4 x5 x6 x7 x8 x9 x10 x11 x12 x13 x14 x15 x16 x17 x18 x19 x20 x21 f_6 f1 f2 f3 f4 f5 f6 f7 f8 f9 f10 f11 f12 f13 f14 f15 f16 f17 f18 f19 f20 f21 fL fN fP fM fO) := hD
    have hc9 : CP f0 f_6 0 7820 := by have h9 := hr_5_0; rw [(show (0 : Int32).toInt = 0 by decide), (show (7820 : Int32).toInt = 7820 by decide)] at h9; exact h9
    have hA9 := q0.aside hc9
    have hd9 := hA9.1
    have hm9 := hA9.2
    have hsm : ∀ z : Int, 0 ≤ z → z < 7820 → vI f_6 z = vI f0 z := fun z h1 h2 => by rw [hc9 z h1, if_neg (by omega)]
    refine lv_iload_n hx hb dX10_drop_22 rfl (lv_at hl 1 rfl) ?_
    refine lv_iconst (v := 1) hx hb dX10_drop_23 (by decide) ?_
    refine lv_iadd hx hb dX10_drop_24 ?_
    refine lv_topi (fun y_7 ey_7 => ?_)
    first | have ty_7 := i_add (a := i1.toInt) (b := 1) rfl (by decide) ey_7 (by omega) (by omega) | skip
    refine lv_istore_n (lv' := [(2, .int y_7), (0, .ref (ad 0)), (1, .int i1)]) hx hb dX10_drop_25 rfl hl (by decide) rfl (fun ls hl => ?_)
    have hs0 := hsm 0 (by omega) (by omega)
    have loop26 : ∀ (lm26 : Nat) (dd : Int32) (ga : Nat → Int32), (i1.toInt + 1 ≤ dd.toInt ∧ dd.toInt ≤ vI f0 0) → (DR f_6 ga i1.toInt (dd.toInt - 1) (11 + 60 * (dd.toInt - 1))) → ((vI f0 0 - dd.toInt).toNat) < lm26 → ∀ (H : Heap) (locs : List Loc) (ls : Array Slot), va_P (dC, dI) vwCl (mW ad kc x0 x1 x2 x3 x4 x5 x6 x7 x8 x9 x10 x11 x12 x13 x14 x15 x16 x17 x18 x19 x20 x21 ga f1 f2 f3 f4 f5 f6 f7 f8 f9 f10 f11 f12 f13 f14 f15 f16 f17 f18 f19 f20 f21 fL fN fP fM fO) H → va_D A (mW ad kc x0 x1 x2 x3 x4 x5 x6 x7 x8 x9 x10 x11 x12 x13 x14 x15 x16 x17 x18 x19 x20 x21 ga f1 f2 f3 f4 f5 f6 f7 f8 f9 f10 f11 f12 f13 f14 f15 f16 f17 f18 f19 f20 f21 fL fN fP fM fO) → va_S A s.heap H locs → lv_has ls 4 [(2, .int dd), (0, .ref (ad 0)), (1, .int i1)] → W p l e (headSpec mwX10_dropm ({ frames := 3, cells := 0, slots := 0, locals := 180 })).room s m ([.ref (ad 0), .int i1]).toArray below meth c H locs 0 0 (MQ below (va_Qi (fun (o9 u9 : Int32) => o9 = u9) (fun (o9 : Int32) t => ∃ (y0 y1 : Int32) (g0 : Nat → Int32), (mI y1.toInt x2.toInt x3.toInt g0 fP) ∧ va_P (dC, dI) vwCl (mW ad kc y0 y1 x2 x3 x4 x5 x6 x7 x8 x9 x10 x11 x12 x13 x14 x15 x16 x17 x18 x19 x20 x21 g0 f1 f2 f3 f4 f5 f6 f7 f8 f9 f10 f11 f12 f13 f14 f15 f16 f17 f18 f19 f20 f21 fL fN fP fM fO) t.heap ∧ va_K (dC, dI) vwCl (mT kc) t ∧ va_D A (mW ad kc y0 y1 x2 x3 x4 x5 x6 x7 x8 x9 x10 x11 x12 x13 x14 x15 x16 x17 x18 x19 x20 x21 g0 f1 f2 f3 f4 f5 f6 f7 f8 f9 f10 f11 f12 f13 f14 f15 f16 f17 f18 f19 f20 f21 fL fN fP fM fO)) A) ([.ref (ad 0), .int i1]).toArray s 0 0 A) (F0 m 26 ls []) := by
      intro lm26
      induction lm26 with
      | zero => intro dd ga v26_0 v26_1 hm26; exact absurd hm26 (Nat.not_lt_zero _)
      | succ lm26 ih26 =>
        intro dd ga v26_0 v26_1 hm26 H locs ls hP hD hS hl
        have rg_dd := i_rng dd
        refine lv_iload_n hx hb dX10_drop_26 rfl (lv_at hl 0 rfl) ?_
        refine lv_aload_n hx hb dX10_drop_27 rfl (lv_at hl 1 rfl) ?_
        refine va_get (D := (dC, dI)) (ci := 10) (v := .ref (ad 1)) (C := RX10) (T := TX10) (N := 48) hx hb hts fin_X10_dropm_X10 hown hK hP 0 rfl rfl 0 (by decide) (hts (.fieldLink RX10 8 "PatternGateModel" "all" "[I") (List.mem_of_getElem? (i := 8) (by decide +kernel))) (fun _ h9 => h9) rfl dX10_drop_28 ?_
        refine lv_iconst (v := 0) hx hb dX10_drop_31 (by decide) ?_
        refine va_iald hx hb hK hP 1 0 rfl rfl (i := 0) (by unfold vp_in; decide +kernel) dX10_drop_32 ?_
        refine lv_topi (fun y_8 ey_8 => ?_)
        have rg_y_8 := i_rng y_8
        have vy_8 := vI_lda (f := ga) (i := 0) (a := 0) ey_8 (by first | omega | decide)
        have rg_y_8 := i_rng y_8
        have hy7 : y_8.toInt = vI f0 0 := by rw [vy_8, v26_1 0 (by omega), if_neg (by omega), if_neg (by omega)]; exact hs0
        refine lv_icmp_ge (tgt := 85) hx hb dX10_drop_33 (by decide) (fun k_9 => ?_) (fun k_9 => ?_)
        · have tk_9 := c_ge (a := dd.toInt) (b := y_8.toInt) rfl rfl k_9
          refine lv_aload_n hx hb dX10_drop_85 rfl (lv_at hl 1 rfl) ?_
          refine va_get (D := (dC, dI)) (ci := 10) (v := .ref (ad 1)) (C := RX10) (T := TX10) (N := 48) hx hb hts fin_X10_dropm_X10 hown hK hP 0 rfl rfl 0 (by decide) (hts (.fieldLink RX10 8 "PatternGateModel" "all" "[I") (List.mem_of_getElem? (i := 8) (by decide +kernel))) (fun _ h9 => h9) rfl dX10_drop_86 ?_
          refine lv_iconst (v := 0) hx hb dX10_drop_89 (by decide) ?_
          refine lv_dup2_11 hx hb dX10_drop_90 rfl rfl ?_
          refine va_iald hx hb hK hP 1 0 rfl rfl (i := 0) (by unfold vp_in; decide +kernel) dX10_drop_91 ?_
          refine lv_topi (fun y_10 ey_10 => ?_)
          have rg_y_10 := i_rng y_10
          have vy_10 := vI_lda (f := ga) (i := 0) (a := 0) ey_10 (by first | omega | decide)
          have rg_y_10 := i_rng y_10
          have hy6 : y_10.toInt = vI f0 0 := by rw [vy_10, v26_1 0 (by omega), if_neg (by omega), if_neg (by omega)]; exact hs0
          refine lv_iconst (v := 1) hx hb dX10_drop_92 (by decide) ?_
          refine lv_isub hx hb dX10_drop_93 ?_
          refine lv_topi (fun y_11 ey_11 => ?_)
          first | have ty_11 := i_sub (a := y_10.toInt) (b := 1) rfl (by decide) ey_11 (by omega) (by omega) | skip
          refine va_iast hx hb hK hP hD hS 1 0 rfl rfl (i := 0) (by unfold vp_in; decide +kernel) dX10_drop_94 (fun H locs hP hD hS => ?_)
          generalize hf_f_12 : upd ga _ _ = f_12 at hP hD
          have uf_12 := vI_up (a := 0) (b := y_11.toInt) hf_f_12 (by first | omega | decide) (by omega) rfl
          have hP : va_P (dC, dI) vwCl (mW ad kc x0 x1 x2 x3 x4 x5 x6 x7 x8 x9 x10 x11 x12 x13 x14 x15 x16 x17 x18 x19 x20 x21 f_12 f1 f2 f3 f4 f5 f6 f7 f8 f9 f10 f11 f12 f13 f14 f15 f16 f17 f18 f19 f20 f21 fL fN fP fM fO) H := hP
          have hD : va_D A (mW ad kc x0 x1 x2 x3 x4 x5 x6 x7 x8 x9 x10 x11 x12 x13 x14 x15 x16 x17 x18 x19 x20 x21 f_12 f1 f2 f3 f4 f5 f6 f7 f8 f9 f10 f11 f12 f13 f14 f15 f16 f17 f18 f19 f20 f21 fL fN fP fM fO) := hD
          have hd6 := OKd.drop (c := i1.toInt) (n := vI f0 0) hd9 hs0 (by omega) (by omega) (by have h9 := v26_1; rw [show dd.toInt = vI f0 0 by omega] at h9; exact h9) (by have h9 := uf_12; rw [show y_11.toInt = vI f0 0 - 1 by omega] at h9; exact h9)
          have hm6 := hm9.far (fun z hz => by rw [uf_12.2 z (by omega) (by omega), v26_1 z (by omega), if_neg (by omega), if_neg (by omega)])
          refine lv_aload_n hx hb dX10_drop_95 rfl (lv_at hl 1 rfl) ?_
          refine lv_aload_n hx hb dX10_drop_96 rfl (lv_at hl 1 rfl) ?_
          refine va_get (D := (dC, dI)) (ci := 10) (v := .ref (ad 1)) (C := RX10) (T := TX10) (N := 48) hx hb hts fin_X10_dropm_X10 hown hK hP 0 rfl rfl 0 (by decide) (hts (.fieldLink RX10 8 "PatternGateModel" "all" "[I") (List.mem_of_getElem? (i := 8) (by decide +kernel))) (fun _ h9 => h9) rfl dX10_drop_97 ?_
          refine lv_iconst (v := 0) hx hb dX10_drop_100 (by decide) ?_
          refine va_iald hx hb hK hP 1 0 rfl rfl (i := 0) (by unfold vp_in; decide +kernel) dX10_drop_101 ?_
          refine lv_topi (fun y_13 ey_13 => ?_)
          have rg_y_13 := i_rng y_13
          have vy_13 := vI_lda (f := f_12) (i := 0) (a := 0) ey_13 (by first | omega | decide)
          have rg_y_13 := i_rng y_13
          have hFc := m_free hD hS hA
          refine va_calli (va_runV (As := [.int y_13]) (rest := []) ⟨hx, hb, hml, hown, hts⟩ (m_actedV l dC dI ad kc x0 x1 x2 x3 x4 x5 x6 x7 x8 x9 x10 x11 x12 x13 x14 x15 x16 x17 x18 x19 x20 x21 f_12 f1 f2 f3 f4 f5 f6 f7 f8 f9 f10 f11 f12 f13 f14 f15 f16 f17 f18 f19 f20 f21 fL fN fP fM fO H.size y_13 (by first | omega | assumption | decide | (have l0 := Int32.toInt_zero; omega)) (by first | omega | assumption | decide | (have l0 := Int32.toInt_zero; omega)) hd6 hm6) (cwV 1 hts mg_X10_dropm_X10_acted__476 rfl rfl rfl (by decide +kernel) ⟨Nat.le_of_ble_eq_true rfl, Nat.le_of_ble_eq_true rfl⟩) ⟨fun a U g mk q => by obtain ⟨q0, q1, qP, qK, qD⟩ := q; exact ⟨q0, q1, qP, va_K.moved (u := U) (U := U.calling g mk a) (Vm.Alike.refl U.vm) qK, qD⟩, va_recv hK hP (ci := 10) (q0 := 0) rfl rfl, fun U hU hW => ⟨rfl, by rw [hU], by rw [hU]; exact hP, va_K.moved hW.alike hK, hD.weaken (fun _ _ _ _ => trivial)⟩⟩ rfl rfl hl.1 rfl (lv_room (Nat.le_of_ble_eq_true rfl)) dX10_drop_102 ⟨Nat.le_of_ble_eq_true rfl, Nat.le_of_ble_eq_true rfl⟩) hS (fun q _ h => hFc q h) hFc (fun r_14 u t H1 locs ht hvm hw hB hz1 hk1 hS => ?_)
          subst hw
          obtain ⟨x_15, x_16, f_17, hr_14_0, hr_14_1, hr_14_2, hP, hK1, hD1⟩ := hB
          rw [ht] at hP
          have hD := hD1.weaken (fun k q _ h => hFc q.1 h)
          clear hz1 hk1 hFc hD1 hK1 hvm
          generalize H1 = H at hP hS ⊢
          have rg_x_15 := i_rng x_15
          have rg_x_16 := i_rng x_16
          have rg_r_14 := i_rng r_14
          have hP : va_P (dC, dI) vwCl (mW ad kc x_15 x_16 x2 x3 x4 x5 x6 x7 x8 x9 x10 x11 x12 x13 x14 x15 x16 x17 x18 x19 x20 x21 f_17 f1 f2 f3 f4 f5 f6 f7 f8 f9 f10 f11 f12 f13 f14 f15 f16 f17 f18 f19 f20 f21 fL fN fP fM fO) H := hP
          have hD : va_D A (mW ad kc x_15 x_16 x2 x3 x4 x5 x6 x7 x8 x9 x10 x11 x12 x13 x14 x15 x16 x17 x18 x19 x20 x21 f_17 f1 f2 f3 f4 f5 f6 f7 f8 f9 f10 f11 f12 f13 f14 f15 f16 f17 f18 f19 f20 f21 fL fN fP fM fO) := hD
          exact W.iret hx hb hr (fun t ht hW => ⟨⟨_, _, rfl, rfl, x_15, x_16, f_17, (mC.mI hr_14_1 hr_14_0 (by have h9 := hr_14_2; omega) hq2 hq3 hpi), by rw [ht]; exact hP, va_K.moved hW.alike hK, hD⟩, hS.F ht⟩) hS.2.2 dX10_drop_105
        · have tk_9 := c_nge (a := dd.toInt) (b := y_8.toInt) rfl rfl k_9
          refine lv_aload_n hx hb dX10_drop_36 rfl (lv_at hl 1 rfl) ?_
          refine va_get (D := (dC, dI)) (ci := 10) (v := .ref (ad 1)) (C := RX10) (T := TX10) (N := 48) hx hb hts fin_X10_dropm_X10 hown hK hP 0 rfl rfl 0 (by decide) (hts (.fieldLink RX10 8 "PatternGateModel" "all" "[I") (List.mem_of_getElem? (i := 8) (by decide +kernel))) (fun _ h9 => h9) rfl dX10_drop_37 ?_
          refine lv_iconst (v := 1) hx hb dX10_drop_40 (by decide) ?_
          refine lv_iload_n hx hb dX10_drop_41 rfl (lv_at hl 0 rfl) ?_
          refine lv_iadd hx hb dX10_drop_42 ?_
          refine lv_topi (fun y_18 ey_18 => ?_)
          first | have ty_18 := i_add (a := 1) (b := dd.toInt) (by decide) rfl ey_18 (by omega) (by omega) | skip
          refine lv_iconst (v := 1) hx hb dX10_drop_43 (by decide) ?_
          refine lv_isub hx hb dX10_drop_44 ?_
          refine lv_topi (fun y_19 ey_19 => ?_)
          first | have ty_19 := i_sub (a := y_18.toInt) (b := 1) rfl (by decide) ey_19 (by omega) (by omega) | skip
          refine lv_aload_n hx hb dX10_drop_45 rfl (lv_at hl 1 rfl) ?_
          refine lv_iload_n hx hb dX10_drop_46 rfl (lv_at hl 0 rfl) ?_
          refine vp_callSi (W.runV (As := [.int dd]) (rest := [.int y_19, .ref (ad 1)]) ⟨hx, hb, hml, hown, hts⟩ (m_sizeOf l dC dI ad kc x0 x1 x2 x3 x4 x5 x6 x7 x8 x9 x10 x11 x12 x13 x14 x15 x16 x17 x18 x19 x20 x21 ga f1 f2 f3 f4 f5 f6 f7 f8 f9 f10 f11 f12 f13 f14 f15 f16 f17 f18 f19 f20 f21 fL fN fP fM fO dd (by first | omega | assumption | decide | (have l0 := Int32.toInt_zero; omega)) (by first | omega | assumption | decide | (have l0 := Int32.toInt_zero; omega))) (cwV 1 hts mg_X10_dropm_X10_sizeOf_396 rfl rfl rfl (by decide +kernel) ⟨Nat.le_of_ble_eq_true rfl, Nat.le_of_ble_eq_true rfl⟩) ⟨fun a U g mk q => by obtain ⟨q0, qP, qK⟩ := q; exact ⟨q0, qP, va_K.moved (u := U) (U := U.calling g mk a) (Vm.Alike.refl U.vm) qK⟩, va_recv hK hP (ci := 10) (q0 := 0) rfl rfl, fun U hU hW => ⟨rfl, by rw [hU]; exact hP, va_K.moved hW.alike hK⟩⟩ rfl rfl hl.1 rfl (lv_room (Nat.le_of_ble_eq_true rfl)) dX10_drop_47 ⟨Nat.le_of_ble_eq_true rfl, Nat.le_of_ble_eq_true rfl⟩) (fun r_20 hr_20 => ?_)
          have rg_r_20 := i_rng r_20
          have hsz7 : r_20.toInt = vI f_6 (dd.toInt + 1) := by rw [hr_20, v26_1 _ (by omega), if_neg (by omega), if_neg (by omega)]; congr 1; omega
          refine va_iast hx hb hK hP hD hS 1 0 rfl rfl (i := y_19) (vp_of (a := y_19.toInt) rfl (by omega) (by omega)) dX10_drop_50 (fun H locs hP hD hS => ?_)
          generalize hf_f_21 : upd ga _ _ = f_21 at hP hD
          have uf_21 := vI_up (a := ((1 + dd.toInt) - 1)) (b := r_20.toInt) hf_f_21 (by first | omega | decide) (by omega) rfl
          have hP : va_P (dC, dI) vwCl (mW ad kc x0 x1 x2 x3 x4 x5 x6 x7 x8 x9 x10 x11 x12 x13 x14 x15 x16 x17 x18 x19 x20 x21 f_21 f1 f2 f3 f4 f5 f6 f7 f8 f9 f10 f11 f12 f13 f14 f15 f16 f17 f18 f19 f20 f21 fL fN fP fM fO) H := hP
          have hD : va_D A (mW ad kc x0 x1 x2 x3 x4 x5 x6 x7 x8 x9 x10 x11 x12 x13 x14 x15 x16 x17 x18 x19 x20 x21 f_21 f1 f2 f3 f4 f5 f6 f7 f8 f9 f10 f11 f12 f13 f14 f15 f16 f17 f18 f19 f20 f21 fL fN fP fM fO) := hD
          have hDs : DR f_6 f_21 i1.toInt dd.toInt (11 + 60 * (dd.toInt - 1) + (0 : Int32).toInt) := by
            have h9 := v26_1.s (v := r_20.toInt) (by have h8 := uf_21; rw [show (1 + dd.toInt - 1 : Int) = 1 + (dd.toInt - 1) by omega] at h8; exact h8) (by rw [hsz7]; congr 1; omega) (by omega) (by omega)
            rw [show dd.toInt - 1 + 1 = dd.toInt by omega] at h9
            rw [show (0 : Int32).toInt = 0 by decide, show 11 + 60 * (dd.toInt - 1) + 0 = 11 + 60 * (dd.toInt - 1) by omega]
            exact h9
          refine lv_iconst (v := 0) hx hb dX10_drop_51 (by decide) ?_
          refine lv_istore_n (lv' := [(3, .int 0), (2, .int dd), (0, .ref (ad 0)), (1, .int i1)]) hx hb dX10_drop_52 rfl hl (by decide) rfl (fun ls hl => ?_)
          have loop53 : ∀ (lm53 : Nat) (kk : Int32) (gb : Nat → Int32), (0 ≤ kk.toInt ∧ kk.toInt ≤ 60) → (DR f_6 gb i1.toInt dd.toInt (11 + 60 * (dd.toInt - 1) + kk.toInt)) → ((60 - kk.toInt).toNat) < lm53 → ∀ (H : Heap) (locs : List Loc) (ls : Array Slot), va_P (dC, dI) vwCl (mW ad kc x0 x1 x2 x3 x4 x5 x6 x7 x8 x9 x10 x11 x12 x13 x14 x15 x16 x17 x18 x19 x20 x21 gb f1 f2 f3 f4 f5 f6 f7 f8 f9 f10 f11 f12 f13 f14 f15 f16 f17 f18 f19 f20 f21 fL fN fP fM fO) H → va_D A (mW ad kc x0 x1 x2 x3 x4 x5 x6 x7 x8 x9 x10 x11 x12 x13 x14 x15 x16 x17 x18 x19 x20 x21 gb f1 f2 f3 f4 f5 f6 f7 f8 f9 f10 f11 f12 f13 f14 f15 f16 f17 f18 f19 f20 f21 fL fN fP fM fO) → va_S A s.heap H locs → lv_has ls 4 [(3, .int kk), (2, .int dd), (0, .ref (ad 0)), (1, .int i1)] → W p l e (headSpec mwX10_dropm ({ frames := 3, cells := 0, slots := 0, locals := 180 })).room s m ([.ref (ad 0), .int i1]).toArray below meth c H locs 0 0 (MQ below (va_Qi (fun (o9 u9 : Int32) => o9 = u9) (fun (o9 : Int32) t => ∃ (y0 y1 : Int32) (g0 : Nat → Int32), (mI y1.toInt x2.toInt x3.toInt g0 fP) ∧ va_P (dC, dI) vwCl (mW ad kc y0 y1 x2 x3 x4 x5 x6 x7 x8 x9 x10 x11 x12 x13 x14 x15 x16 x17 x18 x19 x20 x21 g0 f1 f2 f3 f4 f5 f6 f7 f8 f9 f10 f11 f12 f13 f14 f15 f16 f17 f18 f19 f20 f21 fL fN fP fM fO) t.heap ∧ va_K (dC, dI) vwCl (mT kc) t ∧ va_D A (mW ad kc y0 y1 x2 x3 x4 x5 x6 x7 x8 x9 x10 x11 x12 x13 x14 x15 x16 x17 x18 x19 x20 x21 g0 f1 f2 f3 f4 f5 f6 f7 f8 f9 f10 f11 f12 f13 f14 f15 f16 f17 f18 f19 f20 f21 fL fN fP fM fO)) A) ([.ref (ad 0), .int i1]).toArray s 0 0 A) (F0 m 53 ls []) := by
            intro lm53
            induction lm53 with
            | zero => intro kk gb v53_0 v53_1 hm53; exact absurd hm53 (Nat.not_lt_zero _)
            | succ lm53 ih53 =>
              intro kk gb v53_0 v53_1 hm53 H locs ls hP hD hS hl
              have rg_kk := i_rng kk
              refine lv_iload_n hx hb dX10_drop_53 rfl (lv_at hl 0 rfl) ?_
              refine lv_bipush (v := 60) hx hb dX10_drop_54 (by decide) ?_
              refine lv_icmp_ge (tgt := 79) hx hb dX10_drop_56 (by decide) (fun k_22 => ?_) (fun k_22 => ?_)
              · have tk_22 := c_ge (a := kk.toInt) (b := 60) rfl (by decide) k_22
                obtain ⟨y_23, ey_23⟩ : ∃ y : Int32, y = dd + 1 := ⟨_, rfl⟩
                first | have ty_23 := i_add (a := dd.toInt) (b := 1) rfl (by decide) ey_23 (by omega) (by omega) | skip
                refine lv_iinc (v := y_23) (lv' := [(2, .int y_23), (3, .int kk), (0, .ref (ad 0)), (1, .int i1)]) hx hb dX10_drop_79 hl (k := 1) rfl (by rw [ey_23]; rfl) (by decide) rfl (fun ls hl => ?_)
                refine lv_goto (tgt := 26) hx hb dX10_drop_82 (by decide) ?_
                exact ih26 y_23 gb (by first | omega | assumption | decide) (by rw [show y_23.toInt - 1 = dd.toInt by omega, show 11 + 60 * dd.toInt = 11 + 60 * (dd.toInt - 1) + kk.toInt by omega]; exact v53_1) (by omega) _ _ ls hP hD hS (lv_sub hl [0, 2, 3] rfl)
              · have tk_22 := c_nge (a := kk.toInt) (b := 60) rfl (by decide) k_22
                refine lv_aload_n hx hb dX10_drop_59 rfl (lv_at hl 2 rfl) ?_
                refine lv_iload_n hx hb dX10_drop_60 rfl (lv_at hl 1 rfl) ?_
                refine lv_iconst (v := 1) hx hb dX10_drop_61 (by decide) ?_
                refine lv_isub hx hb dX10_drop_62 ?_
                refine lv_topi (fun y_24 ey_24 => ?_)
                first | have ty_24 := i_sub (a := dd.toInt) (b := 1) rfl (by decide) ey_24 (by omega) (by omega) | skip
                refine lv_iload_n hx hb dX10_drop_63 rfl (lv_at hl 0 rfl) ?_
                refine lv_aload_n hx hb dX10_drop_64 rfl (lv_at hl 2 rfl) ?_
                refine lv_iload_n hx hb dX10_drop_65 rfl (lv_at hl 1 rfl) ?_
                refine lv_iload_n hx hb dX10_drop_66 rfl (lv_at hl 0 rfl) ?_
                refine vp_callSi (W.runV (As := [.int dd, .int kk]) (rest := [.int kk, .int y_24, .ref (ad 0)]) ⟨hx, hb, hml, hown, hts⟩ (m_at l dC dI ad kc x0 x1 x2 x3 x4 x5 x6 x7 x8 x9 x10 x11 x12 x13 x14 x15 x16 x17 x18 x19 x20 x21 gb f1 f2 f3 f4 f5 f6 f7 f8 f9 f10 f11 f12 f13 f14 f15 f16 f17 f18 f19 f20 f21 fL fN fP fM fO dd kk (by first | omega | assumption | decide | (have l0 := Int32.toInt_zero; omega)) (by first | omega | assumption | decide | (have l0 := Int32.toInt_zero; omega)) (by first | omega | assumption | decide | (have l0 := Int32.toInt_zero; omega)) (by first | omega | assumption | decide | (have l0 := Int32.toInt_zero; omega))) (cwV 2 hts mg_X10_dropm_X10_at_399 rfl rfl rfl (by decide +kernel) ⟨Nat.le_of_ble_eq_true rfl, Nat.le_of_ble_eq_true rfl⟩) ⟨fun a U g mk q => by obtain ⟨q0, qP, qK⟩ := q; exact ⟨q0, qP, va_K.moved (u := U) (U := U.calling g mk a) (Vm.Alike.refl U.vm) qK⟩, va_recv hK hP (ci := 10) (q0 := 0) rfl rfl, fun U hU hW => ⟨rfl, by rw [hU]; exact hP, va_K.moved hW.alike hK⟩⟩ rfl rfl hl.1 rfl (lv_room (Nat.le_of_ble_eq_true rfl)) dX10_drop_67 ⟨Nat.le_of_ble_eq_true rfl, Nat.le_of_ble_eq_true rfl⟩) (fun r_25 hr_25 => ?_)
                have rg_r_25 := i_rng r_25
                have hat9 : r_25.toInt = vI f_6 (11 + 60 * dd.toInt + kk.toInt) := by rw [hr_25, v53_1 _ (by omega), if_neg (by omega), if_neg (by omega)]
                have hFc := m_free hD hS hA
                refine va_callv (va_runV (As := [.int y_24, .int kk, .int r_25]) (rest := []) ⟨hx, hb, hml, hown, hts⟩ (m_sets l dC dI ad kc x0 x1 x2 x3 x4 x5 x6 x7 x8 x9 x10 x11 x12 x13 x14 x15 x16 x17 x18 x19 x20 x21 gb f1 f2 f3 f4 f5 f6 f7 f8 f9 f10 f11 f12 f13 f14 f15 f16 f17 f18 f19 f20 f21 fL fN fP fM fO H.size y_24 kk r_25 (by first | omega | assumption | decide | (have l0 := Int32.toInt_zero; omega)) (by first | omega | assumption | decide | (have l0 := Int32.toInt_zero; omega))) (cwV 3 hts mg_X10_dropm_X10_sets_473 rfl rfl rfl (by decide +kernel) ⟨Nat.le_of_ble_eq_true rfl, Nat.le_of_ble_eq_true rfl⟩) ⟨fun a U g mk q => by obtain ⟨q0, q1, qP, qK, qD⟩ := q; exact ⟨q0, q1, qP, va_K.moved (u := U) (U := U.calling g mk a) (Vm.Alike.refl U.vm) qK, qD⟩, va_recv hK hP (ci := 10) (q0 := 0) rfl rfl, fun U hU hW => ⟨rfl, by rw [hU], by rw [hU]; exact hP, va_K.moved hW.alike hK, hD.weaken (fun _ _ _ _ => trivial)⟩⟩ rfl rfl hl.1 rfl (lv_room (Nat.le_of_ble_eq_true rfl)) dX10_drop_70 ⟨Nat.le_of_ble_eq_true rfl, Nat.le_of_ble_eq_true rfl⟩) hS (fun q _ h => hFc q h) hFc (fun u t H1 locs ht hvm hw hB hz1 hk1 hS => ?_)
                obtain ⟨f_27, hr_26_0, hP, hK1, hD1⟩ := hB
                rw [ht] at hP
                have hD := hD1.weaken (fun k q _ h => hFc q.1 h)
                clear hz1 hk1 hFc hD1 hK1 hvm
                generalize H1 = H at hP hS ⊢
                have hP : va_P (dC, dI) vwCl (mW ad kc x0 x1 x2 x3 x4 x5 x6 x7 x8 x9 x10 x11 x12 x13 x14 x15 x16 x17 x18 x19 x20 x21 f_27 f1 f2 f3 f4 f5 f6 f7 f8 f9 f10 f11 f12 f13 f14 f15 f16 f17 f18 f19 f20 f21 fL fN fP fM fO) H := hP
                have hD : va_D A (mW ad kc x0 x1 x2 x3 x4 x5 x6 x7 x8 x9 x10 x11 x12 x13 x14 x15 x16 x17 x18 x19 x20 x21 f_27 f1 f2 f3 f4 f5 f6 f7 f8 f9 f10 f11 f12 f13 f14 f15 f16 f17 f18 f19 f20 f21 fL fN fP fM fO) := hD
                obtain ⟨y_28, ey_28⟩ : ∃ y : Int32, y = kk + 1 := ⟨_, rfl⟩
                first | have ty_28 := i_add (a := kk.toInt) (b := 1) rfl (by decide) ey_28 (by omega) (by omega) | skip
                refine lv_iinc (v := y_28) (lv' := [(3, .int y_28), (2, .int dd), (0, .ref (ad 0)), (1, .int i1)]) hx hb dX10_drop_73 hl (k := 0) rfl (by rw [ey_28]; rfl) (by decide) rfl (fun ls hl => ?_)
                refine lv_goto (tgt := 53) hx hb dX10_drop_76 (by decide) ?_
                exact ih53 y_28 f_27 (by first | omega | assumption | decide) (by rw [show 11 + 60 * (dd.toInt - 1) + y_28.toInt = 11 + 60 * (dd.toInt - 1) + kk.toInt + 1 by omega]; exact v53_1.l (by have h9 := hr_26_0; rw [show 11 + 60 * y_24.toInt + kk.toInt = 11 + 60 * (dd.toInt - 1) + kk.toInt by omega] at h9; exact h9) (by rw [hat9]; congr 1; omega) (by omega) (by omega) (by omega)) (by omega) _ _ ls hP hD hS (lv_sub hl [0, 1, 2, 3] rfl)
          have lit_28 : (0 : Int32).toInt = 0 := by decide
          exact loop53 _ 0 f_21 (by first | omega | assumption | decide) hDs (Nat.lt_succ_self _) _ _ ls hP hD hS (lv_sub hl [0, 1, 2, 3] rfl)
    exact loop26 _ y_7 f_6 (by first | omega | assumption | decide) (by rw [show y_7.toInt - 1 = i1.toInt by omega]; exact DR.rf) (Nat.lt_succ_self _) _ _ ls hP hD hS (lv_sub hl [0, 1, 2] rfl)
  · have tk_2 := c_eq (a := r_1.toInt) (b := 0) rfl (by decide) k_2
    refine lv_aload_n hx hb dX10_drop_8 rfl (lv_at hl 0 rfl) ?_
    refine lv_iconst (v := 2) hx hb dX10_drop_9 (by decide) ?_
    have lit_29 : (2 : Int32).toInt = 2 := by decide
    have hFc := m_free hD hS hA
    refine va_calli (va_runV (As := [.int 2]) (rest := []) ⟨hx, hb, hml, hown, hts⟩ (m_refuse l dC dI ad kc x0 x1 x2 x3 x4 x5 x6 x7 x8 x9 x10 x11 x12 x13 x14 x15 x16 x17 x18 x19 x20 x21 f0 f1 f2 f3 f4 f5 f6 f7 f8 f9 f10 f11 f12 f13 f14 f15 f16 f17 f18 f19 f20 f21 fL fN fP fM fO H.size 2 ) (cwV 1 hts mg_X10_dropm_X10_refuse_204 rfl rfl rfl (by decide +kernel) ⟨Nat.le_of_ble_eq_true rfl, Nat.le_of_ble_eq_true rfl⟩) ⟨fun a U g mk q => by obtain ⟨q0, q1, qP, qK, qD⟩ := q; exact ⟨q0, q1, qP, va_K.moved (u := U) (U := U.calling g mk a) (Vm.Alike.refl U.vm) qK, qD⟩, va_recv hK hP (ci := 10) (q0 := 0) rfl rfl, fun U hU hW => ⟨rfl, by rw [hU], by rw [hU]; exact hP, va_K.moved hW.alike hK, hD.weaken (fun _ _ _ _ => trivial)⟩⟩ rfl rfl hl.1 rfl (lv_room (Nat.le_of_ble_eq_true rfl)) dX10_drop_10 ⟨Nat.le_of_ble_eq_true rfl, Nat.le_of_ble_eq_true rfl⟩) hS (fun q _ h => hFc q h) hFc (fun r_31 u t H1 locs ht hvm hw hB hz1 hk1 hS => ?_)
    subst hw
    obtain ⟨hr_31_0, hP, hK1, hD1⟩ := hB
    rw [ht] at hP
    have hD := hD1.weaken (fun k q _ h => hFc q.1 h)
    clear hz1 hk1 hFc hD1 hK1 hvm
    generalize H1 = H at hP hS ⊢
    have rg_r_31 := i_rng r_31
    have hP : va_P (dC, dI) vwCl (mW ad kc 2 x1 x2 x3 x4 x5 x6 x7 x8 x9 x10 x11 x12 x13 x14 x15 x16 x17 x18 x19 x20 x21 f0 f1 f2 f3 f4 f5 f6 f7 f8 f9 f10 f11 f12 f13 f14 f15 f16 f17 f18 f19 f20 f21 fL fN fP fM fO) H := hP
    have hD : va_D A (mW ad kc 2 x1 x2 x3 x4 x5 x6 x7 x8 x9 x10 x11 x12 x13 x14 x15 x16 x17 x18 x19 x20 x21 f0 f1 f2 f3 f4 f5 f6 f7 f8 f9 f10 f11 f12 f13 f14 f15 f16 f17 f18 f19 f20 f21 fL fN fP fM fO) := hD
    have lit_31 : (2 : Int32).toInt = 2 := by decide
    exact W.iret hx hb hr (fun t ht hW => ⟨⟨_, _, rfl, rfl, 2, x1, f0, q0, by rw [ht]; exact hP, va_K.moved hW.alike hK, hD⟩, hS.F ht⟩) hS.2.2 dX10_drop_13
theorem dX10_forget_0 : decode cX10_forget 0 = .ok (.aload_n 0, 1) := by decide +kernel
theorem dX10_forget_1 : decode cX10_forget 1 = .ok (.iload_n 1, 1) := by decide +kernel
theorem dX10_forget_2 : decode cX10_forget 2 = .ok (.invokevirtual 458, 3) := by decide +kernel
theorem dX10_forget_5 : decode cX10_forget 5 = .ok (.ifCond .ne 9, 3) := by decide +kernel
theorem dX10_forget_8 : decode cX10_forget 8 = .ok (.aload_n 0, 1) := by decide +kernel
theorem dX10_forget_9 : decode cX10_forget 9 = .ok (.iconst 2, 1) := by decide +kernel
theorem dX10_forget_10 : decode cX10_forget 10 = .ok (.invokevirtual 204, 3) := by decide +kernel
theorem dX10_forget_13 : decode cX10_forget 13 = .ok (.ireturn, 1) := by decide +kernel
theorem dX10_forget_14 : decode cX10_forget 14 = .ok (.aload_n 0, 1) := by decide +kernel
theorem dX10_forget_15 : decode cX10_forget 15 = .ok (.iconst 0, 1) := by decide +kernel
theorem dX10_forget_16 : decode cX10_forget 16 = .ok (.sipush 7820, 3) := by decide +kernel
theorem dX10_forget_19 : decode cX10_forget 19 = .ok (.invokevirtual 193, 3) := by decide +kernel
theorem dX10_forget_22 : decode cX10_forget 22 = .ok (.iload_n 1, 1) := by decide +kernel
theorem dX10_forget_23 : decode cX10_forget 23 = .ok (.iconst 1, 1) := by decide +kernel
theorem dX10_forget_24 : decode cX10_forget 24 = .ok (.iadd, 1) := by decide +kernel
theorem dX10_forget_25 : decode cX10_forget 25 = .ok (.istore_n 2, 1) := by decide +kernel
theorem dX10_forget_26 : decode cX10_forget 26 = .ok (.iload_n 2, 1) := by decide +kernel
theorem dX10_forget_27 : decode cX10_forget 27 = .ok (.aload_n 0, 1) := by decide +kernel
theorem dX10_forget_28 : decode cX10_forget 28 = .ok (.getfield 8, 3) := by decide +kernel
theorem dX10_forget_31 : decode cX10_forget 31 = .ok (.sipush 611, 3) := by decide +kernel
theorem dX10_forget_34 : decode cX10_forget 34 = .ok (.iaload, 1) := by decide +kernel
theorem dX10_forget_35 : decode cX10_forget 35 = .ok (.if_icmp .ge 80, 3) := by decide +kernel
theorem dX10_forget_38 : decode cX10_forget 38 = .ok (.aload_n 0, 1) := by decide +kernel
theorem dX10_forget_39 : decode cX10_forget 39 = .ok (.getfield 8, 3) := by decide +kernel
theorem dX10_forget_42 : decode cX10_forget 42 = .ok (.sipush 612, 3) := by decide +kernel
theorem dX10_forget_45 : decode cX10_forget 45 = .ok (.iload_n 2, 1) := by decide +kernel
theorem dX10_forget_46 : decode cX10_forget 46 = .ok (.iadd, 1) := by decide +kernel
theorem dX10_forget_47 : decode cX10_forget 47 = .ok (.iconst 1, 1) := by decide +kernel
theorem dX10_forget_48 : decode cX10_forget 48 = .ok (.isub, 1) := by decide +kernel
theorem dX10_forget_49 : decode cX10_forget 49 = .ok (.aload_n 0, 1) := by decide +kernel
theorem dX10_forget_50 : decode cX10_forget 50 = .ok (.getfield 8, 3) := by decide +kernel
theorem dX10_forget_53 : decode cX10_forget 53 = .ok (.sipush 612, 3) := by decide +kernel
theorem dX10_forget_56 : decode cX10_forget 56 = .ok (.iload_n 2, 1) := by decide +kernel
theorem dX10_forget_57 : decode cX10_forget 57 = .ok (.iadd, 1) := by decide +kernel
theorem dX10_forget_58 : decode cX10_forget 58 = .ok (.iaload, 1) := by decide +kernel
theorem dX10_forget_59 : decode cX10_forget 59 = .ok (.iastore, 1) := by decide +kernel
theorem dX10_forget_60 : decode cX10_forget 60 = .ok (.iconst 0, 1) := by decide +kernel
theorem dX10_forget_61 : decode cX10_forget 61 = .ok (.istore_n 3, 1) := by decide +kernel
theorem dX10_forget_62 : decode cX10_forget 62 = .ok (.iload_n 3, 1) := by decide +kernel
theorem dX10_forget_63 : decode cX10_forget 63 = .ok (.sipush 900, 3) := by decide +kernel
theorem dX10_forget_66 : decode cX10_forget 66 = .ok (.if_icmp .ge 43, 3) := by decide +kernel
theorem dX10_forget_69 : decode cX10_forget 69 = .ok (.aload_n 0, 1) := by decide +kernel
theorem dX10_forget_70 : decode cX10_forget 70 = .ok (.getfield 8, 3) := by decide +kernel
theorem dX10_forget_73 : decode cX10_forget 73 = .ok (.sipush 620, 3) := by decide +kernel
theorem dX10_forget_76 : decode cX10_forget 76 = .ok (.sipush 900, 3) := by decide +kernel
theorem dX10_forget_79 : decode cX10_forget 79 = .ok (.iload_n 2, 1) := by decide +kernel
theorem dX10_forget_80 : decode cX10_forget 80 = .ok (.iconst 1, 1) := by decide +kernel
theorem dX10_forget_81 : decode cX10_forget 81 = .ok (.isub, 1) := by decide +kernel
theorem dX10_forget_82 : decode cX10_forget 82 = .ok (.imul, 1) := by decide +kernel
theorem dX10_forget_83 : decode cX10_forget 83 = .ok (.iadd, 1) := by decide +kernel
theorem dX10_forget_84 : decode cX10_forget 84 = .ok (.iload_n 3, 1) := by decide +kernel
theorem dX10_forget_85 : decode cX10_forget 85 = .ok (.iadd, 1) := by decide +kernel
theorem dX10_forget_86 : decode cX10_forget 86 = .ok (.aload_n 0, 1) := by decide +kernel
theorem dX10_forget_87 : decode cX10_forget 87 = .ok (.getfield 8, 3) := by decide +kernel
theorem dX10_forget_90 : decode cX10_forget 90 = .ok (.sipush 620, 3) := by decide +kernel
theorem dX10_forget_93 : decode cX10_forget 93 = .ok (.sipush 900, 3) := by decide +kernel
theorem dX10_forget_96 : decode cX10_forget 96 = .ok (.iload_n 2, 1) := by decide +kernel
theorem dX10_forget_97 : decode cX10_forget 97 = .ok (.imul, 1) := by decide +kernel
theorem dX10_forget_98 : decode cX10_forget 98 = .ok (.iadd, 1) := by decide +kernel
theorem dX10_forget_99 : decode cX10_forget 99 = .ok (.iload_n 3, 1) := by decide +kernel
theorem dX10_forget_100 : decode cX10_forget 100 = .ok (.iadd, 1) := by decide +kernel
theorem dX10_forget_101 : decode cX10_forget 101 = .ok (.iaload, 1) := by decide +kernel
theorem dX10_forget_102 : decode cX10_forget 102 = .ok (.iastore, 1) := by decide +kernel
theorem dX10_forget_103 : decode cX10_forget 103 = .ok (.iinc 3 1, 3) := by decide +kernel
theorem dX10_forget_106 : decode cX10_forget 106 = .ok (.goto (-44), 3) := by decide +kernel
theorem dX10_forget_109 : decode cX10_forget 109 = .ok (.iinc 2 1, 3) := by decide +kernel
theorem dX10_forget_112 : decode cX10_forget 112 = .ok (.goto (-86), 3) := by decide +kernel
theorem dX10_forget_115 : decode cX10_forget 115 = .ok (.aload_n 0, 1) := by decide +kernel
theorem dX10_forget_116 : decode cX10_forget 116 = .ok (.getfield 8, 3) := by decide +kernel
theorem dX10_forget_119 : decode cX10_forget 119 = .ok (.sipush 611, 3) := by decide +kernel
theorem dX10_forget_122 : decode cX10_forget 122 = .ok (.dup2, 1) := by decide +kernel
theorem dX10_forget_123 : decode cX10_forget 123 = .ok (.iaload, 1) := by decide +kernel
theorem dX10_forget_124 : decode cX10_forget 124 = .ok (.iconst 1, 1) := by decide +kernel
theorem dX10_forget_125 : decode cX10_forget 125 = .ok (.isub, 1) := by decide +kernel
theorem dX10_forget_126 : decode cX10_forget 126 = .ok (.iastore, 1) := by decide +kernel
theorem dX10_forget_127 : decode cX10_forget 127 = .ok (.aload_n 0, 1) := by decide +kernel
theorem dX10_forget_128 : decode cX10_forget 128 = .ok (.aload_n 0, 1) := by decide +kernel
theorem dX10_forget_129 : decode cX10_forget 129 = .ok (.getfield 8, 3) := by decide +kernel
theorem dX10_forget_132 : decode cX10_forget 132 = .ok (.sipush 611, 3) := by decide +kernel
theorem dX10_forget_135 : decode cX10_forget 135 = .ok (.iaload, 1) := by decide +kernel
theorem dX10_forget_136 : decode cX10_forget 136 = .ok (.invokevirtual 476, 3) := by decide +kernel
theorem dX10_forget_139 : decode cX10_forget 139 = .ok (.ireturn, 1) := by decide +kernel
def mwX10_forgetm : List Cond := .code yX10_forget cX10_forget 4 (some .int) :: (([.methodLink RX10 458 yX10_isPattern, .instanceMethod yX10_isPattern, .selects RX10 yX10_isPattern yX10_isPattern, .initialized RX10, .methodLink RX10 193 yX10_copies, .instanceMethod yX10_copies, .selects RX10 yX10_copies yX10_copies, .fieldLink RX10 8 "PatternGateModel" "all" "[I", .methodLink RX10 476 yX10_acted_, .instanceMethod yX10_acted_, .selects RX10 yX10_acted_ yX10_acted_, .methodLink RX10 204 yX10_refuse, .instanceMethod yX10_refuse, .selects RX10 yX10_refuse yX10_refuse] : List Cond) ++ (wsX100 ++ (mwX10_isPatternm ++ (mwX10_copiesm ++ (mwX10_acted_m ++ (mwX10_refusem))))))
theorem fin_X10_forgetm_X10 : ∀ w ∈ wsX100, w ∈ mwX10_forgetm := fun w h => List.mem_cons_of_mem _ (List.mem_append_right _ (List.mem_append_left _ h))
set_option maxRecDepth 20000 in
theorem mg_X10_forgetm_X10_isPattern_458 : GoodIn mwX10_forgetm (wsV RX10 458 RX10 yX10_isPattern mwX10_isPatternm) := gi_app (A := [.methodLink RX10 458 yX10_isPattern, .instanceMethod yX10_isPattern, .selects RX10 yX10_isPattern yX10_isPattern, .initialized RX10]) (goodIn_r _ [1, 2, 3, 4] (by decide +kernel) (by decide +kernel)) (gi_sub gd_mwX10_isPatternm (fun w h => List.mem_cons_of_mem _ (List.mem_append_right _ (List.mem_append_right _ (List.mem_append_left _ h)))))
set_option maxRecDepth 20000 in
theorem mg_X10_forgetm_X10_copies_193 : GoodIn mwX10_forgetm (wsV RX10 193 RX10 yX10_copies mwX10_copiesm) := gi_app (A := [.methodLink RX10 193 yX10_copies, .instanceMethod yX10_copies, .selects RX10 yX10_copies yX10_copies, .initialized RX10]) (goodIn_r _ [5, 6, 7, 4] (by decide +kernel) (by decide +kernel)) (gi_sub gd_mwX10_copiesm (fun w h => List.mem_cons_of_mem _ (List.mem_append_right _ (List.mem_append_right _ (List.mem_append_right _ (List.mem_append_left _ h))))))
set_option maxRecDepth 20000 in
theorem mg_X10_forgetm_X10_acted__476 : GoodIn mwX10_forgetm (wsV RX10 476 RX10 yX10_acted_ mwX10_acted_m) := gi_app (A := [.methodLink RX10 476 yX10_acted_, .instanceMethod yX10_acted_, .selects RX10 yX10_acted_ yX10_acted_, .initialized RX10]) (goodIn_r _ [9, 10, 11, 4] (by decide +kernel) (by decide +kernel)) (gi_sub gd_mwX10_acted_m (fun w h => List.mem_cons_of_mem _ (List.mem_append_right _ (List.mem_append_right _ (List.mem_append_right _ (List.mem_append_right _ (List.mem_append_left _ h)))))))
set_option maxRecDepth 20000 in
theorem mg_X10_forgetm_X10_refuse_204 : GoodIn mwX10_forgetm (wsV RX10 204 RX10 yX10_refuse mwX10_refusem) := gi_app (A := [.methodLink RX10 204 yX10_refuse, .instanceMethod yX10_refuse, .selects RX10 yX10_refuse yX10_refuse, .initialized RX10]) (goodIn_r _ [12, 13, 14, 4] (by decide +kernel) (by decide +kernel)) (gi_sub gd_mwX10_refusem (fun w h => List.mem_cons_of_mem _ (List.mem_append_right _ (List.mem_append_right _ (List.mem_append_right _ (List.mem_append_right _ (List.mem_append_right _ (h))))))))
set_option maxHeartbeats 4000000 in
set_option maxRecDepth 100000 in
theorem m_forget (l : Launch) (dC : Nat → ClassId) (dI : Nat → Nat → Nat) (ad : Nat → Nat) (kc : Nat → ClassId) (x0 x1 x2 x3 x4 x5 x6 x7 x8 x9 x10 x11 x12 x13 x14 x15 x16 x17 x18 x19 x20 x21 : Int32) (f0 f1 f2 f3 f4 f5 f6 f7 f8 f9 f10 f11 f12 f13 f14 f15 f16 f17 f18 f19 f20 f21 : Nat → Int32) (fL : Nat → Nat → Int64) (fN : Nat → Nat → Int32) (fP : Nat → Nat → Nat) (fM : Nat → Nat → Int32) (fO : Nat → Nat → Int32) (sz : Nat) (i1 : Int32) (q0 : mI x1.toInt x2.toInt x3.toInt f0 fP) : Met l yX10_forget mwX10_forgetm ({ frames := 3, cells := 0, slots := 0, locals := 180 }) (va_Pc [.ref (ad 0), .int i1] (fun U => U.heap.size = sz ∧ va_P (dC, dI) vwCl (mW ad kc x0 x1 x2 x3 x4 x5 x6 x7 x8 x9 x10 x11 x12 x13 x14 x15 x16 x17 x18 x19 x20 x21 f0 f1 f2 f3 f4 f5 f6 f7 f8 f9 f10 f11 f12 f13 f14 f15 f16 f17 f18 f19 f20 f21 fL fN fP fM fO) U.heap ∧ va_K (dC, dI) vwCl (mT kc) U ∧ va_D (fun _ => True) (mW ad kc x0 x1 x2 x3 x4 x5 x6 x7 x8 x9 x10 x11 x12 x13 x14 x15 x16 x17 x18 x19 x20 x21 f0 f1 f2 f3 f4 f5 f6 f7 f8 f9 f10 f11 f12 f13 f14 f15 f16 f17 f18 f19 f20 f21 fL fN fP fM fO))) (va_Qi (fun (o9 u9 : Int32) => o9 = u9) (fun (o9 : Int32) t => ∃ (y0 y1 : Int32) (g0 : Nat → Int32), (mI y1.toInt x2.toInt x3.toInt g0 fP) ∧ va_P (dC, dI) vwCl (mW ad kc y0 y1 x2 x3 x4 x5 x6 x7 x8 x9 x10 x11 x12 x13 x14 x15 x16 x17 x18 x19 x20 x21 g0 f1 f2 f3 f4 f5 f6 f7 f8 f9 f10 f11 f12 f13 f14 f15 f16 f17 f18 f19 f20 f21 fL fN fP fM fO) t.heap ∧ va_K (dC, dI) vwCl (mT kc) t ∧ va_D (va_A (mW ad kc x0 x1 x2 x3 x4 x5 x6 x7 x8 x9 x10 x11 x12 x13 x14 x15 x16 x17 x18 x19 x20 x21 f0 f1 f2 f3 f4 f5 f6 f7 f8 f9 f10 f11 f12 f13 f14 f15 f16 f17 f18 f19 f20 f21 fL fN fP fM fO) sz) (mW ad kc y0 y1 x2 x3 x4 x5 x6 x7 x8 x9 x10 x11 x12 x13 x14 x15 x16 x17 x18 x19 x20 x21 g0 f1 f2 f3 f4 f5 f6 f7 f8 f9 f10 f11 f12 f13 f14 f15 f16 f17 f18 f19 f20 f21 fL fN fP fM fO)) (va_A (mW ad kc x0 x1 x2 x3 x4 x5 x6 x7 x8 x9 x10 x11 x12 x13 x14 x15 x16 x17 x18 x19 x20 x21 f0 f1 f2 f3 f4 f5 f6 f7 f8 f9 f10 f11 f12 f13 f14 f15 f16 f17 f18 f19 f20 f21 fL fN fP fM fO) sz)) 0 0 (va_A (mW ad kc x0 x1 x2 x3 x4 x5 x6 x7 x8 x9 x10 x11 x12 x13 x14 x15 x16 x17 x18 x19 x20 x21 f0 f1 f2 f3 f4 f5 f6 f7 f8 f9 f10 f11 f12 f13 f14 f15 f16 f17 f18 f19 f20 f21 fL fN fP fM fO) sz) := by
  refine Met.ofW (cc := cX10_forget) (maxL := 4) (ret := (some .int)) (by decide +kernel) rfl ?_
  intro p e s m args below meth c s₁ B hml hv
  obtain ⟨rfl, hsz, hP, hK, hD0⟩ := hv
  have hx := B.exec
  have hb := B.bytes
  have hr := B.returns
  have hts := atoms_spec (ws := mwX10_forgetm) B.pre
  have hown : s.vm.findClass RX10 = some m.cls := findClass_of_methodNamed B.named
  have hlocks := B.notSynchronized
  subst hsz
  have hD := hD0.self (sz := s.heap.size)
  generalize hAe : va_A (mW ad kc x0 x1 x2 x3 x4 x5 x6 x7 x8 x9 x10 x11 x12 x13 x14 x15 x16 x17 x18 x19 x20 x21 f0 f1 f2 f3 f4 f5 f6 f7 f8 f9 f10 f11 f12 f13 f14 f15 f16 f17 f18 f19 f20 f21 fL fN fP fM fO) s.heap.size = A at hD ⊢
  have hA : ∀ q : Nat, s.heap.size ≤ q → A q := fun q h => by rw [← hAe]; exact Or.inr h
  have hP : va_P (dC, dI) vwCl (mW ad kc x0 x1 x2 x3 x4 x5 x6 x7 x8 x9 x10 x11 x12 x13 x14 x15 x16 x17 x18 x19 x20 x21 f0 f1 f2 f3 f4 f5 f6 f7 f8 f9 f10 f11 f12 f13 f14 f15 f16 f17 f18 f19 f20 f21 fL fN fP fM fO) s.heap := hP
  have hD : va_D A (mW ad kc x0 x1 x2 x3 x4 x5 x6 x7 x8 x9 x10 x11 x12 x13 x14 x15 x16 x17 x18 x19 x20 x21 f0 f1 f2 f3 f4 f5 f6 f7 f8 f9 f10 f11 f12 f13 f14 f15 f16 f17 f18 f19 f20 f21 fL fN fP fM fO) := hD
  have hK : va_K (dC, dI) vwCl (mT kc) s := hK
  generalize hH : s.heap = H at hP ⊢
  have hS : va_S A s.heap H [] := by rw [← hH]; exact va_S.rf
  have hl := lv_entry ([.ref (ad 0), .int i1]) (n := 4) (Nat.le_of_ble_eq_true rfl)
  rw [lg_entry_eq]
  generalize (lg_sl ([.ref (ad 0), .int i1]) ++ List.replicate (4 - (lg_sl ([.ref (ad 0), .int i1])).length) Slot.unset).toArray = ls at hl ⊢
  have hl : lv_has ls 4 [(0, .ref (ad 0)), (1, .int i1)] := hl
  have rg_i1 := i_rng i1
  have hd := q0.d
  have hpi := q0.p
  have hq1 := q0.1
  have hq2 := q0.2.1
  have hq3 := q0.2.2.1
  have hd10 := hd.n0
  have hp8 := hd.P0
  refine lv_aload_n hx hb dX10_forget_0 rfl (lv_at hl 0 rfl) ?_
  refine lv_iload_n hx hb dX10_forget_1 rfl (lv_at hl 1 rfl) ?_
  refine vp_callSi (W.runV (As := [.int i1]) (rest := []) ⟨hx, hb, hml, hown, hts⟩ (m_isPattern l dC dI ad kc x0 x1 x2 x3 x4 x5 x6 x7 x8 x9 x10 x11 x12 x13 x14 x15 x16 x17 x18 x19 x20 x21 f0 f1 f2 f3 f4 f5 f6 f7 f8 f9 f10 f11 f12 f13 f14 f15 f16 f17 f18 f19 f20 f21 fL fN fP fM fO i1 ) (cwV 1 hts mg_X10_forgetm_X10_isPattern_458 rfl rfl rfl (by decide +kernel) ⟨Nat.le_of_ble_eq_true rfl, Nat.le_of_ble_eq_true rfl⟩) ⟨fun a U g mk q => by obtain ⟨q0, qP, qK⟩ := q; exact ⟨q0, qP, va_K.moved (u := U) (U := U.calling g mk a) (Vm.Alike.refl U.vm) qK⟩, va_recv hK hP (ci := 10) (q0 := 0) rfl rfl, fun U hU hW => ⟨rfl, by rw [hU]; exact hP, va_K.moved hW.alike hK⟩⟩ rfl rfl hl.1 rfl (lv_room (Nat.le_of_ble_eq_true rfl)) dX10_forget_2 ⟨Nat.le_of_ble_eq_true rfl, Nat.le_of_ble_eq_true rfl⟩) (fun r_1 hr_1 => ?_)
  have rg_r_1 := i_rng r_1
  refine lv_if_ne (tgt := 14) hx hb dX10_forget_5 (by decide) (fun k_2 => ?_) (fun k_2 => ?_)
  · have tk_2 := c_ne (a := r_1.toInt) (b := 0) rfl (by decide) k_2
    refine lv_aload_n hx hb dX10_forget_14 rfl (lv_at hl 0 rfl) ?_
    refine lv_iconst (v := 0) hx hb dX10_forget_15 (by decide) ?_
    refine lv_sipush (v := 7820) hx hb dX10_forget_16 (by decide) ?_
    have lit_2 : (0 : Int32).toInt = 0 := by decide
    have lit_3 : (7820 : Int32).toInt = 7820 := by decide
    have hFc := m_free hD hS hA
    refine va_callv (va_runV (As := [.int 0, .int 7820]) (rest := []) ⟨hx, hb, hml, hown, hts⟩ (m_copies l dC dI ad kc x0 x1 x2 x3 x4 x5 x6 x7 x8 x9 x10 x11 x12 x13 x14 x15 x16 x17 x18 x19 x20 x21 f0 f1 f2 f3 f4 f5 f6 f7 f8 f9 f10 f11 f12 f13 f14 f15 f16 f17 f18 f19 f20 f21 fL fN fP fM fO H.size 0 7820 (by first | omega | assumption | decide | (have l0 := Int32.toInt_zero; omega)) (by first | omega | assumption | decide | (have l0 := Int32.toInt_zero; omega)) (by first | omega | assumption | decide | (have l0 := Int32.toInt_zero; omega)) (by first | omega | assumption | decide | (have l0 := Int32.toInt_zero; omega)) (by first | omega | assumption | decide | (have l0 := Int32.toInt_zero; omega))) (cwV 2 hts mg_X10_forgetm_X10_copies_193 rfl rfl rfl (by decide +kernel) ⟨Nat.le_of_ble_eq_true rfl, Nat.le_of_ble_eq_true rfl⟩) ⟨fun a U g mk q => by obtain ⟨q0, q1, qP, qK, qD⟩ := q; exact ⟨q0, q1, qP, va_K.moved (u := U) (U := U.calling g mk a) (Vm.Alike.refl U.vm) qK, qD⟩, va_recv hK hP (ci := 10) (q0 := 0) rfl rfl, fun U hU hW => ⟨rfl, by rw [hU], by rw [hU]; exact hP, va_K.moved hW.alike hK, hD.weaken (fun _ _ _ _ => trivial)⟩⟩ rfl rfl hl.1 rfl (lv_room (Nat.le_of_ble_eq_true rfl)) dX10_forget_19 ⟨Nat.le_of_ble_eq_true rfl, Nat.le_of_ble_eq_true rfl⟩) hS (fun q _ h => hFc q h) hFc (fun u t H1 locs ht hvm hw hB hz1 hk1 hS => ?_)
    obtain ⟨f_6, hr_5_0, hP, hK1, hD1⟩ := hB
    rw [ht] at hP
    have hD := hD1.weaken (fun k q _ h => hFc q.1 h)
    clear hz1 hk1 hFc hD1 hK1 hvm
    generalize H1 = H at hP hS ⊢
    have hP : va_P (dC, dI) vwCl (mW ad kc x0 x1 x2 x3 x4 x5 x6 x7 x8 x9 x10 x11 x12 x13 x14 x15 x16 x17 x18 x19 x20 x21 f_6 f1 f2 f3 f4 f5 f6 f7 f8 f9 f10 f11 f12 f13 f14 f15 f16 f17 f18 f19 f20 f21 fL fN fP fM fO) H := hP
    have hD : va_D A (mW ad kc x0 x1 x2 x3 x4 x5 x6 x7 x8 x9 x10 x11 x12 x13 x14 x15 x16 x17 x18 x19 x20 x21 f_6 f1 f2 f3 f4 f5 f6 f7 f8 f9 f10 f11 f12 f13 f14 f15 f16 f17 f18 f19 f20 f21 fL fN fP fM fO) := hD
    have hc9 : CP f0 f_6 0 7820 := by have h9 := hr_5_0; rw [(show (0 : Int32).toInt = 0 by decide), (show (7820 : Int32).toInt = 7820 by decide)] at h9; exact h9
    have hA9 := q0.aside hc9
    have hd9 := hA9.1
    have hm9 := hA9.2
    have hsm : ∀ z : Int, 0 ≤ z → z < 7820 → vI f_6 z = vI f0 z := fun z h1 h2 => by rw [hc9 z h1, if_neg (by omega)]
    refine lv_iload_n hx hb dX10_forget_22 rfl (lv_at hl 1 rfl) ?_
    refine lv_iconst (v := 1) hx hb dX10_forget_23 (by decide) ?_
    refine lv_iadd hx hb dX10_forget_24 ?_
    refine lv_topi (fun y_7 ey_7 => ?_)
    first | have ty_7 := i_add (a := i1.toInt) (b := 1) rfl (by decide) ey_7 (by omega) (by omega) | skip
    refine lv_istore_n (lv' := [(2, .int y_7), (0, .ref (ad 0)), (1, .int i1)]) hx hb dX10_forget_25 rfl hl (by decide) rfl (fun ls hl => ?_)
    have hs0 := hsm 611 (by omega) (by omega)
    have loop26 : ∀ (lm26 : Nat) (dd : Int32) (ga : Nat → Int32), (i1.toInt + 1 ≤ dd.toInt ∧ dd.toInt ≤ vI f0 611) → (FR f_6 ga i1.toInt (dd.toInt - 1) (620 + 900 * (dd.toInt - 1))) → ((vI f0 611 - dd.toInt).toNat) < lm26 → ∀ (H : Heap) (locs : List Loc) (ls : Array Slot), va_P (dC, dI) vwCl (mW ad kc x0 x1 x2 x3 x4 x5 x6 x7 x8 x9 x10 x11 x12 x13 x14 x15 x16 x17 x18 x19 x20 x21 ga f1 f2 f3 f4 f5 f6 f7 f8 f9 f10 f11 f12 f13 f14 f15 f16 f17 f18 f19 f20 f21 fL fN fP fM fO) H → va_D A (mW ad kc x0 x1 x2 x3 x4 x5 x6 x7 x8 x9 x10 x11 x12 x13 x14 x15 x16 x17 x18 x19 x20 x21 ga f1 f2 f3 f4 f5 f6 f7 f8 f9 f10 f11 f12 f13 f14 f15 f16 f17 f18 f19 f20 f21 fL fN fP fM fO) → va_S A s.heap H locs → lv_has ls 4 [(2, .int dd), (0, .ref (ad 0)), (1, .int i1)] → W p l e (headSpec mwX10_forgetm ({ frames := 3, cells := 0, slots := 0, locals := 180 })).room s m ([.ref (ad 0), .int i1]).toArray below meth c H locs 0 0 (MQ below (va_Qi (fun (o9 u9 : Int32) => o9 = u9) (fun (o9 : Int32) t => ∃ (y0 y1 : Int32) (g0 : Nat → Int32), (mI y1.toInt x2.toInt x3.toInt g0 fP) ∧ va_P (dC, dI) vwCl (mW ad kc y0 y1 x2 x3 x4 x5 x6 x7 x8 x9 x10 x11 x12 x13 x14 x15 x16 x17 x18 x19 x20 x21 g0 f1 f2 f3 f4 f5 f6 f7 f8 f9 f10 f11 f12 f13 f14 f15 f16 f17 f18 f19 f20 f21 fL fN fP fM fO) t.heap ∧ va_K (dC, dI) vwCl (mT kc) t ∧ va_D A (mW ad kc y0 y1 x2 x3 x4 x5 x6 x7 x8 x9 x10 x11 x12 x13 x14 x15 x16 x17 x18 x19 x20 x21 g0 f1 f2 f3 f4 f5 f6 f7 f8 f9 f10 f11 f12 f13 f14 f15 f16 f17 f18 f19 f20 f21 fL fN fP fM fO)) A) ([.ref (ad 0), .int i1]).toArray s 0 0 A) (F0 m 26 ls []) := by
      intro lm26
      induction lm26 with
      | zero => intro dd ga v26_0 v26_1 hm26; exact absurd hm26 (Nat.not_lt_zero _)
      | succ lm26 ih26 =>
        intro dd ga v26_0 v26_1 hm26 H locs ls hP hD hS hl
        have rg_dd := i_rng dd
        refine lv_iload_n hx hb dX10_forget_26 rfl (lv_at hl 0 rfl) ?_
        refine lv_aload_n hx hb dX10_forget_27 rfl (lv_at hl 1 rfl) ?_
        refine va_get (D := (dC, dI)) (ci := 10) (v := .ref (ad 1)) (C := RX10) (T := TX10) (N := 48) hx hb hts fin_X10_forgetm_X10 hown hK hP 0 rfl rfl 0 (by decide) (hts (.fieldLink RX10 8 "PatternGateModel" "all" "[I") (List.mem_of_getElem? (i := 8) (by decide +kernel))) (fun _ h9 => h9) rfl dX10_forget_28 ?_
        refine lv_sipush (v := 611) hx hb dX10_forget_31 (by decide) ?_
        refine va_iald hx hb hK hP 1 0 rfl rfl (i := 611) (by unfold vp_in; decide +kernel) dX10_forget_34 ?_
        refine lv_topi (fun y_8 ey_8 => ?_)
        have rg_y_8 := i_rng y_8
        have vy_8 := vI_lda (f := ga) (i := 611) (a := 611) ey_8 (by first | omega | decide)
        have rg_y_8 := i_rng y_8
        have hy7 : y_8.toInt = vI f0 611 := by rw [vy_8, v26_1 611 (by omega), if_neg (by omega), if_neg (by omega)]; exact hs0
        refine lv_icmp_ge (tgt := 115) hx hb dX10_forget_35 (by decide) (fun k_9 => ?_) (fun k_9 => ?_)
        · have tk_9 := c_ge (a := dd.toInt) (b := y_8.toInt) rfl rfl k_9
          refine lv_aload_n hx hb dX10_forget_115 rfl (lv_at hl 1 rfl) ?_
          refine va_get (D := (dC, dI)) (ci := 10) (v := .ref (ad 1)) (C := RX10) (T := TX10) (N := 48) hx hb hts fin_X10_forgetm_X10 hown hK hP 0 rfl rfl 0 (by decide) (hts (.fieldLink RX10 8 "PatternGateModel" "all" "[I") (List.mem_of_getElem? (i := 8) (by decide +kernel))) (fun _ h9 => h9) rfl dX10_forget_116 ?_
          refine lv_sipush (v := 611) hx hb dX10_forget_119 (by decide) ?_
          refine lv_dup2_11 hx hb dX10_forget_122 rfl rfl ?_
          refine va_iald hx hb hK hP 1 0 rfl rfl (i := 611) (by unfold vp_in; decide +kernel) dX10_forget_123 ?_
          refine lv_topi (fun y_10 ey_10 => ?_)
          have rg_y_10 := i_rng y_10
          have vy_10 := vI_lda (f := ga) (i := 611) (a := 611) ey_10 (by first | omega | decide)
          have rg_y_10 := i_rng y_10
          have hy6 : y_10.toInt = vI f0 611 := by rw [vy_10, v26_1 611 (by omega), if_neg (by omega), if_neg (by omega)]; exact hs0
          refine lv_iconst (v := 1) hx hb dX10_forget_124 (by decide) ?_
          refine lv_isub hx hb dX10_forget_125 ?_
          refine lv_topi (fun y_11 ey_11 => ?_)
          first | have ty_11 := i_sub (a := y_10.toInt) (b := 1) rfl (by decide) ey_11 (by omega) (by omega) | skip
          refine va_iast hx hb hK hP hD hS 1 0 rfl rfl (i := 611) (by unfold vp_in; decide +kernel) dX10_forget_126 (fun H locs hP hD hS => ?_)
          generalize hf_f_12 : upd ga _ _ = f_12 at hP hD
          have uf_12 := vI_up (a := 611) (b := y_11.toInt) hf_f_12 (by first | omega | decide) (by omega) rfl
          have hP : va_P (dC, dI) vwCl (mW ad kc x0 x1 x2 x3 x4 x5 x6 x7 x8 x9 x10 x11 x12 x13 x14 x15 x16 x17 x18 x19 x20 x21 f_12 f1 f2 f3 f4 f5 f6 f7 f8 f9 f10 f11 f12 f13 f14 f15 f16 f17 f18 f19 f20 f21 fL fN fP fM fO) H := hP
          have hD : va_D A (mW ad kc x0 x1 x2 x3 x4 x5 x6 x7 x8 x9 x10 x11 x12 x13 x14 x15 x16 x17 x18 x19 x20 x21 f_12 f1 f2 f3 f4 f5 f6 f7 f8 f9 f10 f11 f12 f13 f14 f15 f16 f17 f18 f19 f20 f21 fL fN fP fM fO) := hD
          have hd6 := OKd.forget (c := i1.toInt) (n := vI f0 611) hd9 hs0 (by omega) (by omega) (by have h9 := v26_1; rw [show dd.toInt = vI f0 611 by omega] at h9; exact h9) (by have h9 := uf_12; rw [show y_11.toInt = vI f0 611 - 1 by omega] at h9; exact h9)
          have hm6 := hm9.far (fun z hz => by rw [uf_12.2 z (by omega) (by omega), v26_1 z (by omega), if_neg (by omega), if_neg (by omega)])
          refine lv_aload_n hx hb dX10_forget_127 rfl (lv_at hl 1 rfl) ?_
          refine lv_aload_n hx hb dX10_forget_128 rfl (lv_at hl 1 rfl) ?_
          refine va_get (D := (dC, dI)) (ci := 10) (v := .ref (ad 1)) (C := RX10) (T := TX10) (N := 48) hx hb hts fin_X10_forgetm_X10 hown hK hP 0 rfl rfl 0 (by decide) (hts (.fieldLink RX10 8 "PatternGateModel" "all" "[I") (List.mem_of_getElem? (i := 8) (by decide +kernel))) (fun _ h9 => h9) rfl dX10_forget_129 ?_
          refine lv_sipush (v := 611) hx hb dX10_forget_132 (by decide) ?_
          refine va_iald hx hb hK hP 1 0 rfl rfl (i := 611) (by unfold vp_in; decide +kernel) dX10_forget_135 ?_
          refine lv_topi (fun y_13 ey_13 => ?_)
          have rg_y_13 := i_rng y_13
          have vy_13 := vI_lda (f := f_12) (i := 611) (a := 611) ey_13 (by first | omega | decide)
          have rg_y_13 := i_rng y_13
          have hFc := m_free hD hS hA
          refine va_calli (va_runV (As := [.int y_13]) (rest := []) ⟨hx, hb, hml, hown, hts⟩ (m_actedV l dC dI ad kc x0 x1 x2 x3 x4 x5 x6 x7 x8 x9 x10 x11 x12 x13 x14 x15 x16 x17 x18 x19 x20 x21 f_12 f1 f2 f3 f4 f5 f6 f7 f8 f9 f10 f11 f12 f13 f14 f15 f16 f17 f18 f19 f20 f21 fL fN fP fM fO H.size y_13 (by first | omega | assumption | decide | (have l0 := Int32.toInt_zero; omega)) (by first | omega | assumption | decide | (have l0 := Int32.toInt_zero; omega)) hd6 hm6) (cwV 1 hts mg_X10_forgetm_X10_acted__476 rfl rfl rfl (by decide +kernel) ⟨Nat.le_of_ble_eq_true rfl, Nat.le_of_ble_eq_true rfl⟩) ⟨fun a U g mk q => by obtain ⟨q0, q1, qP, qK, qD⟩ := q; exact ⟨q0, q1, qP, va_K.moved (u := U) (U := U.calling g mk a) (Vm.Alike.refl U.vm) qK, qD⟩, va_recv hK hP (ci := 10) (q0 := 0) rfl rfl, fun U hU hW => ⟨rfl, by rw [hU], by rw [hU]; exact hP, va_K.moved hW.alike hK, hD.weaken (fun _ _ _ _ => trivial)⟩⟩ rfl rfl hl.1 rfl (lv_room (Nat.le_of_ble_eq_true rfl)) dX10_forget_136 ⟨Nat.le_of_ble_eq_true rfl, Nat.le_of_ble_eq_true rfl⟩) hS (fun q _ h => hFc q h) hFc (fun r_14 u t H1 locs ht hvm hw hB hz1 hk1 hS => ?_)
          subst hw
          obtain ⟨x_15, x_16, f_17, hr_14_0, hr_14_1, hr_14_2, hP, hK1, hD1⟩ := hB
          rw [ht] at hP
          have hD := hD1.weaken (fun k q _ h => hFc q.1 h)
          clear hz1 hk1 hFc hD1 hK1 hvm
          generalize H1 = H at hP hS ⊢
          have rg_x_15 := i_rng x_15
          have rg_x_16 := i_rng x_16
          have rg_r_14 := i_rng r_14
          have hP : va_P (dC, dI) vwCl (mW ad kc x_15 x_16 x2 x3 x4 x5 x6 x7 x8 x9 x10 x11 x12 x13 x14 x15 x16 x17 x18 x19 x20 x21 f_17 f1 f2 f3 f4 f5 f6 f7 f8 f9 f10 f11 f12 f13 f14 f15 f16 f17 f18 f19 f20 f21 fL fN fP fM fO) H := hP
          have hD : va_D A (mW ad kc x_15 x_16 x2 x3 x4 x5 x6 x7 x8 x9 x10 x11 x12 x13 x14 x15 x16 x17 x18 x19 x20 x21 f_17 f1 f2 f3 f4 f5 f6 f7 f8 f9 f10 f11 f12 f13 f14 f15 f16 f17 f18 f19 f20 f21 fL fN fP fM fO) := hD
          exact W.iret hx hb hr (fun t ht hW => ⟨⟨_, _, rfl, rfl, x_15, x_16, f_17, (mC.mI hr_14_1 hr_14_0 (by have h9 := hr_14_2; omega) hq2 hq3 hpi), by rw [ht]; exact hP, va_K.moved hW.alike hK, hD⟩, hS.F ht⟩) hS.2.2 dX10_forget_139
        · have tk_9 := c_nge (a := dd.toInt) (b := y_8.toInt) rfl rfl k_9
          refine lv_aload_n hx hb dX10_forget_38 rfl (lv_at hl 1 rfl) ?_
          refine va_get (D := (dC, dI)) (ci := 10) (v := .ref (ad 1)) (C := RX10) (T := TX10) (N := 48) hx hb hts fin_X10_forgetm_X10 hown hK hP 0 rfl rfl 0 (by decide) (hts (.fieldLink RX10 8 "PatternGateModel" "all" "[I") (List.mem_of_getElem? (i := 8) (by decide +kernel))) (fun _ h9 => h9) rfl dX10_forget_39 ?_
          refine lv_sipush (v := 612) hx hb dX10_forget_42 (by decide) ?_
          refine lv_iload_n hx hb dX10_forget_45 rfl (lv_at hl 0 rfl) ?_
          refine lv_iadd hx hb dX10_forget_46 ?_
          refine lv_topi (fun y_18 ey_18 => ?_)
          first | have ty_18 := i_add (a := 612) (b := dd.toInt) (by decide) rfl ey_18 (by omega) (by omega) | skip
          refine lv_iconst (v := 1) hx hb dX10_forget_47 (by decide) ?_
          refine lv_isub hx hb dX10_forget_48 ?_
          refine lv_topi (fun y_19 ey_19 => ?_)
          first | have ty_19 := i_sub (a := y_18.toInt) (b := 1) rfl (by decide) ey_19 (by omega) (by omega) | skip
          refine lv_aload_n hx hb dX10_forget_49 rfl (lv_at hl 1 rfl) ?_
          refine va_get (D := (dC, dI)) (ci := 10) (v := .ref (ad 1)) (C := RX10) (T := TX10) (N := 48) hx hb hts fin_X10_forgetm_X10 hown hK hP 0 rfl rfl 0 (by decide) (hts (.fieldLink RX10 8 "PatternGateModel" "all" "[I") (List.mem_of_getElem? (i := 8) (by decide +kernel))) (fun _ h9 => h9) rfl dX10_forget_50 ?_
          refine lv_sipush (v := 612) hx hb dX10_forget_53 (by decide) ?_
          refine lv_iload_n hx hb dX10_forget_56 rfl (lv_at hl 0 rfl) ?_
          refine lv_iadd hx hb dX10_forget_57 ?_
          refine lv_topi (fun y_20 ey_20 => ?_)
          first | have ty_20 := i_add (a := 612) (b := dd.toInt) (by decide) rfl ey_20 (by omega) (by omega) | skip
          refine va_iald hx hb hK hP 1 0 rfl rfl (i := y_20) (vp_of (a := y_20.toInt) rfl (by omega) (by omega)) dX10_forget_58 ?_
          refine lv_topi (fun y_21 ey_21 => ?_)
          have rg_y_21 := i_rng y_21
          have vy_21 := vI_lda (f := ga) (i := y_20) (a := (612 + dd.toInt)) ey_21 (by first | omega | decide)
          have rg_y_21 := i_rng y_21
          have hsz7 : y_21.toInt = vI f_6 (613 + (dd.toInt - 1)) := by rw [vy_21, v26_1 _ (by omega), if_neg (by omega), if_neg (by omega)]; congr 1; omega
          refine va_iast hx hb hK hP hD hS 1 0 rfl rfl (i := y_19) (vp_of (a := y_19.toInt) rfl (by omega) (by omega)) dX10_forget_59 (fun H locs hP hD hS => ?_)
          generalize hf_f_22 : upd ga _ _ = f_22 at hP hD
          have uf_22 := vI_up (a := ((612 + dd.toInt) - 1)) (b := y_21.toInt) hf_f_22 (by first | omega | decide) (by omega) rfl
          have hP : va_P (dC, dI) vwCl (mW ad kc x0 x1 x2 x3 x4 x5 x6 x7 x8 x9 x10 x11 x12 x13 x14 x15 x16 x17 x18 x19 x20 x21 f_22 f1 f2 f3 f4 f5 f6 f7 f8 f9 f10 f11 f12 f13 f14 f15 f16 f17 f18 f19 f20 f21 fL fN fP fM fO) H := hP
          have hD : va_D A (mW ad kc x0 x1 x2 x3 x4 x5 x6 x7 x8 x9 x10 x11 x12 x13 x14 x15 x16 x17 x18 x19 x20 x21 f_22 f1 f2 f3 f4 f5 f6 f7 f8 f9 f10 f11 f12 f13 f14 f15 f16 f17 f18 f19 f20 f21 fL fN fP fM fO) := hD
          have hDs : FR f_6 f_22 i1.toInt dd.toInt (620 + 900 * (dd.toInt - 1) + (0 : Int32).toInt) := by
            have h9 := v26_1.s (v := y_21.toInt) (by have h8 := uf_22; rw [show (612 + dd.toInt - 1 : Int) = 612 + (dd.toInt - 1) by omega] at h8; exact h8) hsz7 (by omega) (by omega)
            rw [show dd.toInt - 1 + 1 = dd.toInt by omega] at h9
            rw [show (0 : Int32).toInt = 0 by decide, show 620 + 900 * (dd.toInt - 1) + 0 = 620 + 900 * (dd.toInt - 1) by omega]
            exact h9
          refine lv_iconst (v := 0) hx hb dX10_forget_60 (by decide) ?_
          refine lv_istore_n (lv' := [(3, .int 0), (2, .int dd), (0, .ref (ad 0)), (1, .int i1)]) hx hb dX10_forget_61 rfl hl (by decide) rfl (fun ls hl => ?_)
          have loop62 : ∀ (lm62 : Nat) (kk : Int32) (gb : Nat → Int32), (0 ≤ kk.toInt ∧ kk.toInt ≤ 900) → (FR f_6 gb i1.toInt dd.toInt (620 + 900 * (dd.toInt - 1) + kk.toInt)) → ((900 - kk.toInt).toNat) < lm62 → ∀ (H : Heap) (locs : List Loc) (ls : Array Slot), va_P (dC, dI) vwCl (mW ad kc x0 x1 x2 x3 x4 x5 x6 x7 x8 x9 x10 x11 x12 x13 x14 x15 x16 x17 x18 x19 x20 x21 gb f1 f2 f3 f4 f5 f6 f7 f8 f9 f10 f11 f12 f13 f14 f15 f16 f17 f18 f19 f20 f21 fL fN fP fM fO) H → va_D A (mW ad kc x0 x1 x2 x3 x4 x5 x6 x7 x8 x9 x10 x11 x12 x13 x14 x15 x16 x17 x18 x19 x20 x21 gb f1 f2 f3 f4 f5 f6 f7 f8 f9 f10 f11 f12 f13 f14 f15 f16 f17 f18 f19 f20 f21 fL fN fP fM fO) → va_S A s.heap H locs → lv_has ls 4 [(3, .int kk), (2, .int dd), (0, .ref (ad 0)), (1, .int i1)] → W p l e (headSpec mwX10_forgetm ({ frames := 3, cells := 0, slots := 0, locals := 180 })).room s m ([.ref (ad 0), .int i1]).toArray below meth c H locs 0 0 (MQ below (va_Qi (fun (o9 u9 : Int32) => o9 = u9) (fun (o9 : Int32) t => ∃ (y0 y1 : Int32) (g0 : Nat → Int32), (mI y1.toInt x2.toInt x3.toInt g0 fP) ∧ va_P (dC, dI) vwCl (mW ad kc y0 y1 x2 x3 x4 x5 x6 x7 x8 x9 x10 x11 x12 x13 x14 x15 x16 x17 x18 x19 x20 x21 g0 f1 f2 f3 f4 f5 f6 f7 f8 f9 f10 f11 f12 f13 f14 f15 f16 f17 f18 f19 f20 f21 fL fN fP fM fO) t.heap ∧ va_K (dC, dI) vwCl (mT kc) t ∧ va_D A (mW ad kc y0 y1 x2 x3 x4 x5 x6 x7 x8 x9 x10 x11 x12 x13 x14 x15 x16 x17 x18 x19 x20 x21 g0 f1 f2 f3 f4 f5 f6 f7 f8 f9 f10 f11 f12 f13 f14 f15 f16 f17 f18 f19 f20 f21 fL fN fP fM fO)) A) ([.ref (ad 0), .int i1]).toArray s 0 0 A) (F0 m 62 ls []) := by
            intro lm62
            induction lm62 with
            | zero => intro kk gb v62_0 v62_1 hm62; exact absurd hm62 (Nat.not_lt_zero _)
            | succ lm62 ih62 =>
              intro kk gb v62_0 v62_1 hm62 H locs ls hP hD hS hl
              have rg_kk := i_rng kk
              refine lv_iload_n hx hb dX10_forget_62 rfl (lv_at hl 0 rfl) ?_
              refine lv_sipush (v := 900) hx hb dX10_forget_63 (by decide) ?_
              refine lv_icmp_ge (tgt := 109) hx hb dX10_forget_66 (by decide) (fun k_23 => ?_) (fun k_23 => ?_)
              · have tk_23 := c_ge (a := kk.toInt) (b := 900) rfl (by decide) k_23
                obtain ⟨y_24, ey_24⟩ : ∃ y : Int32, y = dd + 1 := ⟨_, rfl⟩
                first | have ty_24 := i_add (a := dd.toInt) (b := 1) rfl (by decide) ey_24 (by omega) (by omega) | skip
                refine lv_iinc (v := y_24) (lv' := [(2, .int y_24), (3, .int kk), (0, .ref (ad 0)), (1, .int i1)]) hx hb dX10_forget_109 hl (k := 1) rfl (by rw [ey_24]; rfl) (by decide) rfl (fun ls hl => ?_)
                refine lv_goto (tgt := 26) hx hb dX10_forget_112 (by decide) ?_
                exact ih26 y_24 gb (by first | omega | assumption | decide) (by rw [show y_24.toInt - 1 = dd.toInt by omega, show 620 + 900 * dd.toInt = 620 + 900 * (dd.toInt - 1) + kk.toInt by omega]; exact v62_1) (by omega) _ _ ls hP hD hS (lv_sub hl [0, 2, 3] rfl)
              · have tk_23 := c_nge (a := kk.toInt) (b := 900) rfl (by decide) k_23
                refine lv_aload_n hx hb dX10_forget_69 rfl (lv_at hl 2 rfl) ?_
                refine va_get (D := (dC, dI)) (ci := 10) (v := .ref (ad 1)) (C := RX10) (T := TX10) (N := 48) hx hb hts fin_X10_forgetm_X10 hown hK hP 0 rfl rfl 0 (by decide) (hts (.fieldLink RX10 8 "PatternGateModel" "all" "[I") (List.mem_of_getElem? (i := 8) (by decide +kernel))) (fun _ h9 => h9) rfl dX10_forget_70 ?_
                refine lv_sipush (v := 620) hx hb dX10_forget_73 (by decide) ?_
                refine lv_sipush (v := 900) hx hb dX10_forget_76 (by decide) ?_
                refine lv_iload_n hx hb dX10_forget_79 rfl (lv_at hl 1 rfl) ?_
                refine lv_iconst (v := 1) hx hb dX10_forget_80 (by decide) ?_
                refine lv_isub hx hb dX10_forget_81 ?_
                refine lv_topi (fun y_25 ey_25 => ?_)
                first | have ty_25 := i_sub (a := dd.toInt) (b := 1) rfl (by decide) ey_25 (by omega) (by omega) | skip
                refine lv_imul hx hb dX10_forget_82 ?_
                refine lv_topi (fun y_26 ey_26 => ?_)
                first | have ty_26 := i_mul (a := 900) (b := y_25.toInt) (by decide) rfl ey_26 (by omega) (by omega) | skip
                refine lv_iadd hx hb dX10_forget_83 ?_
                refine lv_topi (fun y_27 ey_27 => ?_)
                first | have ty_27 := i_add (a := 620) (b := y_26.toInt) (by decide) rfl ey_27 (by omega) (by omega) | skip
                refine lv_iload_n hx hb dX10_forget_84 rfl (lv_at hl 0 rfl) ?_
                refine lv_iadd hx hb dX10_forget_85 ?_
                refine lv_topi (fun y_28 ey_28 => ?_)
                first | have ty_28 := i_add (a := y_27.toInt) (b := kk.toInt) rfl rfl ey_28 (by omega) (by omega) | skip
                refine lv_aload_n hx hb dX10_forget_86 rfl (lv_at hl 2 rfl) ?_
                refine va_get (D := (dC, dI)) (ci := 10) (v := .ref (ad 1)) (C := RX10) (T := TX10) (N := 48) hx hb hts fin_X10_forgetm_X10 hown hK hP 0 rfl rfl 0 (by decide) (hts (.fieldLink RX10 8 "PatternGateModel" "all" "[I") (List.mem_of_getElem? (i := 8) (by decide +kernel))) (fun _ h9 => h9) rfl dX10_forget_87 ?_
                refine lv_sipush (v := 620) hx hb dX10_forget_90 (by decide) ?_
                refine lv_sipush (v := 900) hx hb dX10_forget_93 (by decide) ?_
                refine lv_iload_n hx hb dX10_forget_96 rfl (lv_at hl 1 rfl) ?_
                refine lv_imul hx hb dX10_forget_97 ?_
                refine lv_topi (fun y_29 ey_29 => ?_)
                first | have ty_29 := i_mul (a := 900) (b := dd.toInt) (by decide) rfl ey_29 (by omega) (by omega) | skip
                refine lv_iadd hx hb dX10_forget_98 ?_
                refine lv_topi (fun y_30 ey_30 => ?_)
                first | have ty_30 := i_add (a := 620) (b := y_29.toInt) (by decide) rfl ey_30 (by omega) (by omega) | skip
                refine lv_iload_n hx hb dX10_forget_99 rfl (lv_at hl 0 rfl) ?_
                refine lv_iadd hx hb dX10_forget_100 ?_
                refine lv_topi (fun y_31 ey_31 => ?_)
                first | have ty_31 := i_add (a := y_30.toInt) (b := kk.toInt) rfl rfl ey_31 (by omega) (by omega) | skip
                refine va_iald hx hb hK hP 1 0 rfl rfl (i := y_31) (vp_of (a := y_31.toInt) rfl (by omega) (by omega)) dX10_forget_101 ?_
                refine lv_topi (fun y_32 ey_32 => ?_)
                have rg_y_32 := i_rng y_32
                have vy_32 := vI_lda (f := gb) (i := y_31) (a := ((620 + (900 * dd.toInt)) + kk.toInt)) ey_32 (by first | omega | decide)
                have rg_y_32 := i_rng y_32
                have hat9 : y_32.toInt = vI f_6 (620 + 900 * dd.toInt + kk.toInt) := by rw [vy_32, v62_1 _ (by omega), if_neg (by omega), if_neg (by omega)]
                refine va_iast hx hb hK hP hD hS 1 0 rfl rfl (i := y_28) (vp_of (a := y_28.toInt) rfl (by omega) (by omega)) dX10_forget_102 (fun H locs hP hD hS => ?_)
                generalize hf_f_33 : upd gb _ _ = f_33 at hP hD
                have uf_33 := vI_up (a := ((620 + (900 * (dd.toInt - 1))) + kk.toInt)) (b := y_32.toInt) hf_f_33 (by first | omega | decide) (by omega) rfl
                have hP : va_P (dC, dI) vwCl (mW ad kc x0 x1 x2 x3 x4 x5 x6 x7 x8 x9 x10 x11 x12 x13 x14 x15 x16 x17 x18 x19 x20 x21 f_33 f1 f2 f3 f4 f5 f6 f7 f8 f9 f10 f11 f12 f13 f14 f15 f16 f17 f18 f19 f20 f21 fL fN fP fM fO) H := hP
                have hD : va_D A (mW ad kc x0 x1 x2 x3 x4 x5 x6 x7 x8 x9 x10 x11 x12 x13 x14 x15 x16 x17 x18 x19 x20 x21 f_33 f1 f2 f3 f4 f5 f6 f7 f8 f9 f10 f11 f12 f13 f14 f15 f16 f17 f18 f19 f20 f21 fL fN fP fM fO) := hD
                obtain ⟨y_34, ey_34⟩ : ∃ y : Int32, y = kk + 1 := ⟨_, rfl⟩
                first | have ty_34 := i_add (a := kk.toInt) (b := 1) rfl (by decide) ey_34 (by omega) (by omega) | skip
                refine lv_iinc (v := y_34) (lv' := [(3, .int y_34), (2, .int dd), (0, .ref (ad 0)), (1, .int i1)]) hx hb dX10_forget_103 hl (k := 0) rfl (by rw [ey_34]; rfl) (by decide) rfl (fun ls hl => ?_)
                refine lv_goto (tgt := 62) hx hb dX10_forget_106 (by decide) ?_
                exact ih62 y_34 f_33 (by first | omega | assumption | decide) (by rw [show 620 + 900 * (dd.toInt - 1) + y_34.toInt = 620 + 900 * (dd.toInt - 1) + kk.toInt + 1 by omega]; exact v62_1.l uf_33 (by rw [hat9]; congr 1; omega) (by omega) (by omega) (by omega)) (by omega) _ _ ls hP hD hS (lv_sub hl [0, 1, 2, 3] rfl)
          have lit_34 : (0 : Int32).toInt = 0 := by decide
          exact loop62 _ 0 f_22 (by first | omega | assumption | decide) hDs (Nat.lt_succ_self _) _ _ ls hP hD hS (lv_sub hl [0, 1, 2, 3] rfl)
    exact loop26 _ y_7 f_6 (by first | omega | assumption | decide) (by rw [show y_7.toInt - 1 = i1.toInt by omega]; exact FR.rf) (Nat.lt_succ_self _) _ _ ls hP hD hS (lv_sub hl [0, 1, 2] rfl)
  · have tk_2 := c_eq (a := r_1.toInt) (b := 0) rfl (by decide) k_2
    refine lv_aload_n hx hb dX10_forget_8 rfl (lv_at hl 0 rfl) ?_
    refine lv_iconst (v := 2) hx hb dX10_forget_9 (by decide) ?_
    have lit_35 : (2 : Int32).toInt = 2 := by decide
    have hFc := m_free hD hS hA
    refine va_calli (va_runV (As := [.int 2]) (rest := []) ⟨hx, hb, hml, hown, hts⟩ (m_refuse l dC dI ad kc x0 x1 x2 x3 x4 x5 x6 x7 x8 x9 x10 x11 x12 x13 x14 x15 x16 x17 x18 x19 x20 x21 f0 f1 f2 f3 f4 f5 f6 f7 f8 f9 f10 f11 f12 f13 f14 f15 f16 f17 f18 f19 f20 f21 fL fN fP fM fO H.size 2 ) (cwV 1 hts mg_X10_forgetm_X10_refuse_204 rfl rfl rfl (by decide +kernel) ⟨Nat.le_of_ble_eq_true rfl, Nat.le_of_ble_eq_true rfl⟩) ⟨fun a U g mk q => by obtain ⟨q0, q1, qP, qK, qD⟩ := q; exact ⟨q0, q1, qP, va_K.moved (u := U) (U := U.calling g mk a) (Vm.Alike.refl U.vm) qK, qD⟩, va_recv hK hP (ci := 10) (q0 := 0) rfl rfl, fun U hU hW => ⟨rfl, by rw [hU], by rw [hU]; exact hP, va_K.moved hW.alike hK, hD.weaken (fun _ _ _ _ => trivial)⟩⟩ rfl rfl hl.1 rfl (lv_room (Nat.le_of_ble_eq_true rfl)) dX10_forget_10 ⟨Nat.le_of_ble_eq_true rfl, Nat.le_of_ble_eq_true rfl⟩) hS (fun q _ h => hFc q h) hFc (fun r_37 u t H1 locs ht hvm hw hB hz1 hk1 hS => ?_)
    subst hw
    obtain ⟨hr_37_0, hP, hK1, hD1⟩ := hB
    rw [ht] at hP
    have hD := hD1.weaken (fun k q _ h => hFc q.1 h)
    clear hz1 hk1 hFc hD1 hK1 hvm
    generalize H1 = H at hP hS ⊢
    have rg_r_37 := i_rng r_37
    have hP : va_P (dC, dI) vwCl (mW ad kc 2 x1 x2 x3 x4 x5 x6 x7 x8 x9 x10 x11 x12 x13 x14 x15 x16 x17 x18 x19 x20 x21 f0 f1 f2 f3 f4 f5 f6 f7 f8 f9 f10 f11 f12 f13 f14 f15 f16 f17 f18 f19 f20 f21 fL fN fP fM fO) H := hP
    have hD : va_D A (mW ad kc 2 x1 x2 x3 x4 x5 x6 x7 x8 x9 x10 x11 x12 x13 x14 x15 x16 x17 x18 x19 x20 x21 f0 f1 f2 f3 f4 f5 f6 f7 f8 f9 f10 f11 f12 f13 f14 f15 f16 f17 f18 f19 f20 f21 fL fN fP fM fO) := hD
    have lit_37 : (2 : Int32).toInt = 2 := by decide
    exact W.iret hx hb hr (fun t ht hW => ⟨⟨_, _, rfl, rfl, 2, x1, f0, q0, by rw [ht]; exact hP, va_K.moved hW.alike hK, hD⟩, hS.F ht⟩) hS.2.2 dX10_forget_13
theorem dX10_undo_0 : decode cX10_undo 0 = .ok (.aload_n 0, 1) := by decide +kernel
theorem dX10_undo_1 : decode cX10_undo 1 = .ok (.getfield 439, 3) := by decide +kernel
theorem dX10_undo_4 : decode cX10_undo 4 = .ok (.ifCond .ne 9, 3) := by decide +kernel
theorem dX10_undo_7 : decode cX10_undo 7 = .ok (.aload_n 0, 1) := by decide +kernel
theorem dX10_undo_8 : decode cX10_undo 8 = .ok (.iconst 5, 1) := by decide +kernel
theorem dX10_undo_9 : decode cX10_undo 9 = .ok (.invokevirtual 204, 3) := by decide +kernel
theorem dX10_undo_12 : decode cX10_undo 12 = .ok (.ireturn, 1) := by decide +kernel
theorem dX10_undo_13 : decode cX10_undo 13 = .ok (.aload_n 0, 1) := by decide +kernel
theorem dX10_undo_14 : decode cX10_undo 14 = .ok (.dup, 1) := by decide +kernel
theorem dX10_undo_15 : decode cX10_undo 15 = .ok (.getfield 439, 3) := by decide +kernel
theorem dX10_undo_18 : decode cX10_undo 18 = .ok (.iconst 1, 1) := by decide +kernel
theorem dX10_undo_19 : decode cX10_undo 19 = .ok (.isub, 1) := by decide +kernel
theorem dX10_undo_20 : decode cX10_undo 20 = .ok (.putfield 439, 3) := by decide +kernel
theorem dX10_undo_23 : decode cX10_undo 23 = .ok (.aload_n 0, 1) := by decide +kernel
theorem dX10_undo_24 : decode cX10_undo 24 = .ok (.sipush 15640, 3) := by decide +kernel
theorem dX10_undo_27 : decode cX10_undo 27 = .ok (.sipush 7820, 3) := by decide +kernel
theorem dX10_undo_30 : decode cX10_undo 30 = .ok (.aload_n 0, 1) := by decide +kernel
theorem dX10_undo_31 : decode cX10_undo 31 = .ok (.getfield 439, 3) := by decide +kernel
theorem dX10_undo_34 : decode cX10_undo 34 = .ok (.imul, 1) := by decide +kernel
theorem dX10_undo_35 : decode cX10_undo 35 = .ok (.iadd, 1) := by decide +kernel
theorem dX10_undo_36 : decode cX10_undo 36 = .ok (.iconst 0, 1) := by decide +kernel
theorem dX10_undo_37 : decode cX10_undo 37 = .ok (.invokevirtual 193, 3) := by decide +kernel
theorem dX10_undo_40 : decode cX10_undo 40 = .ok (.aload_n 0, 1) := by decide +kernel
theorem dX10_undo_41 : decode cX10_undo 41 = .ok (.aload_n 0, 1) := by decide +kernel
theorem dX10_undo_42 : decode cX10_undo 42 = .ok (.getfield 439, 3) := by decide +kernel
theorem dX10_undo_45 : decode cX10_undo 45 = .ok (.invokevirtual 214, 3) := by decide +kernel
theorem dX10_undo_48 : decode cX10_undo 48 = .ok (.ireturn, 1) := by decide +kernel
def mwX10_undom : List Cond := .code yX10_undo cX10_undo 1 (some .int) :: (([.fieldLink RX10 439 "PatternGateModel" "acts" "I", .methodLink RX10 193 yX10_copies, .instanceMethod yX10_copies, .selects RX10 yX10_copies yX10_copies, .initialized RX10, .methodLink RX10 214 yX10_gives, .instanceMethod yX10_gives, .selects RX10 yX10_gives yX10_gives, .methodLink RX10 204 yX10_refuse, .instanceMethod yX10_refuse, .selects RX10 yX10_refuse yX10_refuse] : List Cond) ++ (wsX100 ++ (mwX10_copiesm ++ (mwX10_givesm ++ (mwX10_refusem)))))
theorem fin_X10_undom_X10 : ∀ w ∈ wsX100, w ∈ mwX10_undom := fun w h => List.mem_cons_of_mem _ (List.mem_append_right _ (List.mem_append_left _ h))
set_option maxRecDepth 20000 in
theorem mg_X10_undom_X10_copies_193 : GoodIn mwX10_undom (wsV RX10 193 RX10 yX10_copies mwX10_copiesm) := gi_app (A := [.methodLink RX10 193 yX10_copies, .instanceMethod yX10_copies, .selects RX10 yX10_copies yX10_copies, .initialized RX10]) (goodIn_r _ [2, 3, 4, 5] (by decide +kernel) (by decide +kernel)) (gi_sub gd_mwX10_copiesm (fun w h => List.mem_cons_of_mem _ (List.mem_append_right _ (List.mem_append_right _ (List.mem_append_left _ h)))))
set_option maxRecDepth 20000 in
theorem mg_X10_undom_X10_gives_214 : GoodIn mwX10_undom (wsV RX10 214 RX10 yX10_gives mwX10_givesm) := gi_app (A := [.methodLink RX10 214 yX10_gives, .instanceMethod yX10_gives, .selects RX10 yX10_gives yX10_gives, .initialized RX10]) (goodIn_r _ [6, 7, 8, 5] (by decide +kernel) (by decide +kernel)) (gi_sub gd_mwX10_givesm (fun w h => List.mem_cons_of_mem _ (List.mem_append_right _ (List.mem_append_right _ (List.mem_append_right _ (List.mem_append_left _ h))))))
set_option maxRecDepth 20000 in
theorem mg_X10_undom_X10_refuse_204 : GoodIn mwX10_undom (wsV RX10 204 RX10 yX10_refuse mwX10_refusem) := gi_app (A := [.methodLink RX10 204 yX10_refuse, .instanceMethod yX10_refuse, .selects RX10 yX10_refuse yX10_refuse, .initialized RX10]) (goodIn_r _ [9, 10, 11, 5] (by decide +kernel) (by decide +kernel)) (gi_sub gd_mwX10_refusem (fun w h => List.mem_cons_of_mem _ (List.mem_append_right _ (List.mem_append_right _ (List.mem_append_right _ (List.mem_append_right _ (h)))))))
set_option maxHeartbeats 4000000 in
set_option maxRecDepth 100000 in
theorem m_undo (l : Launch) (dC : Nat → ClassId) (dI : Nat → Nat → Nat) (ad : Nat → Nat) (kc : Nat → ClassId) (x0 x1 x2 x3 x4 x5 x6 x7 x8 x9 x10 x11 x12 x13 x14 x15 x16 x17 x18 x19 x20 x21 : Int32) (f0 f1 f2 f3 f4 f5 f6 f7 f8 f9 f10 f11 f12 f13 f14 f15 f16 f17 f18 f19 f20 f21 : Nat → Int32) (fL : Nat → Nat → Int64) (fN : Nat → Nat → Int32) (fP : Nat → Nat → Nat) (fM : Nat → Nat → Int32) (fO : Nat → Nat → Int32) (sz : Nat) (q0 : mI x1.toInt x2.toInt x3.toInt f0 fP) : Met l yX10_undo mwX10_undom ({ frames := 1, cells := 0, slots := 0, locals := 60 }) (va_Pc [.ref (ad 0)] (fun U => U.heap.size = sz ∧ va_P (dC, dI) vwCl (mW ad kc x0 x1 x2 x3 x4 x5 x6 x7 x8 x9 x10 x11 x12 x13 x14 x15 x16 x17 x18 x19 x20 x21 f0 f1 f2 f3 f4 f5 f6 f7 f8 f9 f10 f11 f12 f13 f14 f15 f16 f17 f18 f19 f20 f21 fL fN fP fM fO) U.heap ∧ va_K (dC, dI) vwCl (mT kc) U ∧ va_D (fun _ => True) (mW ad kc x0 x1 x2 x3 x4 x5 x6 x7 x8 x9 x10 x11 x12 x13 x14 x15 x16 x17 x18 x19 x20 x21 f0 f1 f2 f3 f4 f5 f6 f7 f8 f9 f10 f11 f12 f13 f14 f15 f16 f17 f18 f19 f20 f21 fL fN fP fM fO))) (va_Qi (fun (o9 u9 : Int32) => o9 = u9) (fun (o9 : Int32) t => ∃ (y0 y1 : Int32) (g0 : Nat → Int32), (mI y1.toInt x2.toInt x3.toInt g0 fP) ∧ va_P (dC, dI) vwCl (mW ad kc y0 y1 x2 x3 x4 x5 x6 x7 x8 x9 x10 x11 x12 x13 x14 x15 x16 x17 x18 x19 x20 x21 g0 f1 f2 f3 f4 f5 f6 f7 f8 f9 f10 f11 f12 f13 f14 f15 f16 f17 f18 f19 f20 f21 fL fN fP fM fO) t.heap ∧ va_K (dC, dI) vwCl (mT kc) t ∧ va_D (va_A (mW ad kc x0 x1 x2 x3 x4 x5 x6 x7 x8 x9 x10 x11 x12 x13 x14 x15 x16 x17 x18 x19 x20 x21 f0 f1 f2 f3 f4 f5 f6 f7 f8 f9 f10 f11 f12 f13 f14 f15 f16 f17 f18 f19 f20 f21 fL fN fP fM fO) sz) (mW ad kc y0 y1 x2 x3 x4 x5 x6 x7 x8 x9 x10 x11 x12 x13 x14 x15 x16 x17 x18 x19 x20 x21 g0 f1 f2 f3 f4 f5 f6 f7 f8 f9 f10 f11 f12 f13 f14 f15 f16 f17 f18 f19 f20 f21 fL fN fP fM fO)) (va_A (mW ad kc x0 x1 x2 x3 x4 x5 x6 x7 x8 x9 x10 x11 x12 x13 x14 x15 x16 x17 x18 x19 x20 x21 f0 f1 f2 f3 f4 f5 f6 f7 f8 f9 f10 f11 f12 f13 f14 f15 f16 f17 f18 f19 f20 f21 fL fN fP fM fO) sz)) 0 0 (va_A (mW ad kc x0 x1 x2 x3 x4 x5 x6 x7 x8 x9 x10 x11 x12 x13 x14 x15 x16 x17 x18 x19 x20 x21 f0 f1 f2 f3 f4 f5 f6 f7 f8 f9 f10 f11 f12 f13 f14 f15 f16 f17 f18 f19 f20 f21 fL fN fP fM fO) sz) := by
  refine Met.ofW (cc := cX10_undo) (maxL := 1) (ret := (some .int)) (by decide +kernel) rfl ?_
  intro p e s m args below meth c s₁ B hml hv
  obtain ⟨rfl, hsz, hP, hK, hD0⟩ := hv
  have hx := B.exec
  have hb := B.bytes
  have hr := B.returns
  have hts := atoms_spec (ws := mwX10_undom) B.pre
  have hown : s.vm.findClass RX10 = some m.cls := findClass_of_methodNamed B.named
  have hlocks := B.notSynchronized
  subst hsz
  have hD := hD0.self (sz := s.heap.size)
  generalize hAe : va_A (mW ad kc x0 x1 x2 x3 x4 x5 x6 x7 x8 x9 x10 x11 x12 x13 x14 x15 x16 x17 x18 x19 x20 x21 f0 f1 f2 f3 f4 f5 f6 f7 f8 f9 f10 f11 f12 f13 f14 f15 f16 f17 f18 f19 f20 f21 fL fN fP fM fO) s.heap.size = A at hD ⊢
  have hA : ∀ q : Nat, s.heap.size ≤ q → A q := fun q h => by rw [← hAe]; exact Or.inr h
  have hP : va_P (dC, dI) vwCl (mW ad kc x0 x1 x2 x3 x4 x5 x6 x7 x8 x9 x10 x11 x12 x13 x14 x15 x16 x17 x18 x19 x20 x21 f0 f1 f2 f3 f4 f5 f6 f7 f8 f9 f10 f11 f12 f13 f14 f15 f16 f17 f18 f19 f20 f21 fL fN fP fM fO) s.heap := hP
  have hD : va_D A (mW ad kc x0 x1 x2 x3 x4 x5 x6 x7 x8 x9 x10 x11 x12 x13 x14 x15 x16 x17 x18 x19 x20 x21 f0 f1 f2 f3 f4 f5 f6 f7 f8 f9 f10 f11 f12 f13 f14 f15 f16 f17 f18 f19 f20 f21 fL fN fP fM fO) := hD
  have hK : va_K (dC, dI) vwCl (mT kc) s := hK
  generalize hH : s.heap = H at hP ⊢
  have hS : va_S A s.heap H [] := by rw [← hH]; exact va_S.rf
  have hl := lv_entry ([.ref (ad 0)]) (n := 1) (Nat.le_of_ble_eq_true rfl)
  rw [lg_entry_eq]
  generalize (lg_sl ([.ref (ad 0)]) ++ List.replicate (1 - (lg_sl ([.ref (ad 0)])).length) Slot.unset).toArray = ls at hl ⊢
  have hl : lv_has ls 1 [(0, .ref (ad 0))] := hl
  have hd := q0.d
  have hpi := q0.p
  have hq1 := q0.1
  have hq2 := q0.2.1
  have hq3 := q0.2.2.1
  have hd10 := hd.n0
  have hp8 := hd.P0
  refine lv_aload_n hx hb dX10_undo_0 rfl (lv_at hl 0 rfl) ?_
  refine va_get (D := (dC, dI)) (ci := 10) (v := .int x1) (C := RX10) (T := TX10) (N := 48) hx hb hts fin_X10_undom_X10 hown hK hP 0 rfl rfl 2 (by decide) (hts (.fieldLink RX10 439 "PatternGateModel" "acts" "I") (List.mem_of_getElem? (i := 1) (by decide +kernel))) (fun _ h9 => h9) rfl dX10_undo_1 ?_
  refine lv_if_ne (tgt := 13) hx hb dX10_undo_4 (by decide) (fun k_1 => ?_) (fun k_1 => ?_)
  · have tk_1 := c_ne (a := x1.toInt) (b := 0) rfl (by decide) k_1
    refine lv_aload_n hx hb dX10_undo_13 rfl (lv_at hl 0 rfl) ?_
    refine lv_dup hx hb dX10_undo_14 rfl ?_
    refine va_get (D := (dC, dI)) (ci := 10) (v := .int x1) (C := RX10) (T := TX10) (N := 48) hx hb hts fin_X10_undom_X10 hown hK hP 0 rfl rfl 2 (by decide) (hts (.fieldLink RX10 439 "PatternGateModel" "acts" "I") (List.mem_of_getElem? (i := 1) (by decide +kernel))) (fun _ h9 => h9) rfl dX10_undo_15 ?_
    refine lv_iconst (v := 1) hx hb dX10_undo_18 (by decide) ?_
    refine lv_isub hx hb dX10_undo_19 ?_
    refine lv_topi (fun y_2 ey_2 => ?_)
    first | have ty_2 := i_sub (a := x1.toInt) (b := 1) rfl (by decide) ey_2 (by omega) (by omega) | skip
    refine va_put (D := (dC, dI)) (ci := 10) (v := .int y_2) (ty := .int) (C := RX10) (T := TX10) (N := 48) hx hb hts fin_X10_undom_X10 tyX10 tyX10_ok nmX10 hown hK hP hD hS 0 rfl rfl 2 (by decide) (hts (.fieldLink RX10 439 "PatternGateModel" "acts" "I") (List.mem_of_getElem? (i := 1) (by decide +kernel))) (fun _ h9 => h9) rfl (by decide +kernel) rfl rfl (Nat.le_of_ble_eq_true rfl) dX10_undo_20 (fun H locs hP hD hS => ?_)
    have hP : va_P (dC, dI) vwCl (mW ad kc x0 y_2 x2 x3 x4 x5 x6 x7 x8 x9 x10 x11 x12 x13 x14 x15 x16 x17 x18 x19 x20 x21 f0 f1 f2 f3 f4 f5 f6 f7 f8 f9 f10 f11 f12 f13 f14 f15 f16 f17 f18 f19 f20 f21 fL fN fP fM fO) H := hP
    have hD : va_D A (mW ad kc x0 y_2 x2 x3 x4 x5 x6 x7 x8 x9 x10 x11 x12 x13 x14 x15 x16 x17 x18 x19 x20 x21 f0 f1 f2 f3 f4 f5 f6 f7 f8 f9 f10 f11 f12 f13 f14 f15 f16 f17 f18 f19 f20 f21 fL fN fP fM fO) := hD
    refine lv_aload_n hx hb dX10_undo_23 rfl (lv_at hl 0 rfl) ?_
    refine lv_sipush (v := 15640) hx hb dX10_undo_24 (by decide) ?_
    refine lv_sipush (v := 7820) hx hb dX10_undo_27 (by decide) ?_
    refine lv_aload_n hx hb dX10_undo_30 rfl (lv_at hl 0 rfl) ?_
    refine va_get (D := (dC, dI)) (ci := 10) (v := .int y_2) (C := RX10) (T := TX10) (N := 48) hx hb hts fin_X10_undom_X10 hown hK hP 0 rfl rfl 2 (by decide) (hts (.fieldLink RX10 439 "PatternGateModel" "acts" "I") (List.mem_of_getElem? (i := 1) (by decide +kernel))) (fun _ h9 => h9) rfl dX10_undo_31 ?_
    refine lv_imul hx hb dX10_undo_34 ?_
    refine lv_topi (fun y_3 ey_3 => ?_)
    first | have ty_3 := i_mul (a := 7820) (b := y_2.toInt) (by decide) rfl ey_3 (by omega) (by omega) | skip
    refine lv_iadd hx hb dX10_undo_35 ?_
    refine lv_topi (fun y_4 ey_4 => ?_)
    first | have ty_4 := i_add (a := 15640) (b := y_3.toInt) (by decide) rfl ey_4 (by omega) (by omega) | skip
    refine lv_iconst (v := 0) hx hb dX10_undo_36 (by decide) ?_
    have lit_4 : (0 : Int32).toInt = 0 := by decide
    have hFc := m_free hD hS hA
    refine va_callv (va_runV (As := [.int y_4, .int 0]) (rest := []) ⟨hx, hb, hml, hown, hts⟩ (m_copies l dC dI ad kc x0 y_2 x2 x3 x4 x5 x6 x7 x8 x9 x10 x11 x12 x13 x14 x15 x16 x17 x18 x19 x20 x21 f0 f1 f2 f3 f4 f5 f6 f7 f8 f9 f10 f11 f12 f13 f14 f15 f16 f17 f18 f19 f20 f21 fL fN fP fM fO H.size y_4 0 (by first | omega | assumption | decide | (have l0 := Int32.toInt_zero; omega)) (by first | omega | assumption | decide | (have l0 := Int32.toInt_zero; omega)) (by first | omega | assumption | decide | (have l0 := Int32.toInt_zero; omega)) (by first | omega | assumption | decide | (have l0 := Int32.toInt_zero; omega)) (by first | omega | assumption | decide | (have l0 := Int32.toInt_zero; omega))) (cwV 2 hts mg_X10_undom_X10_copies_193 rfl rfl rfl (by decide +kernel) ⟨Nat.le_of_ble_eq_true rfl, Nat.le_of_ble_eq_true rfl⟩) ⟨fun a U g mk q => by obtain ⟨q0, q1, qP, qK, qD⟩ := q; exact ⟨q0, q1, qP, va_K.moved (u := U) (U := U.calling g mk a) (Vm.Alike.refl U.vm) qK, qD⟩, va_recv hK hP (ci := 10) (q0 := 0) rfl rfl, fun U hU hW => ⟨rfl, by rw [hU], by rw [hU]; exact hP, va_K.moved hW.alike hK, hD.weaken (fun _ _ _ _ => trivial)⟩⟩ rfl rfl hl.1 rfl (lv_room (Nat.le_of_ble_eq_true rfl)) dX10_undo_37 ⟨Nat.le_of_ble_eq_true rfl, Nat.le_of_ble_eq_true rfl⟩) hS (fun q _ h => hFc q h) hFc (fun u t H1 locs ht hvm hw hB hz1 hk1 hS => ?_)
    obtain ⟨f_7, hr_6_0, hP, hK1, hD1⟩ := hB
    rw [ht] at hP
    have hD := hD1.weaken (fun k q _ h => hFc q.1 h)
    clear hz1 hk1 hFc hD1 hK1 hvm
    generalize H1 = H at hP hS ⊢
    have hP : va_P (dC, dI) vwCl (mW ad kc x0 y_2 x2 x3 x4 x5 x6 x7 x8 x9 x10 x11 x12 x13 x14 x15 x16 x17 x18 x19 x20 x21 f_7 f1 f2 f3 f4 f5 f6 f7 f8 f9 f10 f11 f12 f13 f14 f15 f16 f17 f18 f19 f20 f21 fL fN fP fM fO) H := hP
    have hD : va_D A (mW ad kc x0 y_2 x2 x3 x4 x5 x6 x7 x8 x9 x10 x11 x12 x13 x14 x15 x16 x17 x18 x19 x20 x21 f_7 f1 f2 f3 f4 f5 f6 f7 f8 f9 f10 f11 f12 f13 f14 f15 f16 f17 f18 f19 f20 f21 fL fN fP fM fO) := hD
    have hc9 : CP f0 f_7 (15640 + 7820 * y_2.toInt) 0 := by have h9 := hr_6_0; rw [show y_4.toInt = (15640 + 7820 * y_2.toInt) by omega, show (0 : Int32).toInt = 0 by decide] at h9; exact h9
    refine lv_aload_n hx hb dX10_undo_40 rfl (lv_at hl 0 rfl) ?_
    refine lv_aload_n hx hb dX10_undo_41 rfl (lv_at hl 0 rfl) ?_
    refine va_get (D := (dC, dI)) (ci := 10) (v := .int y_2) (C := RX10) (T := TX10) (N := 48) hx hb hts fin_X10_undom_X10 hown hK hP 0 rfl rfl 2 (by decide) (hts (.fieldLink RX10 439 "PatternGateModel" "acts" "I") (List.mem_of_getElem? (i := 1) (by decide +kernel))) (fun _ h9 => h9) rfl dX10_undo_42 ?_
    have hFc := m_free hD hS hA
    refine va_calli (va_runV (As := [.int y_2]) (rest := []) ⟨hx, hb, hml, hown, hts⟩ (m_gives l dC dI ad kc x0 y_2 x2 x3 x4 x5 x6 x7 x8 x9 x10 x11 x12 x13 x14 x15 x16 x17 x18 x19 x20 x21 f_7 f1 f2 f3 f4 f5 f6 f7 f8 f9 f10 f11 f12 f13 f14 f15 f16 f17 f18 f19 f20 f21 fL fN fP fM fO H.size y_2 ) (cwV 1 hts mg_X10_undom_X10_gives_214 rfl rfl rfl (by decide +kernel) ⟨Nat.le_of_ble_eq_true rfl, Nat.le_of_ble_eq_true rfl⟩) ⟨fun a U g mk q => by obtain ⟨q0, q1, qP, qK, qD⟩ := q; exact ⟨q0, q1, qP, va_K.moved (u := U) (U := U.calling g mk a) (Vm.Alike.refl U.vm) qK, qD⟩, va_recv hK hP (ci := 10) (q0 := 0) rfl rfl, fun U hU hW => ⟨rfl, by rw [hU], by rw [hU]; exact hP, va_K.moved hW.alike hK, hD.weaken (fun _ _ _ _ => trivial)⟩⟩ rfl rfl hl.1 rfl (lv_room (Nat.le_of_ble_eq_true rfl)) dX10_undo_45 ⟨Nat.le_of_ble_eq_true rfl, Nat.le_of_ble_eq_true rfl⟩) hS (fun q _ h => hFc q h) hFc (fun r_8 u t H1 locs ht hvm hw hB hz1 hk1 hS => ?_)
    subst hw
    obtain ⟨hr_8_0, hP, hK1, hD1⟩ := hB
    rw [ht] at hP
    have hD := hD1.weaken (fun k q _ h => hFc q.1 h)
    clear hz1 hk1 hFc hD1 hK1 hvm
    generalize H1 = H at hP hS ⊢
    have rg_r_8 := i_rng r_8
    have hP : va_P (dC, dI) vwCl (mW ad kc 0 y_2 x2 x3 x4 x5 x6 x7 x8 x9 x10 x11 x12 x13 x14 x15 x16 x17 x18 x19 x20 x21 f_7 f1 f2 f3 f4 f5 f6 f7 f8 f9 f10 f11 f12 f13 f14 f15 f16 f17 f18 f19 f20 f21 fL fN fP fM fO) H := hP
    have hD : va_D A (mW ad kc 0 y_2 x2 x3 x4 x5 x6 x7 x8 x9 x10 x11 x12 x13 x14 x15 x16 x17 x18 x19 x20 x21 f_7 f1 f2 f3 f4 f5 f6 f7 f8 f9 f10 f11 f12 f13 f14 f15 f16 f17 f18 f19 f20 f21 fL fN fP fM fO) := hD
    have lit_8 : (0 : Int32).toInt = 0 := by decide
    exact W.iret hx hb hr (fun t ht hW => ⟨⟨_, _, rfl, rfl, 0, y_2, f_7, (q0.undo (by omega) (by omega) hc9), by rw [ht]; exact hP, va_K.moved hW.alike hK, hD⟩, hS.F ht⟩) hS.2.2 dX10_undo_48
  · have tk_1 := c_eq (a := x1.toInt) (b := 0) rfl (by decide) k_1
    refine lv_aload_n hx hb dX10_undo_7 rfl (lv_at hl 0 rfl) ?_
    refine lv_iconst (v := 5) hx hb dX10_undo_8 (by decide) ?_
    have lit_9 : (5 : Int32).toInt = 5 := by decide
    have hFc := m_free hD hS hA
    refine va_calli (va_runV (As := [.int 5]) (rest := []) ⟨hx, hb, hml, hown, hts⟩ (m_refuse l dC dI ad kc x0 x1 x2 x3 x4 x5 x6 x7 x8 x9 x10 x11 x12 x13 x14 x15 x16 x17 x18 x19 x20 x21 f0 f1 f2 f3 f4 f5 f6 f7 f8 f9 f10 f11 f12 f13 f14 f15 f16 f17 f18 f19 f20 f21 fL fN fP fM fO H.size 5 ) (cwV 1 hts mg_X10_undom_X10_refuse_204 rfl rfl rfl (by decide +kernel) ⟨Nat.le_of_ble_eq_true rfl, Nat.le_of_ble_eq_true rfl⟩) ⟨fun a U g mk q => by obtain ⟨q0, q1, qP, qK, qD⟩ := q; exact ⟨q0, q1, qP, va_K.moved (u := U) (U := U.calling g mk a) (Vm.Alike.refl U.vm) qK, qD⟩, va_recv hK hP (ci := 10) (q0 := 0) rfl rfl, fun U hU hW => ⟨rfl, by rw [hU], by rw [hU]; exact hP, va_K.moved hW.alike hK, hD.weaken (fun _ _ _ _ => trivial)⟩⟩ rfl rfl hl.1 rfl (lv_room (Nat.le_of_ble_eq_true rfl)) dX10_undo_9 ⟨Nat.le_of_ble_eq_true rfl, Nat.le_of_ble_eq_true rfl⟩) hS (fun q _ h => hFc q h) hFc (fun r_11 u t H1 locs ht hvm hw hB hz1 hk1 hS => ?_)
    subst hw
    obtain ⟨hr_11_0, hP, hK1, hD1⟩ := hB
    rw [ht] at hP
    have hD := hD1.weaken (fun k q _ h => hFc q.1 h)
    clear hz1 hk1 hFc hD1 hK1 hvm
    generalize H1 = H at hP hS ⊢
    have rg_r_11 := i_rng r_11
    have hP : va_P (dC, dI) vwCl (mW ad kc 5 x1 x2 x3 x4 x5 x6 x7 x8 x9 x10 x11 x12 x13 x14 x15 x16 x17 x18 x19 x20 x21 f0 f1 f2 f3 f4 f5 f6 f7 f8 f9 f10 f11 f12 f13 f14 f15 f16 f17 f18 f19 f20 f21 fL fN fP fM fO) H := hP
    have hD : va_D A (mW ad kc 5 x1 x2 x3 x4 x5 x6 x7 x8 x9 x10 x11 x12 x13 x14 x15 x16 x17 x18 x19 x20 x21 f0 f1 f2 f3 f4 f5 f6 f7 f8 f9 f10 f11 f12 f13 f14 f15 f16 f17 f18 f19 f20 f21 fL fN fP fM fO) := hD
    have lit_11 : (5 : Int32).toInt = 5 := by decide
    exact W.iret hx hb hr (fun t ht hW => ⟨⟨_, _, rfl, rfl, 5, x1, f0, q0, by rw [ht]; exact hP, va_K.moved hW.alike hK, hD⟩, hS.F ht⟩) hS.2.2 dX10_undo_12
theorem dX10_mark_0 : decode cX10_mark 0 = .ok (.aload_n 0, 1) := by decide +kernel
theorem dX10_mark_1 : decode cX10_mark 1 = .ok (.getfield 442, 3) := by decide +kernel
theorem dX10_mark_4 : decode cX10_mark 4 = .ok (.iconst 3, 1) := by decide +kernel
theorem dX10_mark_5 : decode cX10_mark 5 = .ok (.if_icmp .ne 9, 3) := by decide +kernel
theorem dX10_mark_8 : decode cX10_mark 8 = .ok (.aload_n 0, 1) := by decide +kernel
theorem dX10_mark_9 : decode cX10_mark 9 = .ok (.iconst 3, 1) := by decide +kernel
theorem dX10_mark_10 : decode cX10_mark 10 = .ok (.invokevirtual 204, 3) := by decide +kernel
theorem dX10_mark_13 : decode cX10_mark 13 = .ok (.ireturn, 1) := by decide +kernel
theorem dX10_mark_14 : decode cX10_mark 14 = .ok (.aload_n 0, 1) := by decide +kernel
theorem dX10_mark_15 : decode cX10_mark 15 = .ok (.iconst 0, 1) := by decide +kernel
theorem dX10_mark_16 : decode cX10_mark 16 = .ok (.ldc_w 478, 3) := by decide +kernel
theorem dX10_mark_19 : decode cX10_mark 19 = .ok (.sipush 7820, 3) := by decide +kernel
theorem dX10_mark_22 : decode cX10_mark 22 = .ok (.aload_n 0, 1) := by decide +kernel
theorem dX10_mark_23 : decode cX10_mark 23 = .ok (.getfield 442, 3) := by decide +kernel
theorem dX10_mark_26 : decode cX10_mark 26 = .ok (.imul, 1) := by decide +kernel
theorem dX10_mark_27 : decode cX10_mark 27 = .ok (.iadd, 1) := by decide +kernel
theorem dX10_mark_28 : decode cX10_mark 28 = .ok (.invokevirtual 193, 3) := by decide +kernel
theorem dX10_mark_31 : decode cX10_mark 31 = .ok (.aload_n 0, 1) := by decide +kernel
theorem dX10_mark_32 : decode cX10_mark 32 = .ok (.dup, 1) := by decide +kernel
theorem dX10_mark_33 : decode cX10_mark 33 = .ok (.getfield 442, 3) := by decide +kernel
theorem dX10_mark_36 : decode cX10_mark 36 = .ok (.iconst 1, 1) := by decide +kernel
theorem dX10_mark_37 : decode cX10_mark 37 = .ok (.iadd, 1) := by decide +kernel
theorem dX10_mark_38 : decode cX10_mark 38 = .ok (.putfield 442, 3) := by decide +kernel
theorem dX10_mark_41 : decode cX10_mark 41 = .ok (.aload_n 0, 1) := by decide +kernel
theorem dX10_mark_42 : decode cX10_mark 42 = .ok (.aload_n 0, 1) := by decide +kernel
theorem dX10_mark_43 : decode cX10_mark 43 = .ok (.getfield 442, 3) := by decide +kernel
theorem dX10_mark_46 : decode cX10_mark 46 = .ok (.invokevirtual 214, 3) := by decide +kernel
theorem dX10_mark_49 : decode cX10_mark 49 = .ok (.ireturn, 1) := by decide +kernel
def mwX10_markm : List Cond := .code yX10_mark cX10_mark 1 (some .int) :: (([.fieldLink RX10 442 "PatternGateModel" "marks" "I", .constant RX10 478 (78200), .methodLink RX10 193 yX10_copies, .instanceMethod yX10_copies, .selects RX10 yX10_copies yX10_copies, .initialized RX10, .methodLink RX10 214 yX10_gives, .instanceMethod yX10_gives, .selects RX10 yX10_gives yX10_gives, .methodLink RX10 204 yX10_refuse, .instanceMethod yX10_refuse, .selects RX10 yX10_refuse yX10_refuse] : List Cond) ++ (wsX100 ++ (mwX10_copiesm ++ (mwX10_givesm ++ (mwX10_refusem)))))
theorem fin_X10_markm_X10 : ∀ w ∈ wsX100, w ∈ mwX10_markm := fun w h => List.mem_cons_of_mem _ (List.mem_append_right _ (List.mem_append_left _ h))
set_option maxRecDepth 20000 in
theorem mg_X10_markm_X10_copies_193 : GoodIn mwX10_markm (wsV RX10 193 RX10 yX10_copies mwX10_copiesm) := gi_app (A := [.methodLink RX10 193 yX10_copies, .instanceMethod yX10_copies, .selects RX10 yX10_copies yX10_copies, .initialized RX10]) (goodIn_r _ [3, 4, 5, 6] (by decide +kernel) (by decide +kernel)) (gi_sub gd_mwX10_copiesm (fun w h => List.mem_cons_of_mem _ (List.mem_append_right _ (List.mem_append_right _ (List.mem_append_left _ h)))))
set_option maxRecDepth 20000 in
theorem mg_X10_markm_X10_gives_214 : GoodIn mwX10_markm (wsV RX10 214 RX10 yX10_gives mwX10_givesm) := gi_app (A := [.methodLink RX10 214 yX10_gives, .instanceMethod yX10_gives, .selects RX10 yX10_gives yX10_gives, .initialized RX10]) (goodIn_r _ [7, 8, 9, 6] (by decide +kernel) (by decide +kernel)) (gi_sub gd_mwX10_givesm (fun w h => List.mem_cons_of_mem _ (List.mem_append_right _ (List.mem_append_right _ (List.mem_append_right _ (List.mem_append_left _ h))))))
set_option maxRecDepth 20000 in
theorem mg_X10_markm_X10_refuse_204 : GoodIn mwX10_markm (wsV RX10 204 RX10 yX10_refuse mwX10_refusem) := gi_app (A := [.methodLink RX10 204 yX10_refuse, .instanceMethod yX10_refuse, .selects RX10 yX10_refuse yX10_refuse, .initialized RX10]) (goodIn_r _ [10, 11, 12, 6] (by decide +kernel) (by decide +kernel)) (gi_sub gd_mwX10_refusem (fun w h => List.mem_cons_of_mem _ (List.mem_append_right _ (List.mem_append_right _ (List.mem_append_right _ (List.mem_append_right _ (h)))))))
set_option maxHeartbeats 4000000 in
set_option maxRecDepth 100000 in
theorem m_mark (l : Launch) (dC : Nat → ClassId) (dI : Nat → Nat → Nat) (ad : Nat → Nat) (kc : Nat → ClassId) (x0 x1 x2 x3 x4 x5 x6 x7 x8 x9 x10 x11 x12 x13 x14 x15 x16 x17 x18 x19 x20 x21 : Int32) (f0 f1 f2 f3 f4 f5 f6 f7 f8 f9 f10 f11 f12 f13 f14 f15 f16 f17 f18 f19 f20 f21 : Nat → Int32) (fL : Nat → Nat → Int64) (fN : Nat → Nat → Int32) (fP : Nat → Nat → Nat) (fM : Nat → Nat → Int32) (fO : Nat → Nat → Int32) (sz : Nat) (q0 : mI x1.toInt x2.toInt x3.toInt f0 fP) : Met l yX10_mark mwX10_markm ({ frames := 1, cells := 0, slots := 0, locals := 60 }) (va_Pc [.ref (ad 0)] (fun U => U.heap.size = sz ∧ va_P (dC, dI) vwCl (mW ad kc x0 x1 x2 x3 x4 x5 x6 x7 x8 x9 x10 x11 x12 x13 x14 x15 x16 x17 x18 x19 x20 x21 f0 f1 f2 f3 f4 f5 f6 f7 f8 f9 f10 f11 f12 f13 f14 f15 f16 f17 f18 f19 f20 f21 fL fN fP fM fO) U.heap ∧ va_K (dC, dI) vwCl (mT kc) U ∧ va_D (fun _ => True) (mW ad kc x0 x1 x2 x3 x4 x5 x6 x7 x8 x9 x10 x11 x12 x13 x14 x15 x16 x17 x18 x19 x20 x21 f0 f1 f2 f3 f4 f5 f6 f7 f8 f9 f10 f11 f12 f13 f14 f15 f16 f17 f18 f19 f20 f21 fL fN fP fM fO))) (va_Qi (fun (o9 u9 : Int32) => o9 = u9) (fun (o9 : Int32) t => ∃ (y0 y2 : Int32) (g0 : Nat → Int32), (mI x1.toInt y2.toInt x3.toInt g0 fP) ∧ (x2.toInt = 3 ∧ o9.toInt = -1 ∧ y2.toInt = 3 ∨ x2.toInt < 3 ∧ o9.toInt = x2.toInt + 1 ∧ y2.toInt = x2.toInt + 1) ∧ va_P (dC, dI) vwCl (mW ad kc y0 x1 y2 x3 x4 x5 x6 x7 x8 x9 x10 x11 x12 x13 x14 x15 x16 x17 x18 x19 x20 x21 g0 f1 f2 f3 f4 f5 f6 f7 f8 f9 f10 f11 f12 f13 f14 f15 f16 f17 f18 f19 f20 f21 fL fN fP fM fO) t.heap ∧ va_K (dC, dI) vwCl (mT kc) t ∧ va_D (va_A (mW ad kc x0 x1 x2 x3 x4 x5 x6 x7 x8 x9 x10 x11 x12 x13 x14 x15 x16 x17 x18 x19 x20 x21 f0 f1 f2 f3 f4 f5 f6 f7 f8 f9 f10 f11 f12 f13 f14 f15 f16 f17 f18 f19 f20 f21 fL fN fP fM fO) sz) (mW ad kc y0 x1 y2 x3 x4 x5 x6 x7 x8 x9 x10 x11 x12 x13 x14 x15 x16 x17 x18 x19 x20 x21 g0 f1 f2 f3 f4 f5 f6 f7 f8 f9 f10 f11 f12 f13 f14 f15 f16 f17 f18 f19 f20 f21 fL fN fP fM fO)) (va_A (mW ad kc x0 x1 x2 x3 x4 x5 x6 x7 x8 x9 x10 x11 x12 x13 x14 x15 x16 x17 x18 x19 x20 x21 f0 f1 f2 f3 f4 f5 f6 f7 f8 f9 f10 f11 f12 f13 f14 f15 f16 f17 f18 f19 f20 f21 fL fN fP fM fO) sz)) 0 0 (va_A (mW ad kc x0 x1 x2 x3 x4 x5 x6 x7 x8 x9 x10 x11 x12 x13 x14 x15 x16 x17 x18 x19 x20 x21 f0 f1 f2 f3 f4 f5 f6 f7 f8 f9 f10 f11 f12 f13 f14 f15 f16 f17 f18 f19 f20 f21 fL fN fP fM fO) sz) := by
  refine Met.ofW (cc := cX10_mark) (maxL := 1) (ret := (some .int)) (by decide +kernel) rfl ?_
  intro p e s m args below meth c s₁ B hml hv
  obtain ⟨rfl, hsz, hP, hK, hD0⟩ := hv
  have hx := B.exec
  have hb := B.bytes
  have hr := B.returns
  have hts := atoms_spec (ws := mwX10_markm) B.pre
  have hown : s.vm.findClass RX10 = some m.cls := findClass_of_methodNamed B.named
  have hlocks := B.notSynchronized
  subst hsz
  have hD := hD0.self (sz := s.heap.size)
  generalize hAe : va_A (mW ad kc x0 x1 x2 x3 x4 x5 x6 x7 x8 x9 x10 x11 x12 x13 x14 x15 x16 x17 x18 x19 x20 x21 f0 f1 f2 f3 f4 f5 f6 f7 f8 f9 f10 f11 f12 f13 f14 f15 f16 f17 f18 f19 f20 f21 fL fN fP fM fO) s.heap.size = A at hD ⊢
  have hA : ∀ q : Nat, s.heap.size ≤ q → A q := fun q h => by rw [← hAe]; exact Or.inr h
  have hP : va_P (dC, dI) vwCl (mW ad kc x0 x1 x2 x3 x4 x5 x6 x7 x8 x9 x10 x11 x12 x13 x14 x15 x16 x17 x18 x19 x20 x21 f0 f1 f2 f3 f4 f5 f6 f7 f8 f9 f10 f11 f12 f13 f14 f15 f16 f17 f18 f19 f20 f21 fL fN fP fM fO) s.heap := hP
  have hD : va_D A (mW ad kc x0 x1 x2 x3 x4 x5 x6 x7 x8 x9 x10 x11 x12 x13 x14 x15 x16 x17 x18 x19 x20 x21 f0 f1 f2 f3 f4 f5 f6 f7 f8 f9 f10 f11 f12 f13 f14 f15 f16 f17 f18 f19 f20 f21 fL fN fP fM fO) := hD
  have hK : va_K (dC, dI) vwCl (mT kc) s := hK
  generalize hH : s.heap = H at hP ⊢
  have hS : va_S A s.heap H [] := by rw [← hH]; exact va_S.rf
  have hl := lv_entry ([.ref (ad 0)]) (n := 1) (Nat.le_of_ble_eq_true rfl)
  rw [lg_entry_eq]
  generalize (lg_sl ([.ref (ad 0)]) ++ List.replicate (1 - (lg_sl ([.ref (ad 0)])).length) Slot.unset).toArray = ls at hl ⊢
  have hl : lv_has ls 1 [(0, .ref (ad 0))] := hl
  have hd := q0.d
  have hpi := q0.p
  have hq1 := q0.1
  have hq2 := q0.2.1
  have hq3 := q0.2.2.1
  have hd10 := hd.n0
  have hp8 := hd.P0
  refine lv_aload_n hx hb dX10_mark_0 rfl (lv_at hl 0 rfl) ?_
  refine va_get (D := (dC, dI)) (ci := 10) (v := .int x2) (C := RX10) (T := TX10) (N := 48) hx hb hts fin_X10_markm_X10 hown hK hP 0 rfl rfl 3 (by decide) (hts (.fieldLink RX10 442 "PatternGateModel" "marks" "I") (List.mem_of_getElem? (i := 1) (by decide +kernel))) (fun _ h9 => h9) rfl dX10_mark_1 ?_
  refine lv_iconst (v := 3) hx hb dX10_mark_4 (by decide) ?_
  refine lv_icmp_ne (tgt := 14) hx hb dX10_mark_5 (by decide) (fun k_1 => ?_) (fun k_1 => ?_)
  · have tk_1 := c_ne (a := x2.toInt) (b := 3) rfl (by decide) k_1
    refine lv_aload_n hx hb dX10_mark_14 rfl (lv_at hl 0 rfl) ?_
    refine lv_iconst (v := 0) hx hb dX10_mark_15 (by decide) ?_
    refine lv_ldcw hx hb hown (hts (.constant RX10 478 (78200)) (List.mem_of_getElem? (i := 2) (by decide +kernel))) dX10_mark_16 ?_
    refine lv_sipush (v := 7820) hx hb dX10_mark_19 (by decide) ?_
    refine lv_aload_n hx hb dX10_mark_22 rfl (lv_at hl 0 rfl) ?_
    refine va_get (D := (dC, dI)) (ci := 10) (v := .int x2) (C := RX10) (T := TX10) (N := 48) hx hb hts fin_X10_markm_X10 hown hK hP 0 rfl rfl 3 (by decide) (hts (.fieldLink RX10 442 "PatternGateModel" "marks" "I") (List.mem_of_getElem? (i := 1) (by decide +kernel))) (fun _ h9 => h9) rfl dX10_mark_23 ?_
    refine lv_imul hx hb dX10_mark_26 ?_
    refine lv_topi (fun y_2 ey_2 => ?_)
    first | have ty_2 := i_mul (a := 7820) (b := x2.toInt) (by decide) rfl ey_2 (by omega) (by omega) | skip
    refine lv_iadd hx hb dX10_mark_27 ?_
    refine lv_topi (fun y_3 ey_3 => ?_)
    first | have ty_3 := i_add (a := 78200) (b := y_2.toInt) (by decide) rfl ey_3 (by omega) (by omega) | skip
    have lit_3 : (0 : Int32).toInt = 0 := by decide
    have hFc := m_free hD hS hA
    refine va_callv (va_runV (As := [.int 0, .int y_3]) (rest := []) ⟨hx, hb, hml, hown, hts⟩ (m_copies l dC dI ad kc x0 x1 x2 x3 x4 x5 x6 x7 x8 x9 x10 x11 x12 x13 x14 x15 x16 x17 x18 x19 x20 x21 f0 f1 f2 f3 f4 f5 f6 f7 f8 f9 f10 f11 f12 f13 f14 f15 f16 f17 f18 f19 f20 f21 fL fN fP fM fO H.size 0 y_3 (by first | omega | assumption | decide | (have l0 := Int32.toInt_zero; omega)) (by first | omega | assumption | decide | (have l0 := Int32.toInt_zero; omega)) (by first | omega | assumption | decide | (have l0 := Int32.toInt_zero; omega)) (by first | omega | assumption | decide | (have l0 := Int32.toInt_zero; omega)) (by first | omega | assumption | decide | (have l0 := Int32.toInt_zero; omega))) (cwV 2 hts mg_X10_markm_X10_copies_193 rfl rfl rfl (by decide +kernel) ⟨Nat.le_of_ble_eq_true rfl, Nat.le_of_ble_eq_true rfl⟩) ⟨fun a U g mk q => by obtain ⟨q0, q1, qP, qK, qD⟩ := q; exact ⟨q0, q1, qP, va_K.moved (u := U) (U := U.calling g mk a) (Vm.Alike.refl U.vm) qK, qD⟩, va_recv hK hP (ci := 10) (q0 := 0) rfl rfl, fun U hU hW => ⟨rfl, by rw [hU], by rw [hU]; exact hP, va_K.moved hW.alike hK, hD.weaken (fun _ _ _ _ => trivial)⟩⟩ rfl rfl hl.1 rfl (lv_room (Nat.le_of_ble_eq_true rfl)) dX10_mark_28 ⟨Nat.le_of_ble_eq_true rfl, Nat.le_of_ble_eq_true rfl⟩) hS (fun q _ h => hFc q h) hFc (fun u t H1 locs ht hvm hw hB hz1 hk1 hS => ?_)
    obtain ⟨f_6, hr_5_0, hP, hK1, hD1⟩ := hB
    rw [ht] at hP
    have hD := hD1.weaken (fun k q _ h => hFc q.1 h)
    clear hz1 hk1 hFc hD1 hK1 hvm
    generalize H1 = H at hP hS ⊢
    have hP : va_P (dC, dI) vwCl (mW ad kc x0 x1 x2 x3 x4 x5 x6 x7 x8 x9 x10 x11 x12 x13 x14 x15 x16 x17 x18 x19 x20 x21 f_6 f1 f2 f3 f4 f5 f6 f7 f8 f9 f10 f11 f12 f13 f14 f15 f16 f17 f18 f19 f20 f21 fL fN fP fM fO) H := hP
    have hD : va_D A (mW ad kc x0 x1 x2 x3 x4 x5 x6 x7 x8 x9 x10 x11 x12 x13 x14 x15 x16 x17 x18 x19 x20 x21 f_6 f1 f2 f3 f4 f5 f6 f7 f8 f9 f10 f11 f12 f13 f14 f15 f16 f17 f18 f19 f20 f21 fL fN fP fM fO) := hD
    have hc9 : CP f0 f_6 0 (78200 + 7820 * x2.toInt) := by have h9 := hr_5_0; rw [show (0 : Int32).toInt = 0 by decide, show y_3.toInt = (78200 + 7820 * x2.toInt) by omega] at h9; exact h9
    refine lv_aload_n hx hb dX10_mark_31 rfl (lv_at hl 0 rfl) ?_
    refine lv_dup hx hb dX10_mark_32 rfl ?_
    refine va_get (D := (dC, dI)) (ci := 10) (v := .int x2) (C := RX10) (T := TX10) (N := 48) hx hb hts fin_X10_markm_X10 hown hK hP 0 rfl rfl 3 (by decide) (hts (.fieldLink RX10 442 "PatternGateModel" "marks" "I") (List.mem_of_getElem? (i := 1) (by decide +kernel))) (fun _ h9 => h9) rfl dX10_mark_33 ?_
    refine lv_iconst (v := 1) hx hb dX10_mark_36 (by decide) ?_
    refine lv_iadd hx hb dX10_mark_37 ?_
    refine lv_topi (fun y_7 ey_7 => ?_)
    first | have ty_7 := i_add (a := x2.toInt) (b := 1) rfl (by decide) ey_7 (by omega) (by omega) | skip
    refine va_put (D := (dC, dI)) (ci := 10) (v := .int y_7) (ty := .int) (C := RX10) (T := TX10) (N := 48) hx hb hts fin_X10_markm_X10 tyX10 tyX10_ok nmX10 hown hK hP hD hS 0 rfl rfl 3 (by decide) (hts (.fieldLink RX10 442 "PatternGateModel" "marks" "I") (List.mem_of_getElem? (i := 1) (by decide +kernel))) (fun _ h9 => h9) rfl (by decide +kernel) rfl rfl (Nat.le_of_ble_eq_true rfl) dX10_mark_38 (fun H locs hP hD hS => ?_)
    have hP : va_P (dC, dI) vwCl (mW ad kc x0 x1 y_7 x3 x4 x5 x6 x7 x8 x9 x10 x11 x12 x13 x14 x15 x16 x17 x18 x19 x20 x21 f_6 f1 f2 f3 f4 f5 f6 f7 f8 f9 f10 f11 f12 f13 f14 f15 f16 f17 f18 f19 f20 f21 fL fN fP fM fO) H := hP
    have hD : va_D A (mW ad kc x0 x1 y_7 x3 x4 x5 x6 x7 x8 x9 x10 x11 x12 x13 x14 x15 x16 x17 x18 x19 x20 x21 f_6 f1 f2 f3 f4 f5 f6 f7 f8 f9 f10 f11 f12 f13 f14 f15 f16 f17 f18 f19 f20 f21 fL fN fP fM fO) := hD
    refine lv_aload_n hx hb dX10_mark_41 rfl (lv_at hl 0 rfl) ?_
    refine lv_aload_n hx hb dX10_mark_42 rfl (lv_at hl 0 rfl) ?_
    refine va_get (D := (dC, dI)) (ci := 10) (v := .int y_7) (C := RX10) (T := TX10) (N := 48) hx hb hts fin_X10_markm_X10 hown hK hP 0 rfl rfl 3 (by decide) (hts (.fieldLink RX10 442 "PatternGateModel" "marks" "I") (List.mem_of_getElem? (i := 1) (by decide +kernel))) (fun _ h9 => h9) rfl dX10_mark_43 ?_
    have hFc := m_free hD hS hA
    refine va_calli (va_runV (As := [.int y_7]) (rest := []) ⟨hx, hb, hml, hown, hts⟩ (m_gives l dC dI ad kc x0 x1 y_7 x3 x4 x5 x6 x7 x8 x9 x10 x11 x12 x13 x14 x15 x16 x17 x18 x19 x20 x21 f_6 f1 f2 f3 f4 f5 f6 f7 f8 f9 f10 f11 f12 f13 f14 f15 f16 f17 f18 f19 f20 f21 fL fN fP fM fO H.size y_7 ) (cwV 1 hts mg_X10_markm_X10_gives_214 rfl rfl rfl (by decide +kernel) ⟨Nat.le_of_ble_eq_true rfl, Nat.le_of_ble_eq_true rfl⟩) ⟨fun a U g mk q => by obtain ⟨q0, q1, qP, qK, qD⟩ := q; exact ⟨q0, q1, qP, va_K.moved (u := U) (U := U.calling g mk a) (Vm.Alike.refl U.vm) qK, qD⟩, va_recv hK hP (ci := 10) (q0 := 0) rfl rfl, fun U hU hW => ⟨rfl, by rw [hU], by rw [hU]; exact hP, va_K.moved hW.alike hK, hD.weaken (fun _ _ _ _ => trivial)⟩⟩ rfl rfl hl.1 rfl (lv_room (Nat.le_of_ble_eq_true rfl)) dX10_mark_46 ⟨Nat.le_of_ble_eq_true rfl, Nat.le_of_ble_eq_true rfl⟩) hS (fun q _ h => hFc q h) hFc (fun r_8 u t H1 locs ht hvm hw hB hz1 hk1 hS => ?_)
    subst hw
    obtain ⟨hr_8_0, hP, hK1, hD1⟩ := hB
    rw [ht] at hP
    have hD := hD1.weaken (fun k q _ h => hFc q.1 h)
    clear hz1 hk1 hFc hD1 hK1 hvm
    generalize H1 = H at hP hS ⊢
    have rg_r_8 := i_rng r_8
    have hP : va_P (dC, dI) vwCl (mW ad kc 0 x1 y_7 x3 x4 x5 x6 x7 x8 x9 x10 x11 x12 x13 x14 x15 x16 x17 x18 x19 x20 x21 f_6 f1 f2 f3 f4 f5 f6 f7 f8 f9 f10 f11 f12 f13 f14 f15 f16 f17 f18 f19 f20 f21 fL fN fP fM fO) H := hP
    have hD : va_D A (mW ad kc 0 x1 y_7 x3 x4 x5 x6 x7 x8 x9 x10 x11 x12 x13 x14 x15 x16 x17 x18 x19 x20 x21 f_6 f1 f2 f3 f4 f5 f6 f7 f8 f9 f10 f11 f12 f13 f14 f15 f16 f17 f18 f19 f20 f21 fL fN fP fM fO) := hD
    have htr_8 := congrArg Int32.toInt hr_8_0
    have hneg : ((-1) : Int32).toInt = -1 := by decide
    have lit_8 : (0 : Int32).toInt = 0 := by decide
    exact W.iret hx hb hr (fun t ht hW => ⟨⟨_, _, rfl, rfl, 0, y_7, f_6, (q0.mark (by omega) (by omega) hc9), (by first | omega | assumption | rfl | decide), by rw [ht]; exact hP, va_K.moved hW.alike hK, hD⟩, hS.F ht⟩) hS.2.2 dX10_mark_49
  · have tk_1 := c_eq (a := x2.toInt) (b := 3) rfl (by decide) k_1
    refine lv_aload_n hx hb dX10_mark_8 rfl (lv_at hl 0 rfl) ?_
    refine lv_iconst (v := 3) hx hb dX10_mark_9 (by decide) ?_
    have lit_9 : (3 : Int32).toInt = 3 := by decide
    have hFc := m_free hD hS hA
    refine va_calli (va_runV (As := [.int 3]) (rest := []) ⟨hx, hb, hml, hown, hts⟩ (m_refuse l dC dI ad kc x0 x1 x2 x3 x4 x5 x6 x7 x8 x9 x10 x11 x12 x13 x14 x15 x16 x17 x18 x19 x20 x21 f0 f1 f2 f3 f4 f5 f6 f7 f8 f9 f10 f11 f12 f13 f14 f15 f16 f17 f18 f19 f20 f21 fL fN fP fM fO H.size 3 ) (cwV 1 hts mg_X10_markm_X10_refuse_204 rfl rfl rfl (by decide +kernel) ⟨Nat.le_of_ble_eq_true rfl, Nat.le_of_ble_eq_true rfl⟩) ⟨fun a U g mk q => by obtain ⟨q0, q1, qP, qK, qD⟩ := q; exact ⟨q0, q1, qP, va_K.moved (u := U) (U := U.calling g mk a) (Vm.Alike.refl U.vm) qK, qD⟩, va_recv hK hP (ci := 10) (q0 := 0) rfl rfl, fun U hU hW => ⟨rfl, by rw [hU], by rw [hU]; exact hP, va_K.moved hW.alike hK, hD.weaken (fun _ _ _ _ => trivial)⟩⟩ rfl rfl hl.1 rfl (lv_room (Nat.le_of_ble_eq_true rfl)) dX10_mark_10 ⟨Nat.le_of_ble_eq_true rfl, Nat.le_of_ble_eq_true rfl⟩) hS (fun q _ h => hFc q h) hFc (fun r_11 u t H1 locs ht hvm hw hB hz1 hk1 hS => ?_)
    subst hw
    obtain ⟨hr_11_0, hP, hK1, hD1⟩ := hB
    rw [ht] at hP
    have hD := hD1.weaken (fun k q _ h => hFc q.1 h)
    clear hz1 hk1 hFc hD1 hK1 hvm
    generalize H1 = H at hP hS ⊢
    have rg_r_11 := i_rng r_11
    have hP : va_P (dC, dI) vwCl (mW ad kc 3 x1 x2 x3 x4 x5 x6 x7 x8 x9 x10 x11 x12 x13 x14 x15 x16 x17 x18 x19 x20 x21 f0 f1 f2 f3 f4 f5 f6 f7 f8 f9 f10 f11 f12 f13 f14 f15 f16 f17 f18 f19 f20 f21 fL fN fP fM fO) H := hP
    have hD : va_D A (mW ad kc 3 x1 x2 x3 x4 x5 x6 x7 x8 x9 x10 x11 x12 x13 x14 x15 x16 x17 x18 x19 x20 x21 f0 f1 f2 f3 f4 f5 f6 f7 f8 f9 f10 f11 f12 f13 f14 f15 f16 f17 f18 f19 f20 f21 fL fN fP fM fO) := hD
    have htr_11 := congrArg Int32.toInt hr_11_0
    have hneg : ((-1) : Int32).toInt = -1 := by decide
    have lit_11 : (3 : Int32).toInt = 3 := by decide
    exact W.iret hx hb hr (fun t ht hW => ⟨⟨_, _, rfl, rfl, 3, x2, f0, q0, (by first | omega | assumption | rfl | decide), by rw [ht]; exact hP, va_K.moved hW.alike hK, hD⟩, hS.F ht⟩) hS.2.2 dX10_mark_13
theorem dX10_back_0 : decode cX10_back 0 = .ok (.aload_n 0, 1) := by decide +kernel
theorem dX10_back_1 : decode cX10_back 1 = .ok (.getfield 442, 3) := by decide +kernel
theorem dX10_back_4 : decode cX10_back 4 = .ok (.ifCond .ne 9, 3) := by decide +kernel
theorem dX10_back_7 : decode cX10_back 7 = .ok (.aload_n 0, 1) := by decide +kernel
theorem dX10_back_8 : decode cX10_back 8 = .ok (.iconst 5, 1) := by decide +kernel
theorem dX10_back_9 : decode cX10_back 9 = .ok (.invokevirtual 204, 3) := by decide +kernel
theorem dX10_back_12 : decode cX10_back 12 = .ok (.ireturn, 1) := by decide +kernel
theorem dX10_back_13 : decode cX10_back 13 = .ok (.aload_n 0, 1) := by decide +kernel
theorem dX10_back_14 : decode cX10_back 14 = .ok (.dup, 1) := by decide +kernel
theorem dX10_back_15 : decode cX10_back 15 = .ok (.getfield 442, 3) := by decide +kernel
theorem dX10_back_18 : decode cX10_back 18 = .ok (.iconst 1, 1) := by decide +kernel
theorem dX10_back_19 : decode cX10_back 19 = .ok (.isub, 1) := by decide +kernel
theorem dX10_back_20 : decode cX10_back 20 = .ok (.putfield 442, 3) := by decide +kernel
theorem dX10_back_23 : decode cX10_back 23 = .ok (.aload_n 0, 1) := by decide +kernel
theorem dX10_back_24 : decode cX10_back 24 = .ok (.ldc_w 478, 3) := by decide +kernel
theorem dX10_back_27 : decode cX10_back 27 = .ok (.sipush 7820, 3) := by decide +kernel
theorem dX10_back_30 : decode cX10_back 30 = .ok (.aload_n 0, 1) := by decide +kernel
theorem dX10_back_31 : decode cX10_back 31 = .ok (.getfield 442, 3) := by decide +kernel
theorem dX10_back_34 : decode cX10_back 34 = .ok (.imul, 1) := by decide +kernel
theorem dX10_back_35 : decode cX10_back 35 = .ok (.iadd, 1) := by decide +kernel
theorem dX10_back_36 : decode cX10_back 36 = .ok (.iconst 0, 1) := by decide +kernel
theorem dX10_back_37 : decode cX10_back 37 = .ok (.invokevirtual 193, 3) := by decide +kernel
theorem dX10_back_40 : decode cX10_back 40 = .ok (.aload_n 0, 1) := by decide +kernel
theorem dX10_back_41 : decode cX10_back 41 = .ok (.aload_n 0, 1) := by decide +kernel
theorem dX10_back_42 : decode cX10_back 42 = .ok (.getfield 442, 3) := by decide +kernel
theorem dX10_back_45 : decode cX10_back 45 = .ok (.invokevirtual 214, 3) := by decide +kernel
theorem dX10_back_48 : decode cX10_back 48 = .ok (.ireturn, 1) := by decide +kernel
def mwX10_backm : List Cond := .code yX10_back cX10_back 1 (some .int) :: (([.fieldLink RX10 442 "PatternGateModel" "marks" "I", .constant RX10 478 (78200), .methodLink RX10 193 yX10_copies, .instanceMethod yX10_copies, .selects RX10 yX10_copies yX10_copies, .initialized RX10, .methodLink RX10 214 yX10_gives, .instanceMethod yX10_gives, .selects RX10 yX10_gives yX10_gives, .methodLink RX10 204 yX10_refuse, .instanceMethod yX10_refuse, .selects RX10 yX10_refuse yX10_refuse] : List Cond) ++ (wsX100 ++ (mwX10_copiesm ++ (mwX10_givesm ++ (mwX10_refusem)))))
theorem fin_X10_backm_X10 : ∀ w ∈ wsX100, w ∈ mwX10_backm := fun w h => List.mem_cons_of_mem _ (List.mem_append_right _ (List.mem_append_left _ h))
set_option maxRecDepth 20000 in
theorem mg_X10_backm_X10_copies_193 : GoodIn mwX10_backm (wsV RX10 193 RX10 yX10_copies mwX10_copiesm) := gi_app (A := [.methodLink RX10 193 yX10_copies, .instanceMethod yX10_copies, .selects RX10 yX10_copies yX10_copies, .initialized RX10]) (goodIn_r _ [3, 4, 5, 6] (by decide +kernel) (by decide +kernel)) (gi_sub gd_mwX10_copiesm (fun w h => List.mem_cons_of_mem _ (List.mem_append_right _ (List.mem_append_right _ (List.mem_append_left _ h)))))
set_option maxRecDepth 20000 in
theorem mg_X10_backm_X10_gives_214 : GoodIn mwX10_backm (wsV RX10 214 RX10 yX10_gives mwX10_givesm) := gi_app (A := [.methodLink RX10 214 yX10_gives, .instanceMethod yX10_gives, .selects RX10 yX10_gives yX10_gives, .initialized RX10]) (goodIn_r _ [7, 8, 9, 6] (by decide +kernel) (by decide +kernel)) (gi_sub gd_mwX10_givesm (fun w h => List.mem_cons_of_mem _ (List.mem_append_right _ (List.mem_append_right _ (List.mem_append_right _ (List.mem_append_left _ h))))))
set_option maxRecDepth 20000 in
theorem mg_X10_backm_X10_refuse_204 : GoodIn mwX10_backm (wsV RX10 204 RX10 yX10_refuse mwX10_refusem) := gi_app (A := [.methodLink RX10 204 yX10_refuse, .instanceMethod yX10_refuse, .selects RX10 yX10_refuse yX10_refuse, .initialized RX10]) (goodIn_r _ [10, 11, 12, 6] (by decide +kernel) (by decide +kernel)) (gi_sub gd_mwX10_refusem (fun w h => List.mem_cons_of_mem _ (List.mem_append_right _ (List.mem_append_right _ (List.mem_append_right _ (List.mem_append_right _ (h)))))))
set_option maxHeartbeats 4000000 in
set_option maxRecDepth 100000 in
theorem m_back (l : Launch) (dC : Nat → ClassId) (dI : Nat → Nat → Nat) (ad : Nat → Nat) (kc : Nat → ClassId) (x0 x1 x2 x3 x4 x5 x6 x7 x8 x9 x10 x11 x12 x13 x14 x15 x16 x17 x18 x19 x20 x21 : Int32) (f0 f1 f2 f3 f4 f5 f6 f7 f8 f9 f10 f11 f12 f13 f14 f15 f16 f17 f18 f19 f20 f21 : Nat → Int32) (fL : Nat → Nat → Int64) (fN : Nat → Nat → Int32) (fP : Nat → Nat → Nat) (fM : Nat → Nat → Int32) (fO : Nat → Nat → Int32) (sz : Nat) (q0 : mI x1.toInt x2.toInt x3.toInt f0 fP) : Met l yX10_back mwX10_backm ({ frames := 1, cells := 0, slots := 0, locals := 60 }) (va_Pc [.ref (ad 0)] (fun U => U.heap.size = sz ∧ va_P (dC, dI) vwCl (mW ad kc x0 x1 x2 x3 x4 x5 x6 x7 x8 x9 x10 x11 x12 x13 x14 x15 x16 x17 x18 x19 x20 x21 f0 f1 f2 f3 f4 f5 f6 f7 f8 f9 f10 f11 f12 f13 f14 f15 f16 f17 f18 f19 f20 f21 fL fN fP fM fO) U.heap ∧ va_K (dC, dI) vwCl (mT kc) U ∧ va_D (fun _ => True) (mW ad kc x0 x1 x2 x3 x4 x5 x6 x7 x8 x9 x10 x11 x12 x13 x14 x15 x16 x17 x18 x19 x20 x21 f0 f1 f2 f3 f4 f5 f6 f7 f8 f9 f10 f11 f12 f13 f14 f15 f16 f17 f18 f19 f20 f21 fL fN fP fM fO))) (va_Qi (fun (o9 u9 : Int32) => o9 = u9) (fun (o9 : Int32) t => ∃ (y0 y2 : Int32) (g0 : Nat → Int32), (mI x1.toInt y2.toInt x3.toInt g0 fP) ∧ (x2.toInt = 0 ∧ o9.toInt = -1 ∧ y2.toInt = 0 ∨ 0 < x2.toInt ∧ o9.toInt = x2.toInt - 1 ∧ y2.toInt = x2.toInt - 1) ∧ va_P (dC, dI) vwCl (mW ad kc y0 x1 y2 x3 x4 x5 x6 x7 x8 x9 x10 x11 x12 x13 x14 x15 x16 x17 x18 x19 x20 x21 g0 f1 f2 f3 f4 f5 f6 f7 f8 f9 f10 f11 f12 f13 f14 f15 f16 f17 f18 f19 f20 f21 fL fN fP fM fO) t.heap ∧ va_K (dC, dI) vwCl (mT kc) t ∧ va_D (va_A (mW ad kc x0 x1 x2 x3 x4 x5 x6 x7 x8 x9 x10 x11 x12 x13 x14 x15 x16 x17 x18 x19 x20 x21 f0 f1 f2 f3 f4 f5 f6 f7 f8 f9 f10 f11 f12 f13 f14 f15 f16 f17 f18 f19 f20 f21 fL fN fP fM fO) sz) (mW ad kc y0 x1 y2 x3 x4 x5 x6 x7 x8 x9 x10 x11 x12 x13 x14 x15 x16 x17 x18 x19 x20 x21 g0 f1 f2 f3 f4 f5 f6 f7 f8 f9 f10 f11 f12 f13 f14 f15 f16 f17 f18 f19 f20 f21 fL fN fP fM fO)) (va_A (mW ad kc x0 x1 x2 x3 x4 x5 x6 x7 x8 x9 x10 x11 x12 x13 x14 x15 x16 x17 x18 x19 x20 x21 f0 f1 f2 f3 f4 f5 f6 f7 f8 f9 f10 f11 f12 f13 f14 f15 f16 f17 f18 f19 f20 f21 fL fN fP fM fO) sz)) 0 0 (va_A (mW ad kc x0 x1 x2 x3 x4 x5 x6 x7 x8 x9 x10 x11 x12 x13 x14 x15 x16 x17 x18 x19 x20 x21 f0 f1 f2 f3 f4 f5 f6 f7 f8 f9 f10 f11 f12 f13 f14 f15 f16 f17 f18 f19 f20 f21 fL fN fP fM fO) sz) := by
  refine Met.ofW (cc := cX10_back) (maxL := 1) (ret := (some .int)) (by decide +kernel) rfl ?_
  intro p e s m args below meth c s₁ B hml hv
  obtain ⟨rfl, hsz, hP, hK, hD0⟩ := hv
  have hx := B.exec
  have hb := B.bytes
  have hr := B.returns
  have hts := atoms_spec (ws := mwX10_backm) B.pre
  have hown : s.vm.findClass RX10 = some m.cls := findClass_of_methodNamed B.named
  have hlocks := B.notSynchronized
  subst hsz
  have hD := hD0.self (sz := s.heap.size)
  generalize hAe : va_A (mW ad kc x0 x1 x2 x3 x4 x5 x6 x7 x8 x9 x10 x11 x12 x13 x14 x15 x16 x17 x18 x19 x20 x21 f0 f1 f2 f3 f4 f5 f6 f7 f8 f9 f10 f11 f12 f13 f14 f15 f16 f17 f18 f19 f20 f21 fL fN fP fM fO) s.heap.size = A at hD ⊢
  have hA : ∀ q : Nat, s.heap.size ≤ q → A q := fun q h => by rw [← hAe]; exact Or.inr h
  have hP : va_P (dC, dI) vwCl (mW ad kc x0 x1 x2 x3 x4 x5 x6 x7 x8 x9 x10 x11 x12 x13 x14 x15 x16 x17 x18 x19 x20 x21 f0 f1 f2 f3 f4 f5 f6 f7 f8 f9 f10 f11 f12 f13 f14 f15 f16 f17 f18 f19 f20 f21 fL fN fP fM fO) s.heap := hP
  have hD : va_D A (mW ad kc x0 x1 x2 x3 x4 x5 x6 x7 x8 x9 x10 x11 x12 x13 x14 x15 x16 x17 x18 x19 x20 x21 f0 f1 f2 f3 f4 f5 f6 f7 f8 f9 f10 f11 f12 f13 f14 f15 f16 f17 f18 f19 f20 f21 fL fN fP fM fO) := hD
  have hK : va_K (dC, dI) vwCl (mT kc) s := hK
  generalize hH : s.heap = H at hP ⊢
  have hS : va_S A s.heap H [] := by rw [← hH]; exact va_S.rf
  have hl := lv_entry ([.ref (ad 0)]) (n := 1) (Nat.le_of_ble_eq_true rfl)
  rw [lg_entry_eq]
  generalize (lg_sl ([.ref (ad 0)]) ++ List.replicate (1 - (lg_sl ([.ref (ad 0)])).length) Slot.unset).toArray = ls at hl ⊢
  have hl : lv_has ls 1 [(0, .ref (ad 0))] := hl
  have hd := q0.d
  have hpi := q0.p
  have hq1 := q0.1
  have hq2 := q0.2.1
  have hq3 := q0.2.2.1
  have hd10 := hd.n0
  have hp8 := hd.P0
  refine lv_aload_n hx hb dX10_back_0 rfl (lv_at hl 0 rfl) ?_
  refine va_get (D := (dC, dI)) (ci := 10) (v := .int x2) (C := RX10) (T := TX10) (N := 48) hx hb hts fin_X10_backm_X10 hown hK hP 0 rfl rfl 3 (by decide) (hts (.fieldLink RX10 442 "PatternGateModel" "marks" "I") (List.mem_of_getElem? (i := 1) (by decide +kernel))) (fun _ h9 => h9) rfl dX10_back_1 ?_
  refine lv_if_ne (tgt := 13) hx hb dX10_back_4 (by decide) (fun k_1 => ?_) (fun k_1 => ?_)
  · have tk_1 := c_ne (a := x2.toInt) (b := 0) rfl (by decide) k_1
    refine lv_aload_n hx hb dX10_back_13 rfl (lv_at hl 0 rfl) ?_
    refine lv_dup hx hb dX10_back_14 rfl ?_
    refine va_get (D := (dC, dI)) (ci := 10) (v := .int x2) (C := RX10) (T := TX10) (N := 48) hx hb hts fin_X10_backm_X10 hown hK hP 0 rfl rfl 3 (by decide) (hts (.fieldLink RX10 442 "PatternGateModel" "marks" "I") (List.mem_of_getElem? (i := 1) (by decide +kernel))) (fun _ h9 => h9) rfl dX10_back_15 ?_
    refine lv_iconst (v := 1) hx hb dX10_back_18 (by decide) ?_
    refine lv_isub hx hb dX10_back_19 ?_
    refine lv_topi (fun y_2 ey_2 => ?_)
    first | have ty_2 := i_sub (a := x2.toInt) (b := 1) rfl (by decide) ey_2 (by omega) (by omega) | skip
    refine va_put (D := (dC, dI)) (ci := 10) (v := .int y_2) (ty := .int) (C := RX10) (T := TX10) (N := 48) hx hb hts fin_X10_backm_X10 tyX10 tyX10_ok nmX10 hown hK hP hD hS 0 rfl rfl 3 (by decide) (hts (.fieldLink RX10 442 "PatternGateModel" "marks" "I") (List.mem_of_getElem? (i := 1) (by decide +kernel))) (fun _ h9 => h9) rfl (by decide +kernel) rfl rfl (Nat.le_of_ble_eq_true rfl) dX10_back_20 (fun H locs hP hD hS => ?_)
    have hP : va_P (dC, dI) vwCl (mW ad kc x0 x1 y_2 x3 x4 x5 x6 x7 x8 x9 x10 x11 x12 x13 x14 x15 x16 x17 x18 x19 x20 x21 f0 f1 f2 f3 f4 f5 f6 f7 f8 f9 f10 f11 f12 f13 f14 f15 f16 f17 f18 f19 f20 f21 fL fN fP fM fO) H := hP
    have hD : va_D A (mW ad kc x0 x1 y_2 x3 x4 x5 x6 x7 x8 x9 x10 x11 x12 x13 x14 x15 x16 x17 x18 x19 x20 x21 f0 f1 f2 f3 f4 f5 f6 f7 f8 f9 f10 f11 f12 f13 f14 f15 f16 f17 f18 f19 f20 f21 fL fN fP fM fO) := hD
    refine lv_aload_n hx hb dX10_back_23 rfl (lv_at hl 0 rfl) ?_
    refine lv_ldcw hx hb hown (hts (.constant RX10 478 (78200)) (List.mem_of_getElem? (i := 2) (by decide +kernel))) dX10_back_24 ?_
    refine lv_sipush (v := 7820) hx hb dX10_back_27 (by decide) ?_
    refine lv_aload_n hx hb dX10_back_30 rfl (lv_at hl 0 rfl) ?_
    refine va_get (D := (dC, dI)) (ci := 10) (v := .int y_2) (C := RX10) (T := TX10) (N := 48) hx hb hts fin_X10_backm_X10 hown hK hP 0 rfl rfl 3 (by decide) (hts (.fieldLink RX10 442 "PatternGateModel" "marks" "I") (List.mem_of_getElem? (i := 1) (by decide +kernel))) (fun _ h9 => h9) rfl dX10_back_31 ?_
    refine lv_imul hx hb dX10_back_34 ?_
    refine lv_topi (fun y_3 ey_3 => ?_)
    first | have ty_3 := i_mul (a := 7820) (b := y_2.toInt) (by decide) rfl ey_3 (by omega) (by omega) | skip
    refine lv_iadd hx hb dX10_back_35 ?_
    refine lv_topi (fun y_4 ey_4 => ?_)
    first | have ty_4 := i_add (a := 78200) (b := y_3.toInt) (by decide) rfl ey_4 (by omega) (by omega) | skip
    refine lv_iconst (v := 0) hx hb dX10_back_36 (by decide) ?_
    have lit_4 : (0 : Int32).toInt = 0 := by decide
    have hFc := m_free hD hS hA
    refine va_callv (va_runV (As := [.int y_4, .int 0]) (rest := []) ⟨hx, hb, hml, hown, hts⟩ (m_copies l dC dI ad kc x0 x1 y_2 x3 x4 x5 x6 x7 x8 x9 x10 x11 x12 x13 x14 x15 x16 x17 x18 x19 x20 x21 f0 f1 f2 f3 f4 f5 f6 f7 f8 f9 f10 f11 f12 f13 f14 f15 f16 f17 f18 f19 f20 f21 fL fN fP fM fO H.size y_4 0 (by first | omega | assumption | decide | (have l0 := Int32.toInt_zero; omega)) (by first | omega | assumption | decide | (have l0 := Int32.toInt_zero; omega)) (by first | omega | assumption | decide | (have l0 := Int32.toInt_zero; omega)) (by first | omega | assumption | decide | (have l0 := Int32.toInt_zero; omega)) (by first | omega | assumption | decide | (have l0 := Int32.toInt_zero; omega))) (cwV 2 hts mg_X10_backm_X10_copies_193 rfl rfl rfl (by decide +kernel) ⟨Nat.le_of_ble_eq_true rfl, Nat.le_of_ble_eq_true rfl⟩) ⟨fun a U g mk q => by obtain ⟨q0, q1, qP, qK, qD⟩ := q; exact ⟨q0, q1, qP, va_K.moved (u := U) (U := U.calling g mk a) (Vm.Alike.refl U.vm) qK, qD⟩, va_recv hK hP (ci := 10) (q0 := 0) rfl rfl, fun U hU hW => ⟨rfl, by rw [hU], by rw [hU]; exact hP, va_K.moved hW.alike hK, hD.weaken (fun _ _ _ _ => trivial)⟩⟩ rfl rfl hl.1 rfl (lv_room (Nat.le_of_ble_eq_true rfl)) dX10_back_37 ⟨Nat.le_of_ble_eq_true rfl, Nat.le_of_ble_eq_true rfl⟩) hS (fun q _ h => hFc q h) hFc (fun u t H1 locs ht hvm hw hB hz1 hk1 hS => ?_)
    obtain ⟨f_7, hr_6_0, hP, hK1, hD1⟩ := hB
    rw [ht] at hP
    have hD := hD1.weaken (fun k q _ h => hFc q.1 h)
    clear hz1 hk1 hFc hD1 hK1 hvm
    generalize H1 = H at hP hS ⊢
    have hP : va_P (dC, dI) vwCl (mW ad kc x0 x1 y_2 x3 x4 x5 x6 x7 x8 x9 x10 x11 x12 x13 x14 x15 x16 x17 x18 x19 x20 x21 f_7 f1 f2 f3 f4 f5 f6 f7 f8 f9 f10 f11 f12 f13 f14 f15 f16 f17 f18 f19 f20 f21 fL fN fP fM fO) H := hP
    have hD : va_D A (mW ad kc x0 x1 y_2 x3 x4 x5 x6 x7 x8 x9 x10 x11 x12 x13 x14 x15 x16 x17 x18 x19 x20 x21 f_7 f1 f2 f3 f4 f5 f6 f7 f8 f9 f10 f11 f12 f13 f14 f15 f16 f17 f18 f19 f20 f21 fL fN fP fM fO) := hD
    have hc9 : CP f0 f_7 (78200 + 7820 * y_2.toInt) 0 := by have h9 := hr_6_0; rw [show y_4.toInt = (78200 + 7820 * y_2.toInt) by omega, show (0 : Int32).toInt = 0 by decide] at h9; exact h9
    refine lv_aload_n hx hb dX10_back_40 rfl (lv_at hl 0 rfl) ?_
    refine lv_aload_n hx hb dX10_back_41 rfl (lv_at hl 0 rfl) ?_
    refine va_get (D := (dC, dI)) (ci := 10) (v := .int y_2) (C := RX10) (T := TX10) (N := 48) hx hb hts fin_X10_backm_X10 hown hK hP 0 rfl rfl 3 (by decide) (hts (.fieldLink RX10 442 "PatternGateModel" "marks" "I") (List.mem_of_getElem? (i := 1) (by decide +kernel))) (fun _ h9 => h9) rfl dX10_back_42 ?_
    have hFc := m_free hD hS hA
    refine va_calli (va_runV (As := [.int y_2]) (rest := []) ⟨hx, hb, hml, hown, hts⟩ (m_gives l dC dI ad kc x0 x1 y_2 x3 x4 x5 x6 x7 x8 x9 x10 x11 x12 x13 x14 x15 x16 x17 x18 x19 x20 x21 f_7 f1 f2 f3 f4 f5 f6 f7 f8 f9 f10 f11 f12 f13 f14 f15 f16 f17 f18 f19 f20 f21 fL fN fP fM fO H.size y_2 ) (cwV 1 hts mg_X10_backm_X10_gives_214 rfl rfl rfl (by decide +kernel) ⟨Nat.le_of_ble_eq_true rfl, Nat.le_of_ble_eq_true rfl⟩) ⟨fun a U g mk q => by obtain ⟨q0, q1, qP, qK, qD⟩ := q; exact ⟨q0, q1, qP, va_K.moved (u := U) (U := U.calling g mk a) (Vm.Alike.refl U.vm) qK, qD⟩, va_recv hK hP (ci := 10) (q0 := 0) rfl rfl, fun U hU hW => ⟨rfl, by rw [hU], by rw [hU]; exact hP, va_K.moved hW.alike hK, hD.weaken (fun _ _ _ _ => trivial)⟩⟩ rfl rfl hl.1 rfl (lv_room (Nat.le_of_ble_eq_true rfl)) dX10_back_45 ⟨Nat.le_of_ble_eq_true rfl, Nat.le_of_ble_eq_true rfl⟩) hS (fun q _ h => hFc q h) hFc (fun r_8 u t H1 locs ht hvm hw hB hz1 hk1 hS => ?_)
    subst hw
    obtain ⟨hr_8_0, hP, hK1, hD1⟩ := hB
    rw [ht] at hP
    have hD := hD1.weaken (fun k q _ h => hFc q.1 h)
    clear hz1 hk1 hFc hD1 hK1 hvm
    generalize H1 = H at hP hS ⊢
    have rg_r_8 := i_rng r_8
    have hP : va_P (dC, dI) vwCl (mW ad kc 0 x1 y_2 x3 x4 x5 x6 x7 x8 x9 x10 x11 x12 x13 x14 x15 x16 x17 x18 x19 x20 x21 f_7 f1 f2 f3 f4 f5 f6 f7 f8 f9 f10 f11 f12 f13 f14 f15 f16 f17 f18 f19 f20 f21 fL fN fP fM fO) H := hP
    have hD : va_D A (mW ad kc 0 x1 y_2 x3 x4 x5 x6 x7 x8 x9 x10 x11 x12 x13 x14 x15 x16 x17 x18 x19 x20 x21 f_7 f1 f2 f3 f4 f5 f6 f7 f8 f9 f10 f11 f12 f13 f14 f15 f16 f17 f18 f19 f20 f21 fL fN fP fM fO) := hD
    have htr_8 := congrArg Int32.toInt hr_8_0
    have hneg : ((-1) : Int32).toInt = -1 := by decide
    have lit_8 : (0 : Int32).toInt = 0 := by decide
    exact W.iret hx hb hr (fun t ht hW => ⟨⟨_, _, rfl, rfl, 0, y_2, f_7, (q0.back (by omega) (by omega) hc9), (by first | omega | assumption | rfl | decide), by rw [ht]; exact hP, va_K.moved hW.alike hK, hD⟩, hS.F ht⟩) hS.2.2 dX10_back_48
  · have tk_1 := c_eq (a := x2.toInt) (b := 0) rfl (by decide) k_1
    refine lv_aload_n hx hb dX10_back_7 rfl (lv_at hl 0 rfl) ?_
    refine lv_iconst (v := 5) hx hb dX10_back_8 (by decide) ?_
    have lit_9 : (5 : Int32).toInt = 5 := by decide
    have hFc := m_free hD hS hA
    refine va_calli (va_runV (As := [.int 5]) (rest := []) ⟨hx, hb, hml, hown, hts⟩ (m_refuse l dC dI ad kc x0 x1 x2 x3 x4 x5 x6 x7 x8 x9 x10 x11 x12 x13 x14 x15 x16 x17 x18 x19 x20 x21 f0 f1 f2 f3 f4 f5 f6 f7 f8 f9 f10 f11 f12 f13 f14 f15 f16 f17 f18 f19 f20 f21 fL fN fP fM fO H.size 5 ) (cwV 1 hts mg_X10_backm_X10_refuse_204 rfl rfl rfl (by decide +kernel) ⟨Nat.le_of_ble_eq_true rfl, Nat.le_of_ble_eq_true rfl⟩) ⟨fun a U g mk q => by obtain ⟨q0, q1, qP, qK, qD⟩ := q; exact ⟨q0, q1, qP, va_K.moved (u := U) (U := U.calling g mk a) (Vm.Alike.refl U.vm) qK, qD⟩, va_recv hK hP (ci := 10) (q0 := 0) rfl rfl, fun U hU hW => ⟨rfl, by rw [hU], by rw [hU]; exact hP, va_K.moved hW.alike hK, hD.weaken (fun _ _ _ _ => trivial)⟩⟩ rfl rfl hl.1 rfl (lv_room (Nat.le_of_ble_eq_true rfl)) dX10_back_9 ⟨Nat.le_of_ble_eq_true rfl, Nat.le_of_ble_eq_true rfl⟩) hS (fun q _ h => hFc q h) hFc (fun r_11 u t H1 locs ht hvm hw hB hz1 hk1 hS => ?_)
    subst hw
    obtain ⟨hr_11_0, hP, hK1, hD1⟩ := hB
    rw [ht] at hP
    have hD := hD1.weaken (fun k q _ h => hFc q.1 h)
    clear hz1 hk1 hFc hD1 hK1 hvm
    generalize H1 = H at hP hS ⊢
    have rg_r_11 := i_rng r_11
    have hP : va_P (dC, dI) vwCl (mW ad kc 5 x1 x2 x3 x4 x5 x6 x7 x8 x9 x10 x11 x12 x13 x14 x15 x16 x17 x18 x19 x20 x21 f0 f1 f2 f3 f4 f5 f6 f7 f8 f9 f10 f11 f12 f13 f14 f15 f16 f17 f18 f19 f20 f21 fL fN fP fM fO) H := hP
    have hD : va_D A (mW ad kc 5 x1 x2 x3 x4 x5 x6 x7 x8 x9 x10 x11 x12 x13 x14 x15 x16 x17 x18 x19 x20 x21 f0 f1 f2 f3 f4 f5 f6 f7 f8 f9 f10 f11 f12 f13 f14 f15 f16 f17 f18 f19 f20 f21 fL fN fP fM fO) := hD
    have htr_11 := congrArg Int32.toInt hr_11_0
    have hneg : ((-1) : Int32).toInt = -1 := by decide
    have lit_11 : (5 : Int32).toInt = 5 := by decide
    exact W.iret hx hb hr (fun t ht hW => ⟨⟨_, _, rfl, rfl, 5, x2, f0, q0, (by first | omega | assumption | rfl | decide), by rw [ht]; exact hP, va_K.moved hW.alike hK, hD⟩, hS.F ht⟩) hS.2.2 dX10_back_12
theorem mI.far {a k t : Int} {f g : Nat → Int32} {P P' : Nat → Nat → Nat} (h : mI a k t f P) (hd : OKd g 0) (e : ∀ z : Int, 7820 ≤ z → vI g z = vI f z) (hp : PI P') : mI a k t g P' := ⟨h.1, h.2.1, h.2.2.1, hd, fun j a1 a2 => (h.2.2.2.2.1 j a1 a2).far (fun z h1 _ => e z (by omega)), fun j a1 a2 => (h.2.2.2.2.2.1 j a1 a2).far (fun z h1 _ => e z (by omega)), hp⟩
theorem dX10_would_0 : decode cX10_would 0 = .ok (.aload_n 0, 1) := by decide +kernel
theorem dX10_would_1 : decode cX10_would 1 = .ok (.iload_n 1, 1) := by decide +kernel
theorem dX10_would_2 : decode cX10_would 2 = .ok (.iload_n 2, 1) := by decide +kernel
theorem dX10_would_3 : decode cX10_would 3 = .ok (.iload_n 3, 1) := by decide +kernel
theorem dX10_would_4 : decode cX10_would 4 = .ok (.invokevirtual 470, 3) := by decide +kernel
theorem dX10_would_7 : decode cX10_would 7 = .ok (.istore 4, 2) := by decide +kernel
theorem dX10_would_9 : decode cX10_would 9 = .ok (.iload 4, 2) := by decide +kernel
theorem dX10_would_11 : decode cX10_would 11 = .ok (.ifCond .le 10, 3) := by decide +kernel
theorem dX10_would_14 : decode cX10_would 14 = .ok (.aload_n 0, 1) := by decide +kernel
theorem dX10_would_15 : decode cX10_would 15 = .ok (.iload 4, 2) := by decide +kernel
theorem dX10_would_17 : decode cX10_would 17 = .ok (.invokevirtual 204, 3) := by decide +kernel
theorem dX10_would_20 : decode cX10_would 20 = .ok (.ireturn, 1) := by decide +kernel
theorem dX10_would_21 : decode cX10_would 21 = .ok (.aload_n 0, 1) := by decide +kernel
theorem dX10_would_22 : decode cX10_would 22 = .ok (.iload_n 1, 1) := by decide +kernel
theorem dX10_would_23 : decode cX10_would 23 = .ok (.iload_n 2, 1) := by decide +kernel
theorem dX10_would_24 : decode cX10_would 24 = .ok (.invokevirtual 399, 3) := by decide +kernel
theorem dX10_would_27 : decode cX10_would 27 = .ok (.istore 5, 2) := by decide +kernel
theorem dX10_would_29 : decode cX10_would 29 = .ok (.aload_n 0, 1) := by decide +kernel
theorem dX10_would_30 : decode cX10_would 30 = .ok (.iload_n 1, 1) := by decide +kernel
theorem dX10_would_31 : decode cX10_would 31 = .ok (.iload_n 1, 1) := by decide +kernel
theorem dX10_would_32 : decode cX10_would 32 = .ok (.iconst 1, 1) := by decide +kernel
theorem dX10_would_33 : decode cX10_would 33 = .ok (.iadd, 1) := by decide +kernel
theorem dX10_would_34 : decode cX10_would 34 = .ok (.invokevirtual 436, 3) := by decide +kernel
theorem dX10_would_37 : decode cX10_would 37 = .ok (.istore 6, 2) := by decide +kernel
theorem dX10_would_39 : decode cX10_would 39 = .ok (.aload_n 0, 1) := by decide +kernel
theorem dX10_would_40 : decode cX10_would 40 = .ok (.iload_n 1, 1) := by decide +kernel
theorem dX10_would_41 : decode cX10_would 41 = .ok (.iload_n 2, 1) := by decide +kernel
theorem dX10_would_42 : decode cX10_would 42 = .ok (.iload_n 3, 1) := by decide +kernel
theorem dX10_would_43 : decode cX10_would 43 = .ok (.invokevirtual 473, 3) := by decide +kernel
theorem dX10_would_46 : decode cX10_would 46 = .ok (.aload_n 0, 1) := by decide +kernel
theorem dX10_would_47 : decode cX10_would 47 = .ok (.iload_n 1, 1) := by decide +kernel
theorem dX10_would_48 : decode cX10_would 48 = .ok (.iload_n 1, 1) := by decide +kernel
theorem dX10_would_49 : decode cX10_would 49 = .ok (.iconst 1, 1) := by decide +kernel
theorem dX10_would_50 : decode cX10_would 50 = .ok (.iadd, 1) := by decide +kernel
theorem dX10_would_51 : decode cX10_would 51 = .ok (.invokevirtual 436, 3) := by decide +kernel
theorem dX10_would_54 : decode cX10_would 54 = .ok (.istore 7, 2) := by decide +kernel
theorem dX10_would_56 : decode cX10_would 56 = .ok (.aload_n 0, 1) := by decide +kernel
theorem dX10_would_57 : decode cX10_would 57 = .ok (.iload_n 1, 1) := by decide +kernel
theorem dX10_would_58 : decode cX10_would 58 = .ok (.iload_n 2, 1) := by decide +kernel
theorem dX10_would_59 : decode cX10_would 59 = .ok (.iload 5, 2) := by decide +kernel
theorem dX10_would_61 : decode cX10_would 61 = .ok (.invokevirtual 473, 3) := by decide +kernel
theorem dX10_would_64 : decode cX10_would 64 = .ok (.aload_n 0, 1) := by decide +kernel
theorem dX10_would_65 : decode cX10_would 65 = .ok (.iload 7, 2) := by decide +kernel
theorem dX10_would_67 : decode cX10_would 67 = .ok (.iload 6, 2) := by decide +kernel
theorem dX10_would_69 : decode cX10_would 69 = .ok (.isub, 1) := by decide +kernel
theorem dX10_would_70 : decode cX10_would 70 = .ok (.invokevirtual 214, 3) := by decide +kernel
theorem dX10_would_73 : decode cX10_would 73 = .ok (.ireturn, 1) := by decide +kernel
def mwX10_wouldm : List Cond := .code yX10_would cX10_would 8 (some .int) :: (([.methodLink RX10 470 yX10_wrongPut, .instanceMethod yX10_wrongPut, .selects RX10 yX10_wrongPut yX10_wrongPut, .initialized RX10, .methodLink RX10 399 yX10_at, .instanceMethod yX10_at, .selects RX10 yX10_at yX10_at, .methodLink RX10 436 yX10_unlike, .instanceMethod yX10_unlike, .selects RX10 yX10_unlike yX10_unlike, .methodLink RX10 473 yX10_sets, .instanceMethod yX10_sets, .selects RX10 yX10_sets yX10_sets, .methodLink RX10 214 yX10_gives, .instanceMethod yX10_gives, .selects RX10 yX10_gives yX10_gives, .methodLink RX10 204 yX10_refuse, .instanceMethod yX10_refuse, .selects RX10 yX10_refuse yX10_refuse] : List Cond) ++ (mwX10_wrongPutm ++ (mwX10_atm ++ (mwX10_unlikem ++ (mwX10_setsm ++ (mwX10_givesm ++ (mwX10_refusem)))))))
set_option maxRecDepth 20000 in
theorem mg_X10_wouldm_X10_wrongPut_470 : GoodIn mwX10_wouldm (wsV RX10 470 RX10 yX10_wrongPut mwX10_wrongPutm) := gi_app (A := [.methodLink RX10 470 yX10_wrongPut, .instanceMethod yX10_wrongPut, .selects RX10 yX10_wrongPut yX10_wrongPut, .initialized RX10]) (goodIn_r _ [1, 2, 3, 4] (by decide +kernel) (by decide +kernel)) (gi_sub gd_mwX10_wrongPutm (fun w h => List.mem_cons_of_mem _ (List.mem_append_right _ (List.mem_append_left _ h))))
set_option maxRecDepth 20000 in
theorem mg_X10_wouldm_X10_at_399 : GoodIn mwX10_wouldm (wsV RX10 399 RX10 yX10_at mwX10_atm) := gi_app (A := [.methodLink RX10 399 yX10_at, .instanceMethod yX10_at, .selects RX10 yX10_at yX10_at, .initialized RX10]) (goodIn_r _ [5, 6, 7, 4] (by decide +kernel) (by decide +kernel)) (gi_sub gd_mwX10_atm (fun w h => List.mem_cons_of_mem _ (List.mem_append_right _ (List.mem_append_right _ (List.mem_append_left _ h)))))
set_option maxRecDepth 20000 in
theorem mg_X10_wouldm_X10_unlike_436 : GoodIn mwX10_wouldm (wsV RX10 436 RX10 yX10_unlike mwX10_unlikem) := gi_app (A := [.methodLink RX10 436 yX10_unlike, .instanceMethod yX10_unlike, .selects RX10 yX10_unlike yX10_unlike, .initialized RX10]) (goodIn_r _ [8, 9, 10, 4] (by decide +kernel) (by decide +kernel)) (gi_sub gd_mwX10_unlikem (fun w h => List.mem_cons_of_mem _ (List.mem_append_right _ (List.mem_append_right _ (List.mem_append_right _ (List.mem_append_left _ h))))))
set_option maxRecDepth 20000 in
theorem mg_X10_wouldm_X10_sets_473 : GoodIn mwX10_wouldm (wsV RX10 473 RX10 yX10_sets mwX10_setsm) := gi_app (A := [.methodLink RX10 473 yX10_sets, .instanceMethod yX10_sets, .selects RX10 yX10_sets yX10_sets, .initialized RX10]) (goodIn_r _ [11, 12, 13, 4] (by decide +kernel) (by decide +kernel)) (gi_sub gd_mwX10_setsm (fun w h => List.mem_cons_of_mem _ (List.mem_append_right _ (List.mem_append_right _ (List.mem_append_right _ (List.mem_append_right _ (List.mem_append_left _ h)))))))
set_option maxRecDepth 20000 in
theorem mg_X10_wouldm_X10_gives_214 : GoodIn mwX10_wouldm (wsV RX10 214 RX10 yX10_gives mwX10_givesm) := gi_app (A := [.methodLink RX10 214 yX10_gives, .instanceMethod yX10_gives, .selects RX10 yX10_gives yX10_gives, .initialized RX10]) (goodIn_r _ [14, 15, 16, 4] (by decide +kernel) (by decide +kernel)) (gi_sub gd_mwX10_givesm (fun w h => List.mem_cons_of_mem _ (List.mem_append_right _ (List.mem_append_right _ (List.mem_append_right _ (List.mem_append_right _ (List.mem_append_right _ (List.mem_append_left _ h))))))))
set_option maxRecDepth 20000 in
theorem mg_X10_wouldm_X10_refuse_204 : GoodIn mwX10_wouldm (wsV RX10 204 RX10 yX10_refuse mwX10_refusem) := gi_app (A := [.methodLink RX10 204 yX10_refuse, .instanceMethod yX10_refuse, .selects RX10 yX10_refuse yX10_refuse, .initialized RX10]) (goodIn_r _ [17, 18, 19, 4] (by decide +kernel) (by decide +kernel)) (gi_sub gd_mwX10_refusem (fun w h => List.mem_cons_of_mem _ (List.mem_append_right _ (List.mem_append_right _ (List.mem_append_right _ (List.mem_append_right _ (List.mem_append_right _ (List.mem_append_right _ (h)))))))))
set_option maxHeartbeats 4000000 in
set_option maxRecDepth 100000 in
theorem m_would (l : Launch) (dC : Nat → ClassId) (dI : Nat → Nat → Nat) (ad : Nat → Nat) (kc : Nat → ClassId) (x0 x1 x2 x3 x4 x5 x6 x7 x8 x9 x10 x11 x12 x13 x14 x15 x16 x17 x18 x19 x20 x21 : Int32) (f0 f1 f2 f3 f4 f5 f6 f7 f8 f9 f10 f11 f12 f13 f14 f15 f16 f17 f18 f19 f20 f21 : Nat → Int32) (fL : Nat → Nat → Int64) (fN : Nat → Nat → Int32) (fP : Nat → Nat → Nat) (fM : Nat → Nat → Int32) (fO : Nat → Nat → Int32) (sz : Nat) (i1 i2 i3 : Int32) (q0 : mI x1.toInt x2.toInt x3.toInt f0 fP) : Met l yX10_would mwX10_wouldm ({ frames := 4, cells := 0, slots := 0, locals := 240 }) (va_Pc [.ref (ad 0), .int i1, .int i2, .int i3] (fun U => U.heap.size = sz ∧ va_P (dC, dI) vwCl (mW ad kc x0 x1 x2 x3 x4 x5 x6 x7 x8 x9 x10 x11 x12 x13 x14 x15 x16 x17 x18 x19 x20 x21 f0 f1 f2 f3 f4 f5 f6 f7 f8 f9 f10 f11 f12 f13 f14 f15 f16 f17 f18 f19 f20 f21 fL fN fP fM fO) U.heap ∧ va_K (dC, dI) vwCl (mT kc) U ∧ va_D (fun _ => True) (mW ad kc x0 x1 x2 x3 x4 x5 x6 x7 x8 x9 x10 x11 x12 x13 x14 x15 x16 x17 x18 x19 x20 x21 f0 f1 f2 f3 f4 f5 f6 f7 f8 f9 f10 f11 f12 f13 f14 f15 f16 f17 f18 f19 f20 f21 fL fN fP fM fO))) (va_Qi (fun (o9 u9 : Int32) => o9 = u9) (fun (o9 : Int32) t => ∃ (y0 : Int32) (g0 g20 : Nat → Int32), (mI x1.toInt x2.toInt x3.toInt g0 fP) ∧ va_P (dC, dI) vwCl (mW ad kc y0 x1 x2 x3 x4 x5 x6 x7 x8 x9 x10 x11 x12 x13 x14 x15 x16 x17 x18 x19 x20 x21 g0 f1 f2 f3 f4 f5 f6 f7 f8 f9 f10 f11 f12 f13 f14 f15 f16 f17 f18 f19 g20 f21 fL fN fP fM fO) t.heap ∧ va_K (dC, dI) vwCl (mT kc) t ∧ va_D (va_A (mW ad kc x0 x1 x2 x3 x4 x5 x6 x7 x8 x9 x10 x11 x12 x13 x14 x15 x16 x17 x18 x19 x20 x21 f0 f1 f2 f3 f4 f5 f6 f7 f8 f9 f10 f11 f12 f13 f14 f15 f16 f17 f18 f19 f20 f21 fL fN fP fM fO) sz) (mW ad kc y0 x1 x2 x3 x4 x5 x6 x7 x8 x9 x10 x11 x12 x13 x14 x15 x16 x17 x18 x19 x20 x21 g0 f1 f2 f3 f4 f5 f6 f7 f8 f9 f10 f11 f12 f13 f14 f15 f16 f17 f18 f19 g20 f21 fL fN fP fM fO)) (va_A (mW ad kc x0 x1 x2 x3 x4 x5 x6 x7 x8 x9 x10 x11 x12 x13 x14 x15 x16 x17 x18 x19 x20 x21 f0 f1 f2 f3 f4 f5 f6 f7 f8 f9 f10 f11 f12 f13 f14 f15 f16 f17 f18 f19 f20 f21 fL fN fP fM fO) sz)) 0 0 (va_A (mW ad kc x0 x1 x2 x3 x4 x5 x6 x7 x8 x9 x10 x11 x12 x13 x14 x15 x16 x17 x18 x19 x20 x21 f0 f1 f2 f3 f4 f5 f6 f7 f8 f9 f10 f11 f12 f13 f14 f15 f16 f17 f18 f19 f20 f21 fL fN fP fM fO) sz) := by
  refine Met.ofW (cc := cX10_would) (maxL := 8) (ret := (some .int)) (by decide +kernel) rfl ?_
  intro p e s m args below meth c s₁ B hml hv
  obtain ⟨rfl, hsz, hP, hK, hD0⟩ := hv
  have hx := B.exec
  have hb := B.bytes
  have hr := B.returns
  have hts := atoms_spec (ws := mwX10_wouldm) B.pre
  have hown : s.vm.findClass RX10 = some m.cls := findClass_of_methodNamed B.named
  have hlocks := B.notSynchronized
  subst hsz
  have hD := hD0.self (sz := s.heap.size)
  generalize hAe : va_A (mW ad kc x0 x1 x2 x3 x4 x5 x6 x7 x8 x9 x10 x11 x12 x13 x14 x15 x16 x17 x18 x19 x20 x21 f0 f1 f2 f3 f4 f5 f6 f7 f8 f9 f10 f11 f12 f13 f14 f15 f16 f17 f18 f19 f20 f21 fL fN fP fM fO) s.heap.size = A at hD ⊢
  have hA : ∀ q : Nat, s.heap.size ≤ q → A q := fun q h => by rw [← hAe]; exact Or.inr h
  have hP : va_P (dC, dI) vwCl (mW ad kc x0 x1 x2 x3 x4 x5 x6 x7 x8 x9 x10 x11 x12 x13 x14 x15 x16 x17 x18 x19 x20 x21 f0 f1 f2 f3 f4 f5 f6 f7 f8 f9 f10 f11 f12 f13 f14 f15 f16 f17 f18 f19 f20 f21 fL fN fP fM fO) s.heap := hP
  have hD : va_D A (mW ad kc x0 x1 x2 x3 x4 x5 x6 x7 x8 x9 x10 x11 x12 x13 x14 x15 x16 x17 x18 x19 x20 x21 f0 f1 f2 f3 f4 f5 f6 f7 f8 f9 f10 f11 f12 f13 f14 f15 f16 f17 f18 f19 f20 f21 fL fN fP fM fO) := hD
  have hK : va_K (dC, dI) vwCl (mT kc) s := hK
  generalize hH : s.heap = H at hP ⊢
  have hS : va_S A s.heap H [] := by rw [← hH]; exact va_S.rf
  have hl := lv_entry ([.ref (ad 0), .int i1, .int i2, .int i3]) (n := 8) (Nat.le_of_ble_eq_true rfl)
  rw [lg_entry_eq]
  generalize (lg_sl ([.ref (ad 0), .int i1, .int i2, .int i3]) ++ List.replicate (8 - (lg_sl ([.ref (ad 0), .int i1, .int i2, .int i3])).length) Slot.unset).toArray = ls at hl ⊢
  have hl : lv_has ls 8 [(0, .ref (ad 0)), (1, .int i1), (2, .int i2), (3, .int i3)] := hl
  have rg_i1 := i_rng i1
  have rg_i2 := i_rng i2
  have rg_i3 := i_rng i3
  have hd := q0.d
  have hpi := q0.p
  have hq1 := q0.1
  have hq2 := q0.2.1
  have hq3 := q0.2.2.1
  have hd10 := hd.n0
  have hp8 := hd.P0
  refine lv_aload_n hx hb dX10_would_0 rfl (lv_at hl 0 rfl) ?_
  refine lv_iload_n hx hb dX10_would_1 rfl (lv_at hl 1 rfl) ?_
  refine lv_iload_n hx hb dX10_would_2 rfl (lv_at hl 2 rfl) ?_
  refine lv_iload_n hx hb dX10_would_3 rfl (lv_at hl 3 rfl) ?_
  refine vp_callSi (W.runV (As := [.int i1, .int i2, .int i3]) (rest := []) ⟨hx, hb, hml, hown, hts⟩ (m_wrongPut l dC dI ad kc x0 x1 x2 x3 x4 x5 x6 x7 x8 x9 x10 x11 x12 x13 x14 x15 x16 x17 x18 x19 x20 x21 f0 f1 f2 f3 f4 f5 f6 f7 f8 f9 f10 f11 f12 f13 f14 f15 f16 f17 f18 f19 f20 f21 fL fN fP fM fO i1 i2 i3 (by first | omega | assumption | decide | (have l0 := Int32.toInt_zero; omega))) (cwV 3 hts mg_X10_wouldm_X10_wrongPut_470 rfl rfl rfl (by decide +kernel) ⟨Nat.le_of_ble_eq_true rfl, Nat.le_of_ble_eq_true rfl⟩) ⟨fun a U g mk q => by obtain ⟨q0, qP, qK⟩ := q; exact ⟨q0, qP, va_K.moved (u := U) (U := U.calling g mk a) (Vm.Alike.refl U.vm) qK⟩, va_recv hK hP (ci := 10) (q0 := 0) rfl rfl, fun U hU hW => ⟨rfl, by rw [hU]; exact hP, va_K.moved hW.alike hK⟩⟩ rfl rfl hl.1 rfl (lv_room (Nat.le_of_ble_eq_true rfl)) dX10_would_4 ⟨Nat.le_of_ble_eq_true rfl, Nat.le_of_ble_eq_true rfl⟩) (fun r_1 hr_1 => ?_)
  have rg_r_1 := i_rng r_1
  refine lv_istore (lv' := [(4, .int r_1), (0, .ref (ad 0)), (1, .int i1), (2, .int i2), (3, .int i3)]) hx hb dX10_would_7 hl (by decide) rfl (fun ls hl => ?_)
  refine lv_iload hx hb dX10_would_9 (lv_at hl 0 rfl) ?_
  refine lv_if_le (tgt := 21) hx hb dX10_would_11 (by decide) (fun k_2 => ?_) (fun k_2 => ?_)
  · have tk_2 := c_le (a := r_1.toInt) (b := 0) rfl (by decide) k_2
    refine lv_aload_n hx hb dX10_would_21 rfl (lv_at hl 1 rfl) ?_
    refine lv_iload_n hx hb dX10_would_22 rfl (lv_at hl 2 rfl) ?_
    refine lv_iload_n hx hb dX10_would_23 rfl (lv_at hl 3 rfl) ?_
    have hsz := hd.sz (d := i1.toInt) (by omega) (by omega)
    refine vp_callSi (W.runV (As := [.int i1, .int i2]) (rest := []) ⟨hx, hb, hml, hown, hts⟩ (m_at l dC dI ad kc x0 x1 x2 x3 x4 x5 x6 x7 x8 x9 x10 x11 x12 x13 x14 x15 x16 x17 x18 x19 x20 x21 f0 f1 f2 f3 f4 f5 f6 f7 f8 f9 f10 f11 f12 f13 f14 f15 f16 f17 f18 f19 f20 f21 fL fN fP fM fO i1 i2 (by first | omega | assumption | decide | (have l0 := Int32.toInt_zero; omega)) (by first | omega | assumption | decide | (have l0 := Int32.toInt_zero; omega)) (by first | omega | assumption | decide | (have l0 := Int32.toInt_zero; omega)) (by first | omega | assumption | decide | (have l0 := Int32.toInt_zero; omega))) (cwV 2 hts mg_X10_wouldm_X10_at_399 rfl rfl rfl (by decide +kernel) ⟨Nat.le_of_ble_eq_true rfl, Nat.le_of_ble_eq_true rfl⟩) ⟨fun a U g mk q => by obtain ⟨q0, qP, qK⟩ := q; exact ⟨q0, qP, va_K.moved (u := U) (U := U.calling g mk a) (Vm.Alike.refl U.vm) qK⟩, va_recv hK hP (ci := 10) (q0 := 0) rfl rfl, fun U hU hW => ⟨rfl, by rw [hU]; exact hP, va_K.moved hW.alike hK⟩⟩ rfl rfl hl.1 rfl (lv_room (Nat.le_of_ble_eq_true rfl)) dX10_would_24 ⟨Nat.le_of_ble_eq_true rfl, Nat.le_of_ble_eq_true rfl⟩) (fun r_3 hr_3 => ?_)
    have rg_r_3 := i_rng r_3
    have hlr_3 := OKd.lt hd (d := i1.toInt) (k := i2.toInt) (by omega) (by omega) (by omega) (by omega)
    refine lv_istore (lv' := [(5, .int r_3), (4, .int r_1), (0, .ref (ad 0)), (1, .int i1), (2, .int i2), (3, .int i3)]) hx hb dX10_would_27 hl (by decide) rfl (fun ls hl => ?_)
    refine lv_aload_n hx hb dX10_would_29 rfl (lv_at hl 2 rfl) ?_
    refine lv_iload_n hx hb dX10_would_30 rfl (lv_at hl 3 rfl) ?_
    refine lv_iload_n hx hb dX10_would_31 rfl (lv_at hl 3 rfl) ?_
    refine lv_iconst (v := 1) hx hb dX10_would_32 (by decide) ?_
    refine lv_iadd hx hb dX10_would_33 ?_
    refine lv_topi (fun y_4 ey_4 => ?_)
    first | have ty_4 := i_add (a := i1.toInt) (b := 1) rfl (by decide) ey_4 (by omega) (by omega) | skip
    have hFc := m_free hD hS hA
    refine va_calli (va_runV (As := [.int i1, .int y_4]) (rest := []) ⟨hx, hb, hml, hown, hts⟩ (m_unlike l dC dI ad kc x0 x1 x2 x3 x4 x5 x6 x7 x8 x9 x10 x11 x12 x13 x14 x15 x16 x17 x18 x19 x20 x21 f0 f1 f2 f3 f4 f5 f6 f7 f8 f9 f10 f11 f12 f13 f14 f15 f16 f17 f18 f19 f20 f21 fL fN fP fM fO H.size i1 y_4 (by first | omega | assumption | decide | (have l0 := Int32.toInt_zero; omega)) (by first | omega | assumption | decide | (have l0 := Int32.toInt_zero; omega)) (by first | omega | assumption | decide | (have l0 := Int32.toInt_zero; omega))) (cwV 2 hts mg_X10_wouldm_X10_unlike_436 rfl rfl rfl (by decide +kernel) ⟨Nat.le_of_ble_eq_true rfl, Nat.le_of_ble_eq_true rfl⟩) ⟨fun a U g mk q => by obtain ⟨q0, q1, qP, qK, qD⟩ := q; exact ⟨q0, q1, qP, va_K.moved (u := U) (U := U.calling g mk a) (Vm.Alike.refl U.vm) qK, qD⟩, va_recv hK hP (ci := 10) (q0 := 0) rfl rfl, fun U hU hW => ⟨rfl, by rw [hU], by rw [hU]; exact hP, va_K.moved hW.alike hK, hD.weaken (fun _ _ _ _ => trivial)⟩⟩ rfl rfl hl.1 rfl (lv_room (Nat.le_of_ble_eq_true rfl)) dX10_would_34 ⟨Nat.le_of_ble_eq_true rfl, Nat.le_of_ble_eq_true rfl⟩) hS (fun q _ h => hFc q h) hFc (fun r_5 u t H1 locs ht hvm hw hB hz1 hk1 hS => ?_)
    subst hw
    obtain ⟨f_6, hP, hK1, hD1⟩ := hB
    rw [ht] at hP
    have hD := hD1.weaken (fun k q _ h => hFc q.1 h)
    clear hz1 hk1 hFc hD1 hK1 hvm
    generalize H1 = H at hP hS ⊢
    have rg_r_5 := i_rng r_5
    have hP : va_P (dC, dI) vwCl (mW ad kc x0 x1 x2 x3 x4 x5 x6 x7 x8 x9 x10 x11 x12 x13 x14 x15 x16 x17 x18 x19 x20 x21 f0 f1 f2 f3 f4 f5 f6 f7 f8 f9 f10 f11 f12 f13 f14 f15 f16 f17 f18 f19 f_6 f21 fL fN fP fM fO) H := hP
    have hD : va_D A (mW ad kc x0 x1 x2 x3 x4 x5 x6 x7 x8 x9 x10 x11 x12 x13 x14 x15 x16 x17 x18 x19 x20 x21 f0 f1 f2 f3 f4 f5 f6 f7 f8 f9 f10 f11 f12 f13 f14 f15 f16 f17 f18 f19 f_6 f21 fL fN fP fM fO) := hD
    refine lv_istore (lv' := [(6, .int r_5), (5, .int r_3), (4, .int r_1), (0, .ref (ad 0)), (1, .int i1), (2, .int i2), (3, .int i3)]) hx hb dX10_would_37 hl (by decide) rfl (fun ls hl => ?_)
    refine lv_aload_n hx hb dX10_would_39 rfl (lv_at hl 3 rfl) ?_
    refine lv_iload_n hx hb dX10_would_40 rfl (lv_at hl 4 rfl) ?_
    refine lv_iload_n hx hb dX10_would_41 rfl (lv_at hl 5 rfl) ?_
    refine lv_iload_n hx hb dX10_would_42 rfl (lv_at hl 6 rfl) ?_
    have hFc := m_free hD hS hA
    refine va_callv (va_runV (As := [.int i1, .int i2, .int i3]) (rest := []) ⟨hx, hb, hml, hown, hts⟩ (m_sets l dC dI ad kc x0 x1 x2 x3 x4 x5 x6 x7 x8 x9 x10 x11 x12 x13 x14 x15 x16 x17 x18 x19 x20 x21 f0 f1 f2 f3 f4 f5 f6 f7 f8 f9 f10 f11 f12 f13 f14 f15 f16 f17 f18 f19 f_6 f21 fL fN fP fM fO H.size i1 i2 i3 (by first | omega | assumption | decide | (have l0 := Int32.toInt_zero; omega)) (by first | omega | assumption | decide | (have l0 := Int32.toInt_zero; omega))) (cwV 3 hts mg_X10_wouldm_X10_sets_473 rfl rfl rfl (by decide +kernel) ⟨Nat.le_of_ble_eq_true rfl, Nat.le_of_ble_eq_true rfl⟩) ⟨fun a U g mk q => by obtain ⟨q0, q1, qP, qK, qD⟩ := q; exact ⟨q0, q1, qP, va_K.moved (u := U) (U := U.calling g mk a) (Vm.Alike.refl U.vm) qK, qD⟩, va_recv hK hP (ci := 10) (q0 := 0) rfl rfl, fun U hU hW => ⟨rfl, by rw [hU], by rw [hU]; exact hP, va_K.moved hW.alike hK, hD.weaken (fun _ _ _ _ => trivial)⟩⟩ rfl rfl hl.1 rfl (lv_room (Nat.le_of_ble_eq_true rfl)) dX10_would_43 ⟨Nat.le_of_ble_eq_true rfl, Nat.le_of_ble_eq_true rfl⟩) hS (fun q _ h => hFc q h) hFc (fun u t H1 locs ht hvm hw hB hz1 hk1 hS => ?_)
    obtain ⟨f_8, hr_7_0, hP, hK1, hD1⟩ := hB
    rw [ht] at hP
    have hD := hD1.weaken (fun k q _ h => hFc q.1 h)
    clear hz1 hk1 hFc hD1 hK1 hvm
    generalize H1 = H at hP hS ⊢
    have hP : va_P (dC, dI) vwCl (mW ad kc x0 x1 x2 x3 x4 x5 x6 x7 x8 x9 x10 x11 x12 x13 x14 x15 x16 x17 x18 x19 x20 x21 f_8 f1 f2 f3 f4 f5 f6 f7 f8 f9 f10 f11 f12 f13 f14 f15 f16 f17 f18 f19 f_6 f21 fL fN fP fM fO) H := hP
    have hD : va_D A (mW ad kc x0 x1 x2 x3 x4 x5 x6 x7 x8 x9 x10 x11 x12 x13 x14 x15 x16 x17 x18 x19 x20 x21 f_8 f1 f2 f3 f4 f5 f6 f7 f8 f9 f10 f11 f12 f13 f14 f15 f16 f17 f18 f19 f_6 f21 fL fN fP fM fO) := hD
    have hd9 := hd.put (by omega) (by omega) (by omega) (by omega) (by omega) (by omega) hr_7_0
    have hz9 := hr_7_0.2 0 (by omega) (by omega)
    refine lv_aload_n hx hb dX10_would_46 rfl (lv_at hl 3 rfl) ?_
    refine lv_iload_n hx hb dX10_would_47 rfl (lv_at hl 4 rfl) ?_
    refine lv_iload_n hx hb dX10_would_48 rfl (lv_at hl 4 rfl) ?_
    refine lv_iconst (v := 1) hx hb dX10_would_49 (by decide) ?_
    refine lv_iadd hx hb dX10_would_50 ?_
    refine lv_topi (fun y_9 ey_9 => ?_)
    first | have ty_9 := i_add (a := i1.toInt) (b := 1) rfl (by decide) ey_9 (by omega) (by omega) | skip
    have hFc := m_free hD hS hA
    refine va_calli (va_runV (As := [.int i1, .int y_9]) (rest := []) ⟨hx, hb, hml, hown, hts⟩ (m_unlike l dC dI ad kc x0 x1 x2 x3 x4 x5 x6 x7 x8 x9 x10 x11 x12 x13 x14 x15 x16 x17 x18 x19 x20 x21 f_8 f1 f2 f3 f4 f5 f6 f7 f8 f9 f10 f11 f12 f13 f14 f15 f16 f17 f18 f19 f_6 f21 fL fN fP fM fO H.size i1 y_9 (by first | omega | assumption | decide | (have l0 := Int32.toInt_zero; omega)) (by first | omega | assumption | decide | (have l0 := Int32.toInt_zero; omega)) (by first | omega | assumption | decide | (have l0 := Int32.toInt_zero; omega))) (cwV 2 hts mg_X10_wouldm_X10_unlike_436 rfl rfl rfl (by decide +kernel) ⟨Nat.le_of_ble_eq_true rfl, Nat.le_of_ble_eq_true rfl⟩) ⟨fun a U g mk q => by obtain ⟨q0, q1, qP, qK, qD⟩ := q; exact ⟨q0, q1, qP, va_K.moved (u := U) (U := U.calling g mk a) (Vm.Alike.refl U.vm) qK, qD⟩, va_recv hK hP (ci := 10) (q0 := 0) rfl rfl, fun U hU hW => ⟨rfl, by rw [hU], by rw [hU]; exact hP, va_K.moved hW.alike hK, hD.weaken (fun _ _ _ _ => trivial)⟩⟩ rfl rfl hl.1 rfl (lv_room (Nat.le_of_ble_eq_true rfl)) dX10_would_51 ⟨Nat.le_of_ble_eq_true rfl, Nat.le_of_ble_eq_true rfl⟩) hS (fun q _ h => hFc q h) hFc (fun r_10 u t H1 locs ht hvm hw hB hz1 hk1 hS => ?_)
    subst hw
    obtain ⟨f_11, hP, hK1, hD1⟩ := hB
    rw [ht] at hP
    have hD := hD1.weaken (fun k q _ h => hFc q.1 h)
    clear hz1 hk1 hFc hD1 hK1 hvm
    generalize H1 = H at hP hS ⊢
    have rg_r_10 := i_rng r_10
    have hP : va_P (dC, dI) vwCl (mW ad kc x0 x1 x2 x3 x4 x5 x6 x7 x8 x9 x10 x11 x12 x13 x14 x15 x16 x17 x18 x19 x20 x21 f_8 f1 f2 f3 f4 f5 f6 f7 f8 f9 f10 f11 f12 f13 f14 f15 f16 f17 f18 f19 f_11 f21 fL fN fP fM fO) H := hP
    have hD : va_D A (mW ad kc x0 x1 x2 x3 x4 x5 x6 x7 x8 x9 x10 x11 x12 x13 x14 x15 x16 x17 x18 x19 x20 x21 f_8 f1 f2 f3 f4 f5 f6 f7 f8 f9 f10 f11 f12 f13 f14 f15 f16 f17 f18 f19 f_11 f21 fL fN fP fM fO) := hD
    refine lv_istore (lv' := [(7, .int r_10), (6, .int r_5), (5, .int r_3), (4, .int r_1), (0, .ref (ad 0)), (1, .int i1), (2, .int i2), (3, .int i3)]) hx hb dX10_would_54 hl (by decide) rfl (fun ls hl => ?_)
    refine lv_aload_n hx hb dX10_would_56 rfl (lv_at hl 4 rfl) ?_
    refine lv_iload_n hx hb dX10_would_57 rfl (lv_at hl 5 rfl) ?_
    refine lv_iload_n hx hb dX10_would_58 rfl (lv_at hl 6 rfl) ?_
    refine lv_iload hx hb dX10_would_59 (lv_at hl 2 rfl) ?_
    have hFc := m_free hD hS hA
    refine va_callv (va_runV (As := [.int i1, .int i2, .int r_3]) (rest := []) ⟨hx, hb, hml, hown, hts⟩ (m_sets l dC dI ad kc x0 x1 x2 x3 x4 x5 x6 x7 x8 x9 x10 x11 x12 x13 x14 x15 x16 x17 x18 x19 x20 x21 f_8 f1 f2 f3 f4 f5 f6 f7 f8 f9 f10 f11 f12 f13 f14 f15 f16 f17 f18 f19 f_11 f21 fL fN fP fM fO H.size i1 i2 r_3 (by first | omega | assumption | decide | (have l0 := Int32.toInt_zero; omega)) (by first | omega | assumption | decide | (have l0 := Int32.toInt_zero; omega))) (cwV 3 hts mg_X10_wouldm_X10_sets_473 rfl rfl rfl (by decide +kernel) ⟨Nat.le_of_ble_eq_true rfl, Nat.le_of_ble_eq_true rfl⟩) ⟨fun a U g mk q => by obtain ⟨q0, q1, qP, qK, qD⟩ := q; exact ⟨q0, q1, qP, va_K.moved (u := U) (U := U.calling g mk a) (Vm.Alike.refl U.vm) qK, qD⟩, va_recv hK hP (ci := 10) (q0 := 0) rfl rfl, fun U hU hW => ⟨rfl, by rw [hU], by rw [hU]; exact hP, va_K.moved hW.alike hK, hD.weaken (fun _ _ _ _ => trivial)⟩⟩ rfl rfl hl.1 rfl (lv_room (Nat.le_of_ble_eq_true rfl)) dX10_would_61 ⟨Nat.le_of_ble_eq_true rfl, Nat.le_of_ble_eq_true rfl⟩) hS (fun q _ h => hFc q h) hFc (fun u t H1 locs ht hvm hw hB hz1 hk1 hS => ?_)
    obtain ⟨f_13, hr_12_0, hP, hK1, hD1⟩ := hB
    rw [ht] at hP
    have hD := hD1.weaken (fun k q _ h => hFc q.1 h)
    clear hz1 hk1 hFc hD1 hK1 hvm
    generalize H1 = H at hP hS ⊢
    have hP : va_P (dC, dI) vwCl (mW ad kc x0 x1 x2 x3 x4 x5 x6 x7 x8 x9 x10 x11 x12 x13 x14 x15 x16 x17 x18 x19 x20 x21 f_13 f1 f2 f3 f4 f5 f6 f7 f8 f9 f10 f11 f12 f13 f14 f15 f16 f17 f18 f19 f_11 f21 fL fN fP fM fO) H := hP
    have hD : va_D A (mW ad kc x0 x1 x2 x3 x4 x5 x6 x7 x8 x9 x10 x11 x12 x13 x14 x15 x16 x17 x18 x19 x20 x21 f_13 f1 f2 f3 f4 f5 f6 f7 f8 f9 f10 f11 f12 f13 f14 f15 f16 f17 f18 f19 f_11 f21 fL fN fP fM fO) := hD
    have hd8 := hd9.put (by omega) (by omega) (by omega) (by omega) (by omega) (by omega) hr_12_0
    refine lv_aload_n hx hb dX10_would_64 rfl (lv_at hl 4 rfl) ?_
    refine lv_iload hx hb dX10_would_65 (lv_at hl 0 rfl) ?_
    refine lv_iload hx hb dX10_would_67 (lv_at hl 1 rfl) ?_
    refine lv_isub hx hb dX10_would_69 ?_
    refine lv_topi (fun y_14 ey_14 => ?_)
    first | have ty_14 := i_sub (a := r_10.toInt) (b := r_5.toInt) rfl rfl ey_14 (by omega) (by omega) | skip
    have hFc := m_free hD hS hA
    refine va_calli (va_runV (As := [.int y_14]) (rest := []) ⟨hx, hb, hml, hown, hts⟩ (m_gives l dC dI ad kc x0 x1 x2 x3 x4 x5 x6 x7 x8 x9 x10 x11 x12 x13 x14 x15 x16 x17 x18 x19 x20 x21 f_13 f1 f2 f3 f4 f5 f6 f7 f8 f9 f10 f11 f12 f13 f14 f15 f16 f17 f18 f19 f_11 f21 fL fN fP fM fO H.size y_14 ) (cwV 1 hts mg_X10_wouldm_X10_gives_214 rfl rfl rfl (by decide +kernel) ⟨Nat.le_of_ble_eq_true rfl, Nat.le_of_ble_eq_true rfl⟩) ⟨fun a U g mk q => by obtain ⟨q0, q1, qP, qK, qD⟩ := q; exact ⟨q0, q1, qP, va_K.moved (u := U) (U := U.calling g mk a) (Vm.Alike.refl U.vm) qK, qD⟩, va_recv hK hP (ci := 10) (q0 := 0) rfl rfl, fun U hU hW => ⟨rfl, by rw [hU], by rw [hU]; exact hP, va_K.moved hW.alike hK, hD.weaken (fun _ _ _ _ => trivial)⟩⟩ rfl rfl hl.1 rfl (lv_room (Nat.le_of_ble_eq_true rfl)) dX10_would_70 ⟨Nat.le_of_ble_eq_true rfl, Nat.le_of_ble_eq_true rfl⟩) hS (fun q _ h => hFc q h) hFc (fun r_15 u t H1 locs ht hvm hw hB hz1 hk1 hS => ?_)
    subst hw
    obtain ⟨hr_15_0, hP, hK1, hD1⟩ := hB
    rw [ht] at hP
    have hD := hD1.weaken (fun k q _ h => hFc q.1 h)
    clear hz1 hk1 hFc hD1 hK1 hvm
    generalize H1 = H at hP hS ⊢
    have rg_r_15 := i_rng r_15
    have hP : va_P (dC, dI) vwCl (mW ad kc 0 x1 x2 x3 x4 x5 x6 x7 x8 x9 x10 x11 x12 x13 x14 x15 x16 x17 x18 x19 x20 x21 f_13 f1 f2 f3 f4 f5 f6 f7 f8 f9 f10 f11 f12 f13 f14 f15 f16 f17 f18 f19 f_11 f21 fL fN fP fM fO) H := hP
    have hD : va_D A (mW ad kc 0 x1 x2 x3 x4 x5 x6 x7 x8 x9 x10 x11 x12 x13 x14 x15 x16 x17 x18 x19 x20 x21 f_13 f1 f2 f3 f4 f5 f6 f7 f8 f9 f10 f11 f12 f13 f14 f15 f16 f17 f18 f19 f_11 f21 fL fN fP fM fO) := hD
    have lit_15 : (0 : Int32).toInt = 0 := by decide
    exact W.iret hx hb hr (fun t ht hW => ⟨⟨_, _, rfl, rfl, 0, f_13, f_11, (q0.far hd8 (fun z hz => (hr_12_0.2 z (by omega) (by omega)).trans (hr_7_0.2 z (by omega) (by omega))) hpi), by rw [ht]; exact hP, va_K.moved hW.alike hK, hD⟩, hS.F ht⟩) hS.2.2 dX10_would_73
  · have tk_2 := c_nle (a := r_1.toInt) (b := 0) rfl (by decide) k_2
    refine lv_aload_n hx hb dX10_would_14 rfl (lv_at hl 1 rfl) ?_
    refine lv_iload hx hb dX10_would_15 (lv_at hl 0 rfl) ?_
    have hFc := m_free hD hS hA
    refine va_calli (va_runV (As := [.int r_1]) (rest := []) ⟨hx, hb, hml, hown, hts⟩ (m_refuse l dC dI ad kc x0 x1 x2 x3 x4 x5 x6 x7 x8 x9 x10 x11 x12 x13 x14 x15 x16 x17 x18 x19 x20 x21 f0 f1 f2 f3 f4 f5 f6 f7 f8 f9 f10 f11 f12 f13 f14 f15 f16 f17 f18 f19 f20 f21 fL fN fP fM fO H.size r_1 ) (cwV 1 hts mg_X10_wouldm_X10_refuse_204 rfl rfl rfl (by decide +kernel) ⟨Nat.le_of_ble_eq_true rfl, Nat.le_of_ble_eq_true rfl⟩) ⟨fun a U g mk q => by obtain ⟨q0, q1, qP, qK, qD⟩ := q; exact ⟨q0, q1, qP, va_K.moved (u := U) (U := U.calling g mk a) (Vm.Alike.refl U.vm) qK, qD⟩, va_recv hK hP (ci := 10) (q0 := 0) rfl rfl, fun U hU hW => ⟨rfl, by rw [hU], by rw [hU]; exact hP, va_K.moved hW.alike hK, hD.weaken (fun _ _ _ _ => trivial)⟩⟩ rfl rfl hl.1 rfl (lv_room (Nat.le_of_ble_eq_true rfl)) dX10_would_17 ⟨Nat.le_of_ble_eq_true rfl, Nat.le_of_ble_eq_true rfl⟩) hS (fun q _ h => hFc q h) hFc (fun r_17 u t H1 locs ht hvm hw hB hz1 hk1 hS => ?_)
    subst hw
    obtain ⟨hr_17_0, hP, hK1, hD1⟩ := hB
    rw [ht] at hP
    have hD := hD1.weaken (fun k q _ h => hFc q.1 h)
    clear hz1 hk1 hFc hD1 hK1 hvm
    generalize H1 = H at hP hS ⊢
    have rg_r_17 := i_rng r_17
    have hP : va_P (dC, dI) vwCl (mW ad kc r_1 x1 x2 x3 x4 x5 x6 x7 x8 x9 x10 x11 x12 x13 x14 x15 x16 x17 x18 x19 x20 x21 f0 f1 f2 f3 f4 f5 f6 f7 f8 f9 f10 f11 f12 f13 f14 f15 f16 f17 f18 f19 f20 f21 fL fN fP fM fO) H := hP
    have hD : va_D A (mW ad kc r_1 x1 x2 x3 x4 x5 x6 x7 x8 x9 x10 x11 x12 x13 x14 x15 x16 x17 x18 x19 x20 x21 f0 f1 f2 f3 f4 f5 f6 f7 f8 f9 f10 f11 f12 f13 f14 f15 f16 f17 f18 f19 f20 f21 fL fN fP fM fO) := hD
    exact W.iret hx hb hr (fun t ht hW => ⟨⟨_, _, rfl, rfl, r_1, f0, f20, q0, by rw [ht]; exact hP, va_K.moved hW.alike hK, hD⟩, hS.F ht⟩) hS.2.2 dX10_would_20
theorem dX10_best_0 : decode cX10_best 0 = .ok (.aload_n 0, 1) := by decide +kernel
theorem dX10_best_1 : decode cX10_best 1 = .ok (.iload_n 1, 1) := by decide +kernel
theorem dX10_best_2 : decode cX10_best 2 = .ok (.iload_n 2, 1) := by decide +kernel
theorem dX10_best_3 : decode cX10_best 3 = .ok (.iconst 0, 1) := by decide +kernel
theorem dX10_best_4 : decode cX10_best 4 = .ok (.invokevirtual 470, 3) := by decide +kernel
theorem dX10_best_7 : decode cX10_best 7 = .ok (.istore_n 3, 1) := by decide +kernel
theorem dX10_best_8 : decode cX10_best 8 = .ok (.iload_n 3, 1) := by decide +kernel
theorem dX10_best_9 : decode cX10_best 9 = .ok (.ifCond .le 9, 3) := by decide +kernel
theorem dX10_best_12 : decode cX10_best 12 = .ok (.aload_n 0, 1) := by decide +kernel
theorem dX10_best_13 : decode cX10_best 13 = .ok (.iload_n 3, 1) := by decide +kernel
theorem dX10_best_14 : decode cX10_best 14 = .ok (.invokevirtual 204, 3) := by decide +kernel
theorem dX10_best_17 : decode cX10_best 17 = .ok (.ireturn, 1) := by decide +kernel
theorem dX10_best_18 : decode cX10_best 18 = .ok (.aload_n 0, 1) := by decide +kernel
theorem dX10_best_19 : decode cX10_best 19 = .ok (.iload_n 1, 1) := by decide +kernel
theorem dX10_best_20 : decode cX10_best 20 = .ok (.iload_n 2, 1) := by decide +kernel
theorem dX10_best_21 : decode cX10_best 21 = .ok (.invokevirtual 399, 3) := by decide +kernel
theorem dX10_best_24 : decode cX10_best 24 = .ok (.istore 4, 2) := by decide +kernel
theorem dX10_best_26 : decode cX10_best 26 = .ok (.iconst 0, 1) := by decide +kernel
theorem dX10_best_27 : decode cX10_best 27 = .ok (.istore 5, 2) := by decide +kernel
theorem dX10_best_29 : decode cX10_best 29 = .ok (.iconst (-1), 1) := by decide +kernel
theorem dX10_best_30 : decode cX10_best 30 = .ok (.istore 6, 2) := by decide +kernel
theorem dX10_best_32 : decode cX10_best 32 = .ok (.iconst 0, 1) := by decide +kernel
theorem dX10_best_33 : decode cX10_best 33 = .ok (.istore 7, 2) := by decide +kernel
theorem dX10_best_35 : decode cX10_best 35 = .ok (.iload 7, 2) := by decide +kernel
theorem dX10_best_37 : decode cX10_best 37 = .ok (.bipush 26, 2) := by decide +kernel
theorem dX10_best_39 : decode cX10_best 39 = .ok (.if_icmp .ge 46, 3) := by decide +kernel
theorem dX10_best_42 : decode cX10_best 42 = .ok (.aload_n 0, 1) := by decide +kernel
theorem dX10_best_43 : decode cX10_best 43 = .ok (.iload_n 1, 1) := by decide +kernel
theorem dX10_best_44 : decode cX10_best 44 = .ok (.iload_n 2, 1) := by decide +kernel
theorem dX10_best_45 : decode cX10_best 45 = .ok (.iload 7, 2) := by decide +kernel
theorem dX10_best_47 : decode cX10_best 47 = .ok (.invokevirtual 473, 3) := by decide +kernel
theorem dX10_best_50 : decode cX10_best 50 = .ok (.aload_n 0, 1) := by decide +kernel
theorem dX10_best_51 : decode cX10_best 51 = .ok (.iload_n 1, 1) := by decide +kernel
theorem dX10_best_52 : decode cX10_best 52 = .ok (.iconst 0, 1) := by decide +kernel
theorem dX10_best_53 : decode cX10_best 53 = .ok (.invokevirtual 454, 3) := by decide +kernel
theorem dX10_best_56 : decode cX10_best 56 = .ok (.invokestatic 464, 3) := by decide +kernel
theorem dX10_best_59 : decode cX10_best 59 = .ok (.istore 8, 2) := by decide +kernel
theorem dX10_best_61 : decode cX10_best 61 = .ok (.iload 8, 2) := by decide +kernel
theorem dX10_best_63 : decode cX10_best 63 = .ok (.iload 6, 2) := by decide +kernel
theorem dX10_best_65 : decode cX10_best 65 = .ok (.if_icmp .gt 6, 3) := by decide +kernel
theorem dX10_best_68 : decode cX10_best 68 = .ok (.goto 11, 3) := by decide +kernel
theorem dX10_best_71 : decode cX10_best 71 = .ok (.iload 8, 2) := by decide +kernel
theorem dX10_best_73 : decode cX10_best 73 = .ok (.istore 6, 2) := by decide +kernel
theorem dX10_best_75 : decode cX10_best 75 = .ok (.iload 7, 2) := by decide +kernel
theorem dX10_best_77 : decode cX10_best 77 = .ok (.istore 5, 2) := by decide +kernel
theorem dX10_best_79 : decode cX10_best 79 = .ok (.iinc 7 1, 3) := by decide +kernel
theorem dX10_best_82 : decode cX10_best 82 = .ok (.goto (-47), 3) := by decide +kernel
theorem dX10_best_85 : decode cX10_best 85 = .ok (.aload_n 0, 1) := by decide +kernel
theorem dX10_best_86 : decode cX10_best 86 = .ok (.iload_n 1, 1) := by decide +kernel
theorem dX10_best_87 : decode cX10_best 87 = .ok (.iload_n 2, 1) := by decide +kernel
theorem dX10_best_88 : decode cX10_best 88 = .ok (.iload 4, 2) := by decide +kernel
theorem dX10_best_90 : decode cX10_best 90 = .ok (.invokevirtual 473, 3) := by decide +kernel
theorem dX10_best_93 : decode cX10_best 93 = .ok (.aload_n 0, 1) := by decide +kernel
theorem dX10_best_94 : decode cX10_best 94 = .ok (.iload 5, 2) := by decide +kernel
theorem dX10_best_96 : decode cX10_best 96 = .ok (.invokevirtual 214, 3) := by decide +kernel
theorem dX10_best_99 : decode cX10_best 99 = .ok (.ireturn, 1) := by decide +kernel
def mwX10_bestm : List Cond := .code yX10_best cX10_best 9 (some .int) :: (([.methodLink RX10 470 yX10_wrongPut, .instanceMethod yX10_wrongPut, .selects RX10 yX10_wrongPut yX10_wrongPut, .initialized RX10, .methodLink RX10 399 yX10_at, .instanceMethod yX10_at, .selects RX10 yX10_at yX10_at, .methodLink RX10 473 yX10_sets, .instanceMethod yX10_sets, .selects RX10 yX10_sets yX10_sets, .methodLink RX10 214 yX10_gives, .instanceMethod yX10_gives, .selects RX10 yX10_gives yX10_gives, .methodLink RX10 454 yX10_patternsOf, .instanceMethod yX10_patternsOf, .selects RX10 yX10_patternsOf yX10_patternsOf, .methodLink RX10 464 yX10_ones, .static yX10_ones, .methodLink RX10 204 yX10_refuse, .instanceMethod yX10_refuse, .selects RX10 yX10_refuse yX10_refuse] : List Cond) ++ (mwX10_wrongPutm ++ (mwX10_atm ++ (mwX10_setsm ++ (mwX10_givesm ++ (mwX10_patternsOfm ++ (mwX10_onesm ++ (mwX10_refusem))))))))
set_option maxRecDepth 20000 in
theorem mg_X10_bestm_X10_wrongPut_470 : GoodIn mwX10_bestm (wsV RX10 470 RX10 yX10_wrongPut mwX10_wrongPutm) := gi_app (A := [.methodLink RX10 470 yX10_wrongPut, .instanceMethod yX10_wrongPut, .selects RX10 yX10_wrongPut yX10_wrongPut, .initialized RX10]) (goodIn_r _ [1, 2, 3, 4] (by decide +kernel) (by decide +kernel)) (gi_sub gd_mwX10_wrongPutm (fun w h => List.mem_cons_of_mem _ (List.mem_append_right _ (List.mem_append_left _ h))))
set_option maxRecDepth 20000 in
theorem mg_X10_bestm_X10_at_399 : GoodIn mwX10_bestm (wsV RX10 399 RX10 yX10_at mwX10_atm) := gi_app (A := [.methodLink RX10 399 yX10_at, .instanceMethod yX10_at, .selects RX10 yX10_at yX10_at, .initialized RX10]) (goodIn_r _ [5, 6, 7, 4] (by decide +kernel) (by decide +kernel)) (gi_sub gd_mwX10_atm (fun w h => List.mem_cons_of_mem _ (List.mem_append_right _ (List.mem_append_right _ (List.mem_append_left _ h)))))
set_option maxRecDepth 20000 in
theorem mg_X10_bestm_X10_sets_473 : GoodIn mwX10_bestm (wsV RX10 473 RX10 yX10_sets mwX10_setsm) := gi_app (A := [.methodLink RX10 473 yX10_sets, .instanceMethod yX10_sets, .selects RX10 yX10_sets yX10_sets, .initialized RX10]) (goodIn_r _ [8, 9, 10, 4] (by decide +kernel) (by decide +kernel)) (gi_sub gd_mwX10_setsm (fun w h => List.mem_cons_of_mem _ (List.mem_append_right _ (List.mem_append_right _ (List.mem_append_right _ (List.mem_append_left _ h))))))
set_option maxRecDepth 20000 in
theorem mg_X10_bestm_X10_gives_214 : GoodIn mwX10_bestm (wsV RX10 214 RX10 yX10_gives mwX10_givesm) := gi_app (A := [.methodLink RX10 214 yX10_gives, .instanceMethod yX10_gives, .selects RX10 yX10_gives yX10_gives, .initialized RX10]) (goodIn_r _ [11, 12, 13, 4] (by decide +kernel) (by decide +kernel)) (gi_sub gd_mwX10_givesm (fun w h => List.mem_cons_of_mem _ (List.mem_append_right _ (List.mem_append_right _ (List.mem_append_right _ (List.mem_append_right _ (List.mem_append_left _ h)))))))
set_option maxRecDepth 20000 in
theorem mg_X10_bestm_X10_patternsOf_454 : GoodIn mwX10_bestm (wsV RX10 454 RX10 yX10_patternsOf mwX10_patternsOfm) := gi_app (A := [.methodLink RX10 454 yX10_patternsOf, .instanceMethod yX10_patternsOf, .selects RX10 yX10_patternsOf yX10_patternsOf, .initialized RX10]) (goodIn_r _ [14, 15, 16, 4] (by decide +kernel) (by decide +kernel)) (gi_sub gd_mwX10_patternsOfm (fun w h => List.mem_cons_of_mem _ (List.mem_append_right _ (List.mem_append_right _ (List.mem_append_right _ (List.mem_append_right _ (List.mem_append_right _ (List.mem_append_left _ h))))))))
set_option maxRecDepth 20000 in
theorem mg_X10_bestm_X10_ones_464 : GoodIn mwX10_bestm (va_wsS RX10 464 yX10_ones mwX10_onesm) := gi_app (A := [.methodLink RX10 464 yX10_ones, .static yX10_ones, .initialized RX10]) (goodIn_r _ [17, 18, 4] (by decide +kernel) (by decide +kernel)) (gi_sub gd_mwX10_onesm (fun w h => List.mem_cons_of_mem _ (List.mem_append_right _ (List.mem_append_right _ (List.mem_append_right _ (List.mem_append_right _ (List.mem_append_right _ (List.mem_append_right _ (List.mem_append_left _ h)))))))))
set_option maxRecDepth 20000 in
theorem mg_X10_bestm_X10_refuse_204 : GoodIn mwX10_bestm (wsV RX10 204 RX10 yX10_refuse mwX10_refusem) := gi_app (A := [.methodLink RX10 204 yX10_refuse, .instanceMethod yX10_refuse, .selects RX10 yX10_refuse yX10_refuse, .initialized RX10]) (goodIn_r _ [19, 20, 21, 4] (by decide +kernel) (by decide +kernel)) (gi_sub gd_mwX10_refusem (fun w h => List.mem_cons_of_mem _ (List.mem_append_right _ (List.mem_append_right _ (List.mem_append_right _ (List.mem_append_right _ (List.mem_append_right _ (List.mem_append_right _ (List.mem_append_right _ (h))))))))))
set_option maxHeartbeats 4000000 in
set_option maxRecDepth 100000 in
theorem m_best (l : Launch) (dC : Nat → ClassId) (dI : Nat → Nat → Nat) (ad : Nat → Nat) (kc : Nat → ClassId) (x0 x1 x2 x3 x4 x5 x6 x7 x8 x9 x10 x11 x12 x13 x14 x15 x16 x17 x18 x19 x20 x21 : Int32) (f0 f1 f2 f3 f4 f5 f6 f7 f8 f9 f10 f11 f12 f13 f14 f15 f16 f17 f18 f19 f20 f21 : Nat → Int32) (fL : Nat → Nat → Int64) (fN : Nat → Nat → Int32) (fP : Nat → Nat → Nat) (fM : Nat → Nat → Int32) (fO : Nat → Nat → Int32) (sz : Nat) (i1 i2 : Int32) (q0 : mI x1.toInt x2.toInt x3.toInt f0 fP) : Met l yX10_best mwX10_bestm ({ frames := 44, cells := 0, slots := 0, locals := 2640 }) (va_Pc [.ref (ad 0), .int i1, .int i2] (fun U => U.heap.size = sz ∧ va_P (dC, dI) vwCl (mW ad kc x0 x1 x2 x3 x4 x5 x6 x7 x8 x9 x10 x11 x12 x13 x14 x15 x16 x17 x18 x19 x20 x21 f0 f1 f2 f3 f4 f5 f6 f7 f8 f9 f10 f11 f12 f13 f14 f15 f16 f17 f18 f19 f20 f21 fL fN fP fM fO) U.heap ∧ va_K (dC, dI) vwCl (mT kc) U ∧ va_D (fun _ => True) (mW ad kc x0 x1 x2 x3 x4 x5 x6 x7 x8 x9 x10 x11 x12 x13 x14 x15 x16 x17 x18 x19 x20 x21 f0 f1 f2 f3 f4 f5 f6 f7 f8 f9 f10 f11 f12 f13 f14 f15 f16 f17 f18 f19 f20 f21 fL fN fP fM fO) ∧ (Cond.arrayOver (.array .int)).before #[] U = true)) (va_Qi (fun (o9 u9 : Int32) => o9 = u9) (fun (o9 : Int32) t => ∃ (y0 y12 y13 y14 y15 y16 y17 y18 y19 y20 y21 : Int32) (g0 g3 g4 g5 g6 g7 g8 g9 g10 g11 g12 g13 g14 g15 g16 g17 g18 g19 : Nat → Int32) (L9 : Nat → Nat → Int64) (Nn9 : Nat → Nat → Int32) (P9 : Nat → Nat → Nat) (M9 : Nat → Nat → Int32) (O9 : Nat → Nat → Int32), (mI x1.toInt x2.toInt x3.toInt g0 P9) ∧ va_P (dC, dI) vwCl (mW ad kc y0 x1 x2 x3 x4 x5 x6 x7 x8 x9 x10 x11 y12 y13 y14 y15 y16 y17 y18 y19 y20 y21 g0 f1 f2 g3 g4 g5 g6 g7 g8 g9 g10 g11 g12 g13 g14 g15 g16 g17 g18 g19 f20 f21 L9 Nn9 P9 M9 O9) t.heap ∧ va_K (dC, dI) vwCl (mT kc) t ∧ va_D (va_A (mW ad kc x0 x1 x2 x3 x4 x5 x6 x7 x8 x9 x10 x11 x12 x13 x14 x15 x16 x17 x18 x19 x20 x21 f0 f1 f2 f3 f4 f5 f6 f7 f8 f9 f10 f11 f12 f13 f14 f15 f16 f17 f18 f19 f20 f21 fL fN fP fM fO) sz) (mW ad kc y0 x1 x2 x3 x4 x5 x6 x7 x8 x9 x10 x11 y12 y13 y14 y15 y16 y17 y18 y19 y20 y21 g0 f1 f2 g3 g4 g5 g6 g7 g8 g9 g10 g11 g12 g13 g14 g15 g16 g17 g18 g19 f20 f21 L9 Nn9 P9 M9 O9)) (va_A (mW ad kc x0 x1 x2 x3 x4 x5 x6 x7 x8 x9 x10 x11 x12 x13 x14 x15 x16 x17 x18 x19 x20 x21 f0 f1 f2 f3 f4 f5 f6 f7 f8 f9 f10 f11 f12 f13 f14 f15 f16 f17 f18 f19 f20 f21 fL fN fP fM fO) sz)) 0 0 (va_A (mW ad kc x0 x1 x2 x3 x4 x5 x6 x7 x8 x9 x10 x11 x12 x13 x14 x15 x16 x17 x18 x19 x20 x21 f0 f1 f2 f3 f4 f5 f6 f7 f8 f9 f10 f11 f12 f13 f14 f15 f16 f17 f18 f19 f20 f21 fL fN fP fM fO) sz) := by
  refine Met.ofW (cc := cX10_best) (maxL := 9) (ret := (some .int)) (by decide +kernel) rfl ?_
  intro p e s m args below meth c s₁ B hml hv
  obtain ⟨rfl, hsz, hP, hK, hD0, hOV⟩ := hv
  have hx := B.exec
  have hb := B.bytes
  have hr := B.returns
  have hts := atoms_spec (ws := mwX10_bestm) B.pre
  have hown : s.vm.findClass RX10 = some m.cls := findClass_of_methodNamed B.named
  have hlocks := B.notSynchronized
  subst hsz
  have hD := hD0.self (sz := s.heap.size)
  generalize hAe : va_A (mW ad kc x0 x1 x2 x3 x4 x5 x6 x7 x8 x9 x10 x11 x12 x13 x14 x15 x16 x17 x18 x19 x20 x21 f0 f1 f2 f3 f4 f5 f6 f7 f8 f9 f10 f11 f12 f13 f14 f15 f16 f17 f18 f19 f20 f21 fL fN fP fM fO) s.heap.size = A at hD ⊢
  have hA : ∀ q : Nat, s.heap.size ≤ q → A q := fun q h => by rw [← hAe]; exact Or.inr h
  have hP : va_P (dC, dI) vwCl (mW ad kc x0 x1 x2 x3 x4 x5 x6 x7 x8 x9 x10 x11 x12 x13 x14 x15 x16 x17 x18 x19 x20 x21 f0 f1 f2 f3 f4 f5 f6 f7 f8 f9 f10 f11 f12 f13 f14 f15 f16 f17 f18 f19 f20 f21 fL fN fP fM fO) s.heap := hP
  have hD : va_D A (mW ad kc x0 x1 x2 x3 x4 x5 x6 x7 x8 x9 x10 x11 x12 x13 x14 x15 x16 x17 x18 x19 x20 x21 f0 f1 f2 f3 f4 f5 f6 f7 f8 f9 f10 f11 f12 f13 f14 f15 f16 f17 f18 f19 f20 f21 fL fN fP fM fO) := hD
  have hK : va_K (dC, dI) vwCl (mT kc) s := hK
  generalize hH : s.heap = H at hP ⊢
  have hS : va_S A s.heap H [] := by rw [← hH]; exact va_S.rf
  have hl := lv_entry ([.ref (ad 0), .int i1, .int i2]) (n := 9) (Nat.le_of_ble_eq_true rfl)
  rw [lg_entry_eq]
  generalize (lg_sl ([.ref (ad 0), .int i1, .int i2]) ++ List.replicate (9 - (lg_sl ([.ref (ad 0), .int i1, .int i2])).length) Slot.unset).toArray = ls at hl ⊢
  have hl : lv_has ls 9 [(0, .ref (ad 0)), (1, .int i1), (2, .int i2)] := hl
  have rg_i1 := i_rng i1
  have rg_i2 := i_rng i2
  have hd := q0.d
  have hpi := q0.p
  have hq1 := q0.1
  have hq2 := q0.2.1
  have hq3 := q0.2.2.1
  have hd10 := hd.n0
  have hp8 := hd.P0
  refine lv_aload_n hx hb dX10_best_0 rfl (lv_at hl 0 rfl) ?_
  refine lv_iload_n hx hb dX10_best_1 rfl (lv_at hl 1 rfl) ?_
  refine lv_iload_n hx hb dX10_best_2 rfl (lv_at hl 2 rfl) ?_
  refine lv_iconst (v := 0) hx hb dX10_best_3 (by decide) ?_
  have lit_0 : (0 : Int32).toInt = 0 := by decide
  refine vp_callSi (W.runV (As := [.int i1, .int i2, .int 0]) (rest := []) ⟨hx, hb, hml, hown, hts⟩ (m_wrongPut l dC dI ad kc x0 x1 x2 x3 x4 x5 x6 x7 x8 x9 x10 x11 x12 x13 x14 x15 x16 x17 x18 x19 x20 x21 f0 f1 f2 f3 f4 f5 f6 f7 f8 f9 f10 f11 f12 f13 f14 f15 f16 f17 f18 f19 f20 f21 fL fN fP fM fO i1 i2 0 (by first | omega | assumption | decide | (have l0 := Int32.toInt_zero; omega))) (cwV 3 hts mg_X10_bestm_X10_wrongPut_470 rfl rfl rfl (by decide +kernel) ⟨Nat.le_of_ble_eq_true rfl, Nat.le_of_ble_eq_true rfl⟩) ⟨fun a U g mk q => by obtain ⟨q0, qP, qK⟩ := q; exact ⟨q0, qP, va_K.moved (u := U) (U := U.calling g mk a) (Vm.Alike.refl U.vm) qK⟩, va_recv hK hP (ci := 10) (q0 := 0) rfl rfl, fun U hU hW => ⟨rfl, by rw [hU]; exact hP, va_K.moved hW.alike hK⟩⟩ rfl rfl hl.1 rfl (lv_room (Nat.le_of_ble_eq_true rfl)) dX10_best_4 ⟨Nat.le_of_ble_eq_true rfl, Nat.le_of_ble_eq_true rfl⟩) (fun r_2 hr_2 => ?_)
  have rg_r_2 := i_rng r_2
  refine lv_istore_n (lv' := [(3, .int r_2), (0, .ref (ad 0)), (1, .int i1), (2, .int i2)]) hx hb dX10_best_7 rfl hl (by decide) rfl (fun ls hl => ?_)
  refine lv_iload_n hx hb dX10_best_8 rfl (lv_at hl 0 rfl) ?_
  refine lv_if_le (tgt := 18) hx hb dX10_best_9 (by decide) (fun k_3 => ?_) (fun k_3 => ?_)
  · have tk_3 := c_le (a := r_2.toInt) (b := 0) rfl (by decide) k_3
    refine lv_aload_n hx hb dX10_best_18 rfl (lv_at hl 1 rfl) ?_
    refine lv_iload_n hx hb dX10_best_19 rfl (lv_at hl 2 rfl) ?_
    refine lv_iload_n hx hb dX10_best_20 rfl (lv_at hl 3 rfl) ?_
    have hsz := hd.sz (d := i1.toInt) (by omega) (by omega)
    refine vp_callSi (W.runV (As := [.int i1, .int i2]) (rest := []) ⟨hx, hb, hml, hown, hts⟩ (m_at l dC dI ad kc x0 x1 x2 x3 x4 x5 x6 x7 x8 x9 x10 x11 x12 x13 x14 x15 x16 x17 x18 x19 x20 x21 f0 f1 f2 f3 f4 f5 f6 f7 f8 f9 f10 f11 f12 f13 f14 f15 f16 f17 f18 f19 f20 f21 fL fN fP fM fO i1 i2 (by first | omega | assumption | decide | (have l0 := Int32.toInt_zero; omega)) (by first | omega | assumption | decide | (have l0 := Int32.toInt_zero; omega)) (by first | omega | assumption | decide | (have l0 := Int32.toInt_zero; omega)) (by first | omega | assumption | decide | (have l0 := Int32.toInt_zero; omega))) (cwV 2 hts mg_X10_bestm_X10_at_399 rfl rfl rfl (by decide +kernel) ⟨Nat.le_of_ble_eq_true rfl, Nat.le_of_ble_eq_true rfl⟩) ⟨fun a U g mk q => by obtain ⟨q0, qP, qK⟩ := q; exact ⟨q0, qP, va_K.moved (u := U) (U := U.calling g mk a) (Vm.Alike.refl U.vm) qK⟩, va_recv hK hP (ci := 10) (q0 := 0) rfl rfl, fun U hU hW => ⟨rfl, by rw [hU]; exact hP, va_K.moved hW.alike hK⟩⟩ rfl rfl hl.1 rfl (lv_room (Nat.le_of_ble_eq_true rfl)) dX10_best_21 ⟨Nat.le_of_ble_eq_true rfl, Nat.le_of_ble_eq_true rfl⟩) (fun r_4 hr_4 => ?_)
    have rg_r_4 := i_rng r_4
    have hlr_4 := OKd.lt hd (d := i1.toInt) (k := i2.toInt) (by omega) (by omega) (by omega) (by omega)
    refine lv_istore (lv' := [(4, .int r_4), (3, .int r_2), (0, .ref (ad 0)), (1, .int i1), (2, .int i2)]) hx hb dX10_best_24 hl (by decide) rfl (fun ls hl => ?_)
    refine lv_iconst (v := 0) hx hb dX10_best_26 (by decide) ?_
    refine lv_istore (lv' := [(5, .int 0), (4, .int r_4), (3, .int r_2), (0, .ref (ad 0)), (1, .int i1), (2, .int i2)]) hx hb dX10_best_27 hl (by decide) rfl (fun ls hl => ?_)
    refine lv_iconst (v := (-1)) hx hb dX10_best_29 (by decide) ?_
    refine lv_istore (lv' := [(6, .int (-1)), (5, .int 0), (4, .int r_4), (3, .int r_2), (0, .ref (ad 0)), (1, .int i1), (2, .int i2)]) hx hb dX10_best_30 hl (by decide) rfl (fun ls hl => ?_)
    refine lv_iconst (v := 0) hx hb dX10_best_32 (by decide) ?_
    refine lv_istore (lv' := [(7, .int 0), (6, .int (-1)), (5, .int 0), (4, .int r_4), (3, .int r_2), (0, .ref (ad 0)), (1, .int i1), (2, .int i2)]) hx hb dX10_best_33 hl (by decide) rfl (fun ls hl => ?_)
    have loop35 : ∀ (lm35 : Nat) (be mo kk xx12 xx13 xx14 xx15 xx16 xx17 xx18 xx19 xx20 xx21 : Int32) (gg0 gg3 gg4 gg5 gg6 gg7 gg8 gg9 gg10 gg11 gg12 gg13 gg14 gg15 gg16 gg17 gg18 gg19 : Nat → Int32) (la : Nat → Nat → Int64) (hn : Nat → Nat → Int32) (pp : Nat → Nat → Nat) (hm : Nat → Nat → Int32) (ho : Nat → Nat → Int32), (0 ≤ kk.toInt ∧ kk.toInt ≤ 26) → (OKd gg0 0) → (∀ z : Int, 7820 ≤ z → vI gg0 z = vI f0 z) → (PI pp) → ((26 - kk.toInt).toNat) < lm35 → ∀ (H : Heap) (locs : List Loc) (ls : Array Slot), va_P (dC, dI) vwCl (mW ad kc x0 x1 x2 x3 x4 x5 x6 x7 x8 x9 x10 x11 xx12 xx13 xx14 xx15 xx16 xx17 xx18 xx19 xx20 xx21 gg0 f1 f2 gg3 gg4 gg5 gg6 gg7 gg8 gg9 gg10 gg11 gg12 gg13 gg14 gg15 gg16 gg17 gg18 gg19 f20 f21 la hn pp hm ho) H → va_D A (mW ad kc x0 x1 x2 x3 x4 x5 x6 x7 x8 x9 x10 x11 xx12 xx13 xx14 xx15 xx16 xx17 xx18 xx19 xx20 xx21 gg0 f1 f2 gg3 gg4 gg5 gg6 gg7 gg8 gg9 gg10 gg11 gg12 gg13 gg14 gg15 gg16 gg17 gg18 gg19 f20 f21 la hn pp hm ho) → va_S A s.heap H locs → lv_has ls 9 [(7, .int kk), (6, .int mo), (5, .int be), (4, .int r_4), (3, .int r_2), (0, .ref (ad 0)), (1, .int i1), (2, .int i2)] → W p l e (headSpec mwX10_bestm ({ frames := 44, cells := 0, slots := 0, locals := 2640 })).room s m ([.ref (ad 0), .int i1, .int i2]).toArray below meth c H locs 0 0 (MQ below (va_Qi (fun (o9 u9 : Int32) => o9 = u9) (fun (o9 : Int32) t => ∃ (y0 y12 y13 y14 y15 y16 y17 y18 y19 y20 y21 : Int32) (g0 g3 g4 g5 g6 g7 g8 g9 g10 g11 g12 g13 g14 g15 g16 g17 g18 g19 : Nat → Int32) (L9 : Nat → Nat → Int64) (Nn9 : Nat → Nat → Int32) (P9 : Nat → Nat → Nat) (M9 : Nat → Nat → Int32) (O9 : Nat → Nat → Int32), (mI x1.toInt x2.toInt x3.toInt g0 P9) ∧ va_P (dC, dI) vwCl (mW ad kc y0 x1 x2 x3 x4 x5 x6 x7 x8 x9 x10 x11 y12 y13 y14 y15 y16 y17 y18 y19 y20 y21 g0 f1 f2 g3 g4 g5 g6 g7 g8 g9 g10 g11 g12 g13 g14 g15 g16 g17 g18 g19 f20 f21 L9 Nn9 P9 M9 O9) t.heap ∧ va_K (dC, dI) vwCl (mT kc) t ∧ va_D A (mW ad kc y0 x1 x2 x3 x4 x5 x6 x7 x8 x9 x10 x11 y12 y13 y14 y15 y16 y17 y18 y19 y20 y21 g0 f1 f2 g3 g4 g5 g6 g7 g8 g9 g10 g11 g12 g13 g14 g15 g16 g17 g18 g19 f20 f21 L9 Nn9 P9 M9 O9)) A) ([.ref (ad 0), .int i1, .int i2]).toArray s 0 0 A) (F0 m 35 ls []) := by
      intro lm35
      induction lm35 with
      | zero => intro be mo kk xx12 xx13 xx14 xx15 xx16 xx17 xx18 xx19 xx20 xx21 gg0 gg3 gg4 gg5 gg6 gg7 gg8 gg9 gg10 gg11 gg12 gg13 gg14 gg15 gg16 gg17 gg18 gg19 la hn pp hm ho v35_0 v35_1 v35_2 v35_3 hm35; exact absurd hm35 (Nat.not_lt_zero _)
      | succ lm35 ih35 =>
        intro be mo kk xx12 xx13 xx14 xx15 xx16 xx17 xx18 xx19 xx20 xx21 gg0 gg3 gg4 gg5 gg6 gg7 gg8 gg9 gg10 gg11 gg12 gg13 gg14 gg15 gg16 gg17 gg18 gg19 la hn pp hm ho v35_0 v35_1 v35_2 v35_3 hm35 H locs ls hP hD hS hl
        have rg_be := i_rng be
        have rg_mo := i_rng mo
        have rg_kk := i_rng kk
        have rg_xx12 := i_rng xx12
        have rg_xx13 := i_rng xx13
        have rg_xx14 := i_rng xx14
        have rg_xx15 := i_rng xx15
        have rg_xx16 := i_rng xx16
        have rg_xx17 := i_rng xx17
        have rg_xx18 := i_rng xx18
        have rg_xx19 := i_rng xx19
        have rg_xx20 := i_rng xx20
        have rg_xx21 := i_rng xx21
        refine lv_iload hx hb dX10_best_35 (lv_at hl 0 rfl) ?_
        refine lv_bipush (v := 26) hx hb dX10_best_37 (by decide) ?_
        refine lv_icmp_ge (tgt := 85) hx hb dX10_best_39 (by decide) (fun k_5 => ?_) (fun k_5 => ?_)
        · have tk_5 := c_ge (a := kk.toInt) (b := 26) rfl (by decide) k_5
          refine lv_aload_n hx hb dX10_best_85 rfl (lv_at hl 5 rfl) ?_
          refine lv_iload_n hx hb dX10_best_86 rfl (lv_at hl 6 rfl) ?_
          refine lv_iload_n hx hb dX10_best_87 rfl (lv_at hl 7 rfl) ?_
          refine lv_iload hx hb dX10_best_88 (lv_at hl 3 rfl) ?_
          have hFc := m_free hD hS hA
          refine va_callv (va_runV (As := [.int i1, .int i2, .int r_4]) (rest := []) ⟨hx, hb, hml, hown, hts⟩ (m_sets l dC dI ad kc x0 x1 x2 x3 x4 x5 x6 x7 x8 x9 x10 x11 xx12 xx13 xx14 xx15 xx16 xx17 xx18 xx19 xx20 xx21 gg0 f1 f2 gg3 gg4 gg5 gg6 gg7 gg8 gg9 gg10 gg11 gg12 gg13 gg14 gg15 gg16 gg17 gg18 gg19 f20 f21 la hn pp hm ho H.size i1 i2 r_4 (by first | omega | assumption | decide | (have l0 := Int32.toInt_zero; omega)) (by first | omega | assumption | decide | (have l0 := Int32.toInt_zero; omega))) (cwV 3 hts mg_X10_bestm_X10_sets_473 rfl rfl rfl (by decide +kernel) ⟨Nat.le_of_ble_eq_true rfl, Nat.le_of_ble_eq_true rfl⟩) ⟨fun a U g mk q => by obtain ⟨q0, q1, qP, qK, qD⟩ := q; exact ⟨q0, q1, qP, va_K.moved (u := U) (U := U.calling g mk a) (Vm.Alike.refl U.vm) qK, qD⟩, va_recv hK hP (ci := 10) (q0 := 0) rfl rfl, fun U hU hW => ⟨rfl, by rw [hU], by rw [hU]; exact hP, va_K.moved hW.alike hK, hD.weaken (fun _ _ _ _ => trivial)⟩⟩ rfl rfl hl.1 rfl (lv_room (Nat.le_of_ble_eq_true rfl)) dX10_best_90 ⟨Nat.le_of_ble_eq_true rfl, Nat.le_of_ble_eq_true rfl⟩) hS (fun q _ h => hFc q h) hFc (fun u t H1 locs ht hvm hw hB hz1 hk1 hS => ?_)
          obtain ⟨f_7, hr_6_0, hP, hK1, hD1⟩ := hB
          rw [ht] at hP
          have hD := hD1.weaken (fun k q _ h => hFc q.1 h)
          clear hz1 hk1 hFc hD1 hK1 hvm
          generalize H1 = H at hP hS ⊢
          have hP : va_P (dC, dI) vwCl (mW ad kc x0 x1 x2 x3 x4 x5 x6 x7 x8 x9 x10 x11 xx12 xx13 xx14 xx15 xx16 xx17 xx18 xx19 xx20 xx21 f_7 f1 f2 gg3 gg4 gg5 gg6 gg7 gg8 gg9 gg10 gg11 gg12 gg13 gg14 gg15 gg16 gg17 gg18 gg19 f20 f21 la hn pp hm ho) H := hP
          have hD : va_D A (mW ad kc x0 x1 x2 x3 x4 x5 x6 x7 x8 x9 x10 x11 xx12 xx13 xx14 xx15 xx16 xx17 xx18 xx19 xx20 xx21 f_7 f1 f2 gg3 gg4 gg5 gg6 gg7 gg8 gg9 gg10 gg11 gg12 gg13 gg14 gg15 gg16 gg17 gg18 gg19 f20 f21 la hn pp hm ho) := hD
          have hd8 := v35_1.put (by omega) (by omega) (by omega) (by omega) (by omega) (by omega) hr_6_0
          refine lv_aload_n hx hb dX10_best_93 rfl (lv_at hl 5 rfl) ?_
          refine lv_iload hx hb dX10_best_94 (lv_at hl 2 rfl) ?_
          have hFc := m_free hD hS hA
          refine va_calli (va_runV (As := [.int be]) (rest := []) ⟨hx, hb, hml, hown, hts⟩ (m_gives l dC dI ad kc x0 x1 x2 x3 x4 x5 x6 x7 x8 x9 x10 x11 xx12 xx13 xx14 xx15 xx16 xx17 xx18 xx19 xx20 xx21 f_7 f1 f2 gg3 gg4 gg5 gg6 gg7 gg8 gg9 gg10 gg11 gg12 gg13 gg14 gg15 gg16 gg17 gg18 gg19 f20 f21 la hn pp hm ho H.size be ) (cwV 1 hts mg_X10_bestm_X10_gives_214 rfl rfl rfl (by decide +kernel) ⟨Nat.le_of_ble_eq_true rfl, Nat.le_of_ble_eq_true rfl⟩) ⟨fun a U g mk q => by obtain ⟨q0, q1, qP, qK, qD⟩ := q; exact ⟨q0, q1, qP, va_K.moved (u := U) (U := U.calling g mk a) (Vm.Alike.refl U.vm) qK, qD⟩, va_recv hK hP (ci := 10) (q0 := 0) rfl rfl, fun U hU hW => ⟨rfl, by rw [hU], by rw [hU]; exact hP, va_K.moved hW.alike hK, hD.weaken (fun _ _ _ _ => trivial)⟩⟩ rfl rfl hl.1 rfl (lv_room (Nat.le_of_ble_eq_true rfl)) dX10_best_96 ⟨Nat.le_of_ble_eq_true rfl, Nat.le_of_ble_eq_true rfl⟩) hS (fun q _ h => hFc q h) hFc (fun r_8 u t H1 locs ht hvm hw hB hz1 hk1 hS => ?_)
          subst hw
          obtain ⟨hr_8_0, hP, hK1, hD1⟩ := hB
          rw [ht] at hP
          have hD := hD1.weaken (fun k q _ h => hFc q.1 h)
          clear hz1 hk1 hFc hD1 hK1 hvm
          generalize H1 = H at hP hS ⊢
          have rg_r_8 := i_rng r_8
          have hP : va_P (dC, dI) vwCl (mW ad kc 0 x1 x2 x3 x4 x5 x6 x7 x8 x9 x10 x11 xx12 xx13 xx14 xx15 xx16 xx17 xx18 xx19 xx20 xx21 f_7 f1 f2 gg3 gg4 gg5 gg6 gg7 gg8 gg9 gg10 gg11 gg12 gg13 gg14 gg15 gg16 gg17 gg18 gg19 f20 f21 la hn pp hm ho) H := hP
          have hD : va_D A (mW ad kc 0 x1 x2 x3 x4 x5 x6 x7 x8 x9 x10 x11 xx12 xx13 xx14 xx15 xx16 xx17 xx18 xx19 xx20 xx21 f_7 f1 f2 gg3 gg4 gg5 gg6 gg7 gg8 gg9 gg10 gg11 gg12 gg13 gg14 gg15 gg16 gg17 gg18 gg19 f20 f21 la hn pp hm ho) := hD
          have lit_8 : (0 : Int32).toInt = 0 := by decide
          exact W.iret hx hb hr (fun t ht hW => ⟨⟨_, _, rfl, rfl, 0, xx12, xx13, xx14, xx15, xx16, xx17, xx18, xx19, xx20, xx21, f_7, gg3, gg4, gg5, gg6, gg7, gg8, gg9, gg10, gg11, gg12, gg13, gg14, gg15, gg16, gg17, gg18, gg19, la, hn, pp, hm, ho, (q0.far hd8 (fun z hz => (hr_6_0.2 z (by omega) (by omega)).trans (v35_2 z hz)) v35_3), by rw [ht]; exact hP, va_K.moved hW.alike hK, hD⟩, hS.F ht⟩) hS.2.2 dX10_best_99
        · have tk_5 := c_nge (a := kk.toInt) (b := 26) rfl (by decide) k_5
          refine lv_aload_n hx hb dX10_best_42 rfl (lv_at hl 5 rfl) ?_
          refine lv_iload_n hx hb dX10_best_43 rfl (lv_at hl 6 rfl) ?_
          refine lv_iload_n hx hb dX10_best_44 rfl (lv_at hl 7 rfl) ?_
          refine lv_iload hx hb dX10_best_45 (lv_at hl 0 rfl) ?_
          have hFc := m_free hD hS hA
          refine va_callv (va_runV (As := [.int i1, .int i2, .int kk]) (rest := []) ⟨hx, hb, hml, hown, hts⟩ (m_sets l dC dI ad kc x0 x1 x2 x3 x4 x5 x6 x7 x8 x9 x10 x11 xx12 xx13 xx14 xx15 xx16 xx17 xx18 xx19 xx20 xx21 gg0 f1 f2 gg3 gg4 gg5 gg6 gg7 gg8 gg9 gg10 gg11 gg12 gg13 gg14 gg15 gg16 gg17 gg18 gg19 f20 f21 la hn pp hm ho H.size i1 i2 kk (by first | omega | assumption | decide | (have l0 := Int32.toInt_zero; omega)) (by first | omega | assumption | decide | (have l0 := Int32.toInt_zero; omega))) (cwV 3 hts mg_X10_bestm_X10_sets_473 rfl rfl rfl (by decide +kernel) ⟨Nat.le_of_ble_eq_true rfl, Nat.le_of_ble_eq_true rfl⟩) ⟨fun a U g mk q => by obtain ⟨q0, q1, qP, qK, qD⟩ := q; exact ⟨q0, q1, qP, va_K.moved (u := U) (U := U.calling g mk a) (Vm.Alike.refl U.vm) qK, qD⟩, va_recv hK hP (ci := 10) (q0 := 0) rfl rfl, fun U hU hW => ⟨rfl, by rw [hU], by rw [hU]; exact hP, va_K.moved hW.alike hK, hD.weaken (fun _ _ _ _ => trivial)⟩⟩ rfl rfl hl.1 rfl (lv_room (Nat.le_of_ble_eq_true rfl)) dX10_best_47 ⟨Nat.le_of_ble_eq_true rfl, Nat.le_of_ble_eq_true rfl⟩) hS (fun q _ h => hFc q h) hFc (fun u t H1 locs ht hvm hw hB hz1 hk1 hS => ?_)
          obtain ⟨f_11, hr_10_0, hP, hK1, hD1⟩ := hB
          rw [ht] at hP
          have hD := hD1.weaken (fun k q _ h => hFc q.1 h)
          clear hz1 hk1 hFc hD1 hK1 hvm
          generalize H1 = H at hP hS ⊢
          have hP : va_P (dC, dI) vwCl (mW ad kc x0 x1 x2 x3 x4 x5 x6 x7 x8 x9 x10 x11 xx12 xx13 xx14 xx15 xx16 xx17 xx18 xx19 xx20 xx21 f_11 f1 f2 gg3 gg4 gg5 gg6 gg7 gg8 gg9 gg10 gg11 gg12 gg13 gg14 gg15 gg16 gg17 gg18 gg19 f20 f21 la hn pp hm ho) H := hP
          have hD : va_D A (mW ad kc x0 x1 x2 x3 x4 x5 x6 x7 x8 x9 x10 x11 xx12 xx13 xx14 xx15 xx16 xx17 xx18 xx19 xx20 xx21 f_11 f1 f2 gg3 gg4 gg5 gg6 gg7 gg8 gg9 gg10 gg11 gg12 gg13 gg14 gg15 gg16 gg17 gg18 gg19 f20 f21 la hn pp hm ho) := hD
          have hd9 := v35_1.put (by omega) (by omega) (by omega) (by omega) (by omega) (by omega) hr_10_0
          refine lv_aload_n hx hb dX10_best_50 rfl (lv_at hl 5 rfl) ?_
          refine lv_iload_n hx hb dX10_best_51 rfl (lv_at hl 6 rfl) ?_
          refine lv_iconst (v := 0) hx hb dX10_best_52 (by decide) ?_
          have lit_11 : (0 : Int32).toInt = 0 := by decide
          have hFc := m_free hD hS hA
          refine va_calli (va_runV (As := [.int i1, .int 0]) (rest := []) ⟨hx, hb, hml, hown, hts⟩ (m_patternsOf l dC dI ad kc x0 x1 x2 x3 x4 x5 x6 x7 x8 x9 x10 x11 xx12 xx13 xx14 xx15 xx16 xx17 xx18 xx19 xx20 xx21 f_11 f1 f2 gg3 gg4 gg5 gg6 gg7 gg8 gg9 gg10 gg11 gg12 gg13 gg14 gg15 gg16 gg17 gg18 gg19 f20 f21 la hn pp hm ho H.size i1 0 (by first | omega | assumption | decide | (have l0 := Int32.toInt_zero; omega)) (by first | omega | assumption | decide | (have l0 := Int32.toInt_zero; omega))) (cwV 2 hts mg_X10_bestm_X10_patternsOf_454 rfl rfl rfl (by decide +kernel) ⟨Nat.le_of_ble_eq_true rfl, Nat.le_of_ble_eq_true rfl⟩) ⟨fun a U g mk q => by obtain ⟨q0, q1, qP, qK, qD, qE⟩ := q; exact ⟨q0, q1, qP, va_K.moved (u := U) (U := U.calling g mk a) (Vm.Alike.refl U.vm) qK, qD, over_moved (u := U) (E := U.calling g mk a) (Vm.Alike.refl U.vm) qE⟩, va_recv hK hP (ci := 10) (q0 := 0) rfl rfl, fun U hU hW => ⟨rfl, by rw [hU], by rw [hU]; exact hP, va_K.moved hW.alike hK, hD.weaken (fun _ _ _ _ => trivial), over_moved hW.alike hOV⟩⟩ rfl rfl hl.1 rfl (lv_room (Nat.le_of_ble_eq_true rfl)) dX10_best_53 ⟨Nat.le_of_ble_eq_true rfl, Nat.le_of_ble_eq_true rfl⟩) hS (fun q _ h => hFc q h) hFc (fun r_13 u t H1 locs ht hvm hw hB hz1 hk1 hS => ?_)
          subst hw
          obtain ⟨x_14, x_15, x_16, x_17, x_18, x_19, x_20, x_21, x_22, x_23, f_24, f_25, f_26, f_27, f_28, f_29, f_30, f_31, f_32, f_33, f_34, f_35, f_36, f_37, f_38, f_39, f_40, L_41, Nn_42, P_43, M_44, O_45, hr_13_0, hP, hK1, hD1⟩ := hB
          rw [ht] at hP
          have hD := hD1.weaken (fun k q _ h => hFc q.1 h)
          clear hz1 hk1 hFc hD1 hK1 hvm
          generalize H1 = H at hP hS ⊢
          have rg_x_14 := i_rng x_14
          have rg_x_15 := i_rng x_15
          have rg_x_16 := i_rng x_16
          have rg_x_17 := i_rng x_17
          have rg_x_18 := i_rng x_18
          have rg_x_19 := i_rng x_19
          have rg_x_20 := i_rng x_20
          have rg_x_21 := i_rng x_21
          have rg_x_22 := i_rng x_22
          have rg_x_23 := i_rng x_23
          have rg_r_13 := i_rng r_13
          have hP : va_P (dC, dI) vwCl (mW ad kc x0 x1 x2 x3 x4 x5 x6 x7 x8 x9 x10 x11 x_14 x_15 x_16 x_17 x_18 x_19 x_20 x_21 x_22 x_23 f_11 f1 f2 f_24 f_25 f_26 f_27 f_28 f_29 f_30 f_31 f_32 f_33 f_34 f_35 f_36 f_37 f_38 f_39 f_40 f20 f21 L_41 Nn_42 P_43 M_44 O_45) H := hP
          have hD : va_D A (mW ad kc x0 x1 x2 x3 x4 x5 x6 x7 x8 x9 x10 x11 x_14 x_15 x_16 x_17 x_18 x_19 x_20 x_21 x_22 x_23 f_11 f1 f2 f_24 f_25 f_26 f_27 f_28 f_29 f_30 f_31 f_32 f_33 f_34 f_35 f_36 f_37 f_38 f_39 f_40 f20 f21 L_41 Nn_42 P_43 M_44 O_45) := hD
          have hFc := m_free hD hS hA
          refine va_calli (va_runS (As := [.int r_13]) (rest := []) ⟨hx, hb, hml, hown, hts⟩ (m_ones l dC dI ad kc x0 x1 x2 x3 x4 x5 x6 x7 x8 x9 x10 x11 x_14 x_15 x_16 x_17 x_18 x_19 x_20 x_21 x_22 x_23 f_11 f1 f2 f_24 f_25 f_26 f_27 f_28 f_29 f_30 f_31 f_32 f_33 f_34 f_35 f_36 f_37 f_38 f_39 f_40 f20 f21 L_41 Nn_42 P_43 M_44 O_45 H.size r_13 ) (va_cwS 1 hts mg_X10_bestm_X10_ones_464 rfl rfl rfl (by decide +kernel) ⟨Nat.le_of_ble_eq_true rfl, Nat.le_of_ble_eq_true rfl⟩) ⟨fun a U g mk q => by obtain ⟨q0, q1, qP, qK, qD⟩ := q; exact ⟨q0, q1, qP, va_K.moved (u := U) (U := U.calling g mk a) (Vm.Alike.refl U.vm) qK, qD⟩, fun U hU hW => ⟨rfl, by rw [hU], by rw [hU]; exact hP, va_K.moved hW.alike hK, hD.weaken (fun _ _ _ _ => trivial)⟩⟩ rfl rfl hl.1 rfl (lv_room (Nat.le_of_ble_eq_true rfl)) dX10_best_56 ⟨Nat.le_of_ble_eq_true rfl, Nat.le_of_ble_eq_true rfl⟩) hS (fun q _ h => hFc q h) hFc (fun r_46 u t H1 locs ht hvm hw hB hz1 hk1 hS => ?_)
          subst hw
          obtain ⟨hP, hK1, hD1⟩ := hB
          rw [ht] at hP
          have hD := hD1.weaken (fun k q _ h => hFc q.1 h)
          clear hz1 hk1 hFc hD1 hK1 hvm
          generalize H1 = H at hP hS ⊢
          have rg_r_46 := i_rng r_46
          have hP : va_P (dC, dI) vwCl (mW ad kc x0 x1 x2 x3 x4 x5 x6 x7 x8 x9 x10 x11 x_14 x_15 x_16 x_17 x_18 x_19 x_20 x_21 x_22 x_23 f_11 f1 f2 f_24 f_25 f_26 f_27 f_28 f_29 f_30 f_31 f_32 f_33 f_34 f_35 f_36 f_37 f_38 f_39 f_40 f20 f21 L_41 Nn_42 P_43 M_44 O_45) H := hP
          have hD : va_D A (mW ad kc x0 x1 x2 x3 x4 x5 x6 x7 x8 x9 x10 x11 x_14 x_15 x_16 x_17 x_18 x_19 x_20 x_21 x_22 x_23 f_11 f1 f2 f_24 f_25 f_26 f_27 f_28 f_29 f_30 f_31 f_32 f_33 f_34 f_35 f_36 f_37 f_38 f_39 f_40 f20 f21 L_41 Nn_42 P_43 M_44 O_45) := hD
          refine lv_istore (lv' := [(8, .int r_46), (7, .int kk), (6, .int mo), (5, .int be), (4, .int r_4), (3, .int r_2), (0, .ref (ad 0)), (1, .int i1), (2, .int i2)]) hx hb dX10_best_59 hl (by decide) rfl (fun ls hl => ?_)
          refine lv_iload hx hb dX10_best_61 (lv_at hl 0 rfl) ?_
          refine lv_iload hx hb dX10_best_63 (lv_at hl 2 rfl) ?_
          refine lv_icmp_gt (tgt := 71) hx hb dX10_best_65 (by decide) (fun k_47 => ?_) (fun k_47 => ?_)
          · have tk_47 := c_gt (a := r_46.toInt) (b := mo.toInt) rfl rfl k_47
            refine lv_iload hx hb dX10_best_71 (lv_at hl 0 rfl) ?_
            refine lv_istore (lv' := [(6, .int r_46), (8, .int r_46), (7, .int kk), (5, .int be), (4, .int r_4), (3, .int r_2), (0, .ref (ad 0)), (1, .int i1), (2, .int i2)]) hx hb dX10_best_73 hl (by decide) rfl (fun ls hl => ?_)
            refine lv_iload hx hb dX10_best_75 (lv_at hl 2 rfl) ?_
            refine lv_istore (lv' := [(5, .int kk), (6, .int r_46), (8, .int r_46), (7, .int kk), (4, .int r_4), (3, .int r_2), (0, .ref (ad 0)), (1, .int i1), (2, .int i2)]) hx hb dX10_best_77 hl (by decide) rfl (fun ls hl => ?_)
            obtain ⟨y_48, ey_48⟩ : ∃ y : Int32, y = kk + 1 := ⟨_, rfl⟩
            first | have ty_48 := i_add (a := kk.toInt) (b := 1) rfl (by decide) ey_48 (by omega) (by omega) | skip
            refine lv_iinc (v := y_48) (lv' := [(7, .int y_48), (5, .int kk), (6, .int r_46), (8, .int r_46), (4, .int r_4), (3, .int r_2), (0, .ref (ad 0)), (1, .int i1), (2, .int i2)]) hx hb dX10_best_79 hl (k := 3) rfl (by rw [ey_48]; rfl) (by decide) rfl (fun ls hl => ?_)
            refine lv_goto (tgt := 35) hx hb dX10_best_82 (by decide) ?_
            exact ih35 kk r_46 y_48 x_14 x_15 x_16 x_17 x_18 x_19 x_20 x_21 x_22 x_23 f_11 f_24 f_25 f_26 f_27 f_28 f_29 f_30 f_31 f_32 f_33 f_34 f_35 f_36 f_37 f_38 f_39 f_40 L_41 Nn_42 P_43 M_44 O_45 (by first | omega | assumption | decide) hd9 (fun z hz => (hr_10_0.2 z (by omega) (by omega)).trans (v35_2 z hz)) hr_13_0 (by omega) _ _ ls hP hD hS (lv_sub hl [0, 2, 1, 4, 5, 6, 7, 8] rfl)
          · have tk_47 := c_ngt (a := r_46.toInt) (b := mo.toInt) rfl rfl k_47
            refine lv_goto (tgt := 79) hx hb dX10_best_68 (by decide) ?_
            obtain ⟨y_49, ey_49⟩ : ∃ y : Int32, y = kk + 1 := ⟨_, rfl⟩
            first | have ty_49 := i_add (a := kk.toInt) (b := 1) rfl (by decide) ey_49 (by omega) (by omega) | skip
            refine lv_iinc (v := y_49) (lv' := [(7, .int y_49), (8, .int r_46), (6, .int mo), (5, .int be), (4, .int r_4), (3, .int r_2), (0, .ref (ad 0)), (1, .int i1), (2, .int i2)]) hx hb dX10_best_79 hl (k := 1) rfl (by rw [ey_49]; rfl) (by decide) rfl (fun ls hl => ?_)
            refine lv_goto (tgt := 35) hx hb dX10_best_82 (by decide) ?_
            exact ih35 be mo y_49 x_14 x_15 x_16 x_17 x_18 x_19 x_20 x_21 x_22 x_23 f_11 f_24 f_25 f_26 f_27 f_28 f_29 f_30 f_31 f_32 f_33 f_34 f_35 f_36 f_37 f_38 f_39 f_40 L_41 Nn_42 P_43 M_44 O_45 (by first | omega | assumption | decide) hd9 (fun z hz => (hr_10_0.2 z (by omega) (by omega)).trans (v35_2 z hz)) hr_13_0 (by omega) _ _ ls hP hD hS (lv_sub hl [0, 2, 3, 4, 5, 6, 7, 8] rfl)
    have lit_49 : (0 : Int32).toInt = 0 := by decide
    have lit_50 : ((-1) : Int32).toInt = (-1) := by decide
    have lit_51 : (0 : Int32).toInt = 0 := by decide
    exact loop35 _ 0 (-1) 0 x12 x13 x14 x15 x16 x17 x18 x19 x20 x21 f0 f3 f4 f5 f6 f7 f8 f9 f10 f11 f12 f13 f14 f15 f16 f17 f18 f19 fL fN fP fM fO (by first | omega | assumption | decide) hd (fun _ _ => rfl) hpi (Nat.lt_succ_self _) _ _ ls hP hD hS (lv_sub hl [0, 1, 2, 3, 4, 5, 6, 7] rfl)
  · have tk_3 := c_nle (a := r_2.toInt) (b := 0) rfl (by decide) k_3
    refine lv_aload_n hx hb dX10_best_12 rfl (lv_at hl 1 rfl) ?_
    refine lv_iload_n hx hb dX10_best_13 rfl (lv_at hl 0 rfl) ?_
    have hFc := m_free hD hS hA
    refine va_calli (va_runV (As := [.int r_2]) (rest := []) ⟨hx, hb, hml, hown, hts⟩ (m_refuse l dC dI ad kc x0 x1 x2 x3 x4 x5 x6 x7 x8 x9 x10 x11 x12 x13 x14 x15 x16 x17 x18 x19 x20 x21 f0 f1 f2 f3 f4 f5 f6 f7 f8 f9 f10 f11 f12 f13 f14 f15 f16 f17 f18 f19 f20 f21 fL fN fP fM fO H.size r_2 ) (cwV 1 hts mg_X10_bestm_X10_refuse_204 rfl rfl rfl (by decide +kernel) ⟨Nat.le_of_ble_eq_true rfl, Nat.le_of_ble_eq_true rfl⟩) ⟨fun a U g mk q => by obtain ⟨q0, q1, qP, qK, qD⟩ := q; exact ⟨q0, q1, qP, va_K.moved (u := U) (U := U.calling g mk a) (Vm.Alike.refl U.vm) qK, qD⟩, va_recv hK hP (ci := 10) (q0 := 0) rfl rfl, fun U hU hW => ⟨rfl, by rw [hU], by rw [hU]; exact hP, va_K.moved hW.alike hK, hD.weaken (fun _ _ _ _ => trivial)⟩⟩ rfl rfl hl.1 rfl (lv_room (Nat.le_of_ble_eq_true rfl)) dX10_best_14 ⟨Nat.le_of_ble_eq_true rfl, Nat.le_of_ble_eq_true rfl⟩) hS (fun q _ h => hFc q h) hFc (fun r_53 u t H1 locs ht hvm hw hB hz1 hk1 hS => ?_)
    subst hw
    obtain ⟨hr_53_0, hP, hK1, hD1⟩ := hB
    rw [ht] at hP
    have hD := hD1.weaken (fun k q _ h => hFc q.1 h)
    clear hz1 hk1 hFc hD1 hK1 hvm
    generalize H1 = H at hP hS ⊢
    have rg_r_53 := i_rng r_53
    have hP : va_P (dC, dI) vwCl (mW ad kc r_2 x1 x2 x3 x4 x5 x6 x7 x8 x9 x10 x11 x12 x13 x14 x15 x16 x17 x18 x19 x20 x21 f0 f1 f2 f3 f4 f5 f6 f7 f8 f9 f10 f11 f12 f13 f14 f15 f16 f17 f18 f19 f20 f21 fL fN fP fM fO) H := hP
    have hD : va_D A (mW ad kc r_2 x1 x2 x3 x4 x5 x6 x7 x8 x9 x10 x11 x12 x13 x14 x15 x16 x17 x18 x19 x20 x21 f0 f1 f2 f3 f4 f5 f6 f7 f8 f9 f10 f11 f12 f13 f14 f15 f16 f17 f18 f19 f20 f21 fL fN fP fM fO) := hD
    exact W.iret hx hb hr (fun t ht hW => ⟨⟨_, _, rfl, rfl, r_2, x12, x13, x14, x15, x16, x17, x18, x19, x20, x21, f0, f3, f4, f5, f6, f7, f8, f9, f10, f11, f12, f13, f14, f15, f16, f17, f18, f19, fL, fN, fP, fM, fO, q0, by rw [ht]; exact hP, va_K.moved hW.alike hK, hD⟩, hS.F ht⟩) hS.2.2 dX10_best_17

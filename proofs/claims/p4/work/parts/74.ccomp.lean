theorem dX1_readSpot_0 : decode cX1_readSpot 0 = .ok (.iload_n 2, 1) := by decide +kernel
theorem dX1_readSpot_1 : decode cX1_readSpot 1 = .ok (.istore 4, 2) := by decide +kernel
theorem dX1_readSpot_3 : decode cX1_readSpot 3 = .ok (.iconst 0, 1) := by decide +kernel
theorem dX1_readSpot_4 : decode cX1_readSpot 4 = .ok (.istore 5, 2) := by decide +kernel
theorem dX1_readSpot_6 : decode cX1_readSpot 6 = .ok (.aload_n 1, 1) := by decide +kernel
theorem dX1_readSpot_7 : decode cX1_readSpot 7 = .ok (.iload_n 2, 1) := by decide +kernel
theorem dX1_readSpot_8 : decode cX1_readSpot 8 = .ok (.iaload, 1) := by decide +kernel
theorem dX1_readSpot_9 : decode cX1_readSpot 9 = .ok (.bipush 46, 2) := by decide +kernel
theorem dX1_readSpot_11 : decode cX1_readSpot 11 = .ok (.if_icmp .ne 10, 3) := by decide +kernel
theorem dX1_readSpot_14 : decode cX1_readSpot 14 = .ok (.ldc 159, 2) := by decide +kernel
theorem dX1_readSpot_16 : decode cX1_readSpot 16 = .ok (.istore 5, 2) := by decide +kernel
theorem dX1_readSpot_18 : decode cX1_readSpot 18 = .ok (.goto 69, 3) := by decide +kernel
theorem dX1_readSpot_21 : decode cX1_readSpot 21 = .ok (.aload_n 1, 1) := by decide +kernel
theorem dX1_readSpot_22 : decode cX1_readSpot 22 = .ok (.iload_n 2, 1) := by decide +kernel
theorem dX1_readSpot_23 : decode cX1_readSpot 23 = .ok (.iaload, 1) := by decide +kernel
theorem dX1_readSpot_24 : decode cX1_readSpot 24 = .ok (.bipush 91, 2) := by decide +kernel
theorem dX1_readSpot_26 : decode cX1_readSpot 26 = .ok (.if_icmp .ne 42, 3) := by decide +kernel
theorem dX1_readSpot_29 : decode cX1_readSpot 29 = .ok (.iinc 4 1, 3) := by decide +kernel
theorem dX1_readSpot_32 : decode cX1_readSpot 32 = .ok (.iload 4, 2) := by decide +kernel
theorem dX1_readSpot_34 : decode cX1_readSpot 34 = .ok (.iload_n 3, 1) := by decide +kernel
theorem dX1_readSpot_35 : decode cX1_readSpot 35 = .ok (.if_icmp .ge 52, 3) := by decide +kernel
theorem dX1_readSpot_38 : decode cX1_readSpot 38 = .ok (.aload_n 1, 1) := by decide +kernel
theorem dX1_readSpot_39 : decode cX1_readSpot 39 = .ok (.iload 4, 2) := by decide +kernel
theorem dX1_readSpot_41 : decode cX1_readSpot 41 = .ok (.iaload, 1) := by decide +kernel
theorem dX1_readSpot_42 : decode cX1_readSpot 42 = .ok (.invokestatic 160, 3) := by decide +kernel
theorem dX1_readSpot_45 : decode cX1_readSpot 45 = .ok (.ifCond .eq 42, 3) := by decide +kernel
theorem dX1_readSpot_48 : decode cX1_readSpot 48 = .ok (.iload 5, 2) := by decide +kernel
theorem dX1_readSpot_50 : decode cX1_readSpot 50 = .ok (.iconst 1, 1) := by decide +kernel
theorem dX1_readSpot_51 : decode cX1_readSpot 51 = .ok (.aload_n 1, 1) := by decide +kernel
theorem dX1_readSpot_52 : decode cX1_readSpot 52 = .ok (.iload 4, 2) := by decide +kernel
theorem dX1_readSpot_54 : decode cX1_readSpot 54 = .ok (.iaload, 1) := by decide +kernel
theorem dX1_readSpot_55 : decode cX1_readSpot 55 = .ok (.bipush 97, 2) := by decide +kernel
theorem dX1_readSpot_57 : decode cX1_readSpot 57 = .ok (.isub, 1) := by decide +kernel
theorem dX1_readSpot_58 : decode cX1_readSpot 58 = .ok (.ishl, 1) := by decide +kernel
theorem dX1_readSpot_59 : decode cX1_readSpot 59 = .ok (.ior, 1) := by decide +kernel
theorem dX1_readSpot_60 : decode cX1_readSpot 60 = .ok (.istore 5, 2) := by decide +kernel
theorem dX1_readSpot_62 : decode cX1_readSpot 62 = .ok (.iinc 4 1, 3) := by decide +kernel
theorem dX1_readSpot_65 : decode cX1_readSpot 65 = .ok (.goto (-33), 3) := by decide +kernel
theorem dX1_readSpot_68 : decode cX1_readSpot 68 = .ok (.aload_n 1, 1) := by decide +kernel
theorem dX1_readSpot_69 : decode cX1_readSpot 69 = .ok (.iload_n 2, 1) := by decide +kernel
theorem dX1_readSpot_70 : decode cX1_readSpot 70 = .ok (.iaload, 1) := by decide +kernel
theorem dX1_readSpot_71 : decode cX1_readSpot 71 = .ok (.invokestatic 160, 3) := by decide +kernel
theorem dX1_readSpot_74 : decode cX1_readSpot 74 = .ok (.ifCond .eq 13, 3) := by decide +kernel
theorem dX1_readSpot_77 : decode cX1_readSpot 77 = .ok (.iconst 1, 1) := by decide +kernel
theorem dX1_readSpot_78 : decode cX1_readSpot 78 = .ok (.aload_n 1, 1) := by decide +kernel
theorem dX1_readSpot_79 : decode cX1_readSpot 79 = .ok (.iload_n 2, 1) := by decide +kernel
theorem dX1_readSpot_80 : decode cX1_readSpot 80 = .ok (.iaload, 1) := by decide +kernel
theorem dX1_readSpot_81 : decode cX1_readSpot 81 = .ok (.bipush 97, 2) := by decide +kernel
theorem dX1_readSpot_83 : decode cX1_readSpot 83 = .ok (.isub, 1) := by decide +kernel
theorem dX1_readSpot_84 : decode cX1_readSpot 84 = .ok (.ishl, 1) := by decide +kernel
theorem dX1_readSpot_85 : decode cX1_readSpot 85 = .ok (.istore 5, 2) := by decide +kernel
theorem dX1_readSpot_87 : decode cX1_readSpot 87 = .ok (.aload_n 0, 1) := by decide +kernel
theorem dX1_readSpot_88 : decode cX1_readSpot 88 = .ok (.getfield 58, 3) := by decide +kernel
theorem dX1_readSpot_91 : decode cX1_readSpot 91 = .ok (.bipush 24, 2) := by decide +kernel
theorem dX1_readSpot_93 : decode cX1_readSpot 93 = .ok (.if_icmp .ge 64, 3) := by decide +kernel
theorem dX1_readSpot_96 : decode cX1_readSpot 96 = .ok (.aload_n 0, 1) := by decide +kernel
theorem dX1_readSpot_97 : decode cX1_readSpot 97 = .ok (.getfield 25, 3) := by decide +kernel
theorem dX1_readSpot_100 : decode cX1_readSpot 100 = .ok (.aload_n 0, 1) := by decide +kernel
theorem dX1_readSpot_101 : decode cX1_readSpot 101 = .ok (.getfield 58, 3) := by decide +kernel
theorem dX1_readSpot_104 : decode cX1_readSpot 104 = .ok (.iload 5, 2) := by decide +kernel
theorem dX1_readSpot_106 : decode cX1_readSpot 106 = .ok (.invokevirtual 164, 3) := by decide +kernel
theorem dX1_readSpot_109 : decode cX1_readSpot 109 = .ok (.iconst 0, 1) := by decide +kernel
theorem dX1_readSpot_110 : decode cX1_readSpot 110 = .ok (.istore 6, 2) := by decide +kernel
theorem dX1_readSpot_112 : decode cX1_readSpot 112 = .ok (.iload 6, 2) := by decide +kernel
theorem dX1_readSpot_114 : decode cX1_readSpot 114 = .ok (.bipush 26, 2) := by decide +kernel
theorem dX1_readSpot_116 : decode cX1_readSpot 116 = .ok (.if_icmp .ge 31, 3) := by decide +kernel
theorem dX1_readSpot_119 : decode cX1_readSpot 119 = .ok (.aload_n 0, 1) := by decide +kernel
theorem dX1_readSpot_120 : decode cX1_readSpot 120 = .ok (.getfield 55, 3) := by decide +kernel
theorem dX1_readSpot_123 : decode cX1_readSpot 123 = .ok (.iload 6, 2) := by decide +kernel
theorem dX1_readSpot_125 : decode cX1_readSpot 125 = .ok (.dup2, 1) := by decide +kernel
theorem dX1_readSpot_126 : decode cX1_readSpot 126 = .ok (.iaload, 1) := by decide +kernel
theorem dX1_readSpot_127 : decode cX1_readSpot 127 = .ok (.iload 5, 2) := by decide +kernel
theorem dX1_readSpot_129 : decode cX1_readSpot 129 = .ok (.iload 6, 2) := by decide +kernel
theorem dX1_readSpot_131 : decode cX1_readSpot 131 = .ok (.iushr, 1) := by decide +kernel
theorem dX1_readSpot_132 : decode cX1_readSpot 132 = .ok (.iconst 1, 1) := by decide +kernel
theorem dX1_readSpot_133 : decode cX1_readSpot 133 = .ok (.iand, 1) := by decide +kernel
theorem dX1_readSpot_134 : decode cX1_readSpot 134 = .ok (.aload_n 0, 1) := by decide +kernel
theorem dX1_readSpot_135 : decode cX1_readSpot 135 = .ok (.getfield 58, 3) := by decide +kernel
theorem dX1_readSpot_138 : decode cX1_readSpot 138 = .ok (.ishl, 1) := by decide +kernel
theorem dX1_readSpot_139 : decode cX1_readSpot 139 = .ok (.ior, 1) := by decide +kernel
theorem dX1_readSpot_140 : decode cX1_readSpot 140 = .ok (.iastore, 1) := by decide +kernel
theorem dX1_readSpot_141 : decode cX1_readSpot 141 = .ok (.iinc 6 1, 3) := by decide +kernel
theorem dX1_readSpot_144 : decode cX1_readSpot 144 = .ok (.goto (-32), 3) := by decide +kernel
theorem dX1_readSpot_147 : decode cX1_readSpot 147 = .ok (.aload_n 0, 1) := by decide +kernel
theorem dX1_readSpot_148 : decode cX1_readSpot 148 = .ok (.dup, 1) := by decide +kernel
theorem dX1_readSpot_149 : decode cX1_readSpot 149 = .ok (.getfield 58, 3) := by decide +kernel
theorem dX1_readSpot_152 : decode cX1_readSpot 152 = .ok (.iconst 1, 1) := by decide +kernel
theorem dX1_readSpot_153 : decode cX1_readSpot 153 = .ok (.iadd, 1) := by decide +kernel
theorem dX1_readSpot_154 : decode cX1_readSpot 154 = .ok (.putfield 58, 3) := by decide +kernel
theorem dX1_readSpot_157 : decode cX1_readSpot 157 = .ok (.iload 4, 2) := by decide +kernel
theorem dX1_readSpot_159 : decode cX1_readSpot 159 = .ok (.ireturn, 1) := by decide +kernel
def mwX1_readSpot : List Cond := .code yX1_readSpot cX1_readSpot 7 (some .int) :: (([.initialized RX9, .static yX9_isSmall, .fieldLink RX1 58 "PatternGate$Compiler" "spots" "I", .fieldLink RX1 25 "PatternGate$Compiler" "spot" "LPatternGate$Part;", .methodLink RX1 164 yX4_setSpot, .instanceMethod yX4_setSpot, .selects RX4 yX4_setSpot yX4_setSpot, .initialized RX4, .fieldLink RX1 55 "PatternGate$Compiler" "takers" "[I", .constant RX1 159 (67108863)] : List Cond) ++ (wsX10 ++ (mwX9_isSmallw ++ (mwX4_setSpot))))
theorem fin_X1_readSpot_X1 : ∀ w ∈ wsX10, w ∈ mwX1_readSpot := fun w h => List.mem_cons_of_mem _ (List.mem_append_right _ (List.mem_append_left _ h))
set_option maxRecDepth 100000 in
theorem gd_mwX4_setSpot : mwX4_setSpot.all goodWord = true := by decide +kernel
set_option maxRecDepth 20000 in
theorem mg_X1_readSpot_X9_isSmall_160 : GoodIn mwX1_readSpot mwX9_isSmallw := gi_sub gd_mwX9_isSmallw (fun w h => List.mem_cons_of_mem _ (List.mem_append_right _ (List.mem_append_right _ (List.mem_append_left _ h))))
set_option maxRecDepth 20000 in
theorem mg_X1_readSpot_X4_setSpot_164 : GoodIn mwX1_readSpot (wsV RX1 164 RX4 yX4_setSpot mwX4_setSpot) := gi_app (A := [.methodLink RX1 164 yX4_setSpot, .instanceMethod yX4_setSpot, .selects RX4 yX4_setSpot yX4_setSpot, .initialized RX4]) (goodIn_r _ [5, 6, 7, 8] (by decide +kernel) (by decide +kernel)) (gi_sub gd_mwX4_setSpot (fun w h => List.mem_cons_of_mem _ (List.mem_append_right _ (List.mem_append_right _ (List.mem_append_right _ (h))))))
set_option maxHeartbeats 4000000 in
set_option maxRecDepth 100000 in
/-- Compiler.readSpot -/
theorem s_readSpot (l : Launch) (dC : Nat → ClassId) (dI : Nat → Nat → Nat) (cm kA kB kG o3 e4 e5 kC kF : Nat) (spn : Int32) (ba kb : Nat) (cb : ClassId) (fb : Nat → Int32) (kT : Nat) (cT : ClassId) (fT : Nat → Int32) (a1 : Nat) (x10 x11 x12 x13 x14 x15 : Int32) (o1 r1 : Nat) (c1 : ClassId) (f1 : Nat → Int64) (n1 : Int32) (e1 t1 s1 R1 : Nat) (ct1 cs1 : ClassId) (ft1 fs1 : Nat → Int32) (m1 : Int32) (sz : Nat) (i1 i2 : Int32) (hs1 : 0 ≤ spn.toInt) (hs2 : spn.toInt ≤ 24) (hx1 : x10 = 0 ∨ x10 = 1) (hy1 : x11 = 0 ∨ x11 = 1) (ha1 : 0 ≤ n1.toInt) (hb1 : n1.toInt ≤ 6) (hR1 : 1 ≤ R1) (hU1 : R1 ≤ 144) (hc1 : 0 ≤ m1.toInt) (hd1 : m1.toInt ≤ R1) (hb_fs1 : ∀ i, 0 ≤ (fs1 i).toInt ∧ (fs1 i).toInt ≤ 24) (hkb : kb ≤ 900) (h1 : 0 ≤ i1.toInt ∧ i1.toInt < i2.toInt ∧ i2.toInt ≤ kb) : Met l yX1_readSpot mwX1_readSpot ({ frames := 2, cells := 0, slots := 0, locals := 120 }) (va_Pc [.ref cm, .ref ba, .int i1, .int i2] (fun U => U.heap.size = sz ∧ va_P (dC, dI) vwCl ([(cm, .inr (1, [.ref kA, .ref kB, .ref kG, .ref a1, .ref o3, .ref e4, .ref e5, .ref kC, .ref kF, .ref kT, .int spn])), (ba, .inl (cb, kb, .inl fb)), (kT, .inl (cT, 26, .inl fT)), (a1, .inr (4, [.ref o1, .ref e1, .int x10, .int x11, .int x12, .int x13, .int x14, .int x15])), (o1, .inr (7, [.ref r1, .int n1])), (r1, .inl (c1, 6, .inr (.inl f1))), (e1, .inr (3, [.int (nI R1), .ref t1, .ref s1, .int m1])), (t1, .inl (ct1, 24 * R1, .inl ft1)), (s1, .inl (cs1, R1, .inl fs1))]) U.heap ∧ va_K (dC, dI) vwCl ([(cb, .int), (cT, .int), (c1, .long), (ct1, .int), (cs1, .int)]) U ∧ va_D (fun _ => True) ([(cm, .inr (1, [.ref kA, .ref kB, .ref kG, .ref a1, .ref o3, .ref e4, .ref e5, .ref kC, .ref kF, .ref kT, .int spn])), (ba, .inl (cb, kb, .inl fb)), (kT, .inl (cT, 26, .inl fT)), (a1, .inr (4, [.ref o1, .ref e1, .int x10, .int x11, .int x12, .int x13, .int x14, .int x15])), (o1, .inr (7, [.ref r1, .int n1])), (r1, .inl (c1, 6, .inr (.inl f1))), (e1, .inr (3, [.int (nI R1), .ref t1, .ref s1, .int m1])), (t1, .inl (ct1, 24 * R1, .inl ft1)), (s1, .inl (cs1, R1, .inl fs1))]) ∧ va_Nw (.methodLinkNest RX1 160 yX9_isSmall "PatternGate") U)) (va_Qi (fun (o9 : Int32) (_ : Unit) => i1.toInt ≤ o9.toInt ∧ o9.toInt ≤ i2.toInt) (fun _ t => ∃ (sp9 : Int32) (fT9 : Nat → Int32) (y10 y11 y12 y13 y14 y15 nn1 mm1 : Int32) (G1 : Nat → Int64) (F1 S1 : Nat → Int32), (0 ≤ sp9.toInt ∧ sp9.toInt ≤ 24) ∧ (y10 = 0 ∨ y10 = 1) ∧ (y11 = 0 ∨ y11 = 1) ∧ (0 ≤ nn1.toInt ∧ nn1.toInt ≤ 6) ∧ (0 ≤ mm1.toInt ∧ mm1.toInt ≤ R1) ∧ (∀ i, 0 ≤ (S1 i).toInt ∧ (S1 i).toInt ≤ 24) ∧ va_P (dC, dI) vwCl [(cm, .inr (1, [.ref kA, .ref kB, .ref kG, .ref a1, .ref o3, .ref e4, .ref e5, .ref kC, .ref kF, .ref kT, .int sp9])), (ba, .inl (cb, kb, .inl fb)), (kT, .inl (cT, 26, .inl fT9)), (a1, .inr (4, [.ref o1, .ref e1, .int y10, .int y11, .int y12, .int y13, .int y14, .int y15])), (o1, .inr (7, [.ref r1, .int nn1])), (r1, .inl (c1, 6, .inr (.inl G1))), (e1, .inr (3, [.int (nI R1), .ref t1, .ref s1, .int mm1])), (t1, .inl (ct1, 24 * R1, .inl F1)), (s1, .inl (cs1, R1, .inl S1))] t.heap ∧ va_K (dC, dI) vwCl [(cb, .int), (cT, .int), (c1, .long), (ct1, .int), (cs1, .int)] t ∧ va_D (va_A ([(cm, .inr (1, [.ref kA, .ref kB, .ref kG, .ref a1, .ref o3, .ref e4, .ref e5, .ref kC, .ref kF, .ref kT, .int spn])), (ba, .inl (cb, kb, .inl fb)), (kT, .inl (cT, 26, .inl fT)), (a1, .inr (4, [.ref o1, .ref e1, .int x10, .int x11, .int x12, .int x13, .int x14, .int x15])), (o1, .inr (7, [.ref r1, .int n1])), (r1, .inl (c1, 6, .inr (.inl f1))), (e1, .inr (3, [.int (nI R1), .ref t1, .ref s1, .int m1])), (t1, .inl (ct1, 24 * R1, .inl ft1)), (s1, .inl (cs1, R1, .inl fs1))]) sz) [(cm, .inr (1, [.ref kA, .ref kB, .ref kG, .ref a1, .ref o3, .ref e4, .ref e5, .ref kC, .ref kF, .ref kT, .int sp9])), (ba, .inl (cb, kb, .inl fb)), (kT, .inl (cT, 26, .inl fT9)), (a1, .inr (4, [.ref o1, .ref e1, .int y10, .int y11, .int y12, .int y13, .int y14, .int y15])), (o1, .inr (7, [.ref r1, .int nn1])), (r1, .inl (c1, 6, .inr (.inl G1))), (e1, .inr (3, [.int (nI R1), .ref t1, .ref s1, .int mm1])), (t1, .inl (ct1, 24 * R1, .inl F1)), (s1, .inl (cs1, R1, .inl S1))]) (va_A ([(cm, .inr (1, [.ref kA, .ref kB, .ref kG, .ref a1, .ref o3, .ref e4, .ref e5, .ref kC, .ref kF, .ref kT, .int spn])), (ba, .inl (cb, kb, .inl fb)), (kT, .inl (cT, 26, .inl fT)), (a1, .inr (4, [.ref o1, .ref e1, .int x10, .int x11, .int x12, .int x13, .int x14, .int x15])), (o1, .inr (7, [.ref r1, .int n1])), (r1, .inl (c1, 6, .inr (.inl f1))), (e1, .inr (3, [.int (nI R1), .ref t1, .ref s1, .int m1])), (t1, .inl (ct1, 24 * R1, .inl ft1)), (s1, .inl (cs1, R1, .inl fs1))]) sz)) 0 0 (va_A ([(cm, .inr (1, [.ref kA, .ref kB, .ref kG, .ref a1, .ref o3, .ref e4, .ref e5, .ref kC, .ref kF, .ref kT, .int spn])), (ba, .inl (cb, kb, .inl fb)), (kT, .inl (cT, 26, .inl fT)), (a1, .inr (4, [.ref o1, .ref e1, .int x10, .int x11, .int x12, .int x13, .int x14, .int x15])), (o1, .inr (7, [.ref r1, .int n1])), (r1, .inl (c1, 6, .inr (.inl f1))), (e1, .inr (3, [.int (nI R1), .ref t1, .ref s1, .int m1])), (t1, .inl (ct1, 24 * R1, .inl ft1)), (s1, .inl (cs1, R1, .inl fs1))]) sz) := by
  refine Met.ofW (cc := cX1_readSpot) (maxL := 7) (ret := (some .int)) (by decide +kernel) rfl ?_
  intro p e s m args below meth c s₁ B hml hv
  obtain ⟨rfl, hsz, hP, hK, hD0, hN160⟩ := hv
  have hx := B.exec
  have hb := B.bytes
  have hr := B.returns
  have hts := atoms_spec (ws := mwX1_readSpot) B.pre
  have hown : s.vm.findClass RX1 = some m.cls := findClass_of_methodNamed B.named
  have hlocks := B.notSynchronized
  subst hsz
  have hD := hD0.self (sz := s.heap.size)
  generalize hAe : va_A ([(cm, .inr (1, [.ref kA, .ref kB, .ref kG, .ref a1, .ref o3, .ref e4, .ref e5, .ref kC, .ref kF, .ref kT, .int spn])), (ba, .inl (cb, kb, .inl fb)), (kT, .inl (cT, 26, .inl fT)), (a1, .inr (4, [.ref o1, .ref e1, .int x10, .int x11, .int x12, .int x13, .int x14, .int x15])), (o1, .inr (7, [.ref r1, .int n1])), (r1, .inl (c1, 6, .inr (.inl f1))), (e1, .inr (3, [.int (nI R1), .ref t1, .ref s1, .int m1])), (t1, .inl (ct1, 24 * R1, .inl ft1)), (s1, .inl (cs1, R1, .inl fs1))]) s.heap.size = A at hD ⊢
  have hA : ∀ q : Nat, s.heap.size ≤ q → A q := fun q h => by rw [← hAe]; exact Or.inr h
  have hP : va_P (dC, dI) vwCl [(cm, .inr (1, [.ref kA, .ref kB, .ref kG, .ref a1, .ref o3, .ref e4, .ref e5, .ref kC, .ref kF, .ref kT, .int spn])), (ba, .inl (cb, kb, .inl fb)), (kT, .inl (cT, 26, .inl fT)), (a1, .inr (4, [.ref o1, .ref e1, .int x10, .int x11, .int x12, .int x13, .int x14, .int x15])), (o1, .inr (7, [.ref r1, .int n1])), (r1, .inl (c1, 6, .inr (.inl f1))), (e1, .inr (3, [.int (nI R1), .ref t1, .ref s1, .int m1])), (t1, .inl (ct1, 24 * R1, .inl ft1)), (s1, .inl (cs1, R1, .inl fs1))] s.heap := hP
  have hD : va_D A [(cm, .inr (1, [.ref kA, .ref kB, .ref kG, .ref a1, .ref o3, .ref e4, .ref e5, .ref kC, .ref kF, .ref kT, .int spn])), (ba, .inl (cb, kb, .inl fb)), (kT, .inl (cT, 26, .inl fT)), (a1, .inr (4, [.ref o1, .ref e1, .int x10, .int x11, .int x12, .int x13, .int x14, .int x15])), (o1, .inr (7, [.ref r1, .int n1])), (r1, .inl (c1, 6, .inr (.inl f1))), (e1, .inr (3, [.int (nI R1), .ref t1, .ref s1, .int m1])), (t1, .inl (ct1, 24 * R1, .inl ft1)), (s1, .inl (cs1, R1, .inl fs1))] := hD
  have hK : va_K (dC, dI) vwCl [(cb, .int), (cT, .int), (c1, .long), (ct1, .int), (cs1, .int)] s := hK
  generalize hH : s.heap = H at hP ⊢
  have hS : va_S A s.heap H [] := by rw [← hH]; exact va_S.rf
  have hl := lv_entry ([.ref cm, .ref ba, .int i1, .int i2]) (n := 7) (Nat.le_of_ble_eq_true rfl)
  rw [lg_entry_eq]
  generalize (lg_sl ([.ref cm, .ref ba, .int i1, .int i2]) ++ List.replicate (7 - (lg_sl ([.ref cm, .ref ba, .int i1, .int i2])).length) Slot.unset).toArray = ls at hl ⊢
  have hl : lv_has ls 7 [(0, .ref cm), (1, .ref ba), (2, .int i1), (3, .int i2)] := hl
  have rg_i1 := i_rng i1
  have rg_i2 := i_rng i2
  have rspn := i_rng spn
  have tr1 : (nI R1).toInt = (R1 : Int) := nI_toInt (by omega)
  have rm1 := i_rng m1
  have rn1 := i_rng n1
  refine lv_iload_n hx hb dX1_readSpot_0 rfl (lv_at hl 2 rfl) ?_
  refine lv_istore (lv' := [(4, .int i1), (0, .ref cm), (1, .ref ba), (2, .int i1), (3, .int i2)]) hx hb dX1_readSpot_1 hl (by decide) rfl (fun ls hl => ?_)
  refine lv_iconst (v := 0) hx hb dX1_readSpot_3 (by decide) ?_
  refine lv_istore (lv' := [(5, .int 0), (4, .int i1), (0, .ref cm), (1, .ref ba), (2, .int i1), (3, .int i2)]) hx hb dX1_readSpot_4 hl (by decide) rfl (fun ls hl => ?_)
  refine lv_aload_n hx hb dX1_readSpot_6 rfl (lv_at hl 3 rfl) ?_
  refine lv_iload_n hx hb dX1_readSpot_7 rfl (lv_at hl 4 rfl) ?_
  refine va_iald hx hb hK hP 1 0 rfl rfl (i := i1) (vp_of (a := i1.toInt) rfl (by omega) (by omega)) dX1_readSpot_8 ?_
  refine lv_topi (fun y_1 ey_1 => ?_)
  have rg_y_1 := i_rng y_1
  refine lv_bipush (v := 46) hx hb dX1_readSpot_9 (by decide) ?_
  refine lv_icmp_ne (tgt := 21) hx hb dX1_readSpot_11 (by decide) (fun k_2 => ?_) (fun k_2 => ?_)
  · have tk_2 := c_ne (a := y_1.toInt) (b := 46) rfl (by decide) k_2
    refine lv_aload_n hx hb dX1_readSpot_21 rfl (lv_at hl 3 rfl) ?_
    refine lv_iload_n hx hb dX1_readSpot_22 rfl (lv_at hl 4 rfl) ?_
    refine va_iald hx hb hK hP 1 0 rfl rfl (i := i1) (vp_of (a := i1.toInt) rfl (by omega) (by omega)) dX1_readSpot_23 ?_
    refine lv_topi (fun y_3 ey_3 => ?_)
    have rg_y_3 := i_rng y_3
    refine lv_bipush (v := 91) hx hb dX1_readSpot_24 (by decide) ?_
    refine lv_icmp_ne (tgt := 68) hx hb dX1_readSpot_26 (by decide) (fun k_4 => ?_) (fun k_4 => ?_)
    · have tk_4 := c_ne (a := y_3.toInt) (b := 91) rfl (by decide) k_4
      refine lv_aload_n hx hb dX1_readSpot_68 rfl (lv_at hl 3 rfl) ?_
      refine lv_iload_n hx hb dX1_readSpot_69 rfl (lv_at hl 4 rfl) ?_
      refine va_iald hx hb hK hP 1 0 rfl rfl (i := i1) (vp_of (a := i1.toInt) rfl (by omega) (by omega)) dX1_readSpot_70 ?_
      refine lv_topi (fun y_5 ey_5 => ?_)
      have rg_y_5 := i_rng y_5
      have hPc := hP.sub (ws' := []) [] rfl
      have hKc := hK.sub (tys' := []) [] rfl
      have hDc := hD.sub (ws' := []) [] (by decide) rfl
      have hFc := va_free (wc := []) hD hS hA [] rfl
      refine va_calli (va_runSN (As := [.int y_5]) (rest := []) ⟨hx, hb, hml, hown, hts⟩ (s_isSmallW l dC dI H.size y_5) ⟨va_cnB 1 hts mg_X1_readSpot_X9_isSmall_160 rfl rfl rfl hN160 (hts (.initialized RX9) (List.mem_of_getElem? (i := 1) (by decide +kernel))) (by decide +kernel) ⟨Nat.le_of_ble_eq_true rfl, Nat.le_of_ble_eq_true rfl⟩, (hts (.static yX9_isSmall) (List.mem_of_getElem? (i := 2) (by decide +kernel))), trivial⟩ ⟨fun a U g mk q => by obtain ⟨q0, q1, qP, qK, qD⟩ := q; exact ⟨q0, q1, qP, va_K.moved (u := U) (U := U.calling g mk a) (Vm.Alike.refl U.vm) qK, qD⟩, fun U hU hW => ⟨rfl, by rw [hU], by rw [hU]; exact hPc, va_K.moved hW.alike hKc, hDc.weaken (fun _ _ _ _ => trivial)⟩⟩ rfl rfl hl.1 rfl (lv_room (Nat.le_of_ble_eq_true rfl)) dX1_readSpot_71 ⟨Nat.le_of_ble_eq_true rfl, Nat.le_of_ble_eq_true rfl⟩) hS (fun q _ h => hFc q h) hFc (fun r_7 u t H1 locs ht hvm hw hB hz1 hk1 hS => ?_)
      have hr_7 := hw
      obtain ⟨hP, hD⟩ := va_join (wr := [(cm, .inr (1, [.ref kA, .ref kB, .ref kG, .ref a1, .ref o3, .ref e4, .ref e5, .ref kC, .ref kF, .ref kT, .int spn])), (ba, .inl (cb, kb, .inl fb)), (kT, .inl (cT, 26, .inl fT)), (a1, .inr (4, [.ref o1, .ref e1, .int x10, .int x11, .int x12, .int x13, .int x14, .int x15])), (o1, .inr (7, [.ref r1, .int n1])), (r1, .inl (c1, 6, .inr (.inl f1))), (e1, .inr (3, [.int (nI R1), .ref t1, .ref s1, .int m1])), (t1, .inl (ct1, 24 * R1, .inl ft1)), (s1, .inl (cs1, R1, .inl fs1))]) (w1 := []) hP hD [] [0, 1, 2, 3, 4, 5, 6, 7, 8] rfl rfl (by decide) (by decide) hk1 hFc (fun k q h => by simp at h) ⟨fun i j p q h => by simp at h, fun k q h => by simp at h⟩
      generalize H1 = H at hP hS ⊢
      have hP : va_P (dC, dI) vwCl [(cm, .inr (1, [.ref kA, .ref kB, .ref kG, .ref a1, .ref o3, .ref e4, .ref e5, .ref kC, .ref kF, .ref kT, .int spn])), (ba, .inl (cb, kb, .inl fb)), (kT, .inl (cT, 26, .inl fT)), (a1, .inr (4, [.ref o1, .ref e1, .int x10, .int x11, .int x12, .int x13, .int x14, .int x15])), (o1, .inr (7, [.ref r1, .int n1])), (r1, .inl (c1, 6, .inr (.inl f1))), (e1, .inr (3, [.int (nI R1), .ref t1, .ref s1, .int m1])), (t1, .inl (ct1, 24 * R1, .inl ft1)), (s1, .inl (cs1, R1, .inl fs1))] H := hP
      have hD : va_D A [(cm, .inr (1, [.ref kA, .ref kB, .ref kG, .ref a1, .ref o3, .ref e4, .ref e5, .ref kC, .ref kF, .ref kT, .int spn])), (ba, .inl (cb, kb, .inl fb)), (kT, .inl (cT, 26, .inl fT)), (a1, .inr (4, [.ref o1, .ref e1, .int x10, .int x11, .int x12, .int x13, .int x14, .int x15])), (o1, .inr (7, [.ref r1, .int n1])), (r1, .inl (c1, 6, .inr (.inl f1))), (e1, .inr (3, [.int (nI R1), .ref t1, .ref s1, .int m1])), (t1, .inl (ct1, 24 * R1, .inl ft1)), (s1, .inl (cs1, R1, .inl fs1))] := hD
      refine lv_if_eq (tgt := 87) hx hb dX1_readSpot_74 (by decide) (fun k_8 => ?_) (fun k_8 => ?_)
      · have tk_8 := c_eq (a := r_7.toInt) (b := 0) rfl (by decide) k_8
        refine lv_aload_n hx hb dX1_readSpot_87 rfl (lv_at hl 2 rfl) ?_
        refine va_get (D := (dC, dI)) (ci := 1) (v := .int spn) (C := RX1) (T := TX1) (N := 11) hx hb hts fin_X1_readSpot_X1 hown hK hP 0 rfl rfl 10 (by decide) (hts (.fieldLink RX1 58 "PatternGate$Compiler" "spots" "I") (List.mem_of_getElem? (i := 3) (by decide +kernel))) (fun _ h9 => h9) rfl dX1_readSpot_88 ?_
        refine lv_bipush (v := 24) hx hb dX1_readSpot_91 (by decide) ?_
        refine lv_icmp_ge (tgt := 157) hx hb dX1_readSpot_93 (by decide) (fun k_9 => ?_) (fun k_9 => ?_)
        · have tk_9 := c_ge (a := spn.toInt) (b := 24) rfl (by decide) k_9
          refine lv_iload hx hb dX1_readSpot_157 (lv_at hl 1 rfl) ?_
          have hP9 := hP.sub (ws' := [(cm, .inr (1, [.ref kA, .ref kB, .ref kG, .ref a1, .ref o3, .ref e4, .ref e5, .ref kC, .ref kF, .ref kT, .int spn])), (ba, .inl (cb, kb, .inl fb)), (kT, .inl (cT, 26, .inl fT)), (a1, .inr (4, [.ref o1, .ref e1, .int x10, .int x11, .int x12, .int x13, .int x14, .int x15])), (o1, .inr (7, [.ref r1, .int n1])), (r1, .inl (c1, 6, .inr (.inl f1))), (e1, .inr (3, [.int (nI R1), .ref t1, .ref s1, .int m1])), (t1, .inl (ct1, 24 * R1, .inl ft1)), (s1, .inl (cs1, R1, .inl fs1))]) [0, 1, 2, 3, 4, 5, 6, 7, 8] rfl
          have hD9 := hD.sub (ws' := [(cm, .inr (1, [.ref kA, .ref kB, .ref kG, .ref a1, .ref o3, .ref e4, .ref e5, .ref kC, .ref kF, .ref kT, .int spn])), (ba, .inl (cb, kb, .inl fb)), (kT, .inl (cT, 26, .inl fT)), (a1, .inr (4, [.ref o1, .ref e1, .int x10, .int x11, .int x12, .int x13, .int x14, .int x15])), (o1, .inr (7, [.ref r1, .int n1])), (r1, .inl (c1, 6, .inr (.inl f1))), (e1, .inr (3, [.int (nI R1), .ref t1, .ref s1, .int m1])), (t1, .inl (ct1, 24 * R1, .inl ft1)), (s1, .inl (cs1, R1, .inl fs1))]) [0, 1, 2, 3, 4, 5, 6, 7, 8] (by decide) rfl
          have hK9 := hK.sub (tys' := [(cb, .int), (cT, .int), (c1, .long), (ct1, .int), (cs1, .int)]) [0, 1, 2, 3, 4] rfl
          exact W.iret hx hb hr (fun t ht hW => ⟨⟨_, (), rfl, by omega, spn, fT, x10, x11, x12, x13, x14, x15, n1, m1, f1, ft1, fs1, (by first | omega | decide | (have l1 : (1 : Int32).toInt = 1 := rfl; have l0 : (0 : Int32).toInt = 0 := rfl; omega)), (by first | assumption | decide), (by first | assumption | decide), (by first | omega | decide | (have l1 : (1 : Int32).toInt = 1 := rfl; have l0 : (0 : Int32).toInt = 0 := rfl; omega)), (by first | omega | decide | (have l1 : (1 : Int32).toInt = 1 := rfl; have l0 : (0 : Int32).toInt = 0 := rfl; omega)), hb_fs1, by rw [ht]; exact hP9, va_K.moved hW.alike hK9, hD9⟩, hS.F ht⟩) hS.2.2 dX1_readSpot_159
        · have tk_9 := c_nge (a := spn.toInt) (b := 24) rfl (by decide) k_9
          refine lv_aload_n hx hb dX1_readSpot_96 rfl (lv_at hl 2 rfl) ?_
          refine va_get (D := (dC, dI)) (ci := 1) (v := .ref a1) (C := RX1) (T := TX1) (N := 11) hx hb hts fin_X1_readSpot_X1 hown hK hP 0 rfl rfl 3 (by decide) (hts (.fieldLink RX1 25 "PatternGate$Compiler" "spot" "LPatternGate$Part;") (List.mem_of_getElem? (i := 4) (by decide +kernel))) (fun _ h9 => h9) rfl dX1_readSpot_97 ?_
          refine lv_aload_n hx hb dX1_readSpot_100 rfl (lv_at hl 2 rfl) ?_
          refine va_get (D := (dC, dI)) (ci := 1) (v := .int spn) (C := RX1) (T := TX1) (N := 11) hx hb hts fin_X1_readSpot_X1 hown hK hP 0 rfl rfl 10 (by decide) (hts (.fieldLink RX1 58 "PatternGate$Compiler" "spots" "I") (List.mem_of_getElem? (i := 3) (by decide +kernel))) (fun _ h9 => h9) rfl dX1_readSpot_101 ?_
          refine lv_iload hx hb dX1_readSpot_104 (lv_at hl 0 rfl) ?_
          have hPc := hP.sub (ws' := [(a1, .inr (4, [.ref o1, .ref e1, .int x10, .int x11, .int x12, .int x13, .int x14, .int x15])), (o1, .inr (7, [.ref r1, .int n1])), (r1, .inl (c1, 6, .inr (.inl f1))), (e1, .inr (3, [.int (nI R1), .ref t1, .ref s1, .int m1])), (t1, .inl (ct1, 24 * R1, .inl ft1)), (s1, .inl (cs1, R1, .inl fs1))]) [3, 4, 5, 6, 7, 8] rfl
          have hKc := hK.sub (tys' := [(c1, .long), (ct1, .int), (cs1, .int)]) [2, 3, 4] rfl
          have hDc := hD.sub (ws' := [(a1, .inr (4, [.ref o1, .ref e1, .int x10, .int x11, .int x12, .int x13, .int x14, .int x15])), (o1, .inr (7, [.ref r1, .int n1])), (r1, .inl (c1, 6, .inr (.inl f1))), (e1, .inr (3, [.int (nI R1), .ref t1, .ref s1, .int m1])), (t1, .inl (ct1, 24 * R1, .inl ft1)), (s1, .inl (cs1, R1, .inl fs1))]) [3, 4, 5, 6, 7, 8] (by decide) rfl
          have hFc := va_free (wc := [(a1, .inr (4, [.ref o1, .ref e1, .int x10, .int x11, .int x12, .int x13, .int x14, .int x15])), (o1, .inr (7, [.ref r1, .int n1])), (r1, .inl (c1, 6, .inr (.inl f1))), (e1, .inr (3, [.int (nI R1), .ref t1, .ref s1, .int m1])), (t1, .inl (ct1, 24 * R1, .inl ft1)), (s1, .inl (cs1, R1, .inl fs1))]) hD hS hA [3, 4, 5, 6, 7, 8] rfl
          refine va_callv (va_runV (As := [.int spn, .int 0]) (rest := []) ⟨hx, hb, hml, hown, hts⟩ (s_setSpot l dC dI a1 x10 x11 x12 x13 x14 x15 o1 r1 c1 f1 n1 e1 t1 s1 R1 ct1 cs1 ft1 fs1 m1 H.size spn 0 (by first | assumption | decide) (by first | assumption | decide) (by first | omega | decide | (have l0 := Int32.toInt_zero; omega)) (by first | omega | decide | (have l0 := Int32.toInt_zero; omega)) (by first | omega | decide | (have l0 := Int32.toInt_zero; omega)) (by first | omega | decide | (have l0 := Int32.toInt_zero; omega)) (by first | omega | decide | (have l0 := Int32.toInt_zero; omega)) (by first | omega | decide | (have l0 := Int32.toInt_zero; omega)) hb_fs1) (cwV 2 hts mg_X1_readSpot_X4_setSpot_164 rfl rfl rfl (by decide +kernel) ⟨Nat.le_of_ble_eq_true rfl, Nat.le_of_ble_eq_true rfl⟩) ⟨fun a U g mk q => by obtain ⟨q0, q1, qP, qK, qD⟩ := q; exact ⟨q0, q1, qP, va_K.moved (u := U) (U := U.calling g mk a) (Vm.Alike.refl U.vm) qK, qD⟩, va_recv hKc hPc (ci := 4) (q0 := 0) rfl rfl, fun U hU hW => ⟨rfl, by rw [hU], by rw [hU]; exact hPc, va_K.moved hW.alike hKc, hDc.weaken (fun _ _ _ _ => trivial)⟩⟩ rfl rfl hl.1 rfl (lv_room (Nat.le_of_ble_eq_true rfl)) dX1_readSpot_106 ⟨Nat.le_of_ble_eq_true rfl, Nat.le_of_ble_eq_true rfl⟩) hS (fun q _ h => hFc q h) hFc (fun u t H1 locs ht hvm hw hB hz1 hk1 hS => ?_)
          obtain ⟨w_12, w_13, w_14, w_15, w_16, w_17, u_18, u_19, f_20, f_21, f_22, h_23, h_24, h_25, h_26, hb_f_22, hP1, hK1, hD1⟩ := hB
          rw [ht] at hP1
          obtain ⟨hP, hD⟩ := va_join (wr := [(cm, .inr (1, [.ref kA, .ref kB, .ref kG, .ref a1, .ref o3, .ref e4, .ref e5, .ref kC, .ref kF, .ref kT, .int spn])), (ba, .inl (cb, kb, .inl fb)), (kT, .inl (cT, 26, .inl fT))]) (w1 := [(a1, .inr (4, [.ref o1, .ref e1, .int w_12, .int w_13, .int w_14, .int w_15, .int w_16, .int w_17])), (o1, .inr (7, [.ref r1, .int u_18])), (r1, .inl (c1, 6, .inr (.inl f_20))), (e1, .inr (3, [.int (nI R1), .ref t1, .ref s1, .int u_19])), (t1, .inl (ct1, 24 * R1, .inl f_21)), (s1, .inl (cs1, R1, .inl f_22))]) hP hD [3, 4, 5, 6, 7, 8] [0, 1, 2] rfl rfl (by decide) (by decide) hk1 hFc hP1 hD1
          generalize H1 = H at hP hS ⊢
          have hP : va_P (dC, dI) vwCl [(cm, .inr (1, [.ref kA, .ref kB, .ref kG, .ref a1, .ref o3, .ref e4, .ref e5, .ref kC, .ref kF, .ref kT, .int spn])), (ba, .inl (cb, kb, .inl fb)), (kT, .inl (cT, 26, .inl fT)), (a1, .inr (4, [.ref o1, .ref e1, .int w_12, .int w_13, .int w_14, .int w_15, .int w_16, .int w_17])), (o1, .inr (7, [.ref r1, .int u_18])), (r1, .inl (c1, 6, .inr (.inl f_20))), (e1, .inr (3, [.int (nI R1), .ref t1, .ref s1, .int u_19])), (t1, .inl (ct1, 24 * R1, .inl f_21)), (s1, .inl (cs1, R1, .inl f_22))] H := hP
          have hD : va_D A [(cm, .inr (1, [.ref kA, .ref kB, .ref kG, .ref a1, .ref o3, .ref e4, .ref e5, .ref kC, .ref kF, .ref kT, .int spn])), (ba, .inl (cb, kb, .inl fb)), (kT, .inl (cT, 26, .inl fT)), (a1, .inr (4, [.ref o1, .ref e1, .int w_12, .int w_13, .int w_14, .int w_15, .int w_16, .int w_17])), (o1, .inr (7, [.ref r1, .int u_18])), (r1, .inl (c1, 6, .inr (.inl f_20))), (e1, .inr (3, [.int (nI R1), .ref t1, .ref s1, .int u_19])), (t1, .inl (ct1, 24 * R1, .inl f_21)), (s1, .inl (cs1, R1, .inl f_22))] := hD
          refine lv_iconst (v := 0) hx hb dX1_readSpot_109 (by decide) ?_
          refine lv_istore (lv' := [(6, .int 0), (5, .int 0), (4, .int i1), (0, .ref cm), (1, .ref ba), (2, .int i1), (3, .int i2)]) hx hb dX1_readSpot_110 hl (by decide) rfl (fun ls hl => ?_)
          have loop112 : ∀ (lm112 : Nat) (lv : Int32) (gt : Nat → Int32), (0 ≤ lv.toInt ∧ lv.toInt ≤ 26) → ((26 - lv.toInt).toNat) < lm112 → ∀ (H : Heap) (locs : List Loc) (ls : Array Slot), va_P (dC, dI) vwCl [(cm, .inr (1, [.ref kA, .ref kB, .ref kG, .ref a1, .ref o3, .ref e4, .ref e5, .ref kC, .ref kF, .ref kT, .int spn])), (ba, .inl (cb, kb, .inl fb)), (kT, .inl (cT, 26, .inl gt)), (a1, .inr (4, [.ref o1, .ref e1, .int w_12, .int w_13, .int w_14, .int w_15, .int w_16, .int w_17])), (o1, .inr (7, [.ref r1, .int u_18])), (r1, .inl (c1, 6, .inr (.inl f_20))), (e1, .inr (3, [.int (nI R1), .ref t1, .ref s1, .int u_19])), (t1, .inl (ct1, 24 * R1, .inl f_21)), (s1, .inl (cs1, R1, .inl f_22))] H → va_D A [(cm, .inr (1, [.ref kA, .ref kB, .ref kG, .ref a1, .ref o3, .ref e4, .ref e5, .ref kC, .ref kF, .ref kT, .int spn])), (ba, .inl (cb, kb, .inl fb)), (kT, .inl (cT, 26, .inl gt)), (a1, .inr (4, [.ref o1, .ref e1, .int w_12, .int w_13, .int w_14, .int w_15, .int w_16, .int w_17])), (o1, .inr (7, [.ref r1, .int u_18])), (r1, .inl (c1, 6, .inr (.inl f_20))), (e1, .inr (3, [.int (nI R1), .ref t1, .ref s1, .int u_19])), (t1, .inl (ct1, 24 * R1, .inl f_21)), (s1, .inl (cs1, R1, .inl f_22))] → va_S A s.heap H locs → lv_has ls 7 [(6, .int lv), (5, .int 0), (4, .int i1), (0, .ref cm), (1, .ref ba), (2, .int i1), (3, .int i2)] → W p l e (headSpec mwX1_readSpot ({ frames := 2, cells := 0, slots := 0, locals := 120 })).room s m ([.ref cm, .ref ba, .int i1, .int i2]).toArray below meth c H locs 0 0 (MQ below (va_Qi (fun (o9 : Int32) (_ : Unit) => i1.toInt ≤ o9.toInt ∧ o9.toInt ≤ i2.toInt) (fun _ t => ∃ (sp9 : Int32) (fT9 : Nat → Int32) (y10 y11 y12 y13 y14 y15 nn1 mm1 : Int32) (G1 : Nat → Int64) (F1 S1 : Nat → Int32), (0 ≤ sp9.toInt ∧ sp9.toInt ≤ 24) ∧ (y10 = 0 ∨ y10 = 1) ∧ (y11 = 0 ∨ y11 = 1) ∧ (0 ≤ nn1.toInt ∧ nn1.toInt ≤ 6) ∧ (0 ≤ mm1.toInt ∧ mm1.toInt ≤ R1) ∧ (∀ i, 0 ≤ (S1 i).toInt ∧ (S1 i).toInt ≤ 24) ∧ va_P (dC, dI) vwCl [(cm, .inr (1, [.ref kA, .ref kB, .ref kG, .ref a1, .ref o3, .ref e4, .ref e5, .ref kC, .ref kF, .ref kT, .int sp9])), (ba, .inl (cb, kb, .inl fb)), (kT, .inl (cT, 26, .inl fT9)), (a1, .inr (4, [.ref o1, .ref e1, .int y10, .int y11, .int y12, .int y13, .int y14, .int y15])), (o1, .inr (7, [.ref r1, .int nn1])), (r1, .inl (c1, 6, .inr (.inl G1))), (e1, .inr (3, [.int (nI R1), .ref t1, .ref s1, .int mm1])), (t1, .inl (ct1, 24 * R1, .inl F1)), (s1, .inl (cs1, R1, .inl S1))] t.heap ∧ va_K (dC, dI) vwCl [(cb, .int), (cT, .int), (c1, .long), (ct1, .int), (cs1, .int)] t ∧ va_D A [(cm, .inr (1, [.ref kA, .ref kB, .ref kG, .ref a1, .ref o3, .ref e4, .ref e5, .ref kC, .ref kF, .ref kT, .int sp9])), (ba, .inl (cb, kb, .inl fb)), (kT, .inl (cT, 26, .inl fT9)), (a1, .inr (4, [.ref o1, .ref e1, .int y10, .int y11, .int y12, .int y13, .int y14, .int y15])), (o1, .inr (7, [.ref r1, .int nn1])), (r1, .inl (c1, 6, .inr (.inl G1))), (e1, .inr (3, [.int (nI R1), .ref t1, .ref s1, .int mm1])), (t1, .inl (ct1, 24 * R1, .inl F1)), (s1, .inl (cs1, R1, .inl S1))]) A) ([.ref cm, .ref ba, .int i1, .int i2]).toArray s 0 0 A) (F0 m 112 ls []) := by
            intro lm112
            induction lm112 with
            | zero => intro lv gt v112_0 hm112; exact absurd hm112 (Nat.not_lt_zero _)
            | succ lm112 ih112 =>
              intro lv gt v112_0 hm112 H locs ls hP hD hS hl
              have rg_lv := i_rng lv
              refine lv_iload hx hb dX1_readSpot_112 (lv_at hl 0 rfl) ?_
              refine lv_bipush (v := 26) hx hb dX1_readSpot_114 (by decide) ?_
              refine lv_icmp_ge (tgt := 147) hx hb dX1_readSpot_116 (by decide) (fun k_27 => ?_) (fun k_27 => ?_)
              · have tk_27 := c_ge (a := lv.toInt) (b := 26) rfl (by decide) k_27
                refine lv_aload_n hx hb dX1_readSpot_147 rfl (lv_at hl 3 rfl) ?_
                refine lv_dup hx hb dX1_readSpot_148 rfl ?_
                refine va_get (D := (dC, dI)) (ci := 1) (v := .int spn) (C := RX1) (T := TX1) (N := 11) hx hb hts fin_X1_readSpot_X1 hown hK hP 0 rfl rfl 10 (by decide) (hts (.fieldLink RX1 58 "PatternGate$Compiler" "spots" "I") (List.mem_of_getElem? (i := 3) (by decide +kernel))) (fun _ h9 => h9) rfl dX1_readSpot_149 ?_
                refine lv_iconst (v := 1) hx hb dX1_readSpot_152 (by decide) ?_
                refine lv_iadd hx hb dX1_readSpot_153 ?_
                refine lv_topi (fun y_28 ey_28 => ?_)
                first | have ty_28 := i_add (a := spn.toInt) (b := 1) rfl (by decide) ey_28 (by omega) (by omega) | skip
                refine va_put (D := (dC, dI)) (ci := 1) (v := .int y_28) (ty := .int) (C := RX1) (T := TX1) (N := 11) hx hb hts fin_X1_readSpot_X1 tyX1 tyX1_ok nmX1 hown hK hP hD hS 0 rfl rfl 10 (by decide) (hts (.fieldLink RX1 58 "PatternGate$Compiler" "spots" "I") (List.mem_of_getElem? (i := 3) (by decide +kernel))) (fun _ h9 => h9) rfl (by decide +kernel) rfl rfl (Nat.le_of_ble_eq_true rfl) dX1_readSpot_154 (fun H locs hP hD hS => ?_)
                have hP : va_P (dC, dI) vwCl [(cm, .inr (1, [.ref kA, .ref kB, .ref kG, .ref a1, .ref o3, .ref e4, .ref e5, .ref kC, .ref kF, .ref kT, .int y_28])), (ba, .inl (cb, kb, .inl fb)), (kT, .inl (cT, 26, .inl gt)), (a1, .inr (4, [.ref o1, .ref e1, .int w_12, .int w_13, .int w_14, .int w_15, .int w_16, .int w_17])), (o1, .inr (7, [.ref r1, .int u_18])), (r1, .inl (c1, 6, .inr (.inl f_20))), (e1, .inr (3, [.int (nI R1), .ref t1, .ref s1, .int u_19])), (t1, .inl (ct1, 24 * R1, .inl f_21)), (s1, .inl (cs1, R1, .inl f_22))] H := hP
                have hD : va_D A [(cm, .inr (1, [.ref kA, .ref kB, .ref kG, .ref a1, .ref o3, .ref e4, .ref e5, .ref kC, .ref kF, .ref kT, .int y_28])), (ba, .inl (cb, kb, .inl fb)), (kT, .inl (cT, 26, .inl gt)), (a1, .inr (4, [.ref o1, .ref e1, .int w_12, .int w_13, .int w_14, .int w_15, .int w_16, .int w_17])), (o1, .inr (7, [.ref r1, .int u_18])), (r1, .inl (c1, 6, .inr (.inl f_20))), (e1, .inr (3, [.int (nI R1), .ref t1, .ref s1, .int u_19])), (t1, .inl (ct1, 24 * R1, .inl f_21)), (s1, .inl (cs1, R1, .inl f_22))] := hD
                refine lv_iload hx hb dX1_readSpot_157 (lv_at hl 2 rfl) ?_
                have hP9 := hP.sub (ws' := [(cm, .inr (1, [.ref kA, .ref kB, .ref kG, .ref a1, .ref o3, .ref e4, .ref e5, .ref kC, .ref kF, .ref kT, .int y_28])), (ba, .inl (cb, kb, .inl fb)), (kT, .inl (cT, 26, .inl gt)), (a1, .inr (4, [.ref o1, .ref e1, .int w_12, .int w_13, .int w_14, .int w_15, .int w_16, .int w_17])), (o1, .inr (7, [.ref r1, .int u_18])), (r1, .inl (c1, 6, .inr (.inl f_20))), (e1, .inr (3, [.int (nI R1), .ref t1, .ref s1, .int u_19])), (t1, .inl (ct1, 24 * R1, .inl f_21)), (s1, .inl (cs1, R1, .inl f_22))]) [0, 1, 2, 3, 4, 5, 6, 7, 8] rfl
                have hD9 := hD.sub (ws' := [(cm, .inr (1, [.ref kA, .ref kB, .ref kG, .ref a1, .ref o3, .ref e4, .ref e5, .ref kC, .ref kF, .ref kT, .int y_28])), (ba, .inl (cb, kb, .inl fb)), (kT, .inl (cT, 26, .inl gt)), (a1, .inr (4, [.ref o1, .ref e1, .int w_12, .int w_13, .int w_14, .int w_15, .int w_16, .int w_17])), (o1, .inr (7, [.ref r1, .int u_18])), (r1, .inl (c1, 6, .inr (.inl f_20))), (e1, .inr (3, [.int (nI R1), .ref t1, .ref s1, .int u_19])), (t1, .inl (ct1, 24 * R1, .inl f_21)), (s1, .inl (cs1, R1, .inl f_22))]) [0, 1, 2, 3, 4, 5, 6, 7, 8] (by decide) rfl
                have hK9 := hK.sub (tys' := [(cb, .int), (cT, .int), (c1, .long), (ct1, .int), (cs1, .int)]) [0, 1, 2, 3, 4] rfl
                exact W.iret hx hb hr (fun t ht hW => ⟨⟨_, (), rfl, by omega, y_28, gt, w_12, w_13, w_14, w_15, w_16, w_17, u_18, u_19, f_20, f_21, f_22, (by first | omega | decide | (have l1 : (1 : Int32).toInt = 1 := rfl; have l0 : (0 : Int32).toInt = 0 := rfl; omega)), (by first | assumption | decide), (by first | assumption | decide), (by first | omega | decide | (have l1 : (1 : Int32).toInt = 1 := rfl; have l0 : (0 : Int32).toInt = 0 := rfl; omega)), (by first | omega | decide | (have l1 : (1 : Int32).toInt = 1 := rfl; have l0 : (0 : Int32).toInt = 0 := rfl; omega)), hb_f_22, by rw [ht]; exact hP9, va_K.moved hW.alike hK9, hD9⟩, hS.F ht⟩) hS.2.2 dX1_readSpot_159
              · have tk_27 := c_nge (a := lv.toInt) (b := 26) rfl (by decide) k_27
                refine lv_aload_n hx hb dX1_readSpot_119 rfl (lv_at hl 3 rfl) ?_
                refine va_get (D := (dC, dI)) (ci := 1) (v := .ref kT) (C := RX1) (T := TX1) (N := 11) hx hb hts fin_X1_readSpot_X1 hown hK hP 0 rfl rfl 9 (by decide) (hts (.fieldLink RX1 55 "PatternGate$Compiler" "takers" "[I") (List.mem_of_getElem? (i := 9) (by decide +kernel))) (fun _ h9 => h9) rfl dX1_readSpot_120 ?_
                refine lv_iload hx hb dX1_readSpot_123 (lv_at hl 0 rfl) ?_
                refine lv_dup2_11 hx hb dX1_readSpot_125 rfl rfl ?_
                refine va_iald hx hb hK hP 2 1 rfl rfl (i := lv) (vp_of (a := lv.toInt) rfl (by omega) (by omega)) dX1_readSpot_126 ?_
                refine lv_topi (fun y_29 ey_29 => ?_)
                have rg_y_29 := i_rng y_29
                refine lv_iload hx hb dX1_readSpot_127 (lv_at hl 1 rfl) ?_
                refine lv_iload hx hb dX1_readSpot_129 (lv_at hl 0 rfl) ?_
                refine lv_iushr hx hb dX1_readSpot_131 rfl ?_
                refine lv_topi (fun y_30 ey_30 => ?_)
                refine lv_iconst (v := 1) hx hb dX1_readSpot_132 (by decide) ?_
                refine lv_iand hx hb dX1_readSpot_133 ?_
                refine lv_topi (fun y_31 ey_31 => ?_)
                have ty_31 := i_and (b := 1) (by decide) (by decide) ey_31
                first | have oy_31 : y_31 = 0 ∨ y_31 = 1 := b_iand (by first | assumption | decide) (by first | assumption | decide) ey_31 | skip
                refine lv_aload_n hx hb dX1_readSpot_134 rfl (lv_at hl 3 rfl) ?_
                refine va_get (D := (dC, dI)) (ci := 1) (v := .int spn) (C := RX1) (T := TX1) (N := 11) hx hb hts fin_X1_readSpot_X1 hown hK hP 0 rfl rfl 10 (by decide) (hts (.fieldLink RX1 58 "PatternGate$Compiler" "spots" "I") (List.mem_of_getElem? (i := 3) (by decide +kernel))) (fun _ h9 => h9) rfl dX1_readSpot_135 ?_
                refine lv_ishl hx hb dX1_readSpot_138 ?_
                refine lv_topi (fun y_32 ey_32 => ?_)
                have rg_y_32 := i_rng y_32
                refine lv_ior hx hb dX1_readSpot_139 ?_
                refine lv_topi (fun y_33 ey_33 => ?_)
                have rg_y_33 := i_rng y_33
                first | have oy_33 : y_33 = 0 ∨ y_33 = 1 := b_ior (by first | assumption | decide) (by first | assumption | decide) ey_33 | skip
                refine va_iast hx hb hK hP hD hS 2 1 rfl rfl (i := lv) (vp_of (a := lv.toInt) rfl (by omega) (by omega)) dX1_readSpot_140 (fun H locs hP hD hS => ?_)
                generalize hf_f_34 : upd gt _ _ = f_34 at hP hD
                have hP : va_P (dC, dI) vwCl [(cm, .inr (1, [.ref kA, .ref kB, .ref kG, .ref a1, .ref o3, .ref e4, .ref e5, .ref kC, .ref kF, .ref kT, .int spn])), (ba, .inl (cb, kb, .inl fb)), (kT, .inl (cT, 26, .inl f_34)), (a1, .inr (4, [.ref o1, .ref e1, .int w_12, .int w_13, .int w_14, .int w_15, .int w_16, .int w_17])), (o1, .inr (7, [.ref r1, .int u_18])), (r1, .inl (c1, 6, .inr (.inl f_20))), (e1, .inr (3, [.int (nI R1), .ref t1, .ref s1, .int u_19])), (t1, .inl (ct1, 24 * R1, .inl f_21)), (s1, .inl (cs1, R1, .inl f_22))] H := hP
                have hD : va_D A [(cm, .inr (1, [.ref kA, .ref kB, .ref kG, .ref a1, .ref o3, .ref e4, .ref e5, .ref kC, .ref kF, .ref kT, .int spn])), (ba, .inl (cb, kb, .inl fb)), (kT, .inl (cT, 26, .inl f_34)), (a1, .inr (4, [.ref o1, .ref e1, .int w_12, .int w_13, .int w_14, .int w_15, .int w_16, .int w_17])), (o1, .inr (7, [.ref r1, .int u_18])), (r1, .inl (c1, 6, .inr (.inl f_20))), (e1, .inr (3, [.int (nI R1), .ref t1, .ref s1, .int u_19])), (t1, .inl (ct1, 24 * R1, .inl f_21)), (s1, .inl (cs1, R1, .inl f_22))] := hD
                obtain ⟨y_35, ey_35⟩ : ∃ y : Int32, y = lv + 1 := ⟨_, rfl⟩
                first | have ty_35 := i_add (a := lv.toInt) (b := 1) rfl (by decide) ey_35 (by omega) (by omega) | skip
                refine lv_iinc (v := y_35) (lv' := [(6, .int y_35), (5, .int 0), (4, .int i1), (0, .ref cm), (1, .ref ba), (2, .int i1), (3, .int i2)]) hx hb dX1_readSpot_141 hl (k := 0) rfl (by rw [ey_35]; rfl) (by decide) rfl (fun ls hl => ?_)
                refine lv_goto (tgt := 112) hx hb dX1_readSpot_144 (by decide) ?_
                exact ih112 y_35 f_34 (by first | omega | assumption | decide) (by omega) _ _ ls hP hD hS (lv_sub hl [0, 1, 2, 3, 4, 5, 6] rfl)
          have lit_35 : (0 : Int32).toInt = 0 := by decide
          exact loop112 _ 0 fT (by first | omega | assumption | decide) (Nat.lt_succ_self _) _ _ ls hP hD hS (lv_sub hl [0, 1, 2, 3, 4, 5, 6] rfl)
      · have tk_8 := c_ne (a := r_7.toInt) (b := 0) rfl (by decide) k_8
        refine lv_iconst (v := 1) hx hb dX1_readSpot_77 (by decide) ?_
        refine lv_aload_n hx hb dX1_readSpot_78 rfl (lv_at hl 3 rfl) ?_
        refine lv_iload_n hx hb dX1_readSpot_79 rfl (lv_at hl 4 rfl) ?_
        refine va_iald hx hb hK hP 1 0 rfl rfl (i := i1) (vp_of (a := i1.toInt) rfl (by omega) (by omega)) dX1_readSpot_80 ?_
        refine lv_topi (fun y_37 ey_37 => ?_)
        have rg_y_37 := i_rng y_37
        refine lv_bipush (v := 97) hx hb dX1_readSpot_81 (by decide) ?_
        refine lv_isub hx hb dX1_readSpot_83 ?_
        refine lv_topi (fun y_38 ey_38 => ?_)
        first | have ty_38 := i_sub (a := y_37.toInt) (b := 97) rfl (by decide) ey_38 (by omega) (by omega) | skip
        refine lv_ishl hx hb dX1_readSpot_84 ?_
        refine lv_topi (fun y_39 ey_39 => ?_)
        have rg_y_39 := i_rng y_39
        refine lv_istore (lv' := [(5, .int y_39), (4, .int i1), (0, .ref cm), (1, .ref ba), (2, .int i1), (3, .int i2)]) hx hb dX1_readSpot_85 hl (by decide) rfl (fun ls hl => ?_)
        refine lv_aload_n hx hb dX1_readSpot_87 rfl (lv_at hl 2 rfl) ?_
        refine va_get (D := (dC, dI)) (ci := 1) (v := .int spn) (C := RX1) (T := TX1) (N := 11) hx hb hts fin_X1_readSpot_X1 hown hK hP 0 rfl rfl 10 (by decide) (hts (.fieldLink RX1 58 "PatternGate$Compiler" "spots" "I") (List.mem_of_getElem? (i := 3) (by decide +kernel))) (fun _ h9 => h9) rfl dX1_readSpot_88 ?_
        refine lv_bipush (v := 24) hx hb dX1_readSpot_91 (by decide) ?_
        refine lv_icmp_ge (tgt := 157) hx hb dX1_readSpot_93 (by decide) (fun k_40 => ?_) (fun k_40 => ?_)
        · have tk_40 := c_ge (a := spn.toInt) (b := 24) rfl (by decide) k_40
          refine lv_iload hx hb dX1_readSpot_157 (lv_at hl 1 rfl) ?_
          have hP9 := hP.sub (ws' := [(cm, .inr (1, [.ref kA, .ref kB, .ref kG, .ref a1, .ref o3, .ref e4, .ref e5, .ref kC, .ref kF, .ref kT, .int spn])), (ba, .inl (cb, kb, .inl fb)), (kT, .inl (cT, 26, .inl fT)), (a1, .inr (4, [.ref o1, .ref e1, .int x10, .int x11, .int x12, .int x13, .int x14, .int x15])), (o1, .inr (7, [.ref r1, .int n1])), (r1, .inl (c1, 6, .inr (.inl f1))), (e1, .inr (3, [.int (nI R1), .ref t1, .ref s1, .int m1])), (t1, .inl (ct1, 24 * R1, .inl ft1)), (s1, .inl (cs1, R1, .inl fs1))]) [0, 1, 2, 3, 4, 5, 6, 7, 8] rfl
          have hD9 := hD.sub (ws' := [(cm, .inr (1, [.ref kA, .ref kB, .ref kG, .ref a1, .ref o3, .ref e4, .ref e5, .ref kC, .ref kF, .ref kT, .int spn])), (ba, .inl (cb, kb, .inl fb)), (kT, .inl (cT, 26, .inl fT)), (a1, .inr (4, [.ref o1, .ref e1, .int x10, .int x11, .int x12, .int x13, .int x14, .int x15])), (o1, .inr (7, [.ref r1, .int n1])), (r1, .inl (c1, 6, .inr (.inl f1))), (e1, .inr (3, [.int (nI R1), .ref t1, .ref s1, .int m1])), (t1, .inl (ct1, 24 * R1, .inl ft1)), (s1, .inl (cs1, R1, .inl fs1))]) [0, 1, 2, 3, 4, 5, 6, 7, 8] (by decide) rfl
          have hK9 := hK.sub (tys' := [(cb, .int), (cT, .int), (c1, .long), (ct1, .int), (cs1, .int)]) [0, 1, 2, 3, 4] rfl
          exact W.iret hx hb hr (fun t ht hW => ⟨⟨_, (), rfl, by omega, spn, fT, x10, x11, x12, x13, x14, x15, n1, m1, f1, ft1, fs1, (by first | omega | decide | (have l1 : (1 : Int32).toInt = 1 := rfl; have l0 : (0 : Int32).toInt = 0 := rfl; omega)), (by first | assumption | decide), (by first | assumption | decide), (by first | omega | decide | (have l1 : (1 : Int32).toInt = 1 := rfl; have l0 : (0 : Int32).toInt = 0 := rfl; omega)), (by first | omega | decide | (have l1 : (1 : Int32).toInt = 1 := rfl; have l0 : (0 : Int32).toInt = 0 := rfl; omega)), hb_fs1, by rw [ht]; exact hP9, va_K.moved hW.alike hK9, hD9⟩, hS.F ht⟩) hS.2.2 dX1_readSpot_159
        · have tk_40 := c_nge (a := spn.toInt) (b := 24) rfl (by decide) k_40
          refine lv_aload_n hx hb dX1_readSpot_96 rfl (lv_at hl 2 rfl) ?_
          refine va_get (D := (dC, dI)) (ci := 1) (v := .ref a1) (C := RX1) (T := TX1) (N := 11) hx hb hts fin_X1_readSpot_X1 hown hK hP 0 rfl rfl 3 (by decide) (hts (.fieldLink RX1 25 "PatternGate$Compiler" "spot" "LPatternGate$Part;") (List.mem_of_getElem? (i := 4) (by decide +kernel))) (fun _ h9 => h9) rfl dX1_readSpot_97 ?_
          refine lv_aload_n hx hb dX1_readSpot_100 rfl (lv_at hl 2 rfl) ?_
          refine va_get (D := (dC, dI)) (ci := 1) (v := .int spn) (C := RX1) (T := TX1) (N := 11) hx hb hts fin_X1_readSpot_X1 hown hK hP 0 rfl rfl 10 (by decide) (hts (.fieldLink RX1 58 "PatternGate$Compiler" "spots" "I") (List.mem_of_getElem? (i := 3) (by decide +kernel))) (fun _ h9 => h9) rfl dX1_readSpot_101 ?_
          refine lv_iload hx hb dX1_readSpot_104 (lv_at hl 0 rfl) ?_
          have hPc := hP.sub (ws' := [(a1, .inr (4, [.ref o1, .ref e1, .int x10, .int x11, .int x12, .int x13, .int x14, .int x15])), (o1, .inr (7, [.ref r1, .int n1])), (r1, .inl (c1, 6, .inr (.inl f1))), (e1, .inr (3, [.int (nI R1), .ref t1, .ref s1, .int m1])), (t1, .inl (ct1, 24 * R1, .inl ft1)), (s1, .inl (cs1, R1, .inl fs1))]) [3, 4, 5, 6, 7, 8] rfl
          have hKc := hK.sub (tys' := [(c1, .long), (ct1, .int), (cs1, .int)]) [2, 3, 4] rfl
          have hDc := hD.sub (ws' := [(a1, .inr (4, [.ref o1, .ref e1, .int x10, .int x11, .int x12, .int x13, .int x14, .int x15])), (o1, .inr (7, [.ref r1, .int n1])), (r1, .inl (c1, 6, .inr (.inl f1))), (e1, .inr (3, [.int (nI R1), .ref t1, .ref s1, .int m1])), (t1, .inl (ct1, 24 * R1, .inl ft1)), (s1, .inl (cs1, R1, .inl fs1))]) [3, 4, 5, 6, 7, 8] (by decide) rfl
          have hFc := va_free (wc := [(a1, .inr (4, [.ref o1, .ref e1, .int x10, .int x11, .int x12, .int x13, .int x14, .int x15])), (o1, .inr (7, [.ref r1, .int n1])), (r1, .inl (c1, 6, .inr (.inl f1))), (e1, .inr (3, [.int (nI R1), .ref t1, .ref s1, .int m1])), (t1, .inl (ct1, 24 * R1, .inl ft1)), (s1, .inl (cs1, R1, .inl fs1))]) hD hS hA [3, 4, 5, 6, 7, 8] rfl
          refine va_callv (va_runV (As := [.int spn, .int y_39]) (rest := []) ⟨hx, hb, hml, hown, hts⟩ (s_setSpot l dC dI a1 x10 x11 x12 x13 x14 x15 o1 r1 c1 f1 n1 e1 t1 s1 R1 ct1 cs1 ft1 fs1 m1 H.size spn y_39 (by first | assumption | decide) (by first | assumption | decide) (by first | omega | decide | (have l0 := Int32.toInt_zero; omega)) (by first | omega | decide | (have l0 := Int32.toInt_zero; omega)) (by first | omega | decide | (have l0 := Int32.toInt_zero; omega)) (by first | omega | decide | (have l0 := Int32.toInt_zero; omega)) (by first | omega | decide | (have l0 := Int32.toInt_zero; omega)) (by first | omega | decide | (have l0 := Int32.toInt_zero; omega)) hb_fs1) (cwV 2 hts mg_X1_readSpot_X4_setSpot_164 rfl rfl rfl (by decide +kernel) ⟨Nat.le_of_ble_eq_true rfl, Nat.le_of_ble_eq_true rfl⟩) ⟨fun a U g mk q => by obtain ⟨q0, q1, qP, qK, qD⟩ := q; exact ⟨q0, q1, qP, va_K.moved (u := U) (U := U.calling g mk a) (Vm.Alike.refl U.vm) qK, qD⟩, va_recv hKc hPc (ci := 4) (q0 := 0) rfl rfl, fun U hU hW => ⟨rfl, by rw [hU], by rw [hU]; exact hPc, va_K.moved hW.alike hKc, hDc.weaken (fun _ _ _ _ => trivial)⟩⟩ rfl rfl hl.1 rfl (lv_room (Nat.le_of_ble_eq_true rfl)) dX1_readSpot_106 ⟨Nat.le_of_ble_eq_true rfl, Nat.le_of_ble_eq_true rfl⟩) hS (fun q _ h => hFc q h) hFc (fun u t H1 locs ht hvm hw hB hz1 hk1 hS => ?_)
          obtain ⟨w_43, w_44, w_45, w_46, w_47, w_48, u_49, u_50, f_51, f_52, f_53, h_54, h_55, h_56, h_57, hb_f_53, hP1, hK1, hD1⟩ := hB
          rw [ht] at hP1
          obtain ⟨hP, hD⟩ := va_join (wr := [(cm, .inr (1, [.ref kA, .ref kB, .ref kG, .ref a1, .ref o3, .ref e4, .ref e5, .ref kC, .ref kF, .ref kT, .int spn])), (ba, .inl (cb, kb, .inl fb)), (kT, .inl (cT, 26, .inl fT))]) (w1 := [(a1, .inr (4, [.ref o1, .ref e1, .int w_43, .int w_44, .int w_45, .int w_46, .int w_47, .int w_48])), (o1, .inr (7, [.ref r1, .int u_49])), (r1, .inl (c1, 6, .inr (.inl f_51))), (e1, .inr (3, [.int (nI R1), .ref t1, .ref s1, .int u_50])), (t1, .inl (ct1, 24 * R1, .inl f_52)), (s1, .inl (cs1, R1, .inl f_53))]) hP hD [3, 4, 5, 6, 7, 8] [0, 1, 2] rfl rfl (by decide) (by decide) hk1 hFc hP1 hD1
          generalize H1 = H at hP hS ⊢
          have hP : va_P (dC, dI) vwCl [(cm, .inr (1, [.ref kA, .ref kB, .ref kG, .ref a1, .ref o3, .ref e4, .ref e5, .ref kC, .ref kF, .ref kT, .int spn])), (ba, .inl (cb, kb, .inl fb)), (kT, .inl (cT, 26, .inl fT)), (a1, .inr (4, [.ref o1, .ref e1, .int w_43, .int w_44, .int w_45, .int w_46, .int w_47, .int w_48])), (o1, .inr (7, [.ref r1, .int u_49])), (r1, .inl (c1, 6, .inr (.inl f_51))), (e1, .inr (3, [.int (nI R1), .ref t1, .ref s1, .int u_50])), (t1, .inl (ct1, 24 * R1, .inl f_52)), (s1, .inl (cs1, R1, .inl f_53))] H := hP
          have hD : va_D A [(cm, .inr (1, [.ref kA, .ref kB, .ref kG, .ref a1, .ref o3, .ref e4, .ref e5, .ref kC, .ref kF, .ref kT, .int spn])), (ba, .inl (cb, kb, .inl fb)), (kT, .inl (cT, 26, .inl fT)), (a1, .inr (4, [.ref o1, .ref e1, .int w_43, .int w_44, .int w_45, .int w_46, .int w_47, .int w_48])), (o1, .inr (7, [.ref r1, .int u_49])), (r1, .inl (c1, 6, .inr (.inl f_51))), (e1, .inr (3, [.int (nI R1), .ref t1, .ref s1, .int u_50])), (t1, .inl (ct1, 24 * R1, .inl f_52)), (s1, .inl (cs1, R1, .inl f_53))] := hD
          refine lv_iconst (v := 0) hx hb dX1_readSpot_109 (by decide) ?_
          refine lv_istore (lv' := [(6, .int 0), (5, .int y_39), (4, .int i1), (0, .ref cm), (1, .ref ba), (2, .int i1), (3, .int i2)]) hx hb dX1_readSpot_110 hl (by decide) rfl (fun ls hl => ?_)
          have loop112 : ∀ (lm112 : Nat) (lv : Int32) (gt : Nat → Int32), (0 ≤ lv.toInt ∧ lv.toInt ≤ 26) → ((26 - lv.toInt).toNat) < lm112 → ∀ (H : Heap) (locs : List Loc) (ls : Array Slot), va_P (dC, dI) vwCl [(cm, .inr (1, [.ref kA, .ref kB, .ref kG, .ref a1, .ref o3, .ref e4, .ref e5, .ref kC, .ref kF, .ref kT, .int spn])), (ba, .inl (cb, kb, .inl fb)), (kT, .inl (cT, 26, .inl gt)), (a1, .inr (4, [.ref o1, .ref e1, .int w_43, .int w_44, .int w_45, .int w_46, .int w_47, .int w_48])), (o1, .inr (7, [.ref r1, .int u_49])), (r1, .inl (c1, 6, .inr (.inl f_51))), (e1, .inr (3, [.int (nI R1), .ref t1, .ref s1, .int u_50])), (t1, .inl (ct1, 24 * R1, .inl f_52)), (s1, .inl (cs1, R1, .inl f_53))] H → va_D A [(cm, .inr (1, [.ref kA, .ref kB, .ref kG, .ref a1, .ref o3, .ref e4, .ref e5, .ref kC, .ref kF, .ref kT, .int spn])), (ba, .inl (cb, kb, .inl fb)), (kT, .inl (cT, 26, .inl gt)), (a1, .inr (4, [.ref o1, .ref e1, .int w_43, .int w_44, .int w_45, .int w_46, .int w_47, .int w_48])), (o1, .inr (7, [.ref r1, .int u_49])), (r1, .inl (c1, 6, .inr (.inl f_51))), (e1, .inr (3, [.int (nI R1), .ref t1, .ref s1, .int u_50])), (t1, .inl (ct1, 24 * R1, .inl f_52)), (s1, .inl (cs1, R1, .inl f_53))] → va_S A s.heap H locs → lv_has ls 7 [(6, .int lv), (5, .int y_39), (4, .int i1), (0, .ref cm), (1, .ref ba), (2, .int i1), (3, .int i2)] → W p l e (headSpec mwX1_readSpot ({ frames := 2, cells := 0, slots := 0, locals := 120 })).room s m ([.ref cm, .ref ba, .int i1, .int i2]).toArray below meth c H locs 0 0 (MQ below (va_Qi (fun (o9 : Int32) (_ : Unit) => i1.toInt ≤ o9.toInt ∧ o9.toInt ≤ i2.toInt) (fun _ t => ∃ (sp9 : Int32) (fT9 : Nat → Int32) (y10 y11 y12 y13 y14 y15 nn1 mm1 : Int32) (G1 : Nat → Int64) (F1 S1 : Nat → Int32), (0 ≤ sp9.toInt ∧ sp9.toInt ≤ 24) ∧ (y10 = 0 ∨ y10 = 1) ∧ (y11 = 0 ∨ y11 = 1) ∧ (0 ≤ nn1.toInt ∧ nn1.toInt ≤ 6) ∧ (0 ≤ mm1.toInt ∧ mm1.toInt ≤ R1) ∧ (∀ i, 0 ≤ (S1 i).toInt ∧ (S1 i).toInt ≤ 24) ∧ va_P (dC, dI) vwCl [(cm, .inr (1, [.ref kA, .ref kB, .ref kG, .ref a1, .ref o3, .ref e4, .ref e5, .ref kC, .ref kF, .ref kT, .int sp9])), (ba, .inl (cb, kb, .inl fb)), (kT, .inl (cT, 26, .inl fT9)), (a1, .inr (4, [.ref o1, .ref e1, .int y10, .int y11, .int y12, .int y13, .int y14, .int y15])), (o1, .inr (7, [.ref r1, .int nn1])), (r1, .inl (c1, 6, .inr (.inl G1))), (e1, .inr (3, [.int (nI R1), .ref t1, .ref s1, .int mm1])), (t1, .inl (ct1, 24 * R1, .inl F1)), (s1, .inl (cs1, R1, .inl S1))] t.heap ∧ va_K (dC, dI) vwCl [(cb, .int), (cT, .int), (c1, .long), (ct1, .int), (cs1, .int)] t ∧ va_D A [(cm, .inr (1, [.ref kA, .ref kB, .ref kG, .ref a1, .ref o3, .ref e4, .ref e5, .ref kC, .ref kF, .ref kT, .int sp9])), (ba, .inl (cb, kb, .inl fb)), (kT, .inl (cT, 26, .inl fT9)), (a1, .inr (4, [.ref o1, .ref e1, .int y10, .int y11, .int y12, .int y13, .int y14, .int y15])), (o1, .inr (7, [.ref r1, .int nn1])), (r1, .inl (c1, 6, .inr (.inl G1))), (e1, .inr (3, [.int (nI R1), .ref t1, .ref s1, .int mm1])), (t1, .inl (ct1, 24 * R1, .inl F1)), (s1, .inl (cs1, R1, .inl S1))]) A) ([.ref cm, .ref ba, .int i1, .int i2]).toArray s 0 0 A) (F0 m 112 ls []) := by
            intro lm112
            induction lm112 with
            | zero => intro lv gt v112_0 hm112; exact absurd hm112 (Nat.not_lt_zero _)
            | succ lm112 ih112 =>
              intro lv gt v112_0 hm112 H locs ls hP hD hS hl
              have rg_lv := i_rng lv
              refine lv_iload hx hb dX1_readSpot_112 (lv_at hl 0 rfl) ?_
              refine lv_bipush (v := 26) hx hb dX1_readSpot_114 (by decide) ?_
              refine lv_icmp_ge (tgt := 147) hx hb dX1_readSpot_116 (by decide) (fun k_58 => ?_) (fun k_58 => ?_)
              · have tk_58 := c_ge (a := lv.toInt) (b := 26) rfl (by decide) k_58
                refine lv_aload_n hx hb dX1_readSpot_147 rfl (lv_at hl 3 rfl) ?_
                refine lv_dup hx hb dX1_readSpot_148 rfl ?_
                refine va_get (D := (dC, dI)) (ci := 1) (v := .int spn) (C := RX1) (T := TX1) (N := 11) hx hb hts fin_X1_readSpot_X1 hown hK hP 0 rfl rfl 10 (by decide) (hts (.fieldLink RX1 58 "PatternGate$Compiler" "spots" "I") (List.mem_of_getElem? (i := 3) (by decide +kernel))) (fun _ h9 => h9) rfl dX1_readSpot_149 ?_
                refine lv_iconst (v := 1) hx hb dX1_readSpot_152 (by decide) ?_
                refine lv_iadd hx hb dX1_readSpot_153 ?_
                refine lv_topi (fun y_59 ey_59 => ?_)
                first | have ty_59 := i_add (a := spn.toInt) (b := 1) rfl (by decide) ey_59 (by omega) (by omega) | skip
                refine va_put (D := (dC, dI)) (ci := 1) (v := .int y_59) (ty := .int) (C := RX1) (T := TX1) (N := 11) hx hb hts fin_X1_readSpot_X1 tyX1 tyX1_ok nmX1 hown hK hP hD hS 0 rfl rfl 10 (by decide) (hts (.fieldLink RX1 58 "PatternGate$Compiler" "spots" "I") (List.mem_of_getElem? (i := 3) (by decide +kernel))) (fun _ h9 => h9) rfl (by decide +kernel) rfl rfl (Nat.le_of_ble_eq_true rfl) dX1_readSpot_154 (fun H locs hP hD hS => ?_)
                have hP : va_P (dC, dI) vwCl [(cm, .inr (1, [.ref kA, .ref kB, .ref kG, .ref a1, .ref o3, .ref e4, .ref e5, .ref kC, .ref kF, .ref kT, .int y_59])), (ba, .inl (cb, kb, .inl fb)), (kT, .inl (cT, 26, .inl gt)), (a1, .inr (4, [.ref o1, .ref e1, .int w_43, .int w_44, .int w_45, .int w_46, .int w_47, .int w_48])), (o1, .inr (7, [.ref r1, .int u_49])), (r1, .inl (c1, 6, .inr (.inl f_51))), (e1, .inr (3, [.int (nI R1), .ref t1, .ref s1, .int u_50])), (t1, .inl (ct1, 24 * R1, .inl f_52)), (s1, .inl (cs1, R1, .inl f_53))] H := hP
                have hD : va_D A [(cm, .inr (1, [.ref kA, .ref kB, .ref kG, .ref a1, .ref o3, .ref e4, .ref e5, .ref kC, .ref kF, .ref kT, .int y_59])), (ba, .inl (cb, kb, .inl fb)), (kT, .inl (cT, 26, .inl gt)), (a1, .inr (4, [.ref o1, .ref e1, .int w_43, .int w_44, .int w_45, .int w_46, .int w_47, .int w_48])), (o1, .inr (7, [.ref r1, .int u_49])), (r1, .inl (c1, 6, .inr (.inl f_51))), (e1, .inr (3, [.int (nI R1), .ref t1, .ref s1, .int u_50])), (t1, .inl (ct1, 24 * R1, .inl f_52)), (s1, .inl (cs1, R1, .inl f_53))] := hD
                refine lv_iload hx hb dX1_readSpot_157 (lv_at hl 2 rfl) ?_
                have hP9 := hP.sub (ws' := [(cm, .inr (1, [.ref kA, .ref kB, .ref kG, .ref a1, .ref o3, .ref e4, .ref e5, .ref kC, .ref kF, .ref kT, .int y_59])), (ba, .inl (cb, kb, .inl fb)), (kT, .inl (cT, 26, .inl gt)), (a1, .inr (4, [.ref o1, .ref e1, .int w_43, .int w_44, .int w_45, .int w_46, .int w_47, .int w_48])), (o1, .inr (7, [.ref r1, .int u_49])), (r1, .inl (c1, 6, .inr (.inl f_51))), (e1, .inr (3, [.int (nI R1), .ref t1, .ref s1, .int u_50])), (t1, .inl (ct1, 24 * R1, .inl f_52)), (s1, .inl (cs1, R1, .inl f_53))]) [0, 1, 2, 3, 4, 5, 6, 7, 8] rfl
                have hD9 := hD.sub (ws' := [(cm, .inr (1, [.ref kA, .ref kB, .ref kG, .ref a1, .ref o3, .ref e4, .ref e5, .ref kC, .ref kF, .ref kT, .int y_59])), (ba, .inl (cb, kb, .inl fb)), (kT, .inl (cT, 26, .inl gt)), (a1, .inr (4, [.ref o1, .ref e1, .int w_43, .int w_44, .int w_45, .int w_46, .int w_47, .int w_48])), (o1, .inr (7, [.ref r1, .int u_49])), (r1, .inl (c1, 6, .inr (.inl f_51))), (e1, .inr (3, [.int (nI R1), .ref t1, .ref s1, .int u_50])), (t1, .inl (ct1, 24 * R1, .inl f_52)), (s1, .inl (cs1, R1, .inl f_53))]) [0, 1, 2, 3, 4, 5, 6, 7, 8] (by decide) rfl
                have hK9 := hK.sub (tys' := [(cb, .int), (cT, .int), (c1, .long), (ct1, .int), (cs1, .int)]) [0, 1, 2, 3, 4] rfl
                exact W.iret hx hb hr (fun t ht hW => ⟨⟨_, (), rfl, by omega, y_59, gt, w_43, w_44, w_45, w_46, w_47, w_48, u_49, u_50, f_51, f_52, f_53, (by first | omega | decide | (have l1 : (1 : Int32).toInt = 1 := rfl; have l0 : (0 : Int32).toInt = 0 := rfl; omega)), (by first | assumption | decide), (by first | assumption | decide), (by first | omega | decide | (have l1 : (1 : Int32).toInt = 1 := rfl; have l0 : (0 : Int32).toInt = 0 := rfl; omega)), (by first | omega | decide | (have l1 : (1 : Int32).toInt = 1 := rfl; have l0 : (0 : Int32).toInt = 0 := rfl; omega)), hb_f_53, by rw [ht]; exact hP9, va_K.moved hW.alike hK9, hD9⟩, hS.F ht⟩) hS.2.2 dX1_readSpot_159
              · have tk_58 := c_nge (a := lv.toInt) (b := 26) rfl (by decide) k_58
                refine lv_aload_n hx hb dX1_readSpot_119 rfl (lv_at hl 3 rfl) ?_
                refine va_get (D := (dC, dI)) (ci := 1) (v := .ref kT) (C := RX1) (T := TX1) (N := 11) hx hb hts fin_X1_readSpot_X1 hown hK hP 0 rfl rfl 9 (by decide) (hts (.fieldLink RX1 55 "PatternGate$Compiler" "takers" "[I") (List.mem_of_getElem? (i := 9) (by decide +kernel))) (fun _ h9 => h9) rfl dX1_readSpot_120 ?_
                refine lv_iload hx hb dX1_readSpot_123 (lv_at hl 0 rfl) ?_
                refine lv_dup2_11 hx hb dX1_readSpot_125 rfl rfl ?_
                refine va_iald hx hb hK hP 2 1 rfl rfl (i := lv) (vp_of (a := lv.toInt) rfl (by omega) (by omega)) dX1_readSpot_126 ?_
                refine lv_topi (fun y_60 ey_60 => ?_)
                have rg_y_60 := i_rng y_60
                refine lv_iload hx hb dX1_readSpot_127 (lv_at hl 1 rfl) ?_
                refine lv_iload hx hb dX1_readSpot_129 (lv_at hl 0 rfl) ?_
                refine lv_iushr hx hb dX1_readSpot_131 rfl ?_
                refine lv_topi (fun y_61 ey_61 => ?_)
                refine lv_iconst (v := 1) hx hb dX1_readSpot_132 (by decide) ?_
                refine lv_iand hx hb dX1_readSpot_133 ?_
                refine lv_topi (fun y_62 ey_62 => ?_)
                have ty_62 := i_and (b := 1) (by decide) (by decide) ey_62
                first | have oy_62 : y_62 = 0 ∨ y_62 = 1 := b_iand (by first | assumption | decide) (by first | assumption | decide) ey_62 | skip
                refine lv_aload_n hx hb dX1_readSpot_134 rfl (lv_at hl 3 rfl) ?_
                refine va_get (D := (dC, dI)) (ci := 1) (v := .int spn) (C := RX1) (T := TX1) (N := 11) hx hb hts fin_X1_readSpot_X1 hown hK hP 0 rfl rfl 10 (by decide) (hts (.fieldLink RX1 58 "PatternGate$Compiler" "spots" "I") (List.mem_of_getElem? (i := 3) (by decide +kernel))) (fun _ h9 => h9) rfl dX1_readSpot_135 ?_
                refine lv_ishl hx hb dX1_readSpot_138 ?_
                refine lv_topi (fun y_63 ey_63 => ?_)
                have rg_y_63 := i_rng y_63
                refine lv_ior hx hb dX1_readSpot_139 ?_
                refine lv_topi (fun y_64 ey_64 => ?_)
                have rg_y_64 := i_rng y_64
                first | have oy_64 : y_64 = 0 ∨ y_64 = 1 := b_ior (by first | assumption | decide) (by first | assumption | decide) ey_64 | skip
                refine va_iast hx hb hK hP hD hS 2 1 rfl rfl (i := lv) (vp_of (a := lv.toInt) rfl (by omega) (by omega)) dX1_readSpot_140 (fun H locs hP hD hS => ?_)
                generalize hf_f_65 : upd gt _ _ = f_65 at hP hD
                have hP : va_P (dC, dI) vwCl [(cm, .inr (1, [.ref kA, .ref kB, .ref kG, .ref a1, .ref o3, .ref e4, .ref e5, .ref kC, .ref kF, .ref kT, .int spn])), (ba, .inl (cb, kb, .inl fb)), (kT, .inl (cT, 26, .inl f_65)), (a1, .inr (4, [.ref o1, .ref e1, .int w_43, .int w_44, .int w_45, .int w_46, .int w_47, .int w_48])), (o1, .inr (7, [.ref r1, .int u_49])), (r1, .inl (c1, 6, .inr (.inl f_51))), (e1, .inr (3, [.int (nI R1), .ref t1, .ref s1, .int u_50])), (t1, .inl (ct1, 24 * R1, .inl f_52)), (s1, .inl (cs1, R1, .inl f_53))] H := hP
                have hD : va_D A [(cm, .inr (1, [.ref kA, .ref kB, .ref kG, .ref a1, .ref o3, .ref e4, .ref e5, .ref kC, .ref kF, .ref kT, .int spn])), (ba, .inl (cb, kb, .inl fb)), (kT, .inl (cT, 26, .inl f_65)), (a1, .inr (4, [.ref o1, .ref e1, .int w_43, .int w_44, .int w_45, .int w_46, .int w_47, .int w_48])), (o1, .inr (7, [.ref r1, .int u_49])), (r1, .inl (c1, 6, .inr (.inl f_51))), (e1, .inr (3, [.int (nI R1), .ref t1, .ref s1, .int u_50])), (t1, .inl (ct1, 24 * R1, .inl f_52)), (s1, .inl (cs1, R1, .inl f_53))] := hD
                obtain ⟨y_66, ey_66⟩ : ∃ y : Int32, y = lv + 1 := ⟨_, rfl⟩
                first | have ty_66 := i_add (a := lv.toInt) (b := 1) rfl (by decide) ey_66 (by omega) (by omega) | skip
                refine lv_iinc (v := y_66) (lv' := [(6, .int y_66), (5, .int y_39), (4, .int i1), (0, .ref cm), (1, .ref ba), (2, .int i1), (3, .int i2)]) hx hb dX1_readSpot_141 hl (k := 0) rfl (by rw [ey_66]; rfl) (by decide) rfl (fun ls hl => ?_)
                refine lv_goto (tgt := 112) hx hb dX1_readSpot_144 (by decide) ?_
                exact ih112 y_66 f_65 (by first | omega | assumption | decide) (by omega) _ _ ls hP hD hS (lv_sub hl [0, 1, 2, 3, 4, 5, 6] rfl)
          have lit_66 : (0 : Int32).toInt = 0 := by decide
          exact loop112 _ 0 fT (by first | omega | assumption | decide) (Nat.lt_succ_self _) _ _ ls hP hD hS (lv_sub hl [0, 1, 2, 3, 4, 5, 6] rfl)
    · have tk_4 := c_eq (a := y_3.toInt) (b := 91) rfl (by decide) k_4
      obtain ⟨y_68, ey_68⟩ : ∃ y : Int32, y = i1 + 1 := ⟨_, rfl⟩
      first | have ty_68 := i_add (a := i1.toInt) (b := 1) rfl (by decide) ey_68 (by omega) (by omega) | skip
      refine lv_iinc (v := y_68) (lv' := [(4, .int y_68), (5, .int 0), (0, .ref cm), (1, .ref ba), (2, .int i1), (3, .int i2)]) hx hb dX1_readSpot_29 hl (k := 1) rfl (by rw [ey_68]; rfl) (by decide) rfl (fun ls hl => ?_)
      have loop32 : ∀ (lm32 : Nat) (en le : Int32), (i1.toInt + 1 ≤ en.toInt ∧ en.toInt ≤ i2.toInt) → ((i2.toInt - en.toInt).toNat) < lm32 → ∀ (H : Heap) (locs : List Loc) (ls : Array Slot), va_P (dC, dI) vwCl [(cm, .inr (1, [.ref kA, .ref kB, .ref kG, .ref a1, .ref o3, .ref e4, .ref e5, .ref kC, .ref kF, .ref kT, .int spn])), (ba, .inl (cb, kb, .inl fb)), (kT, .inl (cT, 26, .inl fT)), (a1, .inr (4, [.ref o1, .ref e1, .int x10, .int x11, .int x12, .int x13, .int x14, .int x15])), (o1, .inr (7, [.ref r1, .int n1])), (r1, .inl (c1, 6, .inr (.inl f1))), (e1, .inr (3, [.int (nI R1), .ref t1, .ref s1, .int m1])), (t1, .inl (ct1, 24 * R1, .inl ft1)), (s1, .inl (cs1, R1, .inl fs1))] H → va_D A [(cm, .inr (1, [.ref kA, .ref kB, .ref kG, .ref a1, .ref o3, .ref e4, .ref e5, .ref kC, .ref kF, .ref kT, .int spn])), (ba, .inl (cb, kb, .inl fb)), (kT, .inl (cT, 26, .inl fT)), (a1, .inr (4, [.ref o1, .ref e1, .int x10, .int x11, .int x12, .int x13, .int x14, .int x15])), (o1, .inr (7, [.ref r1, .int n1])), (r1, .inl (c1, 6, .inr (.inl f1))), (e1, .inr (3, [.int (nI R1), .ref t1, .ref s1, .int m1])), (t1, .inl (ct1, 24 * R1, .inl ft1)), (s1, .inl (cs1, R1, .inl fs1))] → va_S A s.heap H locs → lv_has ls 7 [(4, .int en), (5, .int le), (0, .ref cm), (1, .ref ba), (2, .int i1), (3, .int i2)] → W p l e (headSpec mwX1_readSpot ({ frames := 2, cells := 0, slots := 0, locals := 120 })).room s m ([.ref cm, .ref ba, .int i1, .int i2]).toArray below meth c H locs 0 0 (MQ below (va_Qi (fun (o9 : Int32) (_ : Unit) => i1.toInt ≤ o9.toInt ∧ o9.toInt ≤ i2.toInt) (fun _ t => ∃ (sp9 : Int32) (fT9 : Nat → Int32) (y10 y11 y12 y13 y14 y15 nn1 mm1 : Int32) (G1 : Nat → Int64) (F1 S1 : Nat → Int32), (0 ≤ sp9.toInt ∧ sp9.toInt ≤ 24) ∧ (y10 = 0 ∨ y10 = 1) ∧ (y11 = 0 ∨ y11 = 1) ∧ (0 ≤ nn1.toInt ∧ nn1.toInt ≤ 6) ∧ (0 ≤ mm1.toInt ∧ mm1.toInt ≤ R1) ∧ (∀ i, 0 ≤ (S1 i).toInt ∧ (S1 i).toInt ≤ 24) ∧ va_P (dC, dI) vwCl [(cm, .inr (1, [.ref kA, .ref kB, .ref kG, .ref a1, .ref o3, .ref e4, .ref e5, .ref kC, .ref kF, .ref kT, .int sp9])), (ba, .inl (cb, kb, .inl fb)), (kT, .inl (cT, 26, .inl fT9)), (a1, .inr (4, [.ref o1, .ref e1, .int y10, .int y11, .int y12, .int y13, .int y14, .int y15])), (o1, .inr (7, [.ref r1, .int nn1])), (r1, .inl (c1, 6, .inr (.inl G1))), (e1, .inr (3, [.int (nI R1), .ref t1, .ref s1, .int mm1])), (t1, .inl (ct1, 24 * R1, .inl F1)), (s1, .inl (cs1, R1, .inl S1))] t.heap ∧ va_K (dC, dI) vwCl [(cb, .int), (cT, .int), (c1, .long), (ct1, .int), (cs1, .int)] t ∧ va_D A [(cm, .inr (1, [.ref kA, .ref kB, .ref kG, .ref a1, .ref o3, .ref e4, .ref e5, .ref kC, .ref kF, .ref kT, .int sp9])), (ba, .inl (cb, kb, .inl fb)), (kT, .inl (cT, 26, .inl fT9)), (a1, .inr (4, [.ref o1, .ref e1, .int y10, .int y11, .int y12, .int y13, .int y14, .int y15])), (o1, .inr (7, [.ref r1, .int nn1])), (r1, .inl (c1, 6, .inr (.inl G1))), (e1, .inr (3, [.int (nI R1), .ref t1, .ref s1, .int mm1])), (t1, .inl (ct1, 24 * R1, .inl F1)), (s1, .inl (cs1, R1, .inl S1))]) A) ([.ref cm, .ref ba, .int i1, .int i2]).toArray s 0 0 A) (F0 m 32 ls []) := by
        intro lm32
        induction lm32 with
        | zero => intro en le v32_0 hm32; exact absurd hm32 (Nat.not_lt_zero _)
        | succ lm32 ih32 =>
          intro en le v32_0 hm32 H locs ls hP hD hS hl
          have rg_en := i_rng en
          have rg_le := i_rng le
          refine lv_iload hx hb dX1_readSpot_32 (lv_at hl 0 rfl) ?_
          refine lv_iload_n hx hb dX1_readSpot_34 rfl (lv_at hl 5 rfl) ?_
          refine lv_icmp_ge (tgt := 87) hx hb dX1_readSpot_35 (by decide) (fun k_69 => ?_) (fun k_69 => ?_)
          · have tk_69 := c_ge (a := en.toInt) (b := i2.toInt) rfl rfl k_69
            refine lv_aload_n hx hb dX1_readSpot_87 rfl (lv_at hl 2 rfl) ?_
            refine va_get (D := (dC, dI)) (ci := 1) (v := .int spn) (C := RX1) (T := TX1) (N := 11) hx hb hts fin_X1_readSpot_X1 hown hK hP 0 rfl rfl 10 (by decide) (hts (.fieldLink RX1 58 "PatternGate$Compiler" "spots" "I") (List.mem_of_getElem? (i := 3) (by decide +kernel))) (fun _ h9 => h9) rfl dX1_readSpot_88 ?_
            refine lv_bipush (v := 24) hx hb dX1_readSpot_91 (by decide) ?_
            refine lv_icmp_ge (tgt := 157) hx hb dX1_readSpot_93 (by decide) (fun k_70 => ?_) (fun k_70 => ?_)
            · have tk_70 := c_ge (a := spn.toInt) (b := 24) rfl (by decide) k_70
              refine lv_iload hx hb dX1_readSpot_157 (lv_at hl 0 rfl) ?_
              have hP9 := hP.sub (ws' := [(cm, .inr (1, [.ref kA, .ref kB, .ref kG, .ref a1, .ref o3, .ref e4, .ref e5, .ref kC, .ref kF, .ref kT, .int spn])), (ba, .inl (cb, kb, .inl fb)), (kT, .inl (cT, 26, .inl fT)), (a1, .inr (4, [.ref o1, .ref e1, .int x10, .int x11, .int x12, .int x13, .int x14, .int x15])), (o1, .inr (7, [.ref r1, .int n1])), (r1, .inl (c1, 6, .inr (.inl f1))), (e1, .inr (3, [.int (nI R1), .ref t1, .ref s1, .int m1])), (t1, .inl (ct1, 24 * R1, .inl ft1)), (s1, .inl (cs1, R1, .inl fs1))]) [0, 1, 2, 3, 4, 5, 6, 7, 8] rfl
              have hD9 := hD.sub (ws' := [(cm, .inr (1, [.ref kA, .ref kB, .ref kG, .ref a1, .ref o3, .ref e4, .ref e5, .ref kC, .ref kF, .ref kT, .int spn])), (ba, .inl (cb, kb, .inl fb)), (kT, .inl (cT, 26, .inl fT)), (a1, .inr (4, [.ref o1, .ref e1, .int x10, .int x11, .int x12, .int x13, .int x14, .int x15])), (o1, .inr (7, [.ref r1, .int n1])), (r1, .inl (c1, 6, .inr (.inl f1))), (e1, .inr (3, [.int (nI R1), .ref t1, .ref s1, .int m1])), (t1, .inl (ct1, 24 * R1, .inl ft1)), (s1, .inl (cs1, R1, .inl fs1))]) [0, 1, 2, 3, 4, 5, 6, 7, 8] (by decide) rfl
              have hK9 := hK.sub (tys' := [(cb, .int), (cT, .int), (c1, .long), (ct1, .int), (cs1, .int)]) [0, 1, 2, 3, 4] rfl
              exact W.iret hx hb hr (fun t ht hW => ⟨⟨_, (), rfl, by omega, spn, fT, x10, x11, x12, x13, x14, x15, n1, m1, f1, ft1, fs1, (by first | omega | decide | (have l1 : (1 : Int32).toInt = 1 := rfl; have l0 : (0 : Int32).toInt = 0 := rfl; omega)), (by first | assumption | decide), (by first | assumption | decide), (by first | omega | decide | (have l1 : (1 : Int32).toInt = 1 := rfl; have l0 : (0 : Int32).toInt = 0 := rfl; omega)), (by first | omega | decide | (have l1 : (1 : Int32).toInt = 1 := rfl; have l0 : (0 : Int32).toInt = 0 := rfl; omega)), hb_fs1, by rw [ht]; exact hP9, va_K.moved hW.alike hK9, hD9⟩, hS.F ht⟩) hS.2.2 dX1_readSpot_159
            · have tk_70 := c_nge (a := spn.toInt) (b := 24) rfl (by decide) k_70
              refine lv_aload_n hx hb dX1_readSpot_96 rfl (lv_at hl 2 rfl) ?_
              refine va_get (D := (dC, dI)) (ci := 1) (v := .ref a1) (C := RX1) (T := TX1) (N := 11) hx hb hts fin_X1_readSpot_X1 hown hK hP 0 rfl rfl 3 (by decide) (hts (.fieldLink RX1 25 "PatternGate$Compiler" "spot" "LPatternGate$Part;") (List.mem_of_getElem? (i := 4) (by decide +kernel))) (fun _ h9 => h9) rfl dX1_readSpot_97 ?_
              refine lv_aload_n hx hb dX1_readSpot_100 rfl (lv_at hl 2 rfl) ?_
              refine va_get (D := (dC, dI)) (ci := 1) (v := .int spn) (C := RX1) (T := TX1) (N := 11) hx hb hts fin_X1_readSpot_X1 hown hK hP 0 rfl rfl 10 (by decide) (hts (.fieldLink RX1 58 "PatternGate$Compiler" "spots" "I") (List.mem_of_getElem? (i := 3) (by decide +kernel))) (fun _ h9 => h9) rfl dX1_readSpot_101 ?_
              refine lv_iload hx hb dX1_readSpot_104 (lv_at hl 1 rfl) ?_
              have hPc := hP.sub (ws' := [(a1, .inr (4, [.ref o1, .ref e1, .int x10, .int x11, .int x12, .int x13, .int x14, .int x15])), (o1, .inr (7, [.ref r1, .int n1])), (r1, .inl (c1, 6, .inr (.inl f1))), (e1, .inr (3, [.int (nI R1), .ref t1, .ref s1, .int m1])), (t1, .inl (ct1, 24 * R1, .inl ft1)), (s1, .inl (cs1, R1, .inl fs1))]) [3, 4, 5, 6, 7, 8] rfl
              have hKc := hK.sub (tys' := [(c1, .long), (ct1, .int), (cs1, .int)]) [2, 3, 4] rfl
              have hDc := hD.sub (ws' := [(a1, .inr (4, [.ref o1, .ref e1, .int x10, .int x11, .int x12, .int x13, .int x14, .int x15])), (o1, .inr (7, [.ref r1, .int n1])), (r1, .inl (c1, 6, .inr (.inl f1))), (e1, .inr (3, [.int (nI R1), .ref t1, .ref s1, .int m1])), (t1, .inl (ct1, 24 * R1, .inl ft1)), (s1, .inl (cs1, R1, .inl fs1))]) [3, 4, 5, 6, 7, 8] (by decide) rfl
              have hFc := va_free (wc := [(a1, .inr (4, [.ref o1, .ref e1, .int x10, .int x11, .int x12, .int x13, .int x14, .int x15])), (o1, .inr (7, [.ref r1, .int n1])), (r1, .inl (c1, 6, .inr (.inl f1))), (e1, .inr (3, [.int (nI R1), .ref t1, .ref s1, .int m1])), (t1, .inl (ct1, 24 * R1, .inl ft1)), (s1, .inl (cs1, R1, .inl fs1))]) hD hS hA [3, 4, 5, 6, 7, 8] rfl
              refine va_callv (va_runV (As := [.int spn, .int le]) (rest := []) ⟨hx, hb, hml, hown, hts⟩ (s_setSpot l dC dI a1 x10 x11 x12 x13 x14 x15 o1 r1 c1 f1 n1 e1 t1 s1 R1 ct1 cs1 ft1 fs1 m1 H.size spn le (by first | assumption | decide) (by first | assumption | decide) (by first | omega | decide | (have l0 := Int32.toInt_zero; omega)) (by first | omega | decide | (have l0 := Int32.toInt_zero; omega)) (by first | omega | decide | (have l0 := Int32.toInt_zero; omega)) (by first | omega | decide | (have l0 := Int32.toInt_zero; omega)) (by first | omega | decide | (have l0 := Int32.toInt_zero; omega)) (by first | omega | decide | (have l0 := Int32.toInt_zero; omega)) hb_fs1) (cwV 2 hts mg_X1_readSpot_X4_setSpot_164 rfl rfl rfl (by decide +kernel) ⟨Nat.le_of_ble_eq_true rfl, Nat.le_of_ble_eq_true rfl⟩) ⟨fun a U g mk q => by obtain ⟨q0, q1, qP, qK, qD⟩ := q; exact ⟨q0, q1, qP, va_K.moved (u := U) (U := U.calling g mk a) (Vm.Alike.refl U.vm) qK, qD⟩, va_recv hKc hPc (ci := 4) (q0 := 0) rfl rfl, fun U hU hW => ⟨rfl, by rw [hU], by rw [hU]; exact hPc, va_K.moved hW.alike hKc, hDc.weaken (fun _ _ _ _ => trivial)⟩⟩ rfl rfl hl.1 rfl (lv_room (Nat.le_of_ble_eq_true rfl)) dX1_readSpot_106 ⟨Nat.le_of_ble_eq_true rfl, Nat.le_of_ble_eq_true rfl⟩) hS (fun q _ h => hFc q h) hFc (fun u t H1 locs ht hvm hw hB hz1 hk1 hS => ?_)
              obtain ⟨w_73, w_74, w_75, w_76, w_77, w_78, u_79, u_80, f_81, f_82, f_83, h_84, h_85, h_86, h_87, hb_f_83, hP1, hK1, hD1⟩ := hB
              rw [ht] at hP1
              obtain ⟨hP, hD⟩ := va_join (wr := [(cm, .inr (1, [.ref kA, .ref kB, .ref kG, .ref a1, .ref o3, .ref e4, .ref e5, .ref kC, .ref kF, .ref kT, .int spn])), (ba, .inl (cb, kb, .inl fb)), (kT, .inl (cT, 26, .inl fT))]) (w1 := [(a1, .inr (4, [.ref o1, .ref e1, .int w_73, .int w_74, .int w_75, .int w_76, .int w_77, .int w_78])), (o1, .inr (7, [.ref r1, .int u_79])), (r1, .inl (c1, 6, .inr (.inl f_81))), (e1, .inr (3, [.int (nI R1), .ref t1, .ref s1, .int u_80])), (t1, .inl (ct1, 24 * R1, .inl f_82)), (s1, .inl (cs1, R1, .inl f_83))]) hP hD [3, 4, 5, 6, 7, 8] [0, 1, 2] rfl rfl (by decide) (by decide) hk1 hFc hP1 hD1
              generalize H1 = H at hP hS ⊢
              have hP : va_P (dC, dI) vwCl [(cm, .inr (1, [.ref kA, .ref kB, .ref kG, .ref a1, .ref o3, .ref e4, .ref e5, .ref kC, .ref kF, .ref kT, .int spn])), (ba, .inl (cb, kb, .inl fb)), (kT, .inl (cT, 26, .inl fT)), (a1, .inr (4, [.ref o1, .ref e1, .int w_73, .int w_74, .int w_75, .int w_76, .int w_77, .int w_78])), (o1, .inr (7, [.ref r1, .int u_79])), (r1, .inl (c1, 6, .inr (.inl f_81))), (e1, .inr (3, [.int (nI R1), .ref t1, .ref s1, .int u_80])), (t1, .inl (ct1, 24 * R1, .inl f_82)), (s1, .inl (cs1, R1, .inl f_83))] H := hP
              have hD : va_D A [(cm, .inr (1, [.ref kA, .ref kB, .ref kG, .ref a1, .ref o3, .ref e4, .ref e5, .ref kC, .ref kF, .ref kT, .int spn])), (ba, .inl (cb, kb, .inl fb)), (kT, .inl (cT, 26, .inl fT)), (a1, .inr (4, [.ref o1, .ref e1, .int w_73, .int w_74, .int w_75, .int w_76, .int w_77, .int w_78])), (o1, .inr (7, [.ref r1, .int u_79])), (r1, .inl (c1, 6, .inr (.inl f_81))), (e1, .inr (3, [.int (nI R1), .ref t1, .ref s1, .int u_80])), (t1, .inl (ct1, 24 * R1, .inl f_82)), (s1, .inl (cs1, R1, .inl f_83))] := hD
              refine lv_iconst (v := 0) hx hb dX1_readSpot_109 (by decide) ?_
              refine lv_istore (lv' := [(6, .int 0), (4, .int en), (5, .int le), (0, .ref cm), (1, .ref ba), (2, .int i1), (3, .int i2)]) hx hb dX1_readSpot_110 hl (by decide) rfl (fun ls hl => ?_)
              have loop112 : ∀ (lm112 : Nat) (lv : Int32) (gt : Nat → Int32), (0 ≤ lv.toInt ∧ lv.toInt ≤ 26) → ((26 - lv.toInt).toNat) < lm112 → ∀ (H : Heap) (locs : List Loc) (ls : Array Slot), va_P (dC, dI) vwCl [(cm, .inr (1, [.ref kA, .ref kB, .ref kG, .ref a1, .ref o3, .ref e4, .ref e5, .ref kC, .ref kF, .ref kT, .int spn])), (ba, .inl (cb, kb, .inl fb)), (kT, .inl (cT, 26, .inl gt)), (a1, .inr (4, [.ref o1, .ref e1, .int w_73, .int w_74, .int w_75, .int w_76, .int w_77, .int w_78])), (o1, .inr (7, [.ref r1, .int u_79])), (r1, .inl (c1, 6, .inr (.inl f_81))), (e1, .inr (3, [.int (nI R1), .ref t1, .ref s1, .int u_80])), (t1, .inl (ct1, 24 * R1, .inl f_82)), (s1, .inl (cs1, R1, .inl f_83))] H → va_D A [(cm, .inr (1, [.ref kA, .ref kB, .ref kG, .ref a1, .ref o3, .ref e4, .ref e5, .ref kC, .ref kF, .ref kT, .int spn])), (ba, .inl (cb, kb, .inl fb)), (kT, .inl (cT, 26, .inl gt)), (a1, .inr (4, [.ref o1, .ref e1, .int w_73, .int w_74, .int w_75, .int w_76, .int w_77, .int w_78])), (o1, .inr (7, [.ref r1, .int u_79])), (r1, .inl (c1, 6, .inr (.inl f_81))), (e1, .inr (3, [.int (nI R1), .ref t1, .ref s1, .int u_80])), (t1, .inl (ct1, 24 * R1, .inl f_82)), (s1, .inl (cs1, R1, .inl f_83))] → va_S A s.heap H locs → lv_has ls 7 [(6, .int lv), (4, .int en), (5, .int le), (0, .ref cm), (1, .ref ba), (2, .int i1), (3, .int i2)] → W p l e (headSpec mwX1_readSpot ({ frames := 2, cells := 0, slots := 0, locals := 120 })).room s m ([.ref cm, .ref ba, .int i1, .int i2]).toArray below meth c H locs 0 0 (MQ below (va_Qi (fun (o9 : Int32) (_ : Unit) => i1.toInt ≤ o9.toInt ∧ o9.toInt ≤ i2.toInt) (fun _ t => ∃ (sp9 : Int32) (fT9 : Nat → Int32) (y10 y11 y12 y13 y14 y15 nn1 mm1 : Int32) (G1 : Nat → Int64) (F1 S1 : Nat → Int32), (0 ≤ sp9.toInt ∧ sp9.toInt ≤ 24) ∧ (y10 = 0 ∨ y10 = 1) ∧ (y11 = 0 ∨ y11 = 1) ∧ (0 ≤ nn1.toInt ∧ nn1.toInt ≤ 6) ∧ (0 ≤ mm1.toInt ∧ mm1.toInt ≤ R1) ∧ (∀ i, 0 ≤ (S1 i).toInt ∧ (S1 i).toInt ≤ 24) ∧ va_P (dC, dI) vwCl [(cm, .inr (1, [.ref kA, .ref kB, .ref kG, .ref a1, .ref o3, .ref e4, .ref e5, .ref kC, .ref kF, .ref kT, .int sp9])), (ba, .inl (cb, kb, .inl fb)), (kT, .inl (cT, 26, .inl fT9)), (a1, .inr (4, [.ref o1, .ref e1, .int y10, .int y11, .int y12, .int y13, .int y14, .int y15])), (o1, .inr (7, [.ref r1, .int nn1])), (r1, .inl (c1, 6, .inr (.inl G1))), (e1, .inr (3, [.int (nI R1), .ref t1, .ref s1, .int mm1])), (t1, .inl (ct1, 24 * R1, .inl F1)), (s1, .inl (cs1, R1, .inl S1))] t.heap ∧ va_K (dC, dI) vwCl [(cb, .int), (cT, .int), (c1, .long), (ct1, .int), (cs1, .int)] t ∧ va_D A [(cm, .inr (1, [.ref kA, .ref kB, .ref kG, .ref a1, .ref o3, .ref e4, .ref e5, .ref kC, .ref kF, .ref kT, .int sp9])), (ba, .inl (cb, kb, .inl fb)), (kT, .inl (cT, 26, .inl fT9)), (a1, .inr (4, [.ref o1, .ref e1, .int y10, .int y11, .int y12, .int y13, .int y14, .int y15])), (o1, .inr (7, [.ref r1, .int nn1])), (r1, .inl (c1, 6, .inr (.inl G1))), (e1, .inr (3, [.int (nI R1), .ref t1, .ref s1, .int mm1])), (t1, .inl (ct1, 24 * R1, .inl F1)), (s1, .inl (cs1, R1, .inl S1))]) A) ([.ref cm, .ref ba, .int i1, .int i2]).toArray s 0 0 A) (F0 m 112 ls []) := by
                intro lm112
                induction lm112 with
                | zero => intro lv gt v112_0 hm112; exact absurd hm112 (Nat.not_lt_zero _)
                | succ lm112 ih112 =>
                  intro lv gt v112_0 hm112 H locs ls hP hD hS hl
                  have rg_lv := i_rng lv
                  refine lv_iload hx hb dX1_readSpot_112 (lv_at hl 0 rfl) ?_
                  refine lv_bipush (v := 26) hx hb dX1_readSpot_114 (by decide) ?_
                  refine lv_icmp_ge (tgt := 147) hx hb dX1_readSpot_116 (by decide) (fun k_88 => ?_) (fun k_88 => ?_)
                  · have tk_88 := c_ge (a := lv.toInt) (b := 26) rfl (by decide) k_88
                    refine lv_aload_n hx hb dX1_readSpot_147 rfl (lv_at hl 3 rfl) ?_
                    refine lv_dup hx hb dX1_readSpot_148 rfl ?_
                    refine va_get (D := (dC, dI)) (ci := 1) (v := .int spn) (C := RX1) (T := TX1) (N := 11) hx hb hts fin_X1_readSpot_X1 hown hK hP 0 rfl rfl 10 (by decide) (hts (.fieldLink RX1 58 "PatternGate$Compiler" "spots" "I") (List.mem_of_getElem? (i := 3) (by decide +kernel))) (fun _ h9 => h9) rfl dX1_readSpot_149 ?_
                    refine lv_iconst (v := 1) hx hb dX1_readSpot_152 (by decide) ?_
                    refine lv_iadd hx hb dX1_readSpot_153 ?_
                    refine lv_topi (fun y_89 ey_89 => ?_)
                    first | have ty_89 := i_add (a := spn.toInt) (b := 1) rfl (by decide) ey_89 (by omega) (by omega) | skip
                    refine va_put (D := (dC, dI)) (ci := 1) (v := .int y_89) (ty := .int) (C := RX1) (T := TX1) (N := 11) hx hb hts fin_X1_readSpot_X1 tyX1 tyX1_ok nmX1 hown hK hP hD hS 0 rfl rfl 10 (by decide) (hts (.fieldLink RX1 58 "PatternGate$Compiler" "spots" "I") (List.mem_of_getElem? (i := 3) (by decide +kernel))) (fun _ h9 => h9) rfl (by decide +kernel) rfl rfl (Nat.le_of_ble_eq_true rfl) dX1_readSpot_154 (fun H locs hP hD hS => ?_)
                    have hP : va_P (dC, dI) vwCl [(cm, .inr (1, [.ref kA, .ref kB, .ref kG, .ref a1, .ref o3, .ref e4, .ref e5, .ref kC, .ref kF, .ref kT, .int y_89])), (ba, .inl (cb, kb, .inl fb)), (kT, .inl (cT, 26, .inl gt)), (a1, .inr (4, [.ref o1, .ref e1, .int w_73, .int w_74, .int w_75, .int w_76, .int w_77, .int w_78])), (o1, .inr (7, [.ref r1, .int u_79])), (r1, .inl (c1, 6, .inr (.inl f_81))), (e1, .inr (3, [.int (nI R1), .ref t1, .ref s1, .int u_80])), (t1, .inl (ct1, 24 * R1, .inl f_82)), (s1, .inl (cs1, R1, .inl f_83))] H := hP
                    have hD : va_D A [(cm, .inr (1, [.ref kA, .ref kB, .ref kG, .ref a1, .ref o3, .ref e4, .ref e5, .ref kC, .ref kF, .ref kT, .int y_89])), (ba, .inl (cb, kb, .inl fb)), (kT, .inl (cT, 26, .inl gt)), (a1, .inr (4, [.ref o1, .ref e1, .int w_73, .int w_74, .int w_75, .int w_76, .int w_77, .int w_78])), (o1, .inr (7, [.ref r1, .int u_79])), (r1, .inl (c1, 6, .inr (.inl f_81))), (e1, .inr (3, [.int (nI R1), .ref t1, .ref s1, .int u_80])), (t1, .inl (ct1, 24 * R1, .inl f_82)), (s1, .inl (cs1, R1, .inl f_83))] := hD
                    refine lv_iload hx hb dX1_readSpot_157 (lv_at hl 1 rfl) ?_
                    have hP9 := hP.sub (ws' := [(cm, .inr (1, [.ref kA, .ref kB, .ref kG, .ref a1, .ref o3, .ref e4, .ref e5, .ref kC, .ref kF, .ref kT, .int y_89])), (ba, .inl (cb, kb, .inl fb)), (kT, .inl (cT, 26, .inl gt)), (a1, .inr (4, [.ref o1, .ref e1, .int w_73, .int w_74, .int w_75, .int w_76, .int w_77, .int w_78])), (o1, .inr (7, [.ref r1, .int u_79])), (r1, .inl (c1, 6, .inr (.inl f_81))), (e1, .inr (3, [.int (nI R1), .ref t1, .ref s1, .int u_80])), (t1, .inl (ct1, 24 * R1, .inl f_82)), (s1, .inl (cs1, R1, .inl f_83))]) [0, 1, 2, 3, 4, 5, 6, 7, 8] rfl
                    have hD9 := hD.sub (ws' := [(cm, .inr (1, [.ref kA, .ref kB, .ref kG, .ref a1, .ref o3, .ref e4, .ref e5, .ref kC, .ref kF, .ref kT, .int y_89])), (ba, .inl (cb, kb, .inl fb)), (kT, .inl (cT, 26, .inl gt)), (a1, .inr (4, [.ref o1, .ref e1, .int w_73, .int w_74, .int w_75, .int w_76, .int w_77, .int w_78])), (o1, .inr (7, [.ref r1, .int u_79])), (r1, .inl (c1, 6, .inr (.inl f_81))), (e1, .inr (3, [.int (nI R1), .ref t1, .ref s1, .int u_80])), (t1, .inl (ct1, 24 * R1, .inl f_82)), (s1, .inl (cs1, R1, .inl f_83))]) [0, 1, 2, 3, 4, 5, 6, 7, 8] (by decide) rfl
                    have hK9 := hK.sub (tys' := [(cb, .int), (cT, .int), (c1, .long), (ct1, .int), (cs1, .int)]) [0, 1, 2, 3, 4] rfl
                    exact W.iret hx hb hr (fun t ht hW => ⟨⟨_, (), rfl, by omega, y_89, gt, w_73, w_74, w_75, w_76, w_77, w_78, u_79, u_80, f_81, f_82, f_83, (by first | omega | decide | (have l1 : (1 : Int32).toInt = 1 := rfl; have l0 : (0 : Int32).toInt = 0 := rfl; omega)), (by first | assumption | decide), (by first | assumption | decide), (by first | omega | decide | (have l1 : (1 : Int32).toInt = 1 := rfl; have l0 : (0 : Int32).toInt = 0 := rfl; omega)), (by first | omega | decide | (have l1 : (1 : Int32).toInt = 1 := rfl; have l0 : (0 : Int32).toInt = 0 := rfl; omega)), hb_f_83, by rw [ht]; exact hP9, va_K.moved hW.alike hK9, hD9⟩, hS.F ht⟩) hS.2.2 dX1_readSpot_159
                  · have tk_88 := c_nge (a := lv.toInt) (b := 26) rfl (by decide) k_88
                    refine lv_aload_n hx hb dX1_readSpot_119 rfl (lv_at hl 3 rfl) ?_
                    refine va_get (D := (dC, dI)) (ci := 1) (v := .ref kT) (C := RX1) (T := TX1) (N := 11) hx hb hts fin_X1_readSpot_X1 hown hK hP 0 rfl rfl 9 (by decide) (hts (.fieldLink RX1 55 "PatternGate$Compiler" "takers" "[I") (List.mem_of_getElem? (i := 9) (by decide +kernel))) (fun _ h9 => h9) rfl dX1_readSpot_120 ?_
                    refine lv_iload hx hb dX1_readSpot_123 (lv_at hl 0 rfl) ?_
                    refine lv_dup2_11 hx hb dX1_readSpot_125 rfl rfl ?_
                    refine va_iald hx hb hK hP 2 1 rfl rfl (i := lv) (vp_of (a := lv.toInt) rfl (by omega) (by omega)) dX1_readSpot_126 ?_
                    refine lv_topi (fun y_90 ey_90 => ?_)
                    have rg_y_90 := i_rng y_90
                    refine lv_iload hx hb dX1_readSpot_127 (lv_at hl 2 rfl) ?_
                    refine lv_iload hx hb dX1_readSpot_129 (lv_at hl 0 rfl) ?_
                    refine lv_iushr hx hb dX1_readSpot_131 rfl ?_
                    refine lv_topi (fun y_91 ey_91 => ?_)
                    refine lv_iconst (v := 1) hx hb dX1_readSpot_132 (by decide) ?_
                    refine lv_iand hx hb dX1_readSpot_133 ?_
                    refine lv_topi (fun y_92 ey_92 => ?_)
                    have ty_92 := i_and (b := 1) (by decide) (by decide) ey_92
                    first | have oy_92 : y_92 = 0 ∨ y_92 = 1 := b_iand (by first | assumption | decide) (by first | assumption | decide) ey_92 | skip
                    refine lv_aload_n hx hb dX1_readSpot_134 rfl (lv_at hl 3 rfl) ?_
                    refine va_get (D := (dC, dI)) (ci := 1) (v := .int spn) (C := RX1) (T := TX1) (N := 11) hx hb hts fin_X1_readSpot_X1 hown hK hP 0 rfl rfl 10 (by decide) (hts (.fieldLink RX1 58 "PatternGate$Compiler" "spots" "I") (List.mem_of_getElem? (i := 3) (by decide +kernel))) (fun _ h9 => h9) rfl dX1_readSpot_135 ?_
                    refine lv_ishl hx hb dX1_readSpot_138 ?_
                    refine lv_topi (fun y_93 ey_93 => ?_)
                    have rg_y_93 := i_rng y_93
                    refine lv_ior hx hb dX1_readSpot_139 ?_
                    refine lv_topi (fun y_94 ey_94 => ?_)
                    have rg_y_94 := i_rng y_94
                    first | have oy_94 : y_94 = 0 ∨ y_94 = 1 := b_ior (by first | assumption | decide) (by first | assumption | decide) ey_94 | skip
                    refine va_iast hx hb hK hP hD hS 2 1 rfl rfl (i := lv) (vp_of (a := lv.toInt) rfl (by omega) (by omega)) dX1_readSpot_140 (fun H locs hP hD hS => ?_)
                    generalize hf_f_95 : upd gt _ _ = f_95 at hP hD
                    have hP : va_P (dC, dI) vwCl [(cm, .inr (1, [.ref kA, .ref kB, .ref kG, .ref a1, .ref o3, .ref e4, .ref e5, .ref kC, .ref kF, .ref kT, .int spn])), (ba, .inl (cb, kb, .inl fb)), (kT, .inl (cT, 26, .inl f_95)), (a1, .inr (4, [.ref o1, .ref e1, .int w_73, .int w_74, .int w_75, .int w_76, .int w_77, .int w_78])), (o1, .inr (7, [.ref r1, .int u_79])), (r1, .inl (c1, 6, .inr (.inl f_81))), (e1, .inr (3, [.int (nI R1), .ref t1, .ref s1, .int u_80])), (t1, .inl (ct1, 24 * R1, .inl f_82)), (s1, .inl (cs1, R1, .inl f_83))] H := hP
                    have hD : va_D A [(cm, .inr (1, [.ref kA, .ref kB, .ref kG, .ref a1, .ref o3, .ref e4, .ref e5, .ref kC, .ref kF, .ref kT, .int spn])), (ba, .inl (cb, kb, .inl fb)), (kT, .inl (cT, 26, .inl f_95)), (a1, .inr (4, [.ref o1, .ref e1, .int w_73, .int w_74, .int w_75, .int w_76, .int w_77, .int w_78])), (o1, .inr (7, [.ref r1, .int u_79])), (r1, .inl (c1, 6, .inr (.inl f_81))), (e1, .inr (3, [.int (nI R1), .ref t1, .ref s1, .int u_80])), (t1, .inl (ct1, 24 * R1, .inl f_82)), (s1, .inl (cs1, R1, .inl f_83))] := hD
                    obtain ⟨y_96, ey_96⟩ : ∃ y : Int32, y = lv + 1 := ⟨_, rfl⟩
                    first | have ty_96 := i_add (a := lv.toInt) (b := 1) rfl (by decide) ey_96 (by omega) (by omega) | skip
                    refine lv_iinc (v := y_96) (lv' := [(6, .int y_96), (4, .int en), (5, .int le), (0, .ref cm), (1, .ref ba), (2, .int i1), (3, .int i2)]) hx hb dX1_readSpot_141 hl (k := 0) rfl (by rw [ey_96]; rfl) (by decide) rfl (fun ls hl => ?_)
                    refine lv_goto (tgt := 112) hx hb dX1_readSpot_144 (by decide) ?_
                    exact ih112 y_96 f_95 (by first | omega | assumption | decide) (by omega) _ _ ls hP hD hS (lv_sub hl [0, 1, 2, 3, 4, 5, 6] rfl)
              have lit_96 : (0 : Int32).toInt = 0 := by decide
              exact loop112 _ 0 fT (by first | omega | assumption | decide) (Nat.lt_succ_self _) _ _ ls hP hD hS (lv_sub hl [0, 1, 2, 3, 4, 5, 6] rfl)
          · have tk_69 := c_nge (a := en.toInt) (b := i2.toInt) rfl rfl k_69
            refine lv_aload_n hx hb dX1_readSpot_38 rfl (lv_at hl 3 rfl) ?_
            refine lv_iload hx hb dX1_readSpot_39 (lv_at hl 0 rfl) ?_
            refine va_iald hx hb hK hP 1 0 rfl rfl (i := en) (vp_of (a := en.toInt) rfl (by omega) (by omega)) dX1_readSpot_41 ?_
            refine lv_topi (fun y_98 ey_98 => ?_)
            have rg_y_98 := i_rng y_98
            have hPc := hP.sub (ws' := []) [] rfl
            have hKc := hK.sub (tys' := []) [] rfl
            have hDc := hD.sub (ws' := []) [] (by decide) rfl
            have hFc := va_free (wc := []) hD hS hA [] rfl
            refine va_calli (va_runSN (As := [.int y_98]) (rest := []) ⟨hx, hb, hml, hown, hts⟩ (s_isSmallW l dC dI H.size y_98) ⟨va_cnB 1 hts mg_X1_readSpot_X9_isSmall_160 rfl rfl rfl hN160 (hts (.initialized RX9) (List.mem_of_getElem? (i := 1) (by decide +kernel))) (by decide +kernel) ⟨Nat.le_of_ble_eq_true rfl, Nat.le_of_ble_eq_true rfl⟩, (hts (.static yX9_isSmall) (List.mem_of_getElem? (i := 2) (by decide +kernel))), trivial⟩ ⟨fun a U g mk q => by obtain ⟨q0, q1, qP, qK, qD⟩ := q; exact ⟨q0, q1, qP, va_K.moved (u := U) (U := U.calling g mk a) (Vm.Alike.refl U.vm) qK, qD⟩, fun U hU hW => ⟨rfl, by rw [hU], by rw [hU]; exact hPc, va_K.moved hW.alike hKc, hDc.weaken (fun _ _ _ _ => trivial)⟩⟩ rfl rfl hl.1 rfl (lv_room (Nat.le_of_ble_eq_true rfl)) dX1_readSpot_42 ⟨Nat.le_of_ble_eq_true rfl, Nat.le_of_ble_eq_true rfl⟩) hS (fun q _ h => hFc q h) hFc (fun r_100 u t H1 locs ht hvm hw hB hz1 hk1 hS => ?_)
            have hr_100 := hw
            obtain ⟨hP, hD⟩ := va_join (wr := [(cm, .inr (1, [.ref kA, .ref kB, .ref kG, .ref a1, .ref o3, .ref e4, .ref e5, .ref kC, .ref kF, .ref kT, .int spn])), (ba, .inl (cb, kb, .inl fb)), (kT, .inl (cT, 26, .inl fT)), (a1, .inr (4, [.ref o1, .ref e1, .int x10, .int x11, .int x12, .int x13, .int x14, .int x15])), (o1, .inr (7, [.ref r1, .int n1])), (r1, .inl (c1, 6, .inr (.inl f1))), (e1, .inr (3, [.int (nI R1), .ref t1, .ref s1, .int m1])), (t1, .inl (ct1, 24 * R1, .inl ft1)), (s1, .inl (cs1, R1, .inl fs1))]) (w1 := []) hP hD [] [0, 1, 2, 3, 4, 5, 6, 7, 8] rfl rfl (by decide) (by decide) hk1 hFc (fun k q h => by simp at h) ⟨fun i j p q h => by simp at h, fun k q h => by simp at h⟩
            generalize H1 = H at hP hS ⊢
            have hP : va_P (dC, dI) vwCl [(cm, .inr (1, [.ref kA, .ref kB, .ref kG, .ref a1, .ref o3, .ref e4, .ref e5, .ref kC, .ref kF, .ref kT, .int spn])), (ba, .inl (cb, kb, .inl fb)), (kT, .inl (cT, 26, .inl fT)), (a1, .inr (4, [.ref o1, .ref e1, .int x10, .int x11, .int x12, .int x13, .int x14, .int x15])), (o1, .inr (7, [.ref r1, .int n1])), (r1, .inl (c1, 6, .inr (.inl f1))), (e1, .inr (3, [.int (nI R1), .ref t1, .ref s1, .int m1])), (t1, .inl (ct1, 24 * R1, .inl ft1)), (s1, .inl (cs1, R1, .inl fs1))] H := hP
            have hD : va_D A [(cm, .inr (1, [.ref kA, .ref kB, .ref kG, .ref a1, .ref o3, .ref e4, .ref e5, .ref kC, .ref kF, .ref kT, .int spn])), (ba, .inl (cb, kb, .inl fb)), (kT, .inl (cT, 26, .inl fT)), (a1, .inr (4, [.ref o1, .ref e1, .int x10, .int x11, .int x12, .int x13, .int x14, .int x15])), (o1, .inr (7, [.ref r1, .int n1])), (r1, .inl (c1, 6, .inr (.inl f1))), (e1, .inr (3, [.int (nI R1), .ref t1, .ref s1, .int m1])), (t1, .inl (ct1, 24 * R1, .inl ft1)), (s1, .inl (cs1, R1, .inl fs1))] := hD
            refine lv_if_eq (tgt := 87) hx hb dX1_readSpot_45 (by decide) (fun k_101 => ?_) (fun k_101 => ?_)
            · have tk_101 := c_eq (a := r_100.toInt) (b := 0) rfl (by decide) k_101
              refine lv_aload_n hx hb dX1_readSpot_87 rfl (lv_at hl 2 rfl) ?_
              refine va_get (D := (dC, dI)) (ci := 1) (v := .int spn) (C := RX1) (T := TX1) (N := 11) hx hb hts fin_X1_readSpot_X1 hown hK hP 0 rfl rfl 10 (by decide) (hts (.fieldLink RX1 58 "PatternGate$Compiler" "spots" "I") (List.mem_of_getElem? (i := 3) (by decide +kernel))) (fun _ h9 => h9) rfl dX1_readSpot_88 ?_
              refine lv_bipush (v := 24) hx hb dX1_readSpot_91 (by decide) ?_
              refine lv_icmp_ge (tgt := 157) hx hb dX1_readSpot_93 (by decide) (fun k_102 => ?_) (fun k_102 => ?_)
              · have tk_102 := c_ge (a := spn.toInt) (b := 24) rfl (by decide) k_102
                refine lv_iload hx hb dX1_readSpot_157 (lv_at hl 0 rfl) ?_
                have hP9 := hP.sub (ws' := [(cm, .inr (1, [.ref kA, .ref kB, .ref kG, .ref a1, .ref o3, .ref e4, .ref e5, .ref kC, .ref kF, .ref kT, .int spn])), (ba, .inl (cb, kb, .inl fb)), (kT, .inl (cT, 26, .inl fT)), (a1, .inr (4, [.ref o1, .ref e1, .int x10, .int x11, .int x12, .int x13, .int x14, .int x15])), (o1, .inr (7, [.ref r1, .int n1])), (r1, .inl (c1, 6, .inr (.inl f1))), (e1, .inr (3, [.int (nI R1), .ref t1, .ref s1, .int m1])), (t1, .inl (ct1, 24 * R1, .inl ft1)), (s1, .inl (cs1, R1, .inl fs1))]) [0, 1, 2, 3, 4, 5, 6, 7, 8] rfl
                have hD9 := hD.sub (ws' := [(cm, .inr (1, [.ref kA, .ref kB, .ref kG, .ref a1, .ref o3, .ref e4, .ref e5, .ref kC, .ref kF, .ref kT, .int spn])), (ba, .inl (cb, kb, .inl fb)), (kT, .inl (cT, 26, .inl fT)), (a1, .inr (4, [.ref o1, .ref e1, .int x10, .int x11, .int x12, .int x13, .int x14, .int x15])), (o1, .inr (7, [.ref r1, .int n1])), (r1, .inl (c1, 6, .inr (.inl f1))), (e1, .inr (3, [.int (nI R1), .ref t1, .ref s1, .int m1])), (t1, .inl (ct1, 24 * R1, .inl ft1)), (s1, .inl (cs1, R1, .inl fs1))]) [0, 1, 2, 3, 4, 5, 6, 7, 8] (by decide) rfl
                have hK9 := hK.sub (tys' := [(cb, .int), (cT, .int), (c1, .long), (ct1, .int), (cs1, .int)]) [0, 1, 2, 3, 4] rfl
                exact W.iret hx hb hr (fun t ht hW => ⟨⟨_, (), rfl, by omega, spn, fT, x10, x11, x12, x13, x14, x15, n1, m1, f1, ft1, fs1, (by first | omega | decide | (have l1 : (1 : Int32).toInt = 1 := rfl; have l0 : (0 : Int32).toInt = 0 := rfl; omega)), (by first | assumption | decide), (by first | assumption | decide), (by first | omega | decide | (have l1 : (1 : Int32).toInt = 1 := rfl; have l0 : (0 : Int32).toInt = 0 := rfl; omega)), (by first | omega | decide | (have l1 : (1 : Int32).toInt = 1 := rfl; have l0 : (0 : Int32).toInt = 0 := rfl; omega)), hb_fs1, by rw [ht]; exact hP9, va_K.moved hW.alike hK9, hD9⟩, hS.F ht⟩) hS.2.2 dX1_readSpot_159
              · have tk_102 := c_nge (a := spn.toInt) (b := 24) rfl (by decide) k_102
                refine lv_aload_n hx hb dX1_readSpot_96 rfl (lv_at hl 2 rfl) ?_
                refine va_get (D := (dC, dI)) (ci := 1) (v := .ref a1) (C := RX1) (T := TX1) (N := 11) hx hb hts fin_X1_readSpot_X1 hown hK hP 0 rfl rfl 3 (by decide) (hts (.fieldLink RX1 25 "PatternGate$Compiler" "spot" "LPatternGate$Part;") (List.mem_of_getElem? (i := 4) (by decide +kernel))) (fun _ h9 => h9) rfl dX1_readSpot_97 ?_
                refine lv_aload_n hx hb dX1_readSpot_100 rfl (lv_at hl 2 rfl) ?_
                refine va_get (D := (dC, dI)) (ci := 1) (v := .int spn) (C := RX1) (T := TX1) (N := 11) hx hb hts fin_X1_readSpot_X1 hown hK hP 0 rfl rfl 10 (by decide) (hts (.fieldLink RX1 58 "PatternGate$Compiler" "spots" "I") (List.mem_of_getElem? (i := 3) (by decide +kernel))) (fun _ h9 => h9) rfl dX1_readSpot_101 ?_
                refine lv_iload hx hb dX1_readSpot_104 (lv_at hl 1 rfl) ?_
                have hPc := hP.sub (ws' := [(a1, .inr (4, [.ref o1, .ref e1, .int x10, .int x11, .int x12, .int x13, .int x14, .int x15])), (o1, .inr (7, [.ref r1, .int n1])), (r1, .inl (c1, 6, .inr (.inl f1))), (e1, .inr (3, [.int (nI R1), .ref t1, .ref s1, .int m1])), (t1, .inl (ct1, 24 * R1, .inl ft1)), (s1, .inl (cs1, R1, .inl fs1))]) [3, 4, 5, 6, 7, 8] rfl
                have hKc := hK.sub (tys' := [(c1, .long), (ct1, .int), (cs1, .int)]) [2, 3, 4] rfl
                have hDc := hD.sub (ws' := [(a1, .inr (4, [.ref o1, .ref e1, .int x10, .int x11, .int x12, .int x13, .int x14, .int x15])), (o1, .inr (7, [.ref r1, .int n1])), (r1, .inl (c1, 6, .inr (.inl f1))), (e1, .inr (3, [.int (nI R1), .ref t1, .ref s1, .int m1])), (t1, .inl (ct1, 24 * R1, .inl ft1)), (s1, .inl (cs1, R1, .inl fs1))]) [3, 4, 5, 6, 7, 8] (by decide) rfl
                have hFc := va_free (wc := [(a1, .inr (4, [.ref o1, .ref e1, .int x10, .int x11, .int x12, .int x13, .int x14, .int x15])), (o1, .inr (7, [.ref r1, .int n1])), (r1, .inl (c1, 6, .inr (.inl f1))), (e1, .inr (3, [.int (nI R1), .ref t1, .ref s1, .int m1])), (t1, .inl (ct1, 24 * R1, .inl ft1)), (s1, .inl (cs1, R1, .inl fs1))]) hD hS hA [3, 4, 5, 6, 7, 8] rfl
                refine va_callv (va_runV (As := [.int spn, .int le]) (rest := []) ⟨hx, hb, hml, hown, hts⟩ (s_setSpot l dC dI a1 x10 x11 x12 x13 x14 x15 o1 r1 c1 f1 n1 e1 t1 s1 R1 ct1 cs1 ft1 fs1 m1 H.size spn le (by first | assumption | decide) (by first | assumption | decide) (by first | omega | decide | (have l0 := Int32.toInt_zero; omega)) (by first | omega | decide | (have l0 := Int32.toInt_zero; omega)) (by first | omega | decide | (have l0 := Int32.toInt_zero; omega)) (by first | omega | decide | (have l0 := Int32.toInt_zero; omega)) (by first | omega | decide | (have l0 := Int32.toInt_zero; omega)) (by first | omega | decide | (have l0 := Int32.toInt_zero; omega)) hb_fs1) (cwV 2 hts mg_X1_readSpot_X4_setSpot_164 rfl rfl rfl (by decide +kernel) ⟨Nat.le_of_ble_eq_true rfl, Nat.le_of_ble_eq_true rfl⟩) ⟨fun a U g mk q => by obtain ⟨q0, q1, qP, qK, qD⟩ := q; exact ⟨q0, q1, qP, va_K.moved (u := U) (U := U.calling g mk a) (Vm.Alike.refl U.vm) qK, qD⟩, va_recv hKc hPc (ci := 4) (q0 := 0) rfl rfl, fun U hU hW => ⟨rfl, by rw [hU], by rw [hU]; exact hPc, va_K.moved hW.alike hKc, hDc.weaken (fun _ _ _ _ => trivial)⟩⟩ rfl rfl hl.1 rfl (lv_room (Nat.le_of_ble_eq_true rfl)) dX1_readSpot_106 ⟨Nat.le_of_ble_eq_true rfl, Nat.le_of_ble_eq_true rfl⟩) hS (fun q _ h => hFc q h) hFc (fun u t H1 locs ht hvm hw hB hz1 hk1 hS => ?_)
                obtain ⟨w_105, w_106, w_107, w_108, w_109, w_110, u_111, u_112, f_113, f_114, f_115, h_116, h_117, h_118, h_119, hb_f_115, hP1, hK1, hD1⟩ := hB
                rw [ht] at hP1
                obtain ⟨hP, hD⟩ := va_join (wr := [(cm, .inr (1, [.ref kA, .ref kB, .ref kG, .ref a1, .ref o3, .ref e4, .ref e5, .ref kC, .ref kF, .ref kT, .int spn])), (ba, .inl (cb, kb, .inl fb)), (kT, .inl (cT, 26, .inl fT))]) (w1 := [(a1, .inr (4, [.ref o1, .ref e1, .int w_105, .int w_106, .int w_107, .int w_108, .int w_109, .int w_110])), (o1, .inr (7, [.ref r1, .int u_111])), (r1, .inl (c1, 6, .inr (.inl f_113))), (e1, .inr (3, [.int (nI R1), .ref t1, .ref s1, .int u_112])), (t1, .inl (ct1, 24 * R1, .inl f_114)), (s1, .inl (cs1, R1, .inl f_115))]) hP hD [3, 4, 5, 6, 7, 8] [0, 1, 2] rfl rfl (by decide) (by decide) hk1 hFc hP1 hD1
                generalize H1 = H at hP hS ⊢
                have hP : va_P (dC, dI) vwCl [(cm, .inr (1, [.ref kA, .ref kB, .ref kG, .ref a1, .ref o3, .ref e4, .ref e5, .ref kC, .ref kF, .ref kT, .int spn])), (ba, .inl (cb, kb, .inl fb)), (kT, .inl (cT, 26, .inl fT)), (a1, .inr (4, [.ref o1, .ref e1, .int w_105, .int w_106, .int w_107, .int w_108, .int w_109, .int w_110])), (o1, .inr (7, [.ref r1, .int u_111])), (r1, .inl (c1, 6, .inr (.inl f_113))), (e1, .inr (3, [.int (nI R1), .ref t1, .ref s1, .int u_112])), (t1, .inl (ct1, 24 * R1, .inl f_114)), (s1, .inl (cs1, R1, .inl f_115))] H := hP
                have hD : va_D A [(cm, .inr (1, [.ref kA, .ref kB, .ref kG, .ref a1, .ref o3, .ref e4, .ref e5, .ref kC, .ref kF, .ref kT, .int spn])), (ba, .inl (cb, kb, .inl fb)), (kT, .inl (cT, 26, .inl fT)), (a1, .inr (4, [.ref o1, .ref e1, .int w_105, .int w_106, .int w_107, .int w_108, .int w_109, .int w_110])), (o1, .inr (7, [.ref r1, .int u_111])), (r1, .inl (c1, 6, .inr (.inl f_113))), (e1, .inr (3, [.int (nI R1), .ref t1, .ref s1, .int u_112])), (t1, .inl (ct1, 24 * R1, .inl f_114)), (s1, .inl (cs1, R1, .inl f_115))] := hD
                refine lv_iconst (v := 0) hx hb dX1_readSpot_109 (by decide) ?_
                refine lv_istore (lv' := [(6, .int 0), (4, .int en), (5, .int le), (0, .ref cm), (1, .ref ba), (2, .int i1), (3, .int i2)]) hx hb dX1_readSpot_110 hl (by decide) rfl (fun ls hl => ?_)
                have loop112 : ∀ (lm112 : Nat) (lv : Int32) (gt : Nat → Int32), (0 ≤ lv.toInt ∧ lv.toInt ≤ 26) → ((26 - lv.toInt).toNat) < lm112 → ∀ (H : Heap) (locs : List Loc) (ls : Array Slot), va_P (dC, dI) vwCl [(cm, .inr (1, [.ref kA, .ref kB, .ref kG, .ref a1, .ref o3, .ref e4, .ref e5, .ref kC, .ref kF, .ref kT, .int spn])), (ba, .inl (cb, kb, .inl fb)), (kT, .inl (cT, 26, .inl gt)), (a1, .inr (4, [.ref o1, .ref e1, .int w_105, .int w_106, .int w_107, .int w_108, .int w_109, .int w_110])), (o1, .inr (7, [.ref r1, .int u_111])), (r1, .inl (c1, 6, .inr (.inl f_113))), (e1, .inr (3, [.int (nI R1), .ref t1, .ref s1, .int u_112])), (t1, .inl (ct1, 24 * R1, .inl f_114)), (s1, .inl (cs1, R1, .inl f_115))] H → va_D A [(cm, .inr (1, [.ref kA, .ref kB, .ref kG, .ref a1, .ref o3, .ref e4, .ref e5, .ref kC, .ref kF, .ref kT, .int spn])), (ba, .inl (cb, kb, .inl fb)), (kT, .inl (cT, 26, .inl gt)), (a1, .inr (4, [.ref o1, .ref e1, .int w_105, .int w_106, .int w_107, .int w_108, .int w_109, .int w_110])), (o1, .inr (7, [.ref r1, .int u_111])), (r1, .inl (c1, 6, .inr (.inl f_113))), (e1, .inr (3, [.int (nI R1), .ref t1, .ref s1, .int u_112])), (t1, .inl (ct1, 24 * R1, .inl f_114)), (s1, .inl (cs1, R1, .inl f_115))] → va_S A s.heap H locs → lv_has ls 7 [(6, .int lv), (4, .int en), (5, .int le), (0, .ref cm), (1, .ref ba), (2, .int i1), (3, .int i2)] → W p l e (headSpec mwX1_readSpot ({ frames := 2, cells := 0, slots := 0, locals := 120 })).room s m ([.ref cm, .ref ba, .int i1, .int i2]).toArray below meth c H locs 0 0 (MQ below (va_Qi (fun (o9 : Int32) (_ : Unit) => i1.toInt ≤ o9.toInt ∧ o9.toInt ≤ i2.toInt) (fun _ t => ∃ (sp9 : Int32) (fT9 : Nat → Int32) (y10 y11 y12 y13 y14 y15 nn1 mm1 : Int32) (G1 : Nat → Int64) (F1 S1 : Nat → Int32), (0 ≤ sp9.toInt ∧ sp9.toInt ≤ 24) ∧ (y10 = 0 ∨ y10 = 1) ∧ (y11 = 0 ∨ y11 = 1) ∧ (0 ≤ nn1.toInt ∧ nn1.toInt ≤ 6) ∧ (0 ≤ mm1.toInt ∧ mm1.toInt ≤ R1) ∧ (∀ i, 0 ≤ (S1 i).toInt ∧ (S1 i).toInt ≤ 24) ∧ va_P (dC, dI) vwCl [(cm, .inr (1, [.ref kA, .ref kB, .ref kG, .ref a1, .ref o3, .ref e4, .ref e5, .ref kC, .ref kF, .ref kT, .int sp9])), (ba, .inl (cb, kb, .inl fb)), (kT, .inl (cT, 26, .inl fT9)), (a1, .inr (4, [.ref o1, .ref e1, .int y10, .int y11, .int y12, .int y13, .int y14, .int y15])), (o1, .inr (7, [.ref r1, .int nn1])), (r1, .inl (c1, 6, .inr (.inl G1))), (e1, .inr (3, [.int (nI R1), .ref t1, .ref s1, .int mm1])), (t1, .inl (ct1, 24 * R1, .inl F1)), (s1, .inl (cs1, R1, .inl S1))] t.heap ∧ va_K (dC, dI) vwCl [(cb, .int), (cT, .int), (c1, .long), (ct1, .int), (cs1, .int)] t ∧ va_D A [(cm, .inr (1, [.ref kA, .ref kB, .ref kG, .ref a1, .ref o3, .ref e4, .ref e5, .ref kC, .ref kF, .ref kT, .int sp9])), (ba, .inl (cb, kb, .inl fb)), (kT, .inl (cT, 26, .inl fT9)), (a1, .inr (4, [.ref o1, .ref e1, .int y10, .int y11, .int y12, .int y13, .int y14, .int y15])), (o1, .inr (7, [.ref r1, .int nn1])), (r1, .inl (c1, 6, .inr (.inl G1))), (e1, .inr (3, [.int (nI R1), .ref t1, .ref s1, .int mm1])), (t1, .inl (ct1, 24 * R1, .inl F1)), (s1, .inl (cs1, R1, .inl S1))]) A) ([.ref cm, .ref ba, .int i1, .int i2]).toArray s 0 0 A) (F0 m 112 ls []) := by
                  intro lm112
                  induction lm112 with
                  | zero => intro lv gt v112_0 hm112; exact absurd hm112 (Nat.not_lt_zero _)
                  | succ lm112 ih112 =>
                    intro lv gt v112_0 hm112 H locs ls hP hD hS hl
                    have rg_lv := i_rng lv
                    refine lv_iload hx hb dX1_readSpot_112 (lv_at hl 0 rfl) ?_
                    refine lv_bipush (v := 26) hx hb dX1_readSpot_114 (by decide) ?_
                    refine lv_icmp_ge (tgt := 147) hx hb dX1_readSpot_116 (by decide) (fun k_120 => ?_) (fun k_120 => ?_)
                    · have tk_120 := c_ge (a := lv.toInt) (b := 26) rfl (by decide) k_120
                      refine lv_aload_n hx hb dX1_readSpot_147 rfl (lv_at hl 3 rfl) ?_
                      refine lv_dup hx hb dX1_readSpot_148 rfl ?_
                      refine va_get (D := (dC, dI)) (ci := 1) (v := .int spn) (C := RX1) (T := TX1) (N := 11) hx hb hts fin_X1_readSpot_X1 hown hK hP 0 rfl rfl 10 (by decide) (hts (.fieldLink RX1 58 "PatternGate$Compiler" "spots" "I") (List.mem_of_getElem? (i := 3) (by decide +kernel))) (fun _ h9 => h9) rfl dX1_readSpot_149 ?_
                      refine lv_iconst (v := 1) hx hb dX1_readSpot_152 (by decide) ?_
                      refine lv_iadd hx hb dX1_readSpot_153 ?_
                      refine lv_topi (fun y_121 ey_121 => ?_)
                      first | have ty_121 := i_add (a := spn.toInt) (b := 1) rfl (by decide) ey_121 (by omega) (by omega) | skip
                      refine va_put (D := (dC, dI)) (ci := 1) (v := .int y_121) (ty := .int) (C := RX1) (T := TX1) (N := 11) hx hb hts fin_X1_readSpot_X1 tyX1 tyX1_ok nmX1 hown hK hP hD hS 0 rfl rfl 10 (by decide) (hts (.fieldLink RX1 58 "PatternGate$Compiler" "spots" "I") (List.mem_of_getElem? (i := 3) (by decide +kernel))) (fun _ h9 => h9) rfl (by decide +kernel) rfl rfl (Nat.le_of_ble_eq_true rfl) dX1_readSpot_154 (fun H locs hP hD hS => ?_)
                      have hP : va_P (dC, dI) vwCl [(cm, .inr (1, [.ref kA, .ref kB, .ref kG, .ref a1, .ref o3, .ref e4, .ref e5, .ref kC, .ref kF, .ref kT, .int y_121])), (ba, .inl (cb, kb, .inl fb)), (kT, .inl (cT, 26, .inl gt)), (a1, .inr (4, [.ref o1, .ref e1, .int w_105, .int w_106, .int w_107, .int w_108, .int w_109, .int w_110])), (o1, .inr (7, [.ref r1, .int u_111])), (r1, .inl (c1, 6, .inr (.inl f_113))), (e1, .inr (3, [.int (nI R1), .ref t1, .ref s1, .int u_112])), (t1, .inl (ct1, 24 * R1, .inl f_114)), (s1, .inl (cs1, R1, .inl f_115))] H := hP
                      have hD : va_D A [(cm, .inr (1, [.ref kA, .ref kB, .ref kG, .ref a1, .ref o3, .ref e4, .ref e5, .ref kC, .ref kF, .ref kT, .int y_121])), (ba, .inl (cb, kb, .inl fb)), (kT, .inl (cT, 26, .inl gt)), (a1, .inr (4, [.ref o1, .ref e1, .int w_105, .int w_106, .int w_107, .int w_108, .int w_109, .int w_110])), (o1, .inr (7, [.ref r1, .int u_111])), (r1, .inl (c1, 6, .inr (.inl f_113))), (e1, .inr (3, [.int (nI R1), .ref t1, .ref s1, .int u_112])), (t1, .inl (ct1, 24 * R1, .inl f_114)), (s1, .inl (cs1, R1, .inl f_115))] := hD
                      refine lv_iload hx hb dX1_readSpot_157 (lv_at hl 1 rfl) ?_
                      have hP9 := hP.sub (ws' := [(cm, .inr (1, [.ref kA, .ref kB, .ref kG, .ref a1, .ref o3, .ref e4, .ref e5, .ref kC, .ref kF, .ref kT, .int y_121])), (ba, .inl (cb, kb, .inl fb)), (kT, .inl (cT, 26, .inl gt)), (a1, .inr (4, [.ref o1, .ref e1, .int w_105, .int w_106, .int w_107, .int w_108, .int w_109, .int w_110])), (o1, .inr (7, [.ref r1, .int u_111])), (r1, .inl (c1, 6, .inr (.inl f_113))), (e1, .inr (3, [.int (nI R1), .ref t1, .ref s1, .int u_112])), (t1, .inl (ct1, 24 * R1, .inl f_114)), (s1, .inl (cs1, R1, .inl f_115))]) [0, 1, 2, 3, 4, 5, 6, 7, 8] rfl
                      have hD9 := hD.sub (ws' := [(cm, .inr (1, [.ref kA, .ref kB, .ref kG, .ref a1, .ref o3, .ref e4, .ref e5, .ref kC, .ref kF, .ref kT, .int y_121])), (ba, .inl (cb, kb, .inl fb)), (kT, .inl (cT, 26, .inl gt)), (a1, .inr (4, [.ref o1, .ref e1, .int w_105, .int w_106, .int w_107, .int w_108, .int w_109, .int w_110])), (o1, .inr (7, [.ref r1, .int u_111])), (r1, .inl (c1, 6, .inr (.inl f_113))), (e1, .inr (3, [.int (nI R1), .ref t1, .ref s1, .int u_112])), (t1, .inl (ct1, 24 * R1, .inl f_114)), (s1, .inl (cs1, R1, .inl f_115))]) [0, 1, 2, 3, 4, 5, 6, 7, 8] (by decide) rfl
                      have hK9 := hK.sub (tys' := [(cb, .int), (cT, .int), (c1, .long), (ct1, .int), (cs1, .int)]) [0, 1, 2, 3, 4] rfl
                      exact W.iret hx hb hr (fun t ht hW => ⟨⟨_, (), rfl, by omega, y_121, gt, w_105, w_106, w_107, w_108, w_109, w_110, u_111, u_112, f_113, f_114, f_115, (by first | omega | decide | (have l1 : (1 : Int32).toInt = 1 := rfl; have l0 : (0 : Int32).toInt = 0 := rfl; omega)), (by first | assumption | decide), (by first | assumption | decide), (by first | omega | decide | (have l1 : (1 : Int32).toInt = 1 := rfl; have l0 : (0 : Int32).toInt = 0 := rfl; omega)), (by first | omega | decide | (have l1 : (1 : Int32).toInt = 1 := rfl; have l0 : (0 : Int32).toInt = 0 := rfl; omega)), hb_f_115, by rw [ht]; exact hP9, va_K.moved hW.alike hK9, hD9⟩, hS.F ht⟩) hS.2.2 dX1_readSpot_159
                    · have tk_120 := c_nge (a := lv.toInt) (b := 26) rfl (by decide) k_120
                      refine lv_aload_n hx hb dX1_readSpot_119 rfl (lv_at hl 3 rfl) ?_
                      refine va_get (D := (dC, dI)) (ci := 1) (v := .ref kT) (C := RX1) (T := TX1) (N := 11) hx hb hts fin_X1_readSpot_X1 hown hK hP 0 rfl rfl 9 (by decide) (hts (.fieldLink RX1 55 "PatternGate$Compiler" "takers" "[I") (List.mem_of_getElem? (i := 9) (by decide +kernel))) (fun _ h9 => h9) rfl dX1_readSpot_120 ?_
                      refine lv_iload hx hb dX1_readSpot_123 (lv_at hl 0 rfl) ?_
                      refine lv_dup2_11 hx hb dX1_readSpot_125 rfl rfl ?_
                      refine va_iald hx hb hK hP 2 1 rfl rfl (i := lv) (vp_of (a := lv.toInt) rfl (by omega) (by omega)) dX1_readSpot_126 ?_
                      refine lv_topi (fun y_122 ey_122 => ?_)
                      have rg_y_122 := i_rng y_122
                      refine lv_iload hx hb dX1_readSpot_127 (lv_at hl 2 rfl) ?_
                      refine lv_iload hx hb dX1_readSpot_129 (lv_at hl 0 rfl) ?_
                      refine lv_iushr hx hb dX1_readSpot_131 rfl ?_
                      refine lv_topi (fun y_123 ey_123 => ?_)
                      refine lv_iconst (v := 1) hx hb dX1_readSpot_132 (by decide) ?_
                      refine lv_iand hx hb dX1_readSpot_133 ?_
                      refine lv_topi (fun y_124 ey_124 => ?_)
                      have ty_124 := i_and (b := 1) (by decide) (by decide) ey_124
                      first | have oy_124 : y_124 = 0 ∨ y_124 = 1 := b_iand (by first | assumption | decide) (by first | assumption | decide) ey_124 | skip
                      refine lv_aload_n hx hb dX1_readSpot_134 rfl (lv_at hl 3 rfl) ?_
                      refine va_get (D := (dC, dI)) (ci := 1) (v := .int spn) (C := RX1) (T := TX1) (N := 11) hx hb hts fin_X1_readSpot_X1 hown hK hP 0 rfl rfl 10 (by decide) (hts (.fieldLink RX1 58 "PatternGate$Compiler" "spots" "I") (List.mem_of_getElem? (i := 3) (by decide +kernel))) (fun _ h9 => h9) rfl dX1_readSpot_135 ?_
                      refine lv_ishl hx hb dX1_readSpot_138 ?_
                      refine lv_topi (fun y_125 ey_125 => ?_)
                      have rg_y_125 := i_rng y_125
                      refine lv_ior hx hb dX1_readSpot_139 ?_
                      refine lv_topi (fun y_126 ey_126 => ?_)
                      have rg_y_126 := i_rng y_126
                      first | have oy_126 : y_126 = 0 ∨ y_126 = 1 := b_ior (by first | assumption | decide) (by first | assumption | decide) ey_126 | skip
                      refine va_iast hx hb hK hP hD hS 2 1 rfl rfl (i := lv) (vp_of (a := lv.toInt) rfl (by omega) (by omega)) dX1_readSpot_140 (fun H locs hP hD hS => ?_)
                      generalize hf_f_127 : upd gt _ _ = f_127 at hP hD
                      have hP : va_P (dC, dI) vwCl [(cm, .inr (1, [.ref kA, .ref kB, .ref kG, .ref a1, .ref o3, .ref e4, .ref e5, .ref kC, .ref kF, .ref kT, .int spn])), (ba, .inl (cb, kb, .inl fb)), (kT, .inl (cT, 26, .inl f_127)), (a1, .inr (4, [.ref o1, .ref e1, .int w_105, .int w_106, .int w_107, .int w_108, .int w_109, .int w_110])), (o1, .inr (7, [.ref r1, .int u_111])), (r1, .inl (c1, 6, .inr (.inl f_113))), (e1, .inr (3, [.int (nI R1), .ref t1, .ref s1, .int u_112])), (t1, .inl (ct1, 24 * R1, .inl f_114)), (s1, .inl (cs1, R1, .inl f_115))] H := hP
                      have hD : va_D A [(cm, .inr (1, [.ref kA, .ref kB, .ref kG, .ref a1, .ref o3, .ref e4, .ref e5, .ref kC, .ref kF, .ref kT, .int spn])), (ba, .inl (cb, kb, .inl fb)), (kT, .inl (cT, 26, .inl f_127)), (a1, .inr (4, [.ref o1, .ref e1, .int w_105, .int w_106, .int w_107, .int w_108, .int w_109, .int w_110])), (o1, .inr (7, [.ref r1, .int u_111])), (r1, .inl (c1, 6, .inr (.inl f_113))), (e1, .inr (3, [.int (nI R1), .ref t1, .ref s1, .int u_112])), (t1, .inl (ct1, 24 * R1, .inl f_114)), (s1, .inl (cs1, R1, .inl f_115))] := hD
                      obtain ⟨y_128, ey_128⟩ : ∃ y : Int32, y = lv + 1 := ⟨_, rfl⟩
                      first | have ty_128 := i_add (a := lv.toInt) (b := 1) rfl (by decide) ey_128 (by omega) (by omega) | skip
                      refine lv_iinc (v := y_128) (lv' := [(6, .int y_128), (4, .int en), (5, .int le), (0, .ref cm), (1, .ref ba), (2, .int i1), (3, .int i2)]) hx hb dX1_readSpot_141 hl (k := 0) rfl (by rw [ey_128]; rfl) (by decide) rfl (fun ls hl => ?_)
                      refine lv_goto (tgt := 112) hx hb dX1_readSpot_144 (by decide) ?_
                      exact ih112 y_128 f_127 (by first | omega | assumption | decide) (by omega) _ _ ls hP hD hS (lv_sub hl [0, 1, 2, 3, 4, 5, 6] rfl)
                have lit_128 : (0 : Int32).toInt = 0 := by decide
                exact loop112 _ 0 fT (by first | omega | assumption | decide) (Nat.lt_succ_self _) _ _ ls hP hD hS (lv_sub hl [0, 1, 2, 3, 4, 5, 6] rfl)
            · have tk_101 := c_ne (a := r_100.toInt) (b := 0) rfl (by decide) k_101
              refine lv_iload hx hb dX1_readSpot_48 (lv_at hl 1 rfl) ?_
              refine lv_iconst (v := 1) hx hb dX1_readSpot_50 (by decide) ?_
              refine lv_aload_n hx hb dX1_readSpot_51 rfl (lv_at hl 3 rfl) ?_
              refine lv_iload hx hb dX1_readSpot_52 (lv_at hl 0 rfl) ?_
              refine va_iald hx hb hK hP 1 0 rfl rfl (i := en) (vp_of (a := en.toInt) rfl (by omega) (by omega)) dX1_readSpot_54 ?_
              refine lv_topi (fun y_130 ey_130 => ?_)
              have rg_y_130 := i_rng y_130
              refine lv_bipush (v := 97) hx hb dX1_readSpot_55 (by decide) ?_
              refine lv_isub hx hb dX1_readSpot_57 ?_
              refine lv_topi (fun y_131 ey_131 => ?_)
              first | have ty_131 := i_sub (a := y_130.toInt) (b := 97) rfl (by decide) ey_131 (by omega) (by omega) | skip
              refine lv_ishl hx hb dX1_readSpot_58 ?_
              refine lv_topi (fun y_132 ey_132 => ?_)
              have rg_y_132 := i_rng y_132
              refine lv_ior hx hb dX1_readSpot_59 ?_
              refine lv_topi (fun y_133 ey_133 => ?_)
              have rg_y_133 := i_rng y_133
              first | have oy_133 : y_133 = 0 ∨ y_133 = 1 := b_ior (by first | assumption | decide) (by first | assumption | decide) ey_133 | skip
              refine lv_istore (lv' := [(5, .int y_133), (4, .int en), (0, .ref cm), (1, .ref ba), (2, .int i1), (3, .int i2)]) hx hb dX1_readSpot_60 hl (by decide) rfl (fun ls hl => ?_)
              obtain ⟨y_134, ey_134⟩ : ∃ y : Int32, y = en + 1 := ⟨_, rfl⟩
              first | have ty_134 := i_add (a := en.toInt) (b := 1) rfl (by decide) ey_134 (by omega) (by omega) | skip
              refine lv_iinc (v := y_134) (lv' := [(4, .int y_134), (5, .int y_133), (0, .ref cm), (1, .ref ba), (2, .int i1), (3, .int i2)]) hx hb dX1_readSpot_62 hl (k := 1) rfl (by rw [ey_134]; rfl) (by decide) rfl (fun ls hl => ?_)
              refine lv_goto (tgt := 32) hx hb dX1_readSpot_65 (by decide) ?_
              exact ih32 y_134 y_133 (by first | omega | assumption | decide) (by omega) _ _ ls hP hD hS (lv_sub hl [0, 1, 2, 3, 4, 5] rfl)
      have lit_134 : (0 : Int32).toInt = 0 := by decide
      exact loop32 _ y_68 0 (by first | omega | assumption | decide) (Nat.lt_succ_self _) _ _ ls hP hD hS (lv_sub hl [0, 1, 2, 3, 4, 5] rfl)
  · have tk_2 := c_eq (a := y_1.toInt) (b := 46) rfl (by decide) k_2
    refine lv_ldc hx hb hown (hts (.constant RX1 159 (67108863)) (List.mem_of_getElem? (i := 10) (by decide +kernel))) dX1_readSpot_14 ?_
    refine lv_istore (lv' := [(5, .int 67108863), (4, .int i1), (0, .ref cm), (1, .ref ba), (2, .int i1), (3, .int i2)]) hx hb dX1_readSpot_16 hl (by decide) rfl (fun ls hl => ?_)
    refine lv_goto (tgt := 87) hx hb dX1_readSpot_18 (by decide) ?_
    refine lv_aload_n hx hb dX1_readSpot_87 rfl (lv_at hl 2 rfl) ?_
    refine va_get (D := (dC, dI)) (ci := 1) (v := .int spn) (C := RX1) (T := TX1) (N := 11) hx hb hts fin_X1_readSpot_X1 hown hK hP 0 rfl rfl 10 (by decide) (hts (.fieldLink RX1 58 "PatternGate$Compiler" "spots" "I") (List.mem_of_getElem? (i := 3) (by decide +kernel))) (fun _ h9 => h9) rfl dX1_readSpot_88 ?_
    refine lv_bipush (v := 24) hx hb dX1_readSpot_91 (by decide) ?_
    refine lv_icmp_ge (tgt := 157) hx hb dX1_readSpot_93 (by decide) (fun k_136 => ?_) (fun k_136 => ?_)
    · have tk_136 := c_ge (a := spn.toInt) (b := 24) rfl (by decide) k_136
      refine lv_iload hx hb dX1_readSpot_157 (lv_at hl 1 rfl) ?_
      have hP9 := hP.sub (ws' := [(cm, .inr (1, [.ref kA, .ref kB, .ref kG, .ref a1, .ref o3, .ref e4, .ref e5, .ref kC, .ref kF, .ref kT, .int spn])), (ba, .inl (cb, kb, .inl fb)), (kT, .inl (cT, 26, .inl fT)), (a1, .inr (4, [.ref o1, .ref e1, .int x10, .int x11, .int x12, .int x13, .int x14, .int x15])), (o1, .inr (7, [.ref r1, .int n1])), (r1, .inl (c1, 6, .inr (.inl f1))), (e1, .inr (3, [.int (nI R1), .ref t1, .ref s1, .int m1])), (t1, .inl (ct1, 24 * R1, .inl ft1)), (s1, .inl (cs1, R1, .inl fs1))]) [0, 1, 2, 3, 4, 5, 6, 7, 8] rfl
      have hD9 := hD.sub (ws' := [(cm, .inr (1, [.ref kA, .ref kB, .ref kG, .ref a1, .ref o3, .ref e4, .ref e5, .ref kC, .ref kF, .ref kT, .int spn])), (ba, .inl (cb, kb, .inl fb)), (kT, .inl (cT, 26, .inl fT)), (a1, .inr (4, [.ref o1, .ref e1, .int x10, .int x11, .int x12, .int x13, .int x14, .int x15])), (o1, .inr (7, [.ref r1, .int n1])), (r1, .inl (c1, 6, .inr (.inl f1))), (e1, .inr (3, [.int (nI R1), .ref t1, .ref s1, .int m1])), (t1, .inl (ct1, 24 * R1, .inl ft1)), (s1, .inl (cs1, R1, .inl fs1))]) [0, 1, 2, 3, 4, 5, 6, 7, 8] (by decide) rfl
      have hK9 := hK.sub (tys' := [(cb, .int), (cT, .int), (c1, .long), (ct1, .int), (cs1, .int)]) [0, 1, 2, 3, 4] rfl
      exact W.iret hx hb hr (fun t ht hW => ⟨⟨_, (), rfl, by omega, spn, fT, x10, x11, x12, x13, x14, x15, n1, m1, f1, ft1, fs1, (by first | omega | decide | (have l1 : (1 : Int32).toInt = 1 := rfl; have l0 : (0 : Int32).toInt = 0 := rfl; omega)), (by first | assumption | decide), (by first | assumption | decide), (by first | omega | decide | (have l1 : (1 : Int32).toInt = 1 := rfl; have l0 : (0 : Int32).toInt = 0 := rfl; omega)), (by first | omega | decide | (have l1 : (1 : Int32).toInt = 1 := rfl; have l0 : (0 : Int32).toInt = 0 := rfl; omega)), hb_fs1, by rw [ht]; exact hP9, va_K.moved hW.alike hK9, hD9⟩, hS.F ht⟩) hS.2.2 dX1_readSpot_159
    · have tk_136 := c_nge (a := spn.toInt) (b := 24) rfl (by decide) k_136
      refine lv_aload_n hx hb dX1_readSpot_96 rfl (lv_at hl 2 rfl) ?_
      refine va_get (D := (dC, dI)) (ci := 1) (v := .ref a1) (C := RX1) (T := TX1) (N := 11) hx hb hts fin_X1_readSpot_X1 hown hK hP 0 rfl rfl 3 (by decide) (hts (.fieldLink RX1 25 "PatternGate$Compiler" "spot" "LPatternGate$Part;") (List.mem_of_getElem? (i := 4) (by decide +kernel))) (fun _ h9 => h9) rfl dX1_readSpot_97 ?_
      refine lv_aload_n hx hb dX1_readSpot_100 rfl (lv_at hl 2 rfl) ?_
      refine va_get (D := (dC, dI)) (ci := 1) (v := .int spn) (C := RX1) (T := TX1) (N := 11) hx hb hts fin_X1_readSpot_X1 hown hK hP 0 rfl rfl 10 (by decide) (hts (.fieldLink RX1 58 "PatternGate$Compiler" "spots" "I") (List.mem_of_getElem? (i := 3) (by decide +kernel))) (fun _ h9 => h9) rfl dX1_readSpot_101 ?_
      refine lv_iload hx hb dX1_readSpot_104 (lv_at hl 0 rfl) ?_
      have hPc := hP.sub (ws' := [(a1, .inr (4, [.ref o1, .ref e1, .int x10, .int x11, .int x12, .int x13, .int x14, .int x15])), (o1, .inr (7, [.ref r1, .int n1])), (r1, .inl (c1, 6, .inr (.inl f1))), (e1, .inr (3, [.int (nI R1), .ref t1, .ref s1, .int m1])), (t1, .inl (ct1, 24 * R1, .inl ft1)), (s1, .inl (cs1, R1, .inl fs1))]) [3, 4, 5, 6, 7, 8] rfl
      have hKc := hK.sub (tys' := [(c1, .long), (ct1, .int), (cs1, .int)]) [2, 3, 4] rfl
      have hDc := hD.sub (ws' := [(a1, .inr (4, [.ref o1, .ref e1, .int x10, .int x11, .int x12, .int x13, .int x14, .int x15])), (o1, .inr (7, [.ref r1, .int n1])), (r1, .inl (c1, 6, .inr (.inl f1))), (e1, .inr (3, [.int (nI R1), .ref t1, .ref s1, .int m1])), (t1, .inl (ct1, 24 * R1, .inl ft1)), (s1, .inl (cs1, R1, .inl fs1))]) [3, 4, 5, 6, 7, 8] (by decide) rfl
      have hFc := va_free (wc := [(a1, .inr (4, [.ref o1, .ref e1, .int x10, .int x11, .int x12, .int x13, .int x14, .int x15])), (o1, .inr (7, [.ref r1, .int n1])), (r1, .inl (c1, 6, .inr (.inl f1))), (e1, .inr (3, [.int (nI R1), .ref t1, .ref s1, .int m1])), (t1, .inl (ct1, 24 * R1, .inl ft1)), (s1, .inl (cs1, R1, .inl fs1))]) hD hS hA [3, 4, 5, 6, 7, 8] rfl
      refine va_callv (va_runV (As := [.int spn, .int 67108863]) (rest := []) ⟨hx, hb, hml, hown, hts⟩ (s_setSpot l dC dI a1 x10 x11 x12 x13 x14 x15 o1 r1 c1 f1 n1 e1 t1 s1 R1 ct1 cs1 ft1 fs1 m1 H.size spn 67108863 (by first | assumption | decide) (by first | assumption | decide) (by first | omega | decide | (have l0 := Int32.toInt_zero; omega)) (by first | omega | decide | (have l0 := Int32.toInt_zero; omega)) (by first | omega | decide | (have l0 := Int32.toInt_zero; omega)) (by first | omega | decide | (have l0 := Int32.toInt_zero; omega)) (by first | omega | decide | (have l0 := Int32.toInt_zero; omega)) (by first | omega | decide | (have l0 := Int32.toInt_zero; omega)) hb_fs1) (cwV 2 hts mg_X1_readSpot_X4_setSpot_164 rfl rfl rfl (by decide +kernel) ⟨Nat.le_of_ble_eq_true rfl, Nat.le_of_ble_eq_true rfl⟩) ⟨fun a U g mk q => by obtain ⟨q0, q1, qP, qK, qD⟩ := q; exact ⟨q0, q1, qP, va_K.moved (u := U) (U := U.calling g mk a) (Vm.Alike.refl U.vm) qK, qD⟩, va_recv hKc hPc (ci := 4) (q0 := 0) rfl rfl, fun U hU hW => ⟨rfl, by rw [hU], by rw [hU]; exact hPc, va_K.moved hW.alike hKc, hDc.weaken (fun _ _ _ _ => trivial)⟩⟩ rfl rfl hl.1 rfl (lv_room (Nat.le_of_ble_eq_true rfl)) dX1_readSpot_106 ⟨Nat.le_of_ble_eq_true rfl, Nat.le_of_ble_eq_true rfl⟩) hS (fun q _ h => hFc q h) hFc (fun u t H1 locs ht hvm hw hB hz1 hk1 hS => ?_)
      obtain ⟨w_139, w_140, w_141, w_142, w_143, w_144, u_145, u_146, f_147, f_148, f_149, h_150, h_151, h_152, h_153, hb_f_149, hP1, hK1, hD1⟩ := hB
      rw [ht] at hP1
      obtain ⟨hP, hD⟩ := va_join (wr := [(cm, .inr (1, [.ref kA, .ref kB, .ref kG, .ref a1, .ref o3, .ref e4, .ref e5, .ref kC, .ref kF, .ref kT, .int spn])), (ba, .inl (cb, kb, .inl fb)), (kT, .inl (cT, 26, .inl fT))]) (w1 := [(a1, .inr (4, [.ref o1, .ref e1, .int w_139, .int w_140, .int w_141, .int w_142, .int w_143, .int w_144])), (o1, .inr (7, [.ref r1, .int u_145])), (r1, .inl (c1, 6, .inr (.inl f_147))), (e1, .inr (3, [.int (nI R1), .ref t1, .ref s1, .int u_146])), (t1, .inl (ct1, 24 * R1, .inl f_148)), (s1, .inl (cs1, R1, .inl f_149))]) hP hD [3, 4, 5, 6, 7, 8] [0, 1, 2] rfl rfl (by decide) (by decide) hk1 hFc hP1 hD1
      generalize H1 = H at hP hS ⊢
      have hP : va_P (dC, dI) vwCl [(cm, .inr (1, [.ref kA, .ref kB, .ref kG, .ref a1, .ref o3, .ref e4, .ref e5, .ref kC, .ref kF, .ref kT, .int spn])), (ba, .inl (cb, kb, .inl fb)), (kT, .inl (cT, 26, .inl fT)), (a1, .inr (4, [.ref o1, .ref e1, .int w_139, .int w_140, .int w_141, .int w_142, .int w_143, .int w_144])), (o1, .inr (7, [.ref r1, .int u_145])), (r1, .inl (c1, 6, .inr (.inl f_147))), (e1, .inr (3, [.int (nI R1), .ref t1, .ref s1, .int u_146])), (t1, .inl (ct1, 24 * R1, .inl f_148)), (s1, .inl (cs1, R1, .inl f_149))] H := hP
      have hD : va_D A [(cm, .inr (1, [.ref kA, .ref kB, .ref kG, .ref a1, .ref o3, .ref e4, .ref e5, .ref kC, .ref kF, .ref kT, .int spn])), (ba, .inl (cb, kb, .inl fb)), (kT, .inl (cT, 26, .inl fT)), (a1, .inr (4, [.ref o1, .ref e1, .int w_139, .int w_140, .int w_141, .int w_142, .int w_143, .int w_144])), (o1, .inr (7, [.ref r1, .int u_145])), (r1, .inl (c1, 6, .inr (.inl f_147))), (e1, .inr (3, [.int (nI R1), .ref t1, .ref s1, .int u_146])), (t1, .inl (ct1, 24 * R1, .inl f_148)), (s1, .inl (cs1, R1, .inl f_149))] := hD
      refine lv_iconst (v := 0) hx hb dX1_readSpot_109 (by decide) ?_
      refine lv_istore (lv' := [(6, .int 0), (5, .int 67108863), (4, .int i1), (0, .ref cm), (1, .ref ba), (2, .int i1), (3, .int i2)]) hx hb dX1_readSpot_110 hl (by decide) rfl (fun ls hl => ?_)
      have loop112 : ∀ (lm112 : Nat) (lv : Int32) (gt : Nat → Int32), (0 ≤ lv.toInt ∧ lv.toInt ≤ 26) → ((26 - lv.toInt).toNat) < lm112 → ∀ (H : Heap) (locs : List Loc) (ls : Array Slot), va_P (dC, dI) vwCl [(cm, .inr (1, [.ref kA, .ref kB, .ref kG, .ref a1, .ref o3, .ref e4, .ref e5, .ref kC, .ref kF, .ref kT, .int spn])), (ba, .inl (cb, kb, .inl fb)), (kT, .inl (cT, 26, .inl gt)), (a1, .inr (4, [.ref o1, .ref e1, .int w_139, .int w_140, .int w_141, .int w_142, .int w_143, .int w_144])), (o1, .inr (7, [.ref r1, .int u_145])), (r1, .inl (c1, 6, .inr (.inl f_147))), (e1, .inr (3, [.int (nI R1), .ref t1, .ref s1, .int u_146])), (t1, .inl (ct1, 24 * R1, .inl f_148)), (s1, .inl (cs1, R1, .inl f_149))] H → va_D A [(cm, .inr (1, [.ref kA, .ref kB, .ref kG, .ref a1, .ref o3, .ref e4, .ref e5, .ref kC, .ref kF, .ref kT, .int spn])), (ba, .inl (cb, kb, .inl fb)), (kT, .inl (cT, 26, .inl gt)), (a1, .inr (4, [.ref o1, .ref e1, .int w_139, .int w_140, .int w_141, .int w_142, .int w_143, .int w_144])), (o1, .inr (7, [.ref r1, .int u_145])), (r1, .inl (c1, 6, .inr (.inl f_147))), (e1, .inr (3, [.int (nI R1), .ref t1, .ref s1, .int u_146])), (t1, .inl (ct1, 24 * R1, .inl f_148)), (s1, .inl (cs1, R1, .inl f_149))] → va_S A s.heap H locs → lv_has ls 7 [(6, .int lv), (5, .int 67108863), (4, .int i1), (0, .ref cm), (1, .ref ba), (2, .int i1), (3, .int i2)] → W p l e (headSpec mwX1_readSpot ({ frames := 2, cells := 0, slots := 0, locals := 120 })).room s m ([.ref cm, .ref ba, .int i1, .int i2]).toArray below meth c H locs 0 0 (MQ below (va_Qi (fun (o9 : Int32) (_ : Unit) => i1.toInt ≤ o9.toInt ∧ o9.toInt ≤ i2.toInt) (fun _ t => ∃ (sp9 : Int32) (fT9 : Nat → Int32) (y10 y11 y12 y13 y14 y15 nn1 mm1 : Int32) (G1 : Nat → Int64) (F1 S1 : Nat → Int32), (0 ≤ sp9.toInt ∧ sp9.toInt ≤ 24) ∧ (y10 = 0 ∨ y10 = 1) ∧ (y11 = 0 ∨ y11 = 1) ∧ (0 ≤ nn1.toInt ∧ nn1.toInt ≤ 6) ∧ (0 ≤ mm1.toInt ∧ mm1.toInt ≤ R1) ∧ (∀ i, 0 ≤ (S1 i).toInt ∧ (S1 i).toInt ≤ 24) ∧ va_P (dC, dI) vwCl [(cm, .inr (1, [.ref kA, .ref kB, .ref kG, .ref a1, .ref o3, .ref e4, .ref e5, .ref kC, .ref kF, .ref kT, .int sp9])), (ba, .inl (cb, kb, .inl fb)), (kT, .inl (cT, 26, .inl fT9)), (a1, .inr (4, [.ref o1, .ref e1, .int y10, .int y11, .int y12, .int y13, .int y14, .int y15])), (o1, .inr (7, [.ref r1, .int nn1])), (r1, .inl (c1, 6, .inr (.inl G1))), (e1, .inr (3, [.int (nI R1), .ref t1, .ref s1, .int mm1])), (t1, .inl (ct1, 24 * R1, .inl F1)), (s1, .inl (cs1, R1, .inl S1))] t.heap ∧ va_K (dC, dI) vwCl [(cb, .int), (cT, .int), (c1, .long), (ct1, .int), (cs1, .int)] t ∧ va_D A [(cm, .inr (1, [.ref kA, .ref kB, .ref kG, .ref a1, .ref o3, .ref e4, .ref e5, .ref kC, .ref kF, .ref kT, .int sp9])), (ba, .inl (cb, kb, .inl fb)), (kT, .inl (cT, 26, .inl fT9)), (a1, .inr (4, [.ref o1, .ref e1, .int y10, .int y11, .int y12, .int y13, .int y14, .int y15])), (o1, .inr (7, [.ref r1, .int nn1])), (r1, .inl (c1, 6, .inr (.inl G1))), (e1, .inr (3, [.int (nI R1), .ref t1, .ref s1, .int mm1])), (t1, .inl (ct1, 24 * R1, .inl F1)), (s1, .inl (cs1, R1, .inl S1))]) A) ([.ref cm, .ref ba, .int i1, .int i2]).toArray s 0 0 A) (F0 m 112 ls []) := by
        intro lm112
        induction lm112 with
        | zero => intro lv gt v112_0 hm112; exact absurd hm112 (Nat.not_lt_zero _)
        | succ lm112 ih112 =>
          intro lv gt v112_0 hm112 H locs ls hP hD hS hl
          have rg_lv := i_rng lv
          refine lv_iload hx hb dX1_readSpot_112 (lv_at hl 0 rfl) ?_
          refine lv_bipush (v := 26) hx hb dX1_readSpot_114 (by decide) ?_
          refine lv_icmp_ge (tgt := 147) hx hb dX1_readSpot_116 (by decide) (fun k_154 => ?_) (fun k_154 => ?_)
          · have tk_154 := c_ge (a := lv.toInt) (b := 26) rfl (by decide) k_154
            refine lv_aload_n hx hb dX1_readSpot_147 rfl (lv_at hl 3 rfl) ?_
            refine lv_dup hx hb dX1_readSpot_148 rfl ?_
            refine va_get (D := (dC, dI)) (ci := 1) (v := .int spn) (C := RX1) (T := TX1) (N := 11) hx hb hts fin_X1_readSpot_X1 hown hK hP 0 rfl rfl 10 (by decide) (hts (.fieldLink RX1 58 "PatternGate$Compiler" "spots" "I") (List.mem_of_getElem? (i := 3) (by decide +kernel))) (fun _ h9 => h9) rfl dX1_readSpot_149 ?_
            refine lv_iconst (v := 1) hx hb dX1_readSpot_152 (by decide) ?_
            refine lv_iadd hx hb dX1_readSpot_153 ?_
            refine lv_topi (fun y_155 ey_155 => ?_)
            first | have ty_155 := i_add (a := spn.toInt) (b := 1) rfl (by decide) ey_155 (by omega) (by omega) | skip
            refine va_put (D := (dC, dI)) (ci := 1) (v := .int y_155) (ty := .int) (C := RX1) (T := TX1) (N := 11) hx hb hts fin_X1_readSpot_X1 tyX1 tyX1_ok nmX1 hown hK hP hD hS 0 rfl rfl 10 (by decide) (hts (.fieldLink RX1 58 "PatternGate$Compiler" "spots" "I") (List.mem_of_getElem? (i := 3) (by decide +kernel))) (fun _ h9 => h9) rfl (by decide +kernel) rfl rfl (Nat.le_of_ble_eq_true rfl) dX1_readSpot_154 (fun H locs hP hD hS => ?_)
            have hP : va_P (dC, dI) vwCl [(cm, .inr (1, [.ref kA, .ref kB, .ref kG, .ref a1, .ref o3, .ref e4, .ref e5, .ref kC, .ref kF, .ref kT, .int y_155])), (ba, .inl (cb, kb, .inl fb)), (kT, .inl (cT, 26, .inl gt)), (a1, .inr (4, [.ref o1, .ref e1, .int w_139, .int w_140, .int w_141, .int w_142, .int w_143, .int w_144])), (o1, .inr (7, [.ref r1, .int u_145])), (r1, .inl (c1, 6, .inr (.inl f_147))), (e1, .inr (3, [.int (nI R1), .ref t1, .ref s1, .int u_146])), (t1, .inl (ct1, 24 * R1, .inl f_148)), (s1, .inl (cs1, R1, .inl f_149))] H := hP
            have hD : va_D A [(cm, .inr (1, [.ref kA, .ref kB, .ref kG, .ref a1, .ref o3, .ref e4, .ref e5, .ref kC, .ref kF, .ref kT, .int y_155])), (ba, .inl (cb, kb, .inl fb)), (kT, .inl (cT, 26, .inl gt)), (a1, .inr (4, [.ref o1, .ref e1, .int w_139, .int w_140, .int w_141, .int w_142, .int w_143, .int w_144])), (o1, .inr (7, [.ref r1, .int u_145])), (r1, .inl (c1, 6, .inr (.inl f_147))), (e1, .inr (3, [.int (nI R1), .ref t1, .ref s1, .int u_146])), (t1, .inl (ct1, 24 * R1, .inl f_148)), (s1, .inl (cs1, R1, .inl f_149))] := hD
            refine lv_iload hx hb dX1_readSpot_157 (lv_at hl 2 rfl) ?_
            have hP9 := hP.sub (ws' := [(cm, .inr (1, [.ref kA, .ref kB, .ref kG, .ref a1, .ref o3, .ref e4, .ref e5, .ref kC, .ref kF, .ref kT, .int y_155])), (ba, .inl (cb, kb, .inl fb)), (kT, .inl (cT, 26, .inl gt)), (a1, .inr (4, [.ref o1, .ref e1, .int w_139, .int w_140, .int w_141, .int w_142, .int w_143, .int w_144])), (o1, .inr (7, [.ref r1, .int u_145])), (r1, .inl (c1, 6, .inr (.inl f_147))), (e1, .inr (3, [.int (nI R1), .ref t1, .ref s1, .int u_146])), (t1, .inl (ct1, 24 * R1, .inl f_148)), (s1, .inl (cs1, R1, .inl f_149))]) [0, 1, 2, 3, 4, 5, 6, 7, 8] rfl
            have hD9 := hD.sub (ws' := [(cm, .inr (1, [.ref kA, .ref kB, .ref kG, .ref a1, .ref o3, .ref e4, .ref e5, .ref kC, .ref kF, .ref kT, .int y_155])), (ba, .inl (cb, kb, .inl fb)), (kT, .inl (cT, 26, .inl gt)), (a1, .inr (4, [.ref o1, .ref e1, .int w_139, .int w_140, .int w_141, .int w_142, .int w_143, .int w_144])), (o1, .inr (7, [.ref r1, .int u_145])), (r1, .inl (c1, 6, .inr (.inl f_147))), (e1, .inr (3, [.int (nI R1), .ref t1, .ref s1, .int u_146])), (t1, .inl (ct1, 24 * R1, .inl f_148)), (s1, .inl (cs1, R1, .inl f_149))]) [0, 1, 2, 3, 4, 5, 6, 7, 8] (by decide) rfl
            have hK9 := hK.sub (tys' := [(cb, .int), (cT, .int), (c1, .long), (ct1, .int), (cs1, .int)]) [0, 1, 2, 3, 4] rfl
            exact W.iret hx hb hr (fun t ht hW => ⟨⟨_, (), rfl, by omega, y_155, gt, w_139, w_140, w_141, w_142, w_143, w_144, u_145, u_146, f_147, f_148, f_149, (by first | omega | decide | (have l1 : (1 : Int32).toInt = 1 := rfl; have l0 : (0 : Int32).toInt = 0 := rfl; omega)), (by first | assumption | decide), (by first | assumption | decide), (by first | omega | decide | (have l1 : (1 : Int32).toInt = 1 := rfl; have l0 : (0 : Int32).toInt = 0 := rfl; omega)), (by first | omega | decide | (have l1 : (1 : Int32).toInt = 1 := rfl; have l0 : (0 : Int32).toInt = 0 := rfl; omega)), hb_f_149, by rw [ht]; exact hP9, va_K.moved hW.alike hK9, hD9⟩, hS.F ht⟩) hS.2.2 dX1_readSpot_159
          · have tk_154 := c_nge (a := lv.toInt) (b := 26) rfl (by decide) k_154
            refine lv_aload_n hx hb dX1_readSpot_119 rfl (lv_at hl 3 rfl) ?_
            refine va_get (D := (dC, dI)) (ci := 1) (v := .ref kT) (C := RX1) (T := TX1) (N := 11) hx hb hts fin_X1_readSpot_X1 hown hK hP 0 rfl rfl 9 (by decide) (hts (.fieldLink RX1 55 "PatternGate$Compiler" "takers" "[I") (List.mem_of_getElem? (i := 9) (by decide +kernel))) (fun _ h9 => h9) rfl dX1_readSpot_120 ?_
            refine lv_iload hx hb dX1_readSpot_123 (lv_at hl 0 rfl) ?_
            refine lv_dup2_11 hx hb dX1_readSpot_125 rfl rfl ?_
            refine va_iald hx hb hK hP 2 1 rfl rfl (i := lv) (vp_of (a := lv.toInt) rfl (by omega) (by omega)) dX1_readSpot_126 ?_
            refine lv_topi (fun y_156 ey_156 => ?_)
            have rg_y_156 := i_rng y_156
            refine lv_iload hx hb dX1_readSpot_127 (lv_at hl 1 rfl) ?_
            refine lv_iload hx hb dX1_readSpot_129 (lv_at hl 0 rfl) ?_
            refine lv_iushr hx hb dX1_readSpot_131 rfl ?_
            refine lv_topi (fun y_157 ey_157 => ?_)
            refine lv_iconst (v := 1) hx hb dX1_readSpot_132 (by decide) ?_
            refine lv_iand hx hb dX1_readSpot_133 ?_
            refine lv_topi (fun y_158 ey_158 => ?_)
            have ty_158 := i_and (b := 1) (by decide) (by decide) ey_158
            first | have oy_158 : y_158 = 0 ∨ y_158 = 1 := b_iand (by first | assumption | decide) (by first | assumption | decide) ey_158 | skip
            refine lv_aload_n hx hb dX1_readSpot_134 rfl (lv_at hl 3 rfl) ?_
            refine va_get (D := (dC, dI)) (ci := 1) (v := .int spn) (C := RX1) (T := TX1) (N := 11) hx hb hts fin_X1_readSpot_X1 hown hK hP 0 rfl rfl 10 (by decide) (hts (.fieldLink RX1 58 "PatternGate$Compiler" "spots" "I") (List.mem_of_getElem? (i := 3) (by decide +kernel))) (fun _ h9 => h9) rfl dX1_readSpot_135 ?_
            refine lv_ishl hx hb dX1_readSpot_138 ?_
            refine lv_topi (fun y_159 ey_159 => ?_)
            have rg_y_159 := i_rng y_159
            refine lv_ior hx hb dX1_readSpot_139 ?_
            refine lv_topi (fun y_160 ey_160 => ?_)
            have rg_y_160 := i_rng y_160
            first | have oy_160 : y_160 = 0 ∨ y_160 = 1 := b_ior (by first | assumption | decide) (by first | assumption | decide) ey_160 | skip
            refine va_iast hx hb hK hP hD hS 2 1 rfl rfl (i := lv) (vp_of (a := lv.toInt) rfl (by omega) (by omega)) dX1_readSpot_140 (fun H locs hP hD hS => ?_)
            generalize hf_f_161 : upd gt _ _ = f_161 at hP hD
            have hP : va_P (dC, dI) vwCl [(cm, .inr (1, [.ref kA, .ref kB, .ref kG, .ref a1, .ref o3, .ref e4, .ref e5, .ref kC, .ref kF, .ref kT, .int spn])), (ba, .inl (cb, kb, .inl fb)), (kT, .inl (cT, 26, .inl f_161)), (a1, .inr (4, [.ref o1, .ref e1, .int w_139, .int w_140, .int w_141, .int w_142, .int w_143, .int w_144])), (o1, .inr (7, [.ref r1, .int u_145])), (r1, .inl (c1, 6, .inr (.inl f_147))), (e1, .inr (3, [.int (nI R1), .ref t1, .ref s1, .int u_146])), (t1, .inl (ct1, 24 * R1, .inl f_148)), (s1, .inl (cs1, R1, .inl f_149))] H := hP
            have hD : va_D A [(cm, .inr (1, [.ref kA, .ref kB, .ref kG, .ref a1, .ref o3, .ref e4, .ref e5, .ref kC, .ref kF, .ref kT, .int spn])), (ba, .inl (cb, kb, .inl fb)), (kT, .inl (cT, 26, .inl f_161)), (a1, .inr (4, [.ref o1, .ref e1, .int w_139, .int w_140, .int w_141, .int w_142, .int w_143, .int w_144])), (o1, .inr (7, [.ref r1, .int u_145])), (r1, .inl (c1, 6, .inr (.inl f_147))), (e1, .inr (3, [.int (nI R1), .ref t1, .ref s1, .int u_146])), (t1, .inl (ct1, 24 * R1, .inl f_148)), (s1, .inl (cs1, R1, .inl f_149))] := hD
            obtain ⟨y_162, ey_162⟩ : ∃ y : Int32, y = lv + 1 := ⟨_, rfl⟩
            first | have ty_162 := i_add (a := lv.toInt) (b := 1) rfl (by decide) ey_162 (by omega) (by omega) | skip
            refine lv_iinc (v := y_162) (lv' := [(6, .int y_162), (5, .int 67108863), (4, .int i1), (0, .ref cm), (1, .ref ba), (2, .int i1), (3, .int i2)]) hx hb dX1_readSpot_141 hl (k := 0) rfl (by rw [ey_162]; rfl) (by decide) rfl (fun ls hl => ?_)
            refine lv_goto (tgt := 112) hx hb dX1_readSpot_144 (by decide) ?_
            exact ih112 y_162 f_161 (by first | omega | assumption | decide) (by omega) _ _ ls hP hD hS (lv_sub hl [0, 1, 2, 3, 4, 5, 6] rfl)
      have lit_162 : (0 : Int32).toInt = 0 := by decide
      exact loop112 _ 0 fT (by first | omega | assumption | decide) (Nat.lt_succ_self _) _ _ ls hP hD hS (lv_sub hl [0, 1, 2, 3, 4, 5, 6] rfl)
theorem dX1_readSign_0 : decode cX1_readSign 0 = .ok (.iload_n 3, 1) := by decide +kernel
theorem dX1_readSign_1 : decode cX1_readSign 1 = .ok (.iconst 1, 1) := by decide +kernel
theorem dX1_readSign_2 : decode cX1_readSign 2 = .ok (.iadd, 1) := by decide +kernel
theorem dX1_readSign_3 : decode cX1_readSign 3 = .ok (.istore 5, 2) := by decide +kernel
theorem dX1_readSign_5 : decode cX1_readSign 5 = .ok (.iload 5, 2) := by decide +kernel
theorem dX1_readSign_7 : decode cX1_readSign 7 = .ok (.iload 4, 2) := by decide +kernel
theorem dX1_readSign_9 : decode cX1_readSign 9 = .ok (.if_icmp .ge 13, 3) := by decide +kernel
theorem dX1_readSign_12 : decode cX1_readSign 12 = .ok (.aload_n 2, 1) := by decide +kernel
theorem dX1_readSign_13 : decode cX1_readSign 13 = .ok (.iload 5, 2) := by decide +kernel
theorem dX1_readSign_15 : decode cX1_readSign 15 = .ok (.iaload, 1) := by decide +kernel
theorem dX1_readSign_16 : decode cX1_readSign 16 = .ok (.invokestatic 168, 3) := by decide +kernel
theorem dX1_readSign_19 : decode cX1_readSign 19 = .ok (.ifCond .ne 5, 3) := by decide +kernel
theorem dX1_readSign_22 : decode cX1_readSign 22 = .ok (.iload_n 3, 1) := by decide +kernel
theorem dX1_readSign_23 : decode cX1_readSign 23 = .ok (.ireturn, 1) := by decide +kernel
theorem dX1_readSign_24 : decode cX1_readSign 24 = .ok (.aload_n 1, 1) := by decide +kernel
theorem dX1_readSign_25 : decode cX1_readSign 25 = .ok (.aload_n 2, 1) := by decide +kernel
theorem dX1_readSign_26 : decode cX1_readSign 26 = .ok (.iload 5, 2) := by decide +kernel
theorem dX1_readSign_28 : decode cX1_readSign 28 = .ok (.iaload, 1) := by decide +kernel
theorem dX1_readSign_29 : decode cX1_readSign 29 = .ok (.invokevirtual 173, 3) := by decide +kernel
theorem dX1_readSign_32 : decode cX1_readSign 32 = .ok (.aload_n 2, 1) := by decide +kernel
theorem dX1_readSign_33 : decode cX1_readSign 33 = .ok (.iload 5, 2) := by decide +kernel
theorem dX1_readSign_35 : decode cX1_readSign 35 = .ok (.iaload, 1) := by decide +kernel
theorem dX1_readSign_36 : decode cX1_readSign 36 = .ok (.bipush 63, 2) := by decide +kernel
theorem dX1_readSign_38 : decode cX1_readSign 38 = .ok (.if_icmp .eq 15, 3) := by decide +kernel
theorem dX1_readSign_41 : decode cX1_readSign 41 = .ok (.aload_n 0, 1) := by decide +kernel
theorem dX1_readSign_42 : decode cX1_readSign 42 = .ok (.aload_n 1, 1) := by decide +kernel
theorem dX1_readSign_43 : decode cX1_readSign 43 = .ok (.getfield 176, 3) := by decide +kernel
theorem dX1_readSign_46 : decode cX1_readSign 46 = .ok (.aload_n 1, 1) := by decide +kernel
theorem dX1_readSign_47 : decode cX1_readSign 47 = .ok (.getfield 179, 3) := by decide +kernel
theorem dX1_readSign_50 : decode cX1_readSign 50 = .ok (.invokevirtual 182, 3) := by decide +kernel
theorem dX1_readSign_53 : decode cX1_readSign 53 = .ok (.iload 5, 2) := by decide +kernel
theorem dX1_readSign_55 : decode cX1_readSign 55 = .ok (.ireturn, 1) := by decide +kernel
def mwX1_readSign : List Cond := .code yX1_readSign cX1_readSign 6 (some .int) :: (([.methodLink RX1 168 yX6_isSign, .static yX6_isSign, .initialized RX6, .methodLink RX1 173 yX4_addSign, .instanceMethod yX4_addSign, .selects RX4 yX4_addSign yX4_addSign, .initialized RX4, .fieldLink RX1 176 "PatternGate$Part" "last" "I", .fieldLink RX1 179 "PatternGate$Part" "first" "I", .methodLink RX1 182 yX1_addFollow, .instanceMethod yX1_addFollow, .selects RX1 yX1_addFollow yX1_addFollow, .initialized RX1] : List Cond) ++ (wsX40 ++ (mwX6_isSign ++ (mwX4_addSign ++ (mwX1_addFollow)))))
theorem fin_X1_readSign_X4 : ∀ w ∈ wsX40, w ∈ mwX1_readSign := fun w h => List.mem_cons_of_mem _ (List.mem_append_right _ (List.mem_append_left _ h))
set_option maxRecDepth 100000 in
theorem gd_mwX6_isSign : mwX6_isSign.all goodWord = true := by decide +kernel
set_option maxRecDepth 100000 in
theorem gd_mwX4_addSign : mwX4_addSign.all goodWord = true := by decide +kernel
set_option maxRecDepth 100000 in
theorem gd_mwX1_addFollow : mwX1_addFollow.all goodWord = true := by decide +kernel
set_option maxRecDepth 20000 in
theorem mg_X1_readSign_X6_isSign_168 : GoodIn mwX1_readSign (va_wsS RX1 168 yX6_isSign mwX6_isSign) := gi_app (A := [.methodLink RX1 168 yX6_isSign, .static yX6_isSign, .initialized RX6]) (goodIn_r _ [1, 2, 3] (by decide +kernel) (by decide +kernel)) (gi_sub gd_mwX6_isSign (fun w h => List.mem_cons_of_mem _ (List.mem_append_right _ (List.mem_append_right _ (List.mem_append_left _ h)))))
set_option maxRecDepth 20000 in
theorem mg_X1_readSign_X4_addSign_173 : GoodIn mwX1_readSign (wsV RX1 173 RX4 yX4_addSign mwX4_addSign) := gi_app (A := [.methodLink RX1 173 yX4_addSign, .instanceMethod yX4_addSign, .selects RX4 yX4_addSign yX4_addSign, .initialized RX4]) (goodIn_r _ [4, 5, 6, 7] (by decide +kernel) (by decide +kernel)) (gi_sub gd_mwX4_addSign (fun w h => List.mem_cons_of_mem _ (List.mem_append_right _ (List.mem_append_right _ (List.mem_append_right _ (List.mem_append_left _ h))))))
set_option maxRecDepth 20000 in
theorem mg_X1_readSign_X1_addFollow_182 : GoodIn mwX1_readSign (wsV RX1 182 RX1 yX1_addFollow mwX1_addFollow) := gi_app (A := [.methodLink RX1 182 yX1_addFollow, .instanceMethod yX1_addFollow, .selects RX1 yX1_addFollow yX1_addFollow, .initialized RX1]) (goodIn_r _ [10, 11, 12, 13] (by decide +kernel) (by decide +kernel)) (gi_sub gd_mwX1_addFollow (fun w h => List.mem_cons_of_mem _ (List.mem_append_right _ (List.mem_append_right _ (List.mem_append_right _ (List.mem_append_right _ (h)))))))
set_option maxHeartbeats 4000000 in
set_option maxRecDepth 100000 in
/-- Compiler.readSign -/
theorem s_readSign (l : Launch) (dC : Nat → ClassId) (dI : Nat → Nat → Nat) (cm kA kB kG kS o3 e4 e5 kC kT : Nat) (spn : Int32) (ba kb : Nat) (cb : ClassId) (fb : Nat → Int32) (kF : Nat) (cF : ClassId) (fF : Nat → Int32) (a1 : Nat) (x10 x11 x12 x13 x14 x15 : Int32) (o1 r1 : Nat) (c1 : ClassId) (f1 : Nat → Int64) (n1 : Int32) (e1 t1 s1 R1 : Nat) (ct1 cs1 : ClassId) (ft1 fs1 : Nat → Int32) (m1 : Int32) (sz : Nat) (i1 i2 : Int32) (hs1 : 0 ≤ spn.toInt) (hs2 : spn.toInt ≤ 24) (hx1 : x10 = 0 ∨ x10 = 1) (hy1 : x11 = 0 ∨ x11 = 1) (ha1 : 0 ≤ n1.toInt) (hb1 : n1.toInt ≤ 6) (hR1 : 1 ≤ R1) (hU1 : R1 ≤ 144) (hc1 : 0 ≤ m1.toInt) (hd1 : m1.toInt ≤ R1) (hb_fs1 : ∀ i, 0 ≤ (fs1 i).toInt ∧ (fs1 i).toInt ≤ 24) (hkb : kb ≤ 900) (h1 : 0 ≤ i1.toInt ∧ i1.toInt ≤ 900 ∧ i2.toInt ≤ kb) : Met l yX1_readSign mwX1_readSign ({ frames := 2, cells := 0, slots := 0, locals := 120 }) (va_Pc [.ref cm, .ref a1, .ref ba, .int i1, .int i2] (fun U => U.heap.size = sz ∧ va_P (dC, dI) vwCl ([(cm, .inr (1, [.ref kA, .ref kB, .ref kG, .ref kS, .ref o3, .ref e4, .ref e5, .ref kC, .ref kF, .ref kT, .int spn])), (ba, .inl (cb, kb, .inl fb)), (kF, .inl (cF, 24, .inl fF)), (a1, .inr (4, [.ref o1, .ref e1, .int x10, .int x11, .int x12, .int x13, .int x14, .int x15])), (o1, .inr (7, [.ref r1, .int n1])), (r1, .inl (c1, 6, .inr (.inl f1))), (e1, .inr (3, [.int (nI R1), .ref t1, .ref s1, .int m1])), (t1, .inl (ct1, 24 * R1, .inl ft1)), (s1, .inl (cs1, R1, .inl fs1))]) U.heap ∧ va_K (dC, dI) vwCl ([(cb, .int), (cF, .int), (c1, .long), (ct1, .int), (cs1, .int)]) U ∧ va_D (fun _ => True) ([(cm, .inr (1, [.ref kA, .ref kB, .ref kG, .ref kS, .ref o3, .ref e4, .ref e5, .ref kC, .ref kF, .ref kT, .int spn])), (ba, .inl (cb, kb, .inl fb)), (kF, .inl (cF, 24, .inl fF)), (a1, .inr (4, [.ref o1, .ref e1, .int x10, .int x11, .int x12, .int x13, .int x14, .int x15])), (o1, .inr (7, [.ref r1, .int n1])), (r1, .inl (c1, 6, .inr (.inl f1))), (e1, .inr (3, [.int (nI R1), .ref t1, .ref s1, .int m1])), (t1, .inl (ct1, 24 * R1, .inl ft1)), (s1, .inl (cs1, R1, .inl fs1))]))) (va_Qi (fun (o9 : Int32) (_ : Unit) => i1.toInt ≤ o9.toInt ∧ (o9.toInt ≤ i1.toInt ∨ o9.toInt < i2.toInt)) (fun _ t => ∃ (fF9 : Nat → Int32) (y10 y11 y12 y13 y14 y15 nn1 mm1 : Int32) (G1 : Nat → Int64) (F1 S1 : Nat → Int32), (y10 = 0 ∨ y10 = 1) ∧ (y11 = 0 ∨ y11 = 1) ∧ (0 ≤ nn1.toInt ∧ nn1.toInt ≤ 6) ∧ (0 ≤ mm1.toInt ∧ mm1.toInt ≤ R1) ∧ (∀ i, 0 ≤ (S1 i).toInt ∧ (S1 i).toInt ≤ 24) ∧ va_P (dC, dI) vwCl [(cm, .inr (1, [.ref kA, .ref kB, .ref kG, .ref kS, .ref o3, .ref e4, .ref e5, .ref kC, .ref kF, .ref kT, .int spn])), (ba, .inl (cb, kb, .inl fb)), (kF, .inl (cF, 24, .inl fF9)), (a1, .inr (4, [.ref o1, .ref e1, .int y10, .int y11, .int y12, .int y13, .int y14, .int y15])), (o1, .inr (7, [.ref r1, .int nn1])), (r1, .inl (c1, 6, .inr (.inl G1))), (e1, .inr (3, [.int (nI R1), .ref t1, .ref s1, .int mm1])), (t1, .inl (ct1, 24 * R1, .inl F1)), (s1, .inl (cs1, R1, .inl S1))] t.heap ∧ va_K (dC, dI) vwCl [(cb, .int), (cF, .int), (c1, .long), (ct1, .int), (cs1, .int)] t ∧ va_D (va_A ([(cm, .inr (1, [.ref kA, .ref kB, .ref kG, .ref kS, .ref o3, .ref e4, .ref e5, .ref kC, .ref kF, .ref kT, .int spn])), (ba, .inl (cb, kb, .inl fb)), (kF, .inl (cF, 24, .inl fF)), (a1, .inr (4, [.ref o1, .ref e1, .int x10, .int x11, .int x12, .int x13, .int x14, .int x15])), (o1, .inr (7, [.ref r1, .int n1])), (r1, .inl (c1, 6, .inr (.inl f1))), (e1, .inr (3, [.int (nI R1), .ref t1, .ref s1, .int m1])), (t1, .inl (ct1, 24 * R1, .inl ft1)), (s1, .inl (cs1, R1, .inl fs1))]) sz) [(cm, .inr (1, [.ref kA, .ref kB, .ref kG, .ref kS, .ref o3, .ref e4, .ref e5, .ref kC, .ref kF, .ref kT, .int spn])), (ba, .inl (cb, kb, .inl fb)), (kF, .inl (cF, 24, .inl fF9)), (a1, .inr (4, [.ref o1, .ref e1, .int y10, .int y11, .int y12, .int y13, .int y14, .int y15])), (o1, .inr (7, [.ref r1, .int nn1])), (r1, .inl (c1, 6, .inr (.inl G1))), (e1, .inr (3, [.int (nI R1), .ref t1, .ref s1, .int mm1])), (t1, .inl (ct1, 24 * R1, .inl F1)), (s1, .inl (cs1, R1, .inl S1))]) (va_A ([(cm, .inr (1, [.ref kA, .ref kB, .ref kG, .ref kS, .ref o3, .ref e4, .ref e5, .ref kC, .ref kF, .ref kT, .int spn])), (ba, .inl (cb, kb, .inl fb)), (kF, .inl (cF, 24, .inl fF)), (a1, .inr (4, [.ref o1, .ref e1, .int x10, .int x11, .int x12, .int x13, .int x14, .int x15])), (o1, .inr (7, [.ref r1, .int n1])), (r1, .inl (c1, 6, .inr (.inl f1))), (e1, .inr (3, [.int (nI R1), .ref t1, .ref s1, .int m1])), (t1, .inl (ct1, 24 * R1, .inl ft1)), (s1, .inl (cs1, R1, .inl fs1))]) sz)) 0 0 (va_A ([(cm, .inr (1, [.ref kA, .ref kB, .ref kG, .ref kS, .ref o3, .ref e4, .ref e5, .ref kC, .ref kF, .ref kT, .int spn])), (ba, .inl (cb, kb, .inl fb)), (kF, .inl (cF, 24, .inl fF)), (a1, .inr (4, [.ref o1, .ref e1, .int x10, .int x11, .int x12, .int x13, .int x14, .int x15])), (o1, .inr (7, [.ref r1, .int n1])), (r1, .inl (c1, 6, .inr (.inl f1))), (e1, .inr (3, [.int (nI R1), .ref t1, .ref s1, .int m1])), (t1, .inl (ct1, 24 * R1, .inl ft1)), (s1, .inl (cs1, R1, .inl fs1))]) sz) := by
  refine Met.ofW (cc := cX1_readSign) (maxL := 6) (ret := (some .int)) (by decide +kernel) rfl ?_
  intro p e s m args below meth c s₁ B hml hv
  obtain ⟨rfl, hsz, hP, hK, hD0⟩ := hv
  have hx := B.exec
  have hb := B.bytes
  have hr := B.returns
  have hts := atoms_spec (ws := mwX1_readSign) B.pre
  have hown : s.vm.findClass RX1 = some m.cls := findClass_of_methodNamed B.named
  have hlocks := B.notSynchronized
  subst hsz
  have hD := hD0.self (sz := s.heap.size)
  generalize hAe : va_A ([(cm, .inr (1, [.ref kA, .ref kB, .ref kG, .ref kS, .ref o3, .ref e4, .ref e5, .ref kC, .ref kF, .ref kT, .int spn])), (ba, .inl (cb, kb, .inl fb)), (kF, .inl (cF, 24, .inl fF)), (a1, .inr (4, [.ref o1, .ref e1, .int x10, .int x11, .int x12, .int x13, .int x14, .int x15])), (o1, .inr (7, [.ref r1, .int n1])), (r1, .inl (c1, 6, .inr (.inl f1))), (e1, .inr (3, [.int (nI R1), .ref t1, .ref s1, .int m1])), (t1, .inl (ct1, 24 * R1, .inl ft1)), (s1, .inl (cs1, R1, .inl fs1))]) s.heap.size = A at hD ⊢
  have hA : ∀ q : Nat, s.heap.size ≤ q → A q := fun q h => by rw [← hAe]; exact Or.inr h
  have hP : va_P (dC, dI) vwCl [(cm, .inr (1, [.ref kA, .ref kB, .ref kG, .ref kS, .ref o3, .ref e4, .ref e5, .ref kC, .ref kF, .ref kT, .int spn])), (ba, .inl (cb, kb, .inl fb)), (kF, .inl (cF, 24, .inl fF)), (a1, .inr (4, [.ref o1, .ref e1, .int x10, .int x11, .int x12, .int x13, .int x14, .int x15])), (o1, .inr (7, [.ref r1, .int n1])), (r1, .inl (c1, 6, .inr (.inl f1))), (e1, .inr (3, [.int (nI R1), .ref t1, .ref s1, .int m1])), (t1, .inl (ct1, 24 * R1, .inl ft1)), (s1, .inl (cs1, R1, .inl fs1))] s.heap := hP
  have hD : va_D A [(cm, .inr (1, [.ref kA, .ref kB, .ref kG, .ref kS, .ref o3, .ref e4, .ref e5, .ref kC, .ref kF, .ref kT, .int spn])), (ba, .inl (cb, kb, .inl fb)), (kF, .inl (cF, 24, .inl fF)), (a1, .inr (4, [.ref o1, .ref e1, .int x10, .int x11, .int x12, .int x13, .int x14, .int x15])), (o1, .inr (7, [.ref r1, .int n1])), (r1, .inl (c1, 6, .inr (.inl f1))), (e1, .inr (3, [.int (nI R1), .ref t1, .ref s1, .int m1])), (t1, .inl (ct1, 24 * R1, .inl ft1)), (s1, .inl (cs1, R1, .inl fs1))] := hD
  have hK : va_K (dC, dI) vwCl [(cb, .int), (cF, .int), (c1, .long), (ct1, .int), (cs1, .int)] s := hK
  generalize hH : s.heap = H at hP ⊢
  have hS : va_S A s.heap H [] := by rw [← hH]; exact va_S.rf
  have hl := lv_entry ([.ref cm, .ref a1, .ref ba, .int i1, .int i2]) (n := 6) (Nat.le_of_ble_eq_true rfl)
  rw [lg_entry_eq]
  generalize (lg_sl ([.ref cm, .ref a1, .ref ba, .int i1, .int i2]) ++ List.replicate (6 - (lg_sl ([.ref cm, .ref a1, .ref ba, .int i1, .int i2])).length) Slot.unset).toArray = ls at hl ⊢
  have hl : lv_has ls 6 [(0, .ref cm), (1, .ref a1), (2, .ref ba), (3, .int i1), (4, .int i2)] := hl
  have rg_i1 := i_rng i1
  have rg_i2 := i_rng i2
  have rspn := i_rng spn
  have tr1 : (nI R1).toInt = (R1 : Int) := nI_toInt (by omega)
  have rm1 := i_rng m1
  have rn1 := i_rng n1
  refine lv_iload_n hx hb dX1_readSign_0 rfl (lv_at hl 3 rfl) ?_
  refine lv_iconst (v := 1) hx hb dX1_readSign_1 (by decide) ?_
  refine lv_iadd hx hb dX1_readSign_2 ?_
  refine lv_topi (fun y_1 ey_1 => ?_)
  first | have ty_1 := i_add (a := i1.toInt) (b := 1) rfl (by decide) ey_1 (by omega) (by omega) | skip
  refine lv_istore (lv' := [(5, .int y_1), (0, .ref cm), (1, .ref a1), (2, .ref ba), (3, .int i1), (4, .int i2)]) hx hb dX1_readSign_3 hl (by decide) rfl (fun ls hl => ?_)
  refine lv_iload hx hb dX1_readSign_5 (lv_at hl 0 rfl) ?_
  refine lv_iload hx hb dX1_readSign_7 (lv_at hl 5 rfl) ?_
  refine lv_icmp_ge (tgt := 22) hx hb dX1_readSign_9 (by decide) (fun k_2 => ?_) (fun k_2 => ?_)
  · have tk_2 := c_ge (a := y_1.toInt) (b := i2.toInt) rfl rfl k_2
    refine lv_iload_n hx hb dX1_readSign_22 rfl (lv_at hl 4 rfl) ?_
    have hP9 := hP.sub (ws' := [(cm, .inr (1, [.ref kA, .ref kB, .ref kG, .ref kS, .ref o3, .ref e4, .ref e5, .ref kC, .ref kF, .ref kT, .int spn])), (ba, .inl (cb, kb, .inl fb)), (kF, .inl (cF, 24, .inl fF)), (a1, .inr (4, [.ref o1, .ref e1, .int x10, .int x11, .int x12, .int x13, .int x14, .int x15])), (o1, .inr (7, [.ref r1, .int n1])), (r1, .inl (c1, 6, .inr (.inl f1))), (e1, .inr (3, [.int (nI R1), .ref t1, .ref s1, .int m1])), (t1, .inl (ct1, 24 * R1, .inl ft1)), (s1, .inl (cs1, R1, .inl fs1))]) [0, 1, 2, 3, 4, 5, 6, 7, 8] rfl
    have hD9 := hD.sub (ws' := [(cm, .inr (1, [.ref kA, .ref kB, .ref kG, .ref kS, .ref o3, .ref e4, .ref e5, .ref kC, .ref kF, .ref kT, .int spn])), (ba, .inl (cb, kb, .inl fb)), (kF, .inl (cF, 24, .inl fF)), (a1, .inr (4, [.ref o1, .ref e1, .int x10, .int x11, .int x12, .int x13, .int x14, .int x15])), (o1, .inr (7, [.ref r1, .int n1])), (r1, .inl (c1, 6, .inr (.inl f1))), (e1, .inr (3, [.int (nI R1), .ref t1, .ref s1, .int m1])), (t1, .inl (ct1, 24 * R1, .inl ft1)), (s1, .inl (cs1, R1, .inl fs1))]) [0, 1, 2, 3, 4, 5, 6, 7, 8] (by decide) rfl
    have hK9 := hK.sub (tys' := [(cb, .int), (cF, .int), (c1, .long), (ct1, .int), (cs1, .int)]) [0, 1, 2, 3, 4] rfl
    exact W.iret hx hb hr (fun t ht hW => ⟨⟨_, (), rfl, by omega, fF, x10, x11, x12, x13, x14, x15, n1, m1, f1, ft1, fs1, (by first | assumption | decide), (by first | assumption | decide), (by first | omega | decide | (have l1 : (1 : Int32).toInt = 1 := rfl; have l0 : (0 : Int32).toInt = 0 := rfl; omega)), (by first | omega | decide | (have l1 : (1 : Int32).toInt = 1 := rfl; have l0 : (0 : Int32).toInt = 0 := rfl; omega)), hb_fs1, by rw [ht]; exact hP9, va_K.moved hW.alike hK9, hD9⟩, hS.F ht⟩) hS.2.2 dX1_readSign_23
  · have tk_2 := c_nge (a := y_1.toInt) (b := i2.toInt) rfl rfl k_2
    refine lv_aload_n hx hb dX1_readSign_12 rfl (lv_at hl 3 rfl) ?_
    refine lv_iload hx hb dX1_readSign_13 (lv_at hl 0 rfl) ?_
    refine va_iald hx hb hK hP 1 0 rfl rfl (i := y_1) (vp_of (a := y_1.toInt) rfl (by omega) (by omega)) dX1_readSign_15 ?_
    refine lv_topi (fun y_3 ey_3 => ?_)
    have rg_y_3 := i_rng y_3
    refine vp_callSi (W.runS (As := [.int y_3]) (rest := []) ⟨hx, hb, hml, hown, hts⟩ (s_isSign l dC dI y_3) (va_cwS 1 hts mg_X1_readSign_X6_isSign_168 rfl rfl rfl (by decide +kernel) ⟨Nat.le_of_ble_eq_true rfl, Nat.le_of_ble_eq_true rfl⟩) ⟨fun a U g mk q => ⟨q.1, trivial⟩, fun U hU hW => ⟨rfl, trivial⟩⟩ rfl rfl hl.1 rfl (lv_room (Nat.le_of_ble_eq_true rfl)) dX1_readSign_16 ⟨Nat.le_of_ble_eq_true rfl, Nat.le_of_ble_eq_true rfl⟩) (fun r_5 hw => ?_)
    refine lv_if_ne (tgt := 24) hx hb dX1_readSign_19 (by decide) (fun k_6 => ?_) (fun k_6 => ?_)
    · have tk_6 := c_ne (a := r_5.toInt) (b := 0) rfl (by decide) k_6
      refine lv_aload_n hx hb dX1_readSign_24 rfl (lv_at hl 2 rfl) ?_
      refine lv_aload_n hx hb dX1_readSign_25 rfl (lv_at hl 3 rfl) ?_
      refine lv_iload hx hb dX1_readSign_26 (lv_at hl 0 rfl) ?_
      refine va_iald hx hb hK hP 1 0 rfl rfl (i := y_1) (vp_of (a := y_1.toInt) rfl (by omega) (by omega)) dX1_readSign_28 ?_
      refine lv_topi (fun y_7 ey_7 => ?_)
      have rg_y_7 := i_rng y_7
      have hPc := hP.sub (ws' := [(a1, .inr (4, [.ref o1, .ref e1, .int x10, .int x11, .int x12, .int x13, .int x14, .int x15])), (o1, .inr (7, [.ref r1, .int n1])), (r1, .inl (c1, 6, .inr (.inl f1))), (e1, .inr (3, [.int (nI R1), .ref t1, .ref s1, .int m1])), (t1, .inl (ct1, 24 * R1, .inl ft1)), (s1, .inl (cs1, R1, .inl fs1))]) [3, 4, 5, 6, 7, 8] rfl
      have hKc := hK.sub (tys' := [(c1, .long), (ct1, .int), (cs1, .int)]) [2, 3, 4] rfl
      have hDc := hD.sub (ws' := [(a1, .inr (4, [.ref o1, .ref e1, .int x10, .int x11, .int x12, .int x13, .int x14, .int x15])), (o1, .inr (7, [.ref r1, .int n1])), (r1, .inl (c1, 6, .inr (.inl f1))), (e1, .inr (3, [.int (nI R1), .ref t1, .ref s1, .int m1])), (t1, .inl (ct1, 24 * R1, .inl ft1)), (s1, .inl (cs1, R1, .inl fs1))]) [3, 4, 5, 6, 7, 8] (by decide) rfl
      have hFc := va_free (wc := [(a1, .inr (4, [.ref o1, .ref e1, .int x10, .int x11, .int x12, .int x13, .int x14, .int x15])), (o1, .inr (7, [.ref r1, .int n1])), (r1, .inl (c1, 6, .inr (.inl f1))), (e1, .inr (3, [.int (nI R1), .ref t1, .ref s1, .int m1])), (t1, .inl (ct1, 24 * R1, .inl ft1)), (s1, .inl (cs1, R1, .inl fs1))]) hD hS hA [3, 4, 5, 6, 7, 8] rfl
      refine va_callv (va_runV (As := [.int y_7]) (rest := []) ⟨hx, hb, hml, hown, hts⟩ (s_addSign l dC dI a1 x10 x11 x12 x13 x14 x15 o1 r1 c1 f1 n1 e1 t1 s1 R1 ct1 cs1 ft1 fs1 m1 H.size y_7 (by first | assumption | decide) (by first | assumption | decide) (by first | omega | decide | (have l0 := Int32.toInt_zero; omega)) (by first | omega | decide | (have l0 := Int32.toInt_zero; omega)) (by first | omega | decide | (have l0 := Int32.toInt_zero; omega)) (by first | omega | decide | (have l0 := Int32.toInt_zero; omega)) (by first | omega | decide | (have l0 := Int32.toInt_zero; omega)) (by first | omega | decide | (have l0 := Int32.toInt_zero; omega)) hb_fs1) (cwV 1 hts mg_X1_readSign_X4_addSign_173 rfl rfl rfl (by decide +kernel) ⟨Nat.le_of_ble_eq_true rfl, Nat.le_of_ble_eq_true rfl⟩) ⟨fun a U g mk q => by obtain ⟨q0, q1, qP, qK, qD⟩ := q; exact ⟨q0, q1, qP, va_K.moved (u := U) (U := U.calling g mk a) (Vm.Alike.refl U.vm) qK, qD⟩, va_recv hKc hPc (ci := 4) (q0 := 0) rfl rfl, fun U hU hW => ⟨rfl, by rw [hU], by rw [hU]; exact hPc, va_K.moved hW.alike hKc, hDc.weaken (fun _ _ _ _ => trivial)⟩⟩ rfl rfl hl.1 rfl (lv_room (Nat.le_of_ble_eq_true rfl)) dX1_readSign_29 ⟨Nat.le_of_ble_eq_true rfl, Nat.le_of_ble_eq_true rfl⟩) hS (fun q _ h => hFc q h) hFc (fun u t H1 locs ht hvm hw hB hz1 hk1 hS => ?_)
      obtain ⟨w_10, w_11, w_12, w_13, w_14, w_15, u_16, u_17, f_18, f_19, f_20, h_21, h_22, h_23, h_24, hb_f_20, hP1, hK1, hD1⟩ := hB
      rw [ht] at hP1
      obtain ⟨hP, hD⟩ := va_join (wr := [(cm, .inr (1, [.ref kA, .ref kB, .ref kG, .ref kS, .ref o3, .ref e4, .ref e5, .ref kC, .ref kF, .ref kT, .int spn])), (ba, .inl (cb, kb, .inl fb)), (kF, .inl (cF, 24, .inl fF))]) (w1 := [(a1, .inr (4, [.ref o1, .ref e1, .int w_10, .int w_11, .int w_12, .int w_13, .int w_14, .int w_15])), (o1, .inr (7, [.ref r1, .int u_16])), (r1, .inl (c1, 6, .inr (.inl f_18))), (e1, .inr (3, [.int (nI R1), .ref t1, .ref s1, .int u_17])), (t1, .inl (ct1, 24 * R1, .inl f_19)), (s1, .inl (cs1, R1, .inl f_20))]) hP hD [3, 4, 5, 6, 7, 8] [0, 1, 2] rfl rfl (by decide) (by decide) hk1 hFc hP1 hD1
      generalize H1 = H at hP hS ⊢
      have hP : va_P (dC, dI) vwCl [(cm, .inr (1, [.ref kA, .ref kB, .ref kG, .ref kS, .ref o3, .ref e4, .ref e5, .ref kC, .ref kF, .ref kT, .int spn])), (ba, .inl (cb, kb, .inl fb)), (kF, .inl (cF, 24, .inl fF)), (a1, .inr (4, [.ref o1, .ref e1, .int w_10, .int w_11, .int w_12, .int w_13, .int w_14, .int w_15])), (o1, .inr (7, [.ref r1, .int u_16])), (r1, .inl (c1, 6, .inr (.inl f_18))), (e1, .inr (3, [.int (nI R1), .ref t1, .ref s1, .int u_17])), (t1, .inl (ct1, 24 * R1, .inl f_19)), (s1, .inl (cs1, R1, .inl f_20))] H := hP
      have hD : va_D A [(cm, .inr (1, [.ref kA, .ref kB, .ref kG, .ref kS, .ref o3, .ref e4, .ref e5, .ref kC, .ref kF, .ref kT, .int spn])), (ba, .inl (cb, kb, .inl fb)), (kF, .inl (cF, 24, .inl fF)), (a1, .inr (4, [.ref o1, .ref e1, .int w_10, .int w_11, .int w_12, .int w_13, .int w_14, .int w_15])), (o1, .inr (7, [.ref r1, .int u_16])), (r1, .inl (c1, 6, .inr (.inl f_18))), (e1, .inr (3, [.int (nI R1), .ref t1, .ref s1, .int u_17])), (t1, .inl (ct1, 24 * R1, .inl f_19)), (s1, .inl (cs1, R1, .inl f_20))] := hD
      refine lv_aload_n hx hb dX1_readSign_32 rfl (lv_at hl 3 rfl) ?_
      refine lv_iload hx hb dX1_readSign_33 (lv_at hl 0 rfl) ?_
      refine va_iald hx hb hK hP 1 0 rfl rfl (i := y_1) (vp_of (a := y_1.toInt) rfl (by omega) (by omega)) dX1_readSign_35 ?_
      refine lv_topi (fun y_25 ey_25 => ?_)
      have rg_y_25 := i_rng y_25
      refine lv_bipush (v := 63) hx hb dX1_readSign_36 (by decide) ?_
      refine lv_icmp_eq (tgt := 53) hx hb dX1_readSign_38 (by decide) (fun k_26 => ?_) (fun k_26 => ?_)
      · have tk_26 := c_eq (a := y_25.toInt) (b := 63) rfl (by decide) k_26
        refine lv_iload hx hb dX1_readSign_53 (lv_at hl 0 rfl) ?_
        have hP9 := hP.sub (ws' := [(cm, .inr (1, [.ref kA, .ref kB, .ref kG, .ref kS, .ref o3, .ref e4, .ref e5, .ref kC, .ref kF, .ref kT, .int spn])), (ba, .inl (cb, kb, .inl fb)), (kF, .inl (cF, 24, .inl fF)), (a1, .inr (4, [.ref o1, .ref e1, .int w_10, .int w_11, .int w_12, .int w_13, .int w_14, .int w_15])), (o1, .inr (7, [.ref r1, .int u_16])), (r1, .inl (c1, 6, .inr (.inl f_18))), (e1, .inr (3, [.int (nI R1), .ref t1, .ref s1, .int u_17])), (t1, .inl (ct1, 24 * R1, .inl f_19)), (s1, .inl (cs1, R1, .inl f_20))]) [0, 1, 2, 3, 4, 5, 6, 7, 8] rfl
        have hD9 := hD.sub (ws' := [(cm, .inr (1, [.ref kA, .ref kB, .ref kG, .ref kS, .ref o3, .ref e4, .ref e5, .ref kC, .ref kF, .ref kT, .int spn])), (ba, .inl (cb, kb, .inl fb)), (kF, .inl (cF, 24, .inl fF)), (a1, .inr (4, [.ref o1, .ref e1, .int w_10, .int w_11, .int w_12, .int w_13, .int w_14, .int w_15])), (o1, .inr (7, [.ref r1, .int u_16])), (r1, .inl (c1, 6, .inr (.inl f_18))), (e1, .inr (3, [.int (nI R1), .ref t1, .ref s1, .int u_17])), (t1, .inl (ct1, 24 * R1, .inl f_19)), (s1, .inl (cs1, R1, .inl f_20))]) [0, 1, 2, 3, 4, 5, 6, 7, 8] (by decide) rfl
        have hK9 := hK.sub (tys' := [(cb, .int), (cF, .int), (c1, .long), (ct1, .int), (cs1, .int)]) [0, 1, 2, 3, 4] rfl
        exact W.iret hx hb hr (fun t ht hW => ⟨⟨_, (), rfl, by omega, fF, w_10, w_11, w_12, w_13, w_14, w_15, u_16, u_17, f_18, f_19, f_20, (by first | assumption | decide), (by first | assumption | decide), (by first | omega | decide | (have l1 : (1 : Int32).toInt = 1 := rfl; have l0 : (0 : Int32).toInt = 0 := rfl; omega)), (by first | omega | decide | (have l1 : (1 : Int32).toInt = 1 := rfl; have l0 : (0 : Int32).toInt = 0 := rfl; omega)), hb_f_20, by rw [ht]; exact hP9, va_K.moved hW.alike hK9, hD9⟩, hS.F ht⟩) hS.2.2 dX1_readSign_55
      · have tk_26 := c_ne (a := y_25.toInt) (b := 63) rfl (by decide) k_26
        refine lv_aload_n hx hb dX1_readSign_41 rfl (lv_at hl 1 rfl) ?_
        refine lv_aload_n hx hb dX1_readSign_42 rfl (lv_at hl 2 rfl) ?_
        refine va_get (D := (dC, dI)) (ci := 4) (v := .int w_15) (C := RX4) (T := TX4) (N := 8) hx hb hts fin_X1_readSign_X4 hown hK hP 3 rfl rfl 7 (by decide) (hts (.fieldLink RX1 176 "PatternGate$Part" "last" "I") (List.mem_of_getElem? (i := 8) (by decide +kernel))) (fun _ h9 => h9) rfl dX1_readSign_43 ?_
        refine lv_aload_n hx hb dX1_readSign_46 rfl (lv_at hl 2 rfl) ?_
        refine va_get (D := (dC, dI)) (ci := 4) (v := .int w_14) (C := RX4) (T := TX4) (N := 8) hx hb hts fin_X1_readSign_X4 hown hK hP 3 rfl rfl 6 (by decide) (hts (.fieldLink RX1 179 "PatternGate$Part" "first" "I") (List.mem_of_getElem? (i := 9) (by decide +kernel))) (fun _ h9 => h9) rfl dX1_readSign_47 ?_
        have hPc := hP.sub (ws' := [(cm, .inr (1, [.ref kA, .ref kB, .ref kG, .ref kS, .ref o3, .ref e4, .ref e5, .ref kC, .ref kF, .ref kT, .int spn])), (kF, .inl (cF, 24, .inl fF))]) [0, 2] rfl
        have hKc := hK.sub (tys' := [(cF, .int)]) [1] rfl
        have hDc := hD.sub (ws' := [(cm, .inr (1, [.ref kA, .ref kB, .ref kG, .ref kS, .ref o3, .ref e4, .ref e5, .ref kC, .ref kF, .ref kT, .int spn])), (kF, .inl (cF, 24, .inl fF))]) [0, 2] (by decide) rfl
        have hFc := va_free (wc := [(cm, .inr (1, [.ref kA, .ref kB, .ref kG, .ref kS, .ref o3, .ref e4, .ref e5, .ref kC, .ref kF, .ref kT, .int spn])), (kF, .inl (cF, 24, .inl fF))]) hD hS hA [0, 2] rfl
        refine va_callv (va_runV (As := [.int w_15, .int w_14]) (rest := []) ⟨hx, hb, hml, hown, hts⟩ (s_addFollow l dC dI cm kA kB kG kS o3 e4 e5 kC kT spn kF cF fF H.size w_15 w_14 (by first | omega | decide | (have l0 := Int32.toInt_zero; omega)) (by first | omega | decide | (have l0 := Int32.toInt_zero; omega))) (cwV 2 hts mg_X1_readSign_X1_addFollow_182 rfl rfl rfl (by decide +kernel) ⟨Nat.le_of_ble_eq_true rfl, Nat.le_of_ble_eq_true rfl⟩) ⟨fun a U g mk q => by obtain ⟨q0, q1, qP, qK, qD⟩ := q; exact ⟨q0, q1, qP, va_K.moved (u := U) (U := U.calling g mk a) (Vm.Alike.refl U.vm) qK, qD⟩, va_recv hKc hPc (ci := 1) (q0 := 0) rfl rfl, fun U hU hW => ⟨rfl, by rw [hU], by rw [hU]; exact hPc, va_K.moved hW.alike hKc, hDc.weaken (fun _ _ _ _ => trivial)⟩⟩ rfl rfl hl.1 rfl (lv_room (Nat.le_of_ble_eq_true rfl)) dX1_readSign_50 ⟨Nat.le_of_ble_eq_true rfl, Nat.le_of_ble_eq_true rfl⟩) hS (fun q _ h => hFc q h) hFc (fun u t H1 locs ht hvm hw hB hz1 hk1 hS => ?_)
        obtain ⟨f_29, hP1, hK1, hD1⟩ := hB
        rw [ht] at hP1
        obtain ⟨hP, hD⟩ := va_join (wr := [(ba, .inl (cb, kb, .inl fb)), (a1, .inr (4, [.ref o1, .ref e1, .int w_10, .int w_11, .int w_12, .int w_13, .int w_14, .int w_15])), (o1, .inr (7, [.ref r1, .int u_16])), (r1, .inl (c1, 6, .inr (.inl f_18))), (e1, .inr (3, [.int (nI R1), .ref t1, .ref s1, .int u_17])), (t1, .inl (ct1, 24 * R1, .inl f_19)), (s1, .inl (cs1, R1, .inl f_20))]) (w1 := [(cm, .inr (1, [.ref kA, .ref kB, .ref kG, .ref kS, .ref o3, .ref e4, .ref e5, .ref kC, .ref kF, .ref kT, .int spn])), (kF, .inl (cF, 24, .inl f_29))]) hP hD [0, 2] [1, 3, 4, 5, 6, 7, 8] rfl rfl (by decide) (by decide) hk1 hFc hP1 hD1
        generalize H1 = H at hP hS ⊢
        have hP : va_P (dC, dI) vwCl [(ba, .inl (cb, kb, .inl fb)), (a1, .inr (4, [.ref o1, .ref e1, .int w_10, .int w_11, .int w_12, .int w_13, .int w_14, .int w_15])), (o1, .inr (7, [.ref r1, .int u_16])), (r1, .inl (c1, 6, .inr (.inl f_18))), (e1, .inr (3, [.int (nI R1), .ref t1, .ref s1, .int u_17])), (t1, .inl (ct1, 24 * R1, .inl f_19)), (s1, .inl (cs1, R1, .inl f_20)), (cm, .inr (1, [.ref kA, .ref kB, .ref kG, .ref kS, .ref o3, .ref e4, .ref e5, .ref kC, .ref kF, .ref kT, .int spn])), (kF, .inl (cF, 24, .inl f_29))] H := hP
        have hD : va_D A [(ba, .inl (cb, kb, .inl fb)), (a1, .inr (4, [.ref o1, .ref e1, .int w_10, .int w_11, .int w_12, .int w_13, .int w_14, .int w_15])), (o1, .inr (7, [.ref r1, .int u_16])), (r1, .inl (c1, 6, .inr (.inl f_18))), (e1, .inr (3, [.int (nI R1), .ref t1, .ref s1, .int u_17])), (t1, .inl (ct1, 24 * R1, .inl f_19)), (s1, .inl (cs1, R1, .inl f_20)), (cm, .inr (1, [.ref kA, .ref kB, .ref kG, .ref kS, .ref o3, .ref e4, .ref e5, .ref kC, .ref kF, .ref kT, .int spn])), (kF, .inl (cF, 24, .inl f_29))] := hD
        refine lv_iload hx hb dX1_readSign_53 (lv_at hl 0 rfl) ?_
        have hP9 := hP.sub (ws' := [(cm, .inr (1, [.ref kA, .ref kB, .ref kG, .ref kS, .ref o3, .ref e4, .ref e5, .ref kC, .ref kF, .ref kT, .int spn])), (ba, .inl (cb, kb, .inl fb)), (kF, .inl (cF, 24, .inl f_29)), (a1, .inr (4, [.ref o1, .ref e1, .int w_10, .int w_11, .int w_12, .int w_13, .int w_14, .int w_15])), (o1, .inr (7, [.ref r1, .int u_16])), (r1, .inl (c1, 6, .inr (.inl f_18))), (e1, .inr (3, [.int (nI R1), .ref t1, .ref s1, .int u_17])), (t1, .inl (ct1, 24 * R1, .inl f_19)), (s1, .inl (cs1, R1, .inl f_20))]) [7, 0, 8, 1, 2, 3, 4, 5, 6] rfl
        have hD9 := hD.sub (ws' := [(cm, .inr (1, [.ref kA, .ref kB, .ref kG, .ref kS, .ref o3, .ref e4, .ref e5, .ref kC, .ref kF, .ref kT, .int spn])), (ba, .inl (cb, kb, .inl fb)), (kF, .inl (cF, 24, .inl f_29)), (a1, .inr (4, [.ref o1, .ref e1, .int w_10, .int w_11, .int w_12, .int w_13, .int w_14, .int w_15])), (o1, .inr (7, [.ref r1, .int u_16])), (r1, .inl (c1, 6, .inr (.inl f_18))), (e1, .inr (3, [.int (nI R1), .ref t1, .ref s1, .int u_17])), (t1, .inl (ct1, 24 * R1, .inl f_19)), (s1, .inl (cs1, R1, .inl f_20))]) [7, 0, 8, 1, 2, 3, 4, 5, 6] (by decide) rfl
        have hK9 := hK.sub (tys' := [(cb, .int), (cF, .int), (c1, .long), (ct1, .int), (cs1, .int)]) [0, 1, 2, 3, 4] rfl
        exact W.iret hx hb hr (fun t ht hW => ⟨⟨_, (), rfl, by omega, f_29, w_10, w_11, w_12, w_13, w_14, w_15, u_16, u_17, f_18, f_19, f_20, (by first | assumption | decide), (by first | assumption | decide), (by first | omega | decide | (have l1 : (1 : Int32).toInt = 1 := rfl; have l0 : (0 : Int32).toInt = 0 := rfl; omega)), (by first | omega | decide | (have l1 : (1 : Int32).toInt = 1 := rfl; have l0 : (0 : Int32).toInt = 0 := rfl; omega)), hb_f_20, by rw [ht]; exact hP9, va_K.moved hW.alike hK9, hD9⟩, hS.F ht⟩) hS.2.2 dX1_readSign_55
    · have tk_6 := c_eq (a := r_5.toInt) (b := 0) rfl (by decide) k_6
      refine lv_iload_n hx hb dX1_readSign_22 rfl (lv_at hl 4 rfl) ?_
      have hP9 := hP.sub (ws' := [(cm, .inr (1, [.ref kA, .ref kB, .ref kG, .ref kS, .ref o3, .ref e4, .ref e5, .ref kC, .ref kF, .ref kT, .int spn])), (ba, .inl (cb, kb, .inl fb)), (kF, .inl (cF, 24, .inl fF)), (a1, .inr (4, [.ref o1, .ref e1, .int x10, .int x11, .int x12, .int x13, .int x14, .int x15])), (o1, .inr (7, [.ref r1, .int n1])), (r1, .inl (c1, 6, .inr (.inl f1))), (e1, .inr (3, [.int (nI R1), .ref t1, .ref s1, .int m1])), (t1, .inl (ct1, 24 * R1, .inl ft1)), (s1, .inl (cs1, R1, .inl fs1))]) [0, 1, 2, 3, 4, 5, 6, 7, 8] rfl
      have hD9 := hD.sub (ws' := [(cm, .inr (1, [.ref kA, .ref kB, .ref kG, .ref kS, .ref o3, .ref e4, .ref e5, .ref kC, .ref kF, .ref kT, .int spn])), (ba, .inl (cb, kb, .inl fb)), (kF, .inl (cF, 24, .inl fF)), (a1, .inr (4, [.ref o1, .ref e1, .int x10, .int x11, .int x12, .int x13, .int x14, .int x15])), (o1, .inr (7, [.ref r1, .int n1])), (r1, .inl (c1, 6, .inr (.inl f1))), (e1, .inr (3, [.int (nI R1), .ref t1, .ref s1, .int m1])), (t1, .inl (ct1, 24 * R1, .inl ft1)), (s1, .inl (cs1, R1, .inl fs1))]) [0, 1, 2, 3, 4, 5, 6, 7, 8] (by decide) rfl
      have hK9 := hK.sub (tys' := [(cb, .int), (cF, .int), (c1, .long), (ct1, .int), (cs1, .int)]) [0, 1, 2, 3, 4] rfl
      exact W.iret hx hb hr (fun t ht hW => ⟨⟨_, (), rfl, by omega, fF, x10, x11, x12, x13, x14, x15, n1, m1, f1, ft1, fs1, (by first | assumption | decide), (by first | assumption | decide), (by first | omega | decide | (have l1 : (1 : Int32).toInt = 1 := rfl; have l0 : (0 : Int32).toInt = 0 := rfl; omega)), (by first | omega | decide | (have l1 : (1 : Int32).toInt = 1 := rfl; have l0 : (0 : Int32).toInt = 0 := rfl; omega)), hb_fs1, by rw [ht]; exact hP9, va_K.moved hW.alike hK9, hD9⟩, hS.F ht⟩) hS.2.2 dX1_readSign_23

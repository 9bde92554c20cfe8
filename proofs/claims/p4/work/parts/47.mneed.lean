theorem dX10_cutsDown_0 : decode cX10_cutsDown 0 = .ok (.iconst 0, 1) := by decide +kernel
theorem dX10_cutsDown_1 : decode cX10_cutsDown 1 = .ok (.istore_n 1, 1) := by decide +kernel
theorem dX10_cutsDown_2 : decode cX10_cutsDown 2 = .ok (.iconst 0, 1) := by decide +kernel
theorem dX10_cutsDown_3 : decode cX10_cutsDown 3 = .ok (.istore_n 2, 1) := by decide +kernel
theorem dX10_cutsDown_4 : decode cX10_cutsDown 4 = .ok (.iload_n 2, 1) := by decide +kernel
theorem dX10_cutsDown_5 : decode cX10_cutsDown 5 = .ok (.aload_n 0, 1) := by decide +kernel
theorem dX10_cutsDown_6 : decode cX10_cutsDown 6 = .ok (.getfield 289, 3) := by decide +kernel
theorem dX10_cutsDown_9 : decode cX10_cutsDown 9 = .ok (.if_icmp .ge 104, 3) := by decide +kernel
theorem dX10_cutsDown_12 : decode cX10_cutsDown 12 = .ok (.iconst 0, 1) := by decide +kernel
theorem dX10_cutsDown_13 : decode cX10_cutsDown 13 = .ok (.istore_n 3, 1) := by decide +kernel
theorem dX10_cutsDown_14 : decode cX10_cutsDown 14 = .ok (.iconst 0, 1) := by decide +kernel
theorem dX10_cutsDown_15 : decode cX10_cutsDown 15 = .ok (.istore 4, 2) := by decide +kernel
theorem dX10_cutsDown_17 : decode cX10_cutsDown 17 = .ok (.iload 4, 2) := by decide +kernel
theorem dX10_cutsDown_19 : decode cX10_cutsDown 19 = .ok (.aload_n 0, 1) := by decide +kernel
theorem dX10_cutsDown_20 : decode cX10_cutsDown 20 = .ok (.getfield 289, 3) := by decide +kernel
theorem dX10_cutsDown_23 : decode cX10_cutsDown 23 = .ok (.if_icmp .ge 69, 3) := by decide +kernel
theorem dX10_cutsDown_26 : decode cX10_cutsDown 26 = .ok (.iload_n 3, 1) := by decide +kernel
theorem dX10_cutsDown_27 : decode cX10_cutsDown 27 = .ok (.ifCond .ne 65, 3) := by decide +kernel
theorem dX10_cutsDown_30 : decode cX10_cutsDown 30 = .ok (.iload 4, 2) := by decide +kernel
theorem dX10_cutsDown_32 : decode cX10_cutsDown 32 = .ok (.iload_n 2, 1) := by decide +kernel
theorem dX10_cutsDown_33 : decode cX10_cutsDown 33 = .ok (.if_icmp .eq 51, 3) := by decide +kernel
theorem dX10_cutsDown_36 : decode cX10_cutsDown 36 = .ok (.aload_n 0, 1) := by decide +kernel
theorem dX10_cutsDown_37 : decode cX10_cutsDown 37 = .ok (.getfield 61, 3) := by decide +kernel
theorem dX10_cutsDown_40 : decode cX10_cutsDown 40 = .ok (.iload_n 2, 1) := by decide +kernel
theorem dX10_cutsDown_41 : decode cX10_cutsDown 41 = .ok (.aaload, 1) := by decide +kernel
theorem dX10_cutsDown_42 : decode cX10_cutsDown 42 = .ok (.aload_n 0, 1) := by decide +kernel
theorem dX10_cutsDown_43 : decode cX10_cutsDown 43 = .ok (.getfield 61, 3) := by decide +kernel
theorem dX10_cutsDown_46 : decode cX10_cutsDown 46 = .ok (.iload 4, 2) := by decide +kernel
theorem dX10_cutsDown_48 : decode cX10_cutsDown 48 = .ok (.aaload, 1) := by decide +kernel
theorem dX10_cutsDown_49 : decode cX10_cutsDown 49 = .ok (.invokestatic 292, 3) := by decide +kernel
theorem dX10_cutsDown_52 : decode cX10_cutsDown 52 = .ok (.ifCond .eq 32, 3) := by decide +kernel
theorem dX10_cutsDown_55 : decode cX10_cutsDown 55 = .ok (.iload 4, 2) := by decide +kernel
theorem dX10_cutsDown_57 : decode cX10_cutsDown 57 = .ok (.iload_n 2, 1) := by decide +kernel
theorem dX10_cutsDown_58 : decode cX10_cutsDown 58 = .ok (.if_icmp .lt 22, 3) := by decide +kernel
theorem dX10_cutsDown_61 : decode cX10_cutsDown 61 = .ok (.aload_n 0, 1) := by decide +kernel
theorem dX10_cutsDown_62 : decode cX10_cutsDown 62 = .ok (.getfield 61, 3) := by decide +kernel
theorem dX10_cutsDown_65 : decode cX10_cutsDown 65 = .ok (.iload 4, 2) := by decide +kernel
theorem dX10_cutsDown_67 : decode cX10_cutsDown 67 = .ok (.aaload, 1) := by decide +kernel
theorem dX10_cutsDown_68 : decode cX10_cutsDown 68 = .ok (.aload_n 0, 1) := by decide +kernel
theorem dX10_cutsDown_69 : decode cX10_cutsDown 69 = .ok (.getfield 61, 3) := by decide +kernel
theorem dX10_cutsDown_72 : decode cX10_cutsDown 72 = .ok (.iload_n 2, 1) := by decide +kernel
theorem dX10_cutsDown_73 : decode cX10_cutsDown 73 = .ok (.aaload, 1) := by decide +kernel
theorem dX10_cutsDown_74 : decode cX10_cutsDown 74 = .ok (.invokestatic 292, 3) := by decide +kernel
theorem dX10_cutsDown_77 : decode cX10_cutsDown 77 = .ok (.ifCond .ne 7, 3) := by decide +kernel
theorem dX10_cutsDown_80 : decode cX10_cutsDown 80 = .ok (.iconst 1, 1) := by decide +kernel
theorem dX10_cutsDown_81 : decode cX10_cutsDown 81 = .ok (.goto 4, 3) := by decide +kernel
theorem dX10_cutsDown_84 : decode cX10_cutsDown 84 = .ok (.iconst 0, 1) := by decide +kernel
theorem dX10_cutsDown_85 : decode cX10_cutsDown 85 = .ok (.istore_n 3, 1) := by decide +kernel
theorem dX10_cutsDown_86 : decode cX10_cutsDown 86 = .ok (.iinc 4 1, 3) := by decide +kernel
theorem dX10_cutsDown_89 : decode cX10_cutsDown 89 = .ok (.goto (-72), 3) := by decide +kernel
theorem dX10_cutsDown_92 : decode cX10_cutsDown 92 = .ok (.aload_n 0, 1) := by decide +kernel
theorem dX10_cutsDown_93 : decode cX10_cutsDown 93 = .ok (.getfield 67, 3) := by decide +kernel
theorem dX10_cutsDown_96 : decode cX10_cutsDown 96 = .ok (.iload_n 2, 1) := by decide +kernel
theorem dX10_cutsDown_97 : decode cX10_cutsDown 97 = .ok (.iload_n 3, 1) := by decide +kernel
theorem dX10_cutsDown_98 : decode cX10_cutsDown 98 = .ok (.ifCond .ne 7, 3) := by decide +kernel
theorem dX10_cutsDown_101 : decode cX10_cutsDown 101 = .ok (.iconst 1, 1) := by decide +kernel
theorem dX10_cutsDown_102 : decode cX10_cutsDown 102 = .ok (.goto 4, 3) := by decide +kernel
theorem dX10_cutsDown_105 : decode cX10_cutsDown 105 = .ok (.iconst 0, 1) := by decide +kernel
theorem dX10_cutsDown_106 : decode cX10_cutsDown 106 = .ok (.bastore, 1) := by decide +kernel
theorem dX10_cutsDown_107 : decode cX10_cutsDown 107 = .ok (.iinc 2 1, 3) := by decide +kernel
theorem dX10_cutsDown_110 : decode cX10_cutsDown 110 = .ok (.goto (-106), 3) := by decide +kernel
theorem dX10_cutsDown_113 : decode cX10_cutsDown 113 = .ok (.iconst 0, 1) := by decide +kernel
theorem dX10_cutsDown_114 : decode cX10_cutsDown 114 = .ok (.istore_n 2, 1) := by decide +kernel
theorem dX10_cutsDown_115 : decode cX10_cutsDown 115 = .ok (.iload_n 2, 1) := by decide +kernel
theorem dX10_cutsDown_116 : decode cX10_cutsDown 116 = .ok (.aload_n 0, 1) := by decide +kernel
theorem dX10_cutsDown_117 : decode cX10_cutsDown 117 = .ok (.getfield 289, 3) := by decide +kernel
theorem dX10_cutsDown_120 : decode cX10_cutsDown 120 = .ok (.if_icmp .ge 44, 3) := by decide +kernel
theorem dX10_cutsDown_123 : decode cX10_cutsDown 123 = .ok (.aload_n 0, 1) := by decide +kernel
theorem dX10_cutsDown_124 : decode cX10_cutsDown 124 = .ok (.getfield 67, 3) := by decide +kernel
theorem dX10_cutsDown_127 : decode cX10_cutsDown 127 = .ok (.iload_n 2, 1) := by decide +kernel
theorem dX10_cutsDown_128 : decode cX10_cutsDown 128 = .ok (.baload, 1) := by decide +kernel
theorem dX10_cutsDown_129 : decode cX10_cutsDown 129 = .ok (.ifCond .ne 6, 3) := by decide +kernel
theorem dX10_cutsDown_132 : decode cX10_cutsDown 132 = .ok (.goto 26, 3) := by decide +kernel
theorem dX10_cutsDown_135 : decode cX10_cutsDown 135 = .ok (.iload_n 1, 1) := by decide +kernel
theorem dX10_cutsDown_136 : decode cX10_cutsDown 136 = .ok (.iload_n 2, 1) := by decide +kernel
theorem dX10_cutsDown_137 : decode cX10_cutsDown 137 = .ok (.if_icmp .eq 18, 3) := by decide +kernel
theorem dX10_cutsDown_140 : decode cX10_cutsDown 140 = .ok (.aload_n 0, 1) := by decide +kernel
theorem dX10_cutsDown_141 : decode cX10_cutsDown 141 = .ok (.getfield 61, 3) := by decide +kernel
theorem dX10_cutsDown_144 : decode cX10_cutsDown 144 = .ok (.iload_n 2, 1) := by decide +kernel
theorem dX10_cutsDown_145 : decode cX10_cutsDown 145 = .ok (.aaload, 1) := by decide +kernel
theorem dX10_cutsDown_146 : decode cX10_cutsDown 146 = .ok (.aload_n 0, 1) := by decide +kernel
theorem dX10_cutsDown_147 : decode cX10_cutsDown 147 = .ok (.getfield 61, 3) := by decide +kernel
theorem dX10_cutsDown_150 : decode cX10_cutsDown 150 = .ok (.iload_n 1, 1) := by decide +kernel
theorem dX10_cutsDown_151 : decode cX10_cutsDown 151 = .ok (.aaload, 1) := by decide +kernel
theorem dX10_cutsDown_152 : decode cX10_cutsDown 152 = .ok (.invokestatic 296, 3) := by decide +kernel
theorem dX10_cutsDown_155 : decode cX10_cutsDown 155 = .ok (.iinc 1 1, 3) := by decide +kernel
theorem dX10_cutsDown_158 : decode cX10_cutsDown 158 = .ok (.iinc 2 1, 3) := by decide +kernel
theorem dX10_cutsDown_161 : decode cX10_cutsDown 161 = .ok (.goto (-46), 3) := by decide +kernel
theorem dX10_cutsDown_164 : decode cX10_cutsDown 164 = .ok (.aload_n 0, 1) := by decide +kernel
theorem dX10_cutsDown_165 : decode cX10_cutsDown 165 = .ok (.iload_n 1, 1) := by decide +kernel
theorem dX10_cutsDown_166 : decode cX10_cutsDown 166 = .ok (.putfield 289, 3) := by decide +kernel
theorem dX10_cutsDown_169 : decode cX10_cutsDown 169 = .ok (.return_, 1) := by decide +kernel
def mwX10_cutsDownm : List Cond := .code yX10_cutsDown cX10_cutsDown 5 none :: ([.fieldLink RX10 289 "PatternGateModel" "manyTop" "I", .fieldLink RX10 67 "PatternGateModel" "kept" "[Z", .fieldLink RX10 61 "PatternGateModel" "many" "[[I", .code yX10_lays cX10_lays 3 none, .methodLink RX10 296 yX10_lays, .static yX10_lays, .initialized RX10, .code yX10_hasAll cX10_hasAll 4 (some .boolean), .methodLink RX10 292 yX10_hasAll, .static yX10_hasAll] ++ wsX100)
theorem fin_X10_cutsDownm_X10 : ∀ w ∈ wsX100, w ∈ mwX10_cutsDownm := fun w h => List.mem_cons_of_mem _ (List.mem_append_right _ h)
set_option maxRecDepth 20000 in
theorem mg_X10_cutsDownm_X10_lays_296 : GoodIn mwX10_cutsDownm (va_wsS RX10 296 yX10_lays mwX10_laysm) := goodIn_r _ [5, 6, 7, 4] (by decide +kernel) (by decide +kernel)
set_option maxRecDepth 20000 in
theorem mg_X10_cutsDownm_X10_hasAll_292 : GoodIn mwX10_cutsDownm (va_wsS RX10 292 yX10_hasAll mwX10_hasAllm) := goodIn_r _ [9, 10, 7, 8] (by decide +kernel) (by decide +kernel)
set_option maxHeartbeats 4000000 in
set_option maxRecDepth 100000 in
theorem m_cutsDown (l : Launch) (dC : Nat → ClassId) (dI : Nat → Nat → Nat) (ad : Nat → Nat) (kc : Nat → ClassId) (x0 x1 x2 x3 x4 x5 x6 x7 x8 x9 x10 x11 x12 x13 x14 x15 x16 x17 x18 x19 x20 x21 : Int32) (f0 f1 f2 f3 f4 f5 f6 f7 f8 f9 f10 f11 f12 f13 f14 f15 f16 f17 f18 f19 f20 f21 : Nat → Int32) (fL : Nat → Nat → Int64) (fN : Nat → Nat → Int32) (fP : Nat → Nat → Nat) (fM : Nat → Nat → Int32) (fO : Nat → Nat → Int32) (sz : Nat) (bb : Int) (q0 : 0 ≤ x18.toInt ∧ x18.toInt ≤ 150) (q1 : bb ≤ 168) (q2 : mOK (rO fN fM fO) x18.toInt bb) : Met l yX10_cutsDown mwX10_cutsDownm ({ frames := 1, cells := 0, slots := 0, locals := 60 }) (va_Pc [.ref (ad 0)] (fun U => U.heap.size = sz ∧ va_P (dC, dI) vwCl (mW ad kc x0 x1 x2 x3 x4 x5 x6 x7 x8 x9 x10 x11 x12 x13 x14 x15 x16 x17 x18 x19 x20 x21 f0 f1 f2 f3 f4 f5 f6 f7 f8 f9 f10 f11 f12 f13 f14 f15 f16 f17 f18 f19 f20 f21 fL fN fP fM fO) U.heap ∧ va_K (dC, dI) vwCl (mT kc) U ∧ va_D (fun _ => True) (mW ad kc x0 x1 x2 x3 x4 x5 x6 x7 x8 x9 x10 x11 x12 x13 x14 x15 x16 x17 x18 x19 x20 x21 f0 f1 f2 f3 f4 f5 f6 f7 f8 f9 f10 f11 f12 f13 f14 f15 f16 f17 f18 f19 f20 f21 fL fN fP fM fO))) (va_Qv (fun (_ : Unit) => True) (fun _ t => ∃ (y18 : Int32) (g11 : Nat → Int32) (Nn9 : Nat → Nat → Int32) (M9 : Nat → Nat → Int32) (O9 : Nat → Nat → Int32), (0 ≤ y18.toInt ∧ y18.toInt ≤ x18.toInt) ∧ (mFr (rO fN fM fO) (rO Nn9 M9 O9)) ∧ (mOK (rO Nn9 M9 O9) y18.toInt bb) ∧ va_P (dC, dI) vwCl (mW ad kc x0 x1 x2 x3 x4 x5 x6 x7 x8 x9 x10 x11 x12 x13 x14 x15 x16 x17 y18 x19 x20 x21 f0 f1 f2 f3 f4 f5 f6 f7 f8 f9 f10 g11 f12 f13 f14 f15 f16 f17 f18 f19 f20 f21 fL Nn9 fP M9 O9) t.heap ∧ va_K (dC, dI) vwCl (mT kc) t ∧ va_D (va_A (mW ad kc x0 x1 x2 x3 x4 x5 x6 x7 x8 x9 x10 x11 x12 x13 x14 x15 x16 x17 x18 x19 x20 x21 f0 f1 f2 f3 f4 f5 f6 f7 f8 f9 f10 f11 f12 f13 f14 f15 f16 f17 f18 f19 f20 f21 fL fN fP fM fO) sz) (mW ad kc x0 x1 x2 x3 x4 x5 x6 x7 x8 x9 x10 x11 x12 x13 x14 x15 x16 x17 y18 x19 x20 x21 f0 f1 f2 f3 f4 f5 f6 f7 f8 f9 f10 g11 f12 f13 f14 f15 f16 f17 f18 f19 f20 f21 fL Nn9 fP M9 O9)) (va_A (mW ad kc x0 x1 x2 x3 x4 x5 x6 x7 x8 x9 x10 x11 x12 x13 x14 x15 x16 x17 x18 x19 x20 x21 f0 f1 f2 f3 f4 f5 f6 f7 f8 f9 f10 f11 f12 f13 f14 f15 f16 f17 f18 f19 f20 f21 fL fN fP fM fO) sz)) 0 0 (va_A (mW ad kc x0 x1 x2 x3 x4 x5 x6 x7 x8 x9 x10 x11 x12 x13 x14 x15 x16 x17 x18 x19 x20 x21 f0 f1 f2 f3 f4 f5 f6 f7 f8 f9 f10 f11 f12 f13 f14 f15 f16 f17 f18 f19 f20 f21 fL fN fP fM fO) sz) := by
  refine Met.ofW (cc := cX10_cutsDown) (maxL := 5) (ret := none) (by decide +kernel) rfl ?_
  intro p e s m args below meth c s₁ B hml hv
  obtain ⟨rfl, hsz, hP, hK, hD0⟩ := hv
  have hx := B.exec
  have hb := B.bytes
  have hr := B.returns
  have hts := atoms_spec (ws := mwX10_cutsDownm) B.pre
  have hown : s.vm.findClass RX10 = some m.cls := findClass_of_methodNamed B.named
  have hlocks := B.notSynchronized
  subst hsz
  have hD := hD0.self (sz := s.heap.size)
  generalize hAe : va_A (mW ad kc x0 x1 x2 x3 x4 x5 x6 x7 x8 x9 x10 x11 x12 x13 x14 x15 x16 x17 x18 x19 x20 x21 f0 f1 f2 f3 f4 f5 f6 f7 f8 f9 f10 f11 f12 f13 f14 f15 f16 f17 f18 f19 f20 f21 fL fN fP fM fO) s.heap.size = A at hD ⊢
  have hA : ∀ q : Nat, s.heap.size ≤ q → A q := fun q h => by rw [← hAe]; exact Or.inr h
  have hP : va_P (dC, dI) vwCl (mW ad kc x0 x1 x2 x3 x4 x5 x6 x7 x8 x9 x10 x11 x12 x13 x14 x15 x16 x17 x18 x19 x20 x21 f0 f1 f2 f3 f4 f5 f6 f7 f8 f9 f10 f11 f12 f13 f14 f15 f16 f17 f18 f19 f20 f21 fL fN fP fM fO) s.heap := hP
  have hD : va_D A (mW ad kc x0 x1 x2 x3 x4 x5 x6 x7 x8 x9 x10 x11 x12 x13 x14 x15 x16 x17 x18 x19 x20 x21 f0 f1 f2 f3 f4 f5 f6 f7 f8 f9 f10 f11 f12 f13 f14 f15 f16 f17 f18 f19 f20 f21 fL fN fP fM fO) := hD
  have hK : va_K (dC, dI) vwCl (mT kc) s := hK
  generalize hH : s.heap = H at hP ⊢
  have hS : va_S A s.heap H [] := by rw [← hH]; exact va_S.rf
  have hl := lv_entry ([.ref (ad 0)]) (n := 5) (Nat.le_of_ble_eq_true rfl)
  rw [lg_entry_eq]
  generalize (lg_sl ([.ref (ad 0)]) ++ List.replicate (5 - (lg_sl ([.ref (ad 0)])).length) Slot.unset).toArray = ls at hl ⊢
  have hl : lv_has ls 5 [(0, .ref (ad 0))] := hl
  refine lv_iconst (v := 0) hx hb dX10_cutsDown_0 (by decide) ?_
  refine lv_istore_n (lv' := [(1, .int 0), (0, .ref (ad 0))]) hx hb dX10_cutsDown_1 rfl hl (by decide) rfl (fun ls hl => ?_)
  refine lv_iconst (v := 0) hx hb dX10_cutsDown_2 (by decide) ?_
  refine lv_istore_n (lv' := [(2, .int 0), (1, .int 0), (0, .ref (ad 0))]) hx hb dX10_cutsDown_3 rfl hl (by decide) rfl (fun ls hl => ?_)
  have loop4 : ∀ (lm4 : Nat) (kk : Int32) (ga : Nat → Int32), (0 ≤ kk.toInt) → (kk.toInt ≤ x18.toInt) → ((x18.toInt - kk.toInt).toNat) < lm4 → ∀ (H : Heap) (locs : List Loc) (ls : Array Slot), va_P (dC, dI) vwCl (mW ad kc x0 x1 x2 x3 x4 x5 x6 x7 x8 x9 x10 x11 x12 x13 x14 x15 x16 x17 x18 x19 x20 x21 f0 f1 f2 f3 f4 f5 f6 f7 f8 f9 f10 ga f12 f13 f14 f15 f16 f17 f18 f19 f20 f21 fL fN fP fM fO) H → va_D A (mW ad kc x0 x1 x2 x3 x4 x5 x6 x7 x8 x9 x10 x11 x12 x13 x14 x15 x16 x17 x18 x19 x20 x21 f0 f1 f2 f3 f4 f5 f6 f7 f8 f9 f10 ga f12 f13 f14 f15 f16 f17 f18 f19 f20 f21 fL fN fP fM fO) → va_S A s.heap H locs → lv_has ls 5 [(2, .int kk), (1, .int 0), (0, .ref (ad 0))] → W p l e (headSpec mwX10_cutsDownm ({ frames := 1, cells := 0, slots := 0, locals := 60 })).room s m ([.ref (ad 0)]).toArray below meth c H locs 0 0 (MQ below (va_Qv (fun (_ : Unit) => True) (fun _ t => ∃ (y18 : Int32) (g11 : Nat → Int32) (Nn9 : Nat → Nat → Int32) (M9 : Nat → Nat → Int32) (O9 : Nat → Nat → Int32), (0 ≤ y18.toInt ∧ y18.toInt ≤ x18.toInt) ∧ (mFr (rO fN fM fO) (rO Nn9 M9 O9)) ∧ (mOK (rO Nn9 M9 O9) y18.toInt bb) ∧ va_P (dC, dI) vwCl (mW ad kc x0 x1 x2 x3 x4 x5 x6 x7 x8 x9 x10 x11 x12 x13 x14 x15 x16 x17 y18 x19 x20 x21 f0 f1 f2 f3 f4 f5 f6 f7 f8 f9 f10 g11 f12 f13 f14 f15 f16 f17 f18 f19 f20 f21 fL Nn9 fP M9 O9) t.heap ∧ va_K (dC, dI) vwCl (mT kc) t ∧ va_D A (mW ad kc x0 x1 x2 x3 x4 x5 x6 x7 x8 x9 x10 x11 x12 x13 x14 x15 x16 x17 y18 x19 x20 x21 f0 f1 f2 f3 f4 f5 f6 f7 f8 f9 f10 g11 f12 f13 f14 f15 f16 f17 f18 f19 f20 f21 fL Nn9 fP M9 O9)) A) ([.ref (ad 0)]).toArray s 0 0 A) (F0 m 4 ls []) := by
    intro lm4
    induction lm4 with
    | zero => intro kk ga v4_0 v4_1 hm4; exact absurd hm4 (Nat.not_lt_zero _)
    | succ lm4 ih4 =>
      intro kk ga v4_0 v4_1 hm4 H locs ls hP hD hS hl
      have rg_kk := i_rng kk
      refine lv_iload_n hx hb dX10_cutsDown_4 rfl (lv_at hl 0 rfl) ?_
      refine lv_aload_n hx hb dX10_cutsDown_5 rfl (lv_at hl 2 rfl) ?_
      refine va_get (D := (dC, dI)) (ci := 10) (v := .int x18) (C := RX10) (T := TX10) (N := 48) hx hb hts fin_X10_cutsDownm_X10 hown hK hP 0 rfl rfl 32 (by decide) (hts (.fieldLink RX10 289 "PatternGateModel" "manyTop" "I") (List.mem_of_getElem? (i := 1) (by decide +kernel))) (fun _ h9 => h9) rfl dX10_cutsDown_6 ?_
      refine lv_icmp_ge (tgt := 113) hx hb dX10_cutsDown_9 (by decide) (fun k_1 => ?_) (fun k_1 => ?_)
      · have tk_1 := c_ge (a := kk.toInt) (b := x18.toInt) rfl rfl k_1
        refine lv_iconst (v := 0) hx hb dX10_cutsDown_113 (by decide) ?_
        refine lv_istore_n (lv' := [(2, .int 0), (1, .int 0), (0, .ref (ad 0))]) hx hb dX10_cutsDown_114 rfl hl (by decide) rfl (fun ls hl => ?_)
        have loop115 : ∀ (lm115 : Nat) (le k2 : Int32) (hn : Nat → Nat → Int32) (hm : Nat → Nat → Int32) (ho : Nat → Nat → Int32), (0 ≤ k2.toInt ∧ k2.toInt ≤ x18.toInt) → (0 ≤ le.toInt) → (le.toInt ≤ k2.toInt) → (mFr (rO fN fM fO) (rO hn hm ho)) → (mOK (rO hn hm ho) x18.toInt bb) → ((x18.toInt - k2.toInt).toNat) < lm115 → ∀ (H : Heap) (locs : List Loc) (ls : Array Slot), va_P (dC, dI) vwCl (mW ad kc x0 x1 x2 x3 x4 x5 x6 x7 x8 x9 x10 x11 x12 x13 x14 x15 x16 x17 x18 x19 x20 x21 f0 f1 f2 f3 f4 f5 f6 f7 f8 f9 f10 ga f12 f13 f14 f15 f16 f17 f18 f19 f20 f21 fL hn fP hm ho) H → va_D A (mW ad kc x0 x1 x2 x3 x4 x5 x6 x7 x8 x9 x10 x11 x12 x13 x14 x15 x16 x17 x18 x19 x20 x21 f0 f1 f2 f3 f4 f5 f6 f7 f8 f9 f10 ga f12 f13 f14 f15 f16 f17 f18 f19 f20 f21 fL hn fP hm ho) → va_S A s.heap H locs → lv_has ls 5 [(2, .int k2), (1, .int le), (0, .ref (ad 0))] → W p l e (headSpec mwX10_cutsDownm ({ frames := 1, cells := 0, slots := 0, locals := 60 })).room s m ([.ref (ad 0)]).toArray below meth c H locs 0 0 (MQ below (va_Qv (fun (_ : Unit) => True) (fun _ t => ∃ (y18 : Int32) (g11 : Nat → Int32) (Nn9 : Nat → Nat → Int32) (M9 : Nat → Nat → Int32) (O9 : Nat → Nat → Int32), (0 ≤ y18.toInt ∧ y18.toInt ≤ x18.toInt) ∧ (mFr (rO fN fM fO) (rO Nn9 M9 O9)) ∧ (mOK (rO Nn9 M9 O9) y18.toInt bb) ∧ va_P (dC, dI) vwCl (mW ad kc x0 x1 x2 x3 x4 x5 x6 x7 x8 x9 x10 x11 x12 x13 x14 x15 x16 x17 y18 x19 x20 x21 f0 f1 f2 f3 f4 f5 f6 f7 f8 f9 f10 g11 f12 f13 f14 f15 f16 f17 f18 f19 f20 f21 fL Nn9 fP M9 O9) t.heap ∧ va_K (dC, dI) vwCl (mT kc) t ∧ va_D A (mW ad kc x0 x1 x2 x3 x4 x5 x6 x7 x8 x9 x10 x11 x12 x13 x14 x15 x16 x17 y18 x19 x20 x21 f0 f1 f2 f3 f4 f5 f6 f7 f8 f9 f10 g11 f12 f13 f14 f15 f16 f17 f18 f19 f20 f21 fL Nn9 fP M9 O9)) A) ([.ref (ad 0)]).toArray s 0 0 A) (F0 m 115 ls []) := by
          intro lm115
          induction lm115 with
          | zero => intro le k2 hn hm ho v115_0 v115_1 v115_2 v115_3 v115_4 hm115; exact absurd hm115 (Nat.not_lt_zero _)
          | succ lm115 ih115 =>
            intro le k2 hn hm ho v115_0 v115_1 v115_2 v115_3 v115_4 hm115 H locs ls hP hD hS hl
            have rg_le := i_rng le
            have rg_k2 := i_rng k2
            refine lv_iload_n hx hb dX10_cutsDown_115 rfl (lv_at hl 0 rfl) ?_
            refine lv_aload_n hx hb dX10_cutsDown_116 rfl (lv_at hl 2 rfl) ?_
            refine va_get (D := (dC, dI)) (ci := 10) (v := .int x18) (C := RX10) (T := TX10) (N := 48) hx hb hts fin_X10_cutsDownm_X10 hown hK hP 0 rfl rfl 32 (by decide) (hts (.fieldLink RX10 289 "PatternGateModel" "manyTop" "I") (List.mem_of_getElem? (i := 1) (by decide +kernel))) (fun _ h9 => h9) rfl dX10_cutsDown_117 ?_
            refine lv_icmp_ge (tgt := 164) hx hb dX10_cutsDown_120 (by decide) (fun k_2 => ?_) (fun k_2 => ?_)
            · have tk_2 := c_ge (a := k2.toInt) (b := x18.toInt) rfl rfl k_2
              refine lv_aload_n hx hb dX10_cutsDown_164 rfl (lv_at hl 2 rfl) ?_
              refine lv_iload_n hx hb dX10_cutsDown_165 rfl (lv_at hl 1 rfl) ?_
              refine va_put (D := (dC, dI)) (ci := 10) (v := .int le) (ty := .int) (C := RX10) (T := TX10) (N := 48) hx hb hts fin_X10_cutsDownm_X10 tyX10 tyX10_ok nmX10 hown hK hP hD hS 0 rfl rfl 32 (by decide) (hts (.fieldLink RX10 289 "PatternGateModel" "manyTop" "I") (List.mem_of_getElem? (i := 1) (by decide +kernel))) (fun _ h9 => h9) rfl (by decide +kernel) rfl rfl (Nat.le_of_ble_eq_true rfl) dX10_cutsDown_166 (fun H locs hP hD hS => ?_)
              have hP : va_P (dC, dI) vwCl (mW ad kc x0 x1 x2 x3 x4 x5 x6 x7 x8 x9 x10 x11 x12 x13 x14 x15 x16 x17 le x19 x20 x21 f0 f1 f2 f3 f4 f5 f6 f7 f8 f9 f10 ga f12 f13 f14 f15 f16 f17 f18 f19 f20 f21 fL hn fP hm ho) H := hP
              have hD : va_D A (mW ad kc x0 x1 x2 x3 x4 x5 x6 x7 x8 x9 x10 x11 x12 x13 x14 x15 x16 x17 le x19 x20 x21 f0 f1 f2 f3 f4 f5 f6 f7 f8 f9 f10 ga f12 f13 f14 f15 f16 f17 f18 f19 f20 f21 fL hn fP hm ho) := hD
              exact W.vret hx hb hr (fun t ht hW => ⟨⟨(), rfl, trivial, le, ga, hn, hm, ho, (by first | omega | assumption | rfl | decide), v115_3, (v115_4.mono (by omega) (by omega)), by rw [ht]; exact hP, va_K.moved hW.alike hK, hD⟩, hS.F ht⟩) hS.2.2 dX10_cutsDown_169
            · have tk_2 := c_nge (a := k2.toInt) (b := x18.toInt) rfl rfl k_2
              refine lv_aload_n hx hb dX10_cutsDown_123 rfl (lv_at hl 2 rfl) ?_
              refine va_get (D := (dC, dI)) (ci := 10) (v := .ref (ad 12)) (C := RX10) (T := TX10) (N := 48) hx hb hts fin_X10_cutsDownm_X10 hown hK hP 0 rfl rfl 33 (by decide) (hts (.fieldLink RX10 67 "PatternGateModel" "kept" "[Z") (List.mem_of_getElem? (i := 2) (by decide +kernel))) (fun _ h9 => h9) rfl dX10_cutsDown_124 ?_
              refine lv_iload_n hx hb dX10_cutsDown_127 rfl (lv_at hl 0 rfl) ?_
              refine va_zald hx hb hK hP 12 11 rfl rfl (i := k2) (vp_of (a := k2.toInt) rfl (by omega) (by omega)) dX10_cutsDown_128 ?_
              refine lv_topi (fun y_3 ey_3 => ?_)
              have rg_y_3 := i_rng y_3
              refine lv_if_ne (tgt := 135) hx hb dX10_cutsDown_129 (by decide) (fun k_4 => ?_) (fun k_4 => ?_)
              · have tk_4 := c_ne (a := y_3.toInt) (b := 0) rfl (by decide) k_4
                refine lv_iload_n hx hb dX10_cutsDown_135 rfl (lv_at hl 1 rfl) ?_
                refine lv_iload_n hx hb dX10_cutsDown_136 rfl (lv_at hl 0 rfl) ?_
                refine lv_icmp_eq (tgt := 155) hx hb dX10_cutsDown_137 (by decide) (fun k_5 => ?_) (fun k_5 => ?_)
                · have tk_5 := c_eq (a := le.toInt) (b := k2.toInt) rfl rfl k_5
                  obtain ⟨y_6, ey_6⟩ : ∃ y : Int32, y = le + 1 := ⟨_, rfl⟩
                  first | have ty_6 := i_add (a := le.toInt) (b := 1) rfl (by decide) ey_6 (by omega) (by omega) | skip
                  refine lv_iinc (v := y_6) (lv' := [(1, .int y_6), (2, .int k2), (0, .ref (ad 0))]) hx hb dX10_cutsDown_155 hl (k := 1) rfl (by rw [ey_6]; rfl) (by decide) rfl (fun ls hl => ?_)
                  obtain ⟨y_7, ey_7⟩ : ∃ y : Int32, y = k2 + 1 := ⟨_, rfl⟩
                  first | have ty_7 := i_add (a := k2.toInt) (b := 1) rfl (by decide) ey_7 (by omega) (by omega) | skip
                  refine lv_iinc (v := y_7) (lv' := [(2, .int y_7), (1, .int y_6), (0, .ref (ad 0))]) hx hb dX10_cutsDown_158 hl (k := 1) rfl (by rw [ey_7]; rfl) (by decide) rfl (fun ls hl => ?_)
                  refine lv_goto (tgt := 115) hx hb dX10_cutsDown_161 (by decide) ?_
                  exact ih115 y_6 y_7 hn hm ho (by first | omega | assumption | decide) (by first | omega | assumption | decide) (by first | omega | assumption | decide) v115_3 v115_4 (by omega) _ _ ls hP hD hS (lv_sub hl [0, 1, 2] rfl)
                · have tk_5 := c_ne (a := le.toInt) (b := k2.toInt) rfl rfl k_5
                  refine lv_aload_n hx hb dX10_cutsDown_140 rfl (lv_at hl 2 rfl) ?_
                  refine va_get (D := (dC, dI)) (ci := 10) (v := .ref (ad 25)) (C := RX10) (T := TX10) (N := 48) hx hb hts fin_X10_cutsDownm_X10 hown hK hP 0 rfl rfl 29 (by decide) (hts (.fieldLink RX10 61 "PatternGateModel" "many" "[[I") (List.mem_of_getElem? (i := 3) (by decide +kernel))) (fun _ h9 => h9) rfl dX10_cutsDown_141 ?_
                  refine lv_iload_n hx hb dX10_cutsDown_144 rfl (lv_at hl 0 rfl) ?_
                  refine m_aak hx hb hK hP 25 24 (k := k2.toInt.toNat) (b := ad (1100 + k2.toInt.toNat)) rfl rfl rfl (i := k2) (by omega) (by omega) rfl dX10_cutsDown_145 ?_
                  refine lv_aload_n hx hb dX10_cutsDown_146 rfl (lv_at hl 2 rfl) ?_
                  refine va_get (D := (dC, dI)) (ci := 10) (v := .ref (ad 25)) (C := RX10) (T := TX10) (N := 48) hx hb hts fin_X10_cutsDownm_X10 hown hK hP 0 rfl rfl 29 (by decide) (hts (.fieldLink RX10 61 "PatternGateModel" "many" "[[I") (List.mem_of_getElem? (i := 3) (by decide +kernel))) (fun _ h9 => h9) rfl dX10_cutsDown_147 ?_
                  refine lv_iload_n hx hb dX10_cutsDown_150 rfl (lv_at hl 1 rfl) ?_
                  refine m_aak hx hb hK hP 25 24 (k := le.toInt.toNat) (b := ad (1100 + le.toInt.toNat)) rfl rfl rfl (i := le) (by omega) (by omega) rfl dX10_cutsDown_151 ?_
                  have hz0 := v115_4 k2.toInt.toNat (by omega)
                  have hFc := m_free hD hS hA
                  refine va_callv (va_runS (As := [.ref (ad (1100 + k2.toInt.toNat)), .ref (ad (1100 + le.toInt.toNat))]) (rest := []) ⟨hx, hb, hml, hown, hts⟩ (m_lays l dC dI ad kc x0 x1 x2 x3 x4 x5 x6 x7 x8 x9 x10 x11 x12 x13 x14 x15 x16 x17 x18 x19 x20 x21 f0 f1 f2 f3 f4 f5 f6 f7 f8 f9 f10 ga f12 f13 f14 f15 f16 f17 f18 f19 f20 f21 fL hn fP hm ho H.size (1100 + k2.toInt.toNat) (1100 + le.toInt.toNat) (by first | assumption | (unfold IR; omega)) (by first | assumption | (unfold IR; omega)) (by first | omega | assumption | decide | (have l0 := Int32.toInt_zero; omega)) (by first | omega | assumption | decide | (have l0 := Int32.toInt_zero; omega))) (va_cwS 2 hts mg_X10_cutsDownm_X10_lays_296 rfl rfl rfl (by decide +kernel) ⟨Nat.le_of_ble_eq_true rfl, Nat.le_of_ble_eq_true rfl⟩) ⟨fun a U g mk q => by obtain ⟨q0, q1, qP, qK, qD⟩ := q; exact ⟨q0, q1, qP, va_K.moved (u := U) (U := U.calling g mk a) (Vm.Alike.refl U.vm) qK, qD⟩, fun U hU hW => ⟨rfl, by rw [hU], by rw [hU]; exact hP, va_K.moved hW.alike hK, hD.weaken (fun _ _ _ _ => trivial)⟩⟩ rfl rfl hl.1 rfl (lv_room (Nat.le_of_ble_eq_true rfl)) dX10_cutsDown_152 ⟨Nat.le_of_ble_eq_true rfl, Nat.le_of_ble_eq_true rfl⟩) hS (fun q _ h => hFc q h) hFc (fun u t H1 locs ht hvm hw hB hz1 hk1 hS => ?_)
                  obtain ⟨Nn_9, M_10, O_11, hr_8_0, hr_8_1, hP, hK1, hD1⟩ := hB
                  rw [ht] at hP
                  have hD := hD1.weaken (fun k q _ h => hFc q.1 h)
                  generalize H1 = H at hP hS ⊢
                  have hP : va_P (dC, dI) vwCl (mW ad kc x0 x1 x2 x3 x4 x5 x6 x7 x8 x9 x10 x11 x12 x13 x14 x15 x16 x17 x18 x19 x20 x21 f0 f1 f2 f3 f4 f5 f6 f7 f8 f9 f10 ga f12 f13 f14 f15 f16 f17 f18 f19 f20 f21 fL Nn_9 fP M_10 O_11) H := hP
                  have hD : va_D A (mW ad kc x0 x1 x2 x3 x4 x5 x6 x7 x8 x9 x10 x11 x12 x13 x14 x15 x16 x17 x18 x19 x20 x21 f0 f1 f2 f3 f4 f5 f6 f7 f8 f9 f10 ga f12 f13 f14 f15 f16 f17 f18 f19 f20 f21 fL Nn_9 fP M_10 O_11) := hD
                  obtain ⟨y_12, ey_12⟩ : ∃ y : Int32, y = le + 1 := ⟨_, rfl⟩
                  first | have ty_12 := i_add (a := le.toInt) (b := 1) rfl (by decide) ey_12 (by omega) (by omega) | skip
                  refine lv_iinc (v := y_12) (lv' := [(1, .int y_12), (2, .int k2), (0, .ref (ad 0))]) hx hb dX10_cutsDown_155 hl (k := 1) rfl (by rw [ey_12]; rfl) (by decide) rfl (fun ls hl => ?_)
                  obtain ⟨y_13, ey_13⟩ : ∃ y : Int32, y = k2 + 1 := ⟨_, rfl⟩
                  first | have ty_13 := i_add (a := k2.toInt) (b := 1) rfl (by decide) ey_13 (by omega) (by omega) | skip
                  refine lv_iinc (v := y_13) (lv' := [(2, .int y_13), (1, .int y_12), (0, .ref (ad 0))]) hx hb dX10_cutsDown_158 hl (k := 1) rfl (by rw [ey_13]; rfl) (by decide) rfl (fun ls hl => ?_)
                  refine lv_goto (tgt := 115) hx hb dX10_cutsDown_161 (by decide) ?_
                  exact ih115 y_12 y_13 Nn_9 M_10 O_11 (by first | omega | assumption | decide) (by first | omega | assumption | decide) (by first | omega | assumption | decide) (v115_3.row hr_8_0 (by omega)) (v115_4.lay hr_8_0 hr_8_1 (by omega) (by omega)) (by omega) _ _ ls hP hD hS (lv_sub hl [0, 1, 2] rfl)
              · have tk_4 := c_eq (a := y_3.toInt) (b := 0) rfl (by decide) k_4
                refine lv_goto (tgt := 158) hx hb dX10_cutsDown_132 (by decide) ?_
                obtain ⟨y_14, ey_14⟩ : ∃ y : Int32, y = k2 + 1 := ⟨_, rfl⟩
                first | have ty_14 := i_add (a := k2.toInt) (b := 1) rfl (by decide) ey_14 (by omega) (by omega) | skip
                refine lv_iinc (v := y_14) (lv' := [(2, .int y_14), (1, .int le), (0, .ref (ad 0))]) hx hb dX10_cutsDown_158 hl (k := 0) rfl (by rw [ey_14]; rfl) (by decide) rfl (fun ls hl => ?_)
                refine lv_goto (tgt := 115) hx hb dX10_cutsDown_161 (by decide) ?_
                exact ih115 le y_14 hn hm ho (by first | omega | assumption | decide) (by first | omega | assumption | decide) (by first | omega | assumption | decide) v115_3 v115_4 (by omega) _ _ ls hP hD hS (lv_sub hl [0, 1, 2] rfl)
        have lit_14 : (0 : Int32).toInt = 0 := by decide
        have lit_15 : (0 : Int32).toInt = 0 := by decide
        exact loop115 _ 0 0 fN fM fO (by first | omega | assumption | decide) (by first | omega | assumption | decide) (by first | omega | assumption | decide) mFr.rf q2 (Nat.lt_succ_self _) _ _ ls hP hD hS (lv_sub hl [0, 1, 2] rfl)
      · have tk_1 := c_nge (a := kk.toInt) (b := x18.toInt) rfl rfl k_1
        refine lv_iconst (v := 0) hx hb dX10_cutsDown_12 (by decide) ?_
        refine lv_istore_n (lv' := [(3, .int 0), (2, .int kk), (1, .int 0), (0, .ref (ad 0))]) hx hb dX10_cutsDown_13 rfl hl (by decide) rfl (fun ls hl => ?_)
        refine lv_iconst (v := 0) hx hb dX10_cutsDown_14 (by decide) ?_
        refine lv_istore (lv' := [(4, .int 0), (3, .int 0), (2, .int kk), (1, .int 0), (0, .ref (ad 0))]) hx hb dX10_cutsDown_15 hl (by decide) rfl (fun ls hl => ?_)
        have loop17 : ∀ (lm17 : Nat) (gg ii : Int32), (gg.toInt = 0 ∨ gg.toInt = 1) → (0 ≤ ii.toInt) → (ii.toInt ≤ x18.toInt) → ((x18.toInt - ii.toInt).toNat) < lm17 → ∀ (H : Heap) (locs : List Loc) (ls : Array Slot), va_P (dC, dI) vwCl (mW ad kc x0 x1 x2 x3 x4 x5 x6 x7 x8 x9 x10 x11 x12 x13 x14 x15 x16 x17 x18 x19 x20 x21 f0 f1 f2 f3 f4 f5 f6 f7 f8 f9 f10 ga f12 f13 f14 f15 f16 f17 f18 f19 f20 f21 fL fN fP fM fO) H → va_D A (mW ad kc x0 x1 x2 x3 x4 x5 x6 x7 x8 x9 x10 x11 x12 x13 x14 x15 x16 x17 x18 x19 x20 x21 f0 f1 f2 f3 f4 f5 f6 f7 f8 f9 f10 ga f12 f13 f14 f15 f16 f17 f18 f19 f20 f21 fL fN fP fM fO) → va_S A s.heap H locs → lv_has ls 5 [(4, .int ii), (3, .int gg), (2, .int kk), (1, .int 0), (0, .ref (ad 0))] → W p l e (headSpec mwX10_cutsDownm ({ frames := 1, cells := 0, slots := 0, locals := 60 })).room s m ([.ref (ad 0)]).toArray below meth c H locs 0 0 (MQ below (va_Qv (fun (_ : Unit) => True) (fun _ t => ∃ (y18 : Int32) (g11 : Nat → Int32) (Nn9 : Nat → Nat → Int32) (M9 : Nat → Nat → Int32) (O9 : Nat → Nat → Int32), (0 ≤ y18.toInt ∧ y18.toInt ≤ x18.toInt) ∧ (mFr (rO fN fM fO) (rO Nn9 M9 O9)) ∧ (mOK (rO Nn9 M9 O9) y18.toInt bb) ∧ va_P (dC, dI) vwCl (mW ad kc x0 x1 x2 x3 x4 x5 x6 x7 x8 x9 x10 x11 x12 x13 x14 x15 x16 x17 y18 x19 x20 x21 f0 f1 f2 f3 f4 f5 f6 f7 f8 f9 f10 g11 f12 f13 f14 f15 f16 f17 f18 f19 f20 f21 fL Nn9 fP M9 O9) t.heap ∧ va_K (dC, dI) vwCl (mT kc) t ∧ va_D A (mW ad kc x0 x1 x2 x3 x4 x5 x6 x7 x8 x9 x10 x11 x12 x13 x14 x15 x16 x17 y18 x19 x20 x21 f0 f1 f2 f3 f4 f5 f6 f7 f8 f9 f10 g11 f12 f13 f14 f15 f16 f17 f18 f19 f20 f21 fL Nn9 fP M9 O9)) A) ([.ref (ad 0)]).toArray s 0 0 A) (F0 m 17 ls []) := by
          intro lm17
          induction lm17 with
          | zero => intro gg ii v17_0 v17_1 v17_2 hm17; exact absurd hm17 (Nat.not_lt_zero _)
          | succ lm17 ih17 =>
            intro gg ii v17_0 v17_1 v17_2 hm17 H locs ls hP hD hS hl
            have rg_gg := i_rng gg
            have rg_ii := i_rng ii
            refine lv_iload hx hb dX10_cutsDown_17 (lv_at hl 0 rfl) ?_
            refine lv_aload_n hx hb dX10_cutsDown_19 rfl (lv_at hl 4 rfl) ?_
            refine va_get (D := (dC, dI)) (ci := 10) (v := .int x18) (C := RX10) (T := TX10) (N := 48) hx hb hts fin_X10_cutsDownm_X10 hown hK hP 0 rfl rfl 32 (by decide) (hts (.fieldLink RX10 289 "PatternGateModel" "manyTop" "I") (List.mem_of_getElem? (i := 1) (by decide +kernel))) (fun _ h9 => h9) rfl dX10_cutsDown_20 ?_
            refine lv_icmp_ge (tgt := 92) hx hb dX10_cutsDown_23 (by decide) (fun k_17 => ?_) (fun k_17 => ?_)
            · have tk_17 := c_ge (a := ii.toInt) (b := x18.toInt) rfl rfl k_17
              refine lv_aload_n hx hb dX10_cutsDown_92 rfl (lv_at hl 4 rfl) ?_
              refine va_get (D := (dC, dI)) (ci := 10) (v := .ref (ad 12)) (C := RX10) (T := TX10) (N := 48) hx hb hts fin_X10_cutsDownm_X10 hown hK hP 0 rfl rfl 33 (by decide) (hts (.fieldLink RX10 67 "PatternGateModel" "kept" "[Z") (List.mem_of_getElem? (i := 2) (by decide +kernel))) (fun _ h9 => h9) rfl dX10_cutsDown_93 ?_
              refine lv_iload_n hx hb dX10_cutsDown_96 rfl (lv_at hl 2 rfl) ?_
              refine lv_iload_n hx hb dX10_cutsDown_97 rfl (lv_at hl 1 rfl) ?_
              refine lv_if_ne (tgt := 105) hx hb dX10_cutsDown_98 (by decide) (fun k_18 => ?_) (fun k_18 => ?_)
              · have tk_18 := c_ne (a := gg.toInt) (b := 0) rfl (by decide) k_18
                refine lv_iconst (v := 0) hx hb dX10_cutsDown_105 (by decide) ?_
                refine va_zast hx hb hK hP hD hS 12 11 rfl rfl (i := kk) (vp_of (a := kk.toInt) rfl (by omega) (by omega)) dX10_cutsDown_106 (fun H locs hP hD hS => ?_)
                generalize hf_f_19 : upd ga _ _ = f_19 at hP hD
                have hP : va_P (dC, dI) vwCl (mW ad kc x0 x1 x2 x3 x4 x5 x6 x7 x8 x9 x10 x11 x12 x13 x14 x15 x16 x17 x18 x19 x20 x21 f0 f1 f2 f3 f4 f5 f6 f7 f8 f9 f10 f_19 f12 f13 f14 f15 f16 f17 f18 f19 f20 f21 fL fN fP fM fO) H := hP
                have hD : va_D A (mW ad kc x0 x1 x2 x3 x4 x5 x6 x7 x8 x9 x10 x11 x12 x13 x14 x15 x16 x17 x18 x19 x20 x21 f0 f1 f2 f3 f4 f5 f6 f7 f8 f9 f10 f_19 f12 f13 f14 f15 f16 f17 f18 f19 f20 f21 fL fN fP fM fO) := hD
                obtain ⟨y_20, ey_20⟩ : ∃ y : Int32, y = kk + 1 := ⟨_, rfl⟩
                first | have ty_20 := i_add (a := kk.toInt) (b := 1) rfl (by decide) ey_20 (by omega) (by omega) | skip
                refine lv_iinc (v := y_20) (lv' := [(2, .int y_20), (4, .int ii), (3, .int gg), (1, .int 0), (0, .ref (ad 0))]) hx hb dX10_cutsDown_107 hl (k := 2) rfl (by rw [ey_20]; rfl) (by decide) rfl (fun ls hl => ?_)
                refine lv_goto (tgt := 4) hx hb dX10_cutsDown_110 (by decide) ?_
                exact ih4 y_20 f_19 (by first | omega | assumption | decide) (by first | omega | assumption | decide) (by omega) _ _ ls hP hD hS (lv_sub hl [0, 3, 4] rfl)
              · have tk_18 := c_eq (a := gg.toInt) (b := 0) rfl (by decide) k_18
                refine lv_iconst (v := 1) hx hb dX10_cutsDown_101 (by decide) ?_
                refine lv_goto (tgt := 106) hx hb dX10_cutsDown_102 (by decide) ?_
                refine va_zast hx hb hK hP hD hS 12 11 rfl rfl (i := kk) (vp_of (a := kk.toInt) rfl (by omega) (by omega)) dX10_cutsDown_106 (fun H locs hP hD hS => ?_)
                generalize hf_f_21 : upd ga _ _ = f_21 at hP hD
                have hP : va_P (dC, dI) vwCl (mW ad kc x0 x1 x2 x3 x4 x5 x6 x7 x8 x9 x10 x11 x12 x13 x14 x15 x16 x17 x18 x19 x20 x21 f0 f1 f2 f3 f4 f5 f6 f7 f8 f9 f10 f_21 f12 f13 f14 f15 f16 f17 f18 f19 f20 f21 fL fN fP fM fO) H := hP
                have hD : va_D A (mW ad kc x0 x1 x2 x3 x4 x5 x6 x7 x8 x9 x10 x11 x12 x13 x14 x15 x16 x17 x18 x19 x20 x21 f0 f1 f2 f3 f4 f5 f6 f7 f8 f9 f10 f_21 f12 f13 f14 f15 f16 f17 f18 f19 f20 f21 fL fN fP fM fO) := hD
                obtain ⟨y_22, ey_22⟩ : ∃ y : Int32, y = kk + 1 := ⟨_, rfl⟩
                first | have ty_22 := i_add (a := kk.toInt) (b := 1) rfl (by decide) ey_22 (by omega) (by omega) | skip
                refine lv_iinc (v := y_22) (lv' := [(2, .int y_22), (4, .int ii), (3, .int gg), (1, .int 0), (0, .ref (ad 0))]) hx hb dX10_cutsDown_107 hl (k := 2) rfl (by rw [ey_22]; rfl) (by decide) rfl (fun ls hl => ?_)
                refine lv_goto (tgt := 4) hx hb dX10_cutsDown_110 (by decide) ?_
                exact ih4 y_22 f_21 (by first | omega | assumption | decide) (by first | omega | assumption | decide) (by omega) _ _ ls hP hD hS (lv_sub hl [0, 3, 4] rfl)
            · have tk_17 := c_nge (a := ii.toInt) (b := x18.toInt) rfl rfl k_17
              refine lv_iload_n hx hb dX10_cutsDown_26 rfl (lv_at hl 1 rfl) ?_
              refine lv_if_ne (tgt := 92) hx hb dX10_cutsDown_27 (by decide) (fun k_23 => ?_) (fun k_23 => ?_)
              · have tk_23 := c_ne (a := gg.toInt) (b := 0) rfl (by decide) k_23
                refine lv_aload_n hx hb dX10_cutsDown_92 rfl (lv_at hl 4 rfl) ?_
                refine va_get (D := (dC, dI)) (ci := 10) (v := .ref (ad 12)) (C := RX10) (T := TX10) (N := 48) hx hb hts fin_X10_cutsDownm_X10 hown hK hP 0 rfl rfl 33 (by decide) (hts (.fieldLink RX10 67 "PatternGateModel" "kept" "[Z") (List.mem_of_getElem? (i := 2) (by decide +kernel))) (fun _ h9 => h9) rfl dX10_cutsDown_93 ?_
                refine lv_iload_n hx hb dX10_cutsDown_96 rfl (lv_at hl 2 rfl) ?_
                refine lv_iload_n hx hb dX10_cutsDown_97 rfl (lv_at hl 1 rfl) ?_
                refine lv_if_ne (tgt := 105) hx hb dX10_cutsDown_98 (by decide) (fun k_24 => ?_) (fun k_24 => ?_)
                · have tk_24 := c_ne (a := gg.toInt) (b := 0) rfl (by decide) k_24
                  refine lv_iconst (v := 0) hx hb dX10_cutsDown_105 (by decide) ?_
                  refine va_zast hx hb hK hP hD hS 12 11 rfl rfl (i := kk) (vp_of (a := kk.toInt) rfl (by omega) (by omega)) dX10_cutsDown_106 (fun H locs hP hD hS => ?_)
                  generalize hf_f_25 : upd ga _ _ = f_25 at hP hD
                  have hP : va_P (dC, dI) vwCl (mW ad kc x0 x1 x2 x3 x4 x5 x6 x7 x8 x9 x10 x11 x12 x13 x14 x15 x16 x17 x18 x19 x20 x21 f0 f1 f2 f3 f4 f5 f6 f7 f8 f9 f10 f_25 f12 f13 f14 f15 f16 f17 f18 f19 f20 f21 fL fN fP fM fO) H := hP
                  have hD : va_D A (mW ad kc x0 x1 x2 x3 x4 x5 x6 x7 x8 x9 x10 x11 x12 x13 x14 x15 x16 x17 x18 x19 x20 x21 f0 f1 f2 f3 f4 f5 f6 f7 f8 f9 f10 f_25 f12 f13 f14 f15 f16 f17 f18 f19 f20 f21 fL fN fP fM fO) := hD
                  obtain ⟨y_26, ey_26⟩ : ∃ y : Int32, y = kk + 1 := ⟨_, rfl⟩
                  first | have ty_26 := i_add (a := kk.toInt) (b := 1) rfl (by decide) ey_26 (by omega) (by omega) | skip
                  refine lv_iinc (v := y_26) (lv' := [(2, .int y_26), (4, .int ii), (3, .int gg), (1, .int 0), (0, .ref (ad 0))]) hx hb dX10_cutsDown_107 hl (k := 2) rfl (by rw [ey_26]; rfl) (by decide) rfl (fun ls hl => ?_)
                  refine lv_goto (tgt := 4) hx hb dX10_cutsDown_110 (by decide) ?_
                  exact ih4 y_26 f_25 (by first | omega | assumption | decide) (by first | omega | assumption | decide) (by omega) _ _ ls hP hD hS (lv_sub hl [0, 3, 4] rfl)
                · have tk_24 := c_eq (a := gg.toInt) (b := 0) rfl (by decide) k_24
                  refine lv_iconst (v := 1) hx hb dX10_cutsDown_101 (by decide) ?_
                  refine lv_goto (tgt := 106) hx hb dX10_cutsDown_102 (by decide) ?_
                  refine va_zast hx hb hK hP hD hS 12 11 rfl rfl (i := kk) (vp_of (a := kk.toInt) rfl (by omega) (by omega)) dX10_cutsDown_106 (fun H locs hP hD hS => ?_)
                  generalize hf_f_27 : upd ga _ _ = f_27 at hP hD
                  have hP : va_P (dC, dI) vwCl (mW ad kc x0 x1 x2 x3 x4 x5 x6 x7 x8 x9 x10 x11 x12 x13 x14 x15 x16 x17 x18 x19 x20 x21 f0 f1 f2 f3 f4 f5 f6 f7 f8 f9 f10 f_27 f12 f13 f14 f15 f16 f17 f18 f19 f20 f21 fL fN fP fM fO) H := hP
                  have hD : va_D A (mW ad kc x0 x1 x2 x3 x4 x5 x6 x7 x8 x9 x10 x11 x12 x13 x14 x15 x16 x17 x18 x19 x20 x21 f0 f1 f2 f3 f4 f5 f6 f7 f8 f9 f10 f_27 f12 f13 f14 f15 f16 f17 f18 f19 f20 f21 fL fN fP fM fO) := hD
                  obtain ⟨y_28, ey_28⟩ : ∃ y : Int32, y = kk + 1 := ⟨_, rfl⟩
                  first | have ty_28 := i_add (a := kk.toInt) (b := 1) rfl (by decide) ey_28 (by omega) (by omega) | skip
                  refine lv_iinc (v := y_28) (lv' := [(2, .int y_28), (4, .int ii), (3, .int gg), (1, .int 0), (0, .ref (ad 0))]) hx hb dX10_cutsDown_107 hl (k := 2) rfl (by rw [ey_28]; rfl) (by decide) rfl (fun ls hl => ?_)
                  refine lv_goto (tgt := 4) hx hb dX10_cutsDown_110 (by decide) ?_
                  exact ih4 y_28 f_27 (by first | omega | assumption | decide) (by first | omega | assumption | decide) (by omega) _ _ ls hP hD hS (lv_sub hl [0, 3, 4] rfl)
              · have tk_23 := c_eq (a := gg.toInt) (b := 0) rfl (by decide) k_23
                refine lv_iload hx hb dX10_cutsDown_30 (lv_at hl 0 rfl) ?_
                refine lv_iload_n hx hb dX10_cutsDown_32 rfl (lv_at hl 2 rfl) ?_
                refine lv_icmp_eq (tgt := 84) hx hb dX10_cutsDown_33 (by decide) (fun k_29 => ?_) (fun k_29 => ?_)
                · have tk_29 := c_eq (a := ii.toInt) (b := kk.toInt) rfl rfl k_29
                  refine lv_iconst (v := 0) hx hb dX10_cutsDown_84 (by decide) ?_
                  refine lv_istore_n (lv' := [(3, .int 0), (4, .int ii), (2, .int kk), (1, .int 0), (0, .ref (ad 0))]) hx hb dX10_cutsDown_85 rfl hl (by decide) rfl (fun ls hl => ?_)
                  obtain ⟨y_30, ey_30⟩ : ∃ y : Int32, y = ii + 1 := ⟨_, rfl⟩
                  first | have ty_30 := i_add (a := ii.toInt) (b := 1) rfl (by decide) ey_30 (by omega) (by omega) | skip
                  refine lv_iinc (v := y_30) (lv' := [(4, .int y_30), (3, .int 0), (2, .int kk), (1, .int 0), (0, .ref (ad 0))]) hx hb dX10_cutsDown_86 hl (k := 1) rfl (by rw [ey_30]; rfl) (by decide) rfl (fun ls hl => ?_)
                  refine lv_goto (tgt := 17) hx hb dX10_cutsDown_89 (by decide) ?_
                  have lit_30 : (0 : Int32).toInt = 0 := by decide
                  exact ih17 0 y_30 (by first | omega | assumption | decide) (by first | omega | assumption | decide) (by first | omega | assumption | decide) (by omega) _ _ ls hP hD hS (lv_sub hl [0, 1, 2, 3, 4] rfl)
                · have tk_29 := c_ne (a := ii.toInt) (b := kk.toInt) rfl rfl k_29
                  refine lv_aload_n hx hb dX10_cutsDown_36 rfl (lv_at hl 4 rfl) ?_
                  refine va_get (D := (dC, dI)) (ci := 10) (v := .ref (ad 25)) (C := RX10) (T := TX10) (N := 48) hx hb hts fin_X10_cutsDownm_X10 hown hK hP 0 rfl rfl 29 (by decide) (hts (.fieldLink RX10 61 "PatternGateModel" "many" "[[I") (List.mem_of_getElem? (i := 3) (by decide +kernel))) (fun _ h9 => h9) rfl dX10_cutsDown_37 ?_
                  refine lv_iload_n hx hb dX10_cutsDown_40 rfl (lv_at hl 2 rfl) ?_
                  refine m_aak hx hb hK hP 25 24 (k := kk.toInt.toNat) (b := ad (1100 + kk.toInt.toNat)) rfl rfl rfl (i := kk) (by omega) (by omega) rfl dX10_cutsDown_41 ?_
                  refine lv_aload_n hx hb dX10_cutsDown_42 rfl (lv_at hl 4 rfl) ?_
                  refine va_get (D := (dC, dI)) (ci := 10) (v := .ref (ad 25)) (C := RX10) (T := TX10) (N := 48) hx hb hts fin_X10_cutsDownm_X10 hown hK hP 0 rfl rfl 29 (by decide) (hts (.fieldLink RX10 61 "PatternGateModel" "many" "[[I") (List.mem_of_getElem? (i := 3) (by decide +kernel))) (fun _ h9 => h9) rfl dX10_cutsDown_43 ?_
                  refine lv_iload hx hb dX10_cutsDown_46 (lv_at hl 0 rfl) ?_
                  refine m_aak hx hb hK hP 25 24 (k := ii.toInt.toNat) (b := ad (1100 + ii.toInt.toNat)) rfl rfl rfl (i := ii) (by omega) (by omega) rfl dX10_cutsDown_48 ?_
                  have hz0 := q2 kk.toInt.toNat (by omega)
                  have hz1 := q2 ii.toInt.toNat (by omega)
                  have hFc := m_free hD hS hA
                  refine va_calli (va_runS (As := [.ref (ad (1100 + kk.toInt.toNat)), .ref (ad (1100 + ii.toInt.toNat))]) (rest := []) ⟨hx, hb, hml, hown, hts⟩ (m_hasAll l dC dI ad kc x0 x1 x2 x3 x4 x5 x6 x7 x8 x9 x10 x11 x12 x13 x14 x15 x16 x17 x18 x19 x20 x21 f0 f1 f2 f3 f4 f5 f6 f7 f8 f9 f10 ga f12 f13 f14 f15 f16 f17 f18 f19 f20 f21 fL fN fP fM fO H.size (1100 + kk.toInt.toNat) (1100 + ii.toInt.toNat) (by first | assumption | (unfold IR; omega)) (by first | assumption | (unfold IR; omega)) (by first | omega | assumption | decide | (have l0 := Int32.toInt_zero; omega)) (by first | omega | assumption | decide | (have l0 := Int32.toInt_zero; omega))) (va_cwS 2 hts mg_X10_cutsDownm_X10_hasAll_292 rfl rfl rfl (by decide +kernel) ⟨Nat.le_of_ble_eq_true rfl, Nat.le_of_ble_eq_true rfl⟩) ⟨fun a U g mk q => by obtain ⟨q0, q1, qP, qK, qD⟩ := q; exact ⟨q0, q1, qP, va_K.moved (u := U) (U := U.calling g mk a) (Vm.Alike.refl U.vm) qK, qD⟩, fun U hU hW => ⟨rfl, by rw [hU], by rw [hU]; exact hP, va_K.moved hW.alike hK, hD.weaken (fun _ _ _ _ => trivial)⟩⟩ rfl rfl hl.1 rfl (lv_room (Nat.le_of_ble_eq_true rfl)) dX10_cutsDown_49 ⟨Nat.le_of_ble_eq_true rfl, Nat.le_of_ble_eq_true rfl⟩) hS (fun q _ h => hFc q h) hFc (fun r_32 u t H1 locs ht hvm hw hB hz1 hk1 hS => ?_)
                  subst hw
                  obtain ⟨hr_32_0, hP, hK1, hD1⟩ := hB
                  rw [ht] at hP
                  have hD := hD1.weaken (fun k q _ h => hFc q.1 h)
                  generalize H1 = H at hP hS ⊢
                  have rg_r_32 := i_rng r_32
                  have hP : va_P (dC, dI) vwCl (mW ad kc x0 x1 x2 x3 x4 x5 x6 x7 x8 x9 x10 x11 x12 x13 x14 x15 x16 x17 x18 x19 x20 x21 f0 f1 f2 f3 f4 f5 f6 f7 f8 f9 f10 ga f12 f13 f14 f15 f16 f17 f18 f19 f20 f21 fL fN fP fM fO) H := hP
                  have hD : va_D A (mW ad kc x0 x1 x2 x3 x4 x5 x6 x7 x8 x9 x10 x11 x12 x13 x14 x15 x16 x17 x18 x19 x20 x21 f0 f1 f2 f3 f4 f5 f6 f7 f8 f9 f10 ga f12 f13 f14 f15 f16 f17 f18 f19 f20 f21 fL fN fP fM fO) := hD
                  refine lv_if_eq (tgt := 84) hx hb dX10_cutsDown_52 (by decide) (fun k_33 => ?_) (fun k_33 => ?_)
                  · have tk_33 := c_eq (a := r_32.toInt) (b := 0) rfl (by decide) k_33
                    refine lv_iconst (v := 0) hx hb dX10_cutsDown_84 (by decide) ?_
                    refine lv_istore_n (lv' := [(3, .int 0), (4, .int ii), (2, .int kk), (1, .int 0), (0, .ref (ad 0))]) hx hb dX10_cutsDown_85 rfl hl (by decide) rfl (fun ls hl => ?_)
                    obtain ⟨y_34, ey_34⟩ : ∃ y : Int32, y = ii + 1 := ⟨_, rfl⟩
                    first | have ty_34 := i_add (a := ii.toInt) (b := 1) rfl (by decide) ey_34 (by omega) (by omega) | skip
                    refine lv_iinc (v := y_34) (lv' := [(4, .int y_34), (3, .int 0), (2, .int kk), (1, .int 0), (0, .ref (ad 0))]) hx hb dX10_cutsDown_86 hl (k := 1) rfl (by rw [ey_34]; rfl) (by decide) rfl (fun ls hl => ?_)
                    refine lv_goto (tgt := 17) hx hb dX10_cutsDown_89 (by decide) ?_
                    have lit_34 : (0 : Int32).toInt = 0 := by decide
                    exact ih17 0 y_34 (by first | omega | assumption | decide) (by first | omega | assumption | decide) (by first | omega | assumption | decide) (by omega) _ _ ls hP hD hS (lv_sub hl [0, 1, 2, 3, 4] rfl)
                  · have tk_33 := c_ne (a := r_32.toInt) (b := 0) rfl (by decide) k_33
                    refine lv_iload hx hb dX10_cutsDown_55 (lv_at hl 0 rfl) ?_
                    refine lv_iload_n hx hb dX10_cutsDown_57 rfl (lv_at hl 2 rfl) ?_
                    refine lv_icmp_lt (tgt := 80) hx hb dX10_cutsDown_58 (by decide) (fun k_36 => ?_) (fun k_36 => ?_)
                    · have tk_36 := c_lt (a := ii.toInt) (b := kk.toInt) rfl rfl k_36
                      refine lv_iconst (v := 1) hx hb dX10_cutsDown_80 (by decide) ?_
                      refine lv_goto (tgt := 85) hx hb dX10_cutsDown_81 (by decide) ?_
                      refine lv_istore_n (lv' := [(3, .int 1), (4, .int ii), (2, .int kk), (1, .int 0), (0, .ref (ad 0))]) hx hb dX10_cutsDown_85 rfl hl (by decide) rfl (fun ls hl => ?_)
                      obtain ⟨y_37, ey_37⟩ : ∃ y : Int32, y = ii + 1 := ⟨_, rfl⟩
                      first | have ty_37 := i_add (a := ii.toInt) (b := 1) rfl (by decide) ey_37 (by omega) (by omega) | skip
                      refine lv_iinc (v := y_37) (lv' := [(4, .int y_37), (3, .int 1), (2, .int kk), (1, .int 0), (0, .ref (ad 0))]) hx hb dX10_cutsDown_86 hl (k := 1) rfl (by rw [ey_37]; rfl) (by decide) rfl (fun ls hl => ?_)
                      refine lv_goto (tgt := 17) hx hb dX10_cutsDown_89 (by decide) ?_
                      have lit_37 : (1 : Int32).toInt = 1 := by decide
                      exact ih17 1 y_37 (by first | omega | assumption | decide) (by first | omega | assumption | decide) (by first | omega | assumption | decide) (by omega) _ _ ls hP hD hS (lv_sub hl [0, 1, 2, 3, 4] rfl)
                    · have tk_36 := c_nlt (a := ii.toInt) (b := kk.toInt) rfl rfl k_36
                      refine lv_aload_n hx hb dX10_cutsDown_61 rfl (lv_at hl 4 rfl) ?_
                      refine va_get (D := (dC, dI)) (ci := 10) (v := .ref (ad 25)) (C := RX10) (T := TX10) (N := 48) hx hb hts fin_X10_cutsDownm_X10 hown hK hP 0 rfl rfl 29 (by decide) (hts (.fieldLink RX10 61 "PatternGateModel" "many" "[[I") (List.mem_of_getElem? (i := 3) (by decide +kernel))) (fun _ h9 => h9) rfl dX10_cutsDown_62 ?_
                      refine lv_iload hx hb dX10_cutsDown_65 (lv_at hl 0 rfl) ?_
                      refine m_aak hx hb hK hP 25 24 (k := ii.toInt.toNat) (b := ad (1100 + ii.toInt.toNat)) rfl rfl rfl (i := ii) (by omega) (by omega) rfl dX10_cutsDown_67 ?_
                      refine lv_aload_n hx hb dX10_cutsDown_68 rfl (lv_at hl 4 rfl) ?_
                      refine va_get (D := (dC, dI)) (ci := 10) (v := .ref (ad 25)) (C := RX10) (T := TX10) (N := 48) hx hb hts fin_X10_cutsDownm_X10 hown hK hP 0 rfl rfl 29 (by decide) (hts (.fieldLink RX10 61 "PatternGateModel" "many" "[[I") (List.mem_of_getElem? (i := 3) (by decide +kernel))) (fun _ h9 => h9) rfl dX10_cutsDown_69 ?_
                      refine lv_iload_n hx hb dX10_cutsDown_72 rfl (lv_at hl 2 rfl) ?_
                      refine m_aak hx hb hK hP 25 24 (k := kk.toInt.toNat) (b := ad (1100 + kk.toInt.toNat)) rfl rfl rfl (i := kk) (by omega) (by omega) rfl dX10_cutsDown_73 ?_
                      have hz0 := q2 ii.toInt.toNat (by omega)
                      have hz1 := q2 kk.toInt.toNat (by omega)
                      have hFc := m_free hD hS hA
                      refine va_calli (va_runS (As := [.ref (ad (1100 + ii.toInt.toNat)), .ref (ad (1100 + kk.toInt.toNat))]) (rest := []) ⟨hx, hb, hml, hown, hts⟩ (m_hasAll l dC dI ad kc x0 x1 x2 x3 x4 x5 x6 x7 x8 x9 x10 x11 x12 x13 x14 x15 x16 x17 x18 x19 x20 x21 f0 f1 f2 f3 f4 f5 f6 f7 f8 f9 f10 ga f12 f13 f14 f15 f16 f17 f18 f19 f20 f21 fL fN fP fM fO H.size (1100 + ii.toInt.toNat) (1100 + kk.toInt.toNat) (by first | assumption | (unfold IR; omega)) (by first | assumption | (unfold IR; omega)) (by first | omega | assumption | decide | (have l0 := Int32.toInt_zero; omega)) (by first | omega | assumption | decide | (have l0 := Int32.toInt_zero; omega))) (va_cwS 2 hts mg_X10_cutsDownm_X10_hasAll_292 rfl rfl rfl (by decide +kernel) ⟨Nat.le_of_ble_eq_true rfl, Nat.le_of_ble_eq_true rfl⟩) ⟨fun a U g mk q => by obtain ⟨q0, q1, qP, qK, qD⟩ := q; exact ⟨q0, q1, qP, va_K.moved (u := U) (U := U.calling g mk a) (Vm.Alike.refl U.vm) qK, qD⟩, fun U hU hW => ⟨rfl, by rw [hU], by rw [hU]; exact hP, va_K.moved hW.alike hK, hD.weaken (fun _ _ _ _ => trivial)⟩⟩ rfl rfl hl.1 rfl (lv_room (Nat.le_of_ble_eq_true rfl)) dX10_cutsDown_74 ⟨Nat.le_of_ble_eq_true rfl, Nat.le_of_ble_eq_true rfl⟩) hS (fun q _ h => hFc q h) hFc (fun r_39 u t H1 locs ht hvm hw hB hz1 hk1 hS => ?_)
                      subst hw
                      obtain ⟨hr_39_0, hP, hK1, hD1⟩ := hB
                      rw [ht] at hP
                      have hD := hD1.weaken (fun k q _ h => hFc q.1 h)
                      generalize H1 = H at hP hS ⊢
                      have rg_r_39 := i_rng r_39
                      have hP : va_P (dC, dI) vwCl (mW ad kc x0 x1 x2 x3 x4 x5 x6 x7 x8 x9 x10 x11 x12 x13 x14 x15 x16 x17 x18 x19 x20 x21 f0 f1 f2 f3 f4 f5 f6 f7 f8 f9 f10 ga f12 f13 f14 f15 f16 f17 f18 f19 f20 f21 fL fN fP fM fO) H := hP
                      have hD : va_D A (mW ad kc x0 x1 x2 x3 x4 x5 x6 x7 x8 x9 x10 x11 x12 x13 x14 x15 x16 x17 x18 x19 x20 x21 f0 f1 f2 f3 f4 f5 f6 f7 f8 f9 f10 ga f12 f13 f14 f15 f16 f17 f18 f19 f20 f21 fL fN fP fM fO) := hD
                      refine lv_if_ne (tgt := 84) hx hb dX10_cutsDown_77 (by decide) (fun k_40 => ?_) (fun k_40 => ?_)
                      · have tk_40 := c_ne (a := r_39.toInt) (b := 0) rfl (by decide) k_40
                        refine lv_iconst (v := 0) hx hb dX10_cutsDown_84 (by decide) ?_
                        refine lv_istore_n (lv' := [(3, .int 0), (4, .int ii), (2, .int kk), (1, .int 0), (0, .ref (ad 0))]) hx hb dX10_cutsDown_85 rfl hl (by decide) rfl (fun ls hl => ?_)
                        obtain ⟨y_41, ey_41⟩ : ∃ y : Int32, y = ii + 1 := ⟨_, rfl⟩
                        first | have ty_41 := i_add (a := ii.toInt) (b := 1) rfl (by decide) ey_41 (by omega) (by omega) | skip
                        refine lv_iinc (v := y_41) (lv' := [(4, .int y_41), (3, .int 0), (2, .int kk), (1, .int 0), (0, .ref (ad 0))]) hx hb dX10_cutsDown_86 hl (k := 1) rfl (by rw [ey_41]; rfl) (by decide) rfl (fun ls hl => ?_)
                        refine lv_goto (tgt := 17) hx hb dX10_cutsDown_89 (by decide) ?_
                        have lit_41 : (0 : Int32).toInt = 0 := by decide
                        exact ih17 0 y_41 (by first | omega | assumption | decide) (by first | omega | assumption | decide) (by first | omega | assumption | decide) (by omega) _ _ ls hP hD hS (lv_sub hl [0, 1, 2, 3, 4] rfl)
                      · have tk_40 := c_eq (a := r_39.toInt) (b := 0) rfl (by decide) k_40
                        refine lv_iconst (v := 1) hx hb dX10_cutsDown_80 (by decide) ?_
                        refine lv_goto (tgt := 85) hx hb dX10_cutsDown_81 (by decide) ?_
                        refine lv_istore_n (lv' := [(3, .int 1), (4, .int ii), (2, .int kk), (1, .int 0), (0, .ref (ad 0))]) hx hb dX10_cutsDown_85 rfl hl (by decide) rfl (fun ls hl => ?_)
                        obtain ⟨y_43, ey_43⟩ : ∃ y : Int32, y = ii + 1 := ⟨_, rfl⟩
                        first | have ty_43 := i_add (a := ii.toInt) (b := 1) rfl (by decide) ey_43 (by omega) (by omega) | skip
                        refine lv_iinc (v := y_43) (lv' := [(4, .int y_43), (3, .int 1), (2, .int kk), (1, .int 0), (0, .ref (ad 0))]) hx hb dX10_cutsDown_86 hl (k := 1) rfl (by rw [ey_43]; rfl) (by decide) rfl (fun ls hl => ?_)
                        refine lv_goto (tgt := 17) hx hb dX10_cutsDown_89 (by decide) ?_
                        have lit_43 : (1 : Int32).toInt = 1 := by decide
                        exact ih17 1 y_43 (by first | omega | assumption | decide) (by first | omega | assumption | decide) (by first | omega | assumption | decide) (by omega) _ _ ls hP hD hS (lv_sub hl [0, 1, 2, 3, 4] rfl)
        have lit_44 : (0 : Int32).toInt = 0 := by decide
        have lit_45 : (0 : Int32).toInt = 0 := by decide
        exact loop17 _ 0 0 (by first | omega | assumption | decide) (by first | omega | assumption | decide) (by first | omega | assumption | decide) (Nat.lt_succ_self _) _ _ ls hP hD hS (lv_sub hl [0, 1, 2, 3, 4] rfl)
  have lit_46 : (0 : Int32).toInt = 0 := by decide
  exact loop4 _ 0 f11 (by first | omega | assumption | decide) (by first | omega | assumption | decide) (Nat.lt_succ_self _) _ _ ls hP hD hS (lv_sub hl [0, 1, 2] rfl)
theorem dX10_becomes_0 : decode cX10_becomes 0 = .ok (.aload_n 0, 1) := by decide +kernel
theorem dX10_becomes_1 : decode cX10_becomes 1 = .ok (.getfield 64, 3) := by decide +kernel
theorem dX10_becomes_4 : decode cX10_becomes 4 = .ok (.iload_n 1, 1) := by decide +kernel
theorem dX10_becomes_5 : decode cX10_becomes 5 = .ok (.aload_n 0, 1) := by decide +kernel
theorem dX10_becomes_6 : decode cX10_becomes 6 = .ok (.getfield 289, 3) := by decide +kernel
theorem dX10_becomes_9 : decode cX10_becomes 9 = .ok (.iastore, 1) := by decide +kernel
theorem dX10_becomes_10 : decode cX10_becomes 10 = .ok (.iconst 0, 1) := by decide +kernel
theorem dX10_becomes_11 : decode cX10_becomes 11 = .ok (.istore_n 2, 1) := by decide +kernel
theorem dX10_becomes_12 : decode cX10_becomes 12 = .ok (.iload_n 2, 1) := by decide +kernel
theorem dX10_becomes_13 : decode cX10_becomes 13 = .ok (.aload_n 0, 1) := by decide +kernel
theorem dX10_becomes_14 : decode cX10_becomes 14 = .ok (.getfield 289, 3) := by decide +kernel
theorem dX10_becomes_17 : decode cX10_becomes 17 = .ok (.if_icmp .ge 26, 3) := by decide +kernel
theorem dX10_becomes_20 : decode cX10_becomes 20 = .ok (.aload_n 0, 1) := by decide +kernel
theorem dX10_becomes_21 : decode cX10_becomes 21 = .ok (.getfield 61, 3) := by decide +kernel
theorem dX10_becomes_24 : decode cX10_becomes 24 = .ok (.iload_n 2, 1) := by decide +kernel
theorem dX10_becomes_25 : decode cX10_becomes 25 = .ok (.aaload, 1) := by decide +kernel
theorem dX10_becomes_26 : decode cX10_becomes 26 = .ok (.aload_n 0, 1) := by decide +kernel
theorem dX10_becomes_27 : decode cX10_becomes 27 = .ok (.getfield 56, 3) := by decide +kernel
theorem dX10_becomes_30 : decode cX10_becomes 30 = .ok (.iload_n 1, 1) := by decide +kernel
theorem dX10_becomes_31 : decode cX10_becomes 31 = .ok (.aaload, 1) := by decide +kernel
theorem dX10_becomes_32 : decode cX10_becomes 32 = .ok (.iload_n 2, 1) := by decide +kernel
theorem dX10_becomes_33 : decode cX10_becomes 33 = .ok (.aaload, 1) := by decide +kernel
theorem dX10_becomes_34 : decode cX10_becomes 34 = .ok (.invokestatic 296, 3) := by decide +kernel
theorem dX10_becomes_37 : decode cX10_becomes 37 = .ok (.iinc 2 1, 3) := by decide +kernel
theorem dX10_becomes_40 : decode cX10_becomes 40 = .ok (.goto (-28), 3) := by decide +kernel
theorem dX10_becomes_43 : decode cX10_becomes 43 = .ok (.return_, 1) := by decide +kernel
def mwX10_becomesm : List Cond := .code yX10_becomes cX10_becomes 3 none :: ([.fieldLink RX10 64 "PatternGateModel" "needMany" "[I", .fieldLink RX10 289 "PatternGateModel" "manyTop" "I", .fieldLink RX10 61 "PatternGateModel" "many" "[[I", .fieldLink RX10 56 "PatternGateModel" "needs" "[[[I", .code yX10_lays cX10_lays 3 none, .methodLink RX10 296 yX10_lays, .static yX10_lays, .initialized RX10] ++ wsX100)
theorem fin_X10_becomesm_X10 : ∀ w ∈ wsX100, w ∈ mwX10_becomesm := fun w h => List.mem_cons_of_mem _ (List.mem_append_right _ h)
set_option maxRecDepth 20000 in
theorem mg_X10_becomesm_X10_lays_296 : GoodIn mwX10_becomesm (va_wsS RX10 296 yX10_lays mwX10_laysm) := goodIn_r _ [6, 7, 8, 5] (by decide +kernel) (by decide +kernel)
set_option maxHeartbeats 4000000 in
set_option maxRecDepth 100000 in
theorem m_becomes (l : Launch) (dC : Nat → ClassId) (dI : Nat → Nat → Nat) (ad : Nat → Nat) (kc : Nat → ClassId) (x0 x1 x2 x3 x4 x5 x6 x7 x8 x9 x10 x11 x12 x13 x14 x15 x16 x17 x18 x19 x20 x21 : Int32) (f0 f1 f2 f3 f4 f5 f6 f7 f8 f9 f10 f11 f12 f13 f14 f15 f16 f17 f18 f19 f20 f21 : Nat → Int32) (fL : Nat → Nat → Int64) (fN : Nat → Nat → Int32) (fP : Nat → Nat → Nat) (fM : Nat → Nat → Int32) (fO : Nat → Nat → Int32) (sz : Nat) (i1 : Int32) (bb : Int) (q0 : 0 ≤ x18.toInt ∧ x18.toInt ≤ 12) (q1 : bb ≤ 168) (q2 : 0 ≤ i1.toInt ∧ i1.toInt < 60) (q3 : mOK (rO fN fM fO) x18.toInt bb) (q4 : PI fP) : Met l yX10_becomes mwX10_becomesm ({ frames := 1, cells := 0, slots := 0, locals := 60 }) (va_Pc [.ref (ad 0), .int i1] (fun U => U.heap.size = sz ∧ va_P (dC, dI) vwCl (mW ad kc x0 x1 x2 x3 x4 x5 x6 x7 x8 x9 x10 x11 x12 x13 x14 x15 x16 x17 x18 x19 x20 x21 f0 f1 f2 f3 f4 f5 f6 f7 f8 f9 f10 f11 f12 f13 f14 f15 f16 f17 f18 f19 f20 f21 fL fN fP fM fO) U.heap ∧ va_K (dC, dI) vwCl (mT kc) U ∧ va_D (fun _ => True) (mW ad kc x0 x1 x2 x3 x4 x5 x6 x7 x8 x9 x10 x11 x12 x13 x14 x15 x16 x17 x18 x19 x20 x21 f0 f1 f2 f3 f4 f5 f6 f7 f8 f9 f10 f11 f12 f13 f14 f15 f16 f17 f18 f19 f20 f21 fL fN fP fM fO))) (va_Qv (fun (_ : Unit) => True) (fun _ t => ∃ (g10 : Nat → Int32) (Nn9 : Nat → Nat → Int32) (M9 : Nat → Nat → Int32) (O9 : Nat → Nat → Int32), (nOK (rO Nn9 M9 O9) fP g10 i1.toInt bb) ∧ (nFm (rO fN fM fO) (rO Nn9 M9 O9) i1.toInt) ∧ (∀ z : Int, 0 ≤ z → z ≠ i1.toInt → vI g10 z = vI f10 z) ∧ va_P (dC, dI) vwCl (mW ad kc x0 x1 x2 x3 x4 x5 x6 x7 x8 x9 x10 x11 x12 x13 x14 x15 x16 x17 x18 x19 x20 x21 f0 f1 f2 f3 f4 f5 f6 f7 f8 f9 g10 f11 f12 f13 f14 f15 f16 f17 f18 f19 f20 f21 fL Nn9 fP M9 O9) t.heap ∧ va_K (dC, dI) vwCl (mT kc) t ∧ va_D (va_A (mW ad kc x0 x1 x2 x3 x4 x5 x6 x7 x8 x9 x10 x11 x12 x13 x14 x15 x16 x17 x18 x19 x20 x21 f0 f1 f2 f3 f4 f5 f6 f7 f8 f9 f10 f11 f12 f13 f14 f15 f16 f17 f18 f19 f20 f21 fL fN fP fM fO) sz) (mW ad kc x0 x1 x2 x3 x4 x5 x6 x7 x8 x9 x10 x11 x12 x13 x14 x15 x16 x17 x18 x19 x20 x21 f0 f1 f2 f3 f4 f5 f6 f7 f8 f9 g10 f11 f12 f13 f14 f15 f16 f17 f18 f19 f20 f21 fL Nn9 fP M9 O9)) (va_A (mW ad kc x0 x1 x2 x3 x4 x5 x6 x7 x8 x9 x10 x11 x12 x13 x14 x15 x16 x17 x18 x19 x20 x21 f0 f1 f2 f3 f4 f5 f6 f7 f8 f9 f10 f11 f12 f13 f14 f15 f16 f17 f18 f19 f20 f21 fL fN fP fM fO) sz)) 0 0 (va_A (mW ad kc x0 x1 x2 x3 x4 x5 x6 x7 x8 x9 x10 x11 x12 x13 x14 x15 x16 x17 x18 x19 x20 x21 f0 f1 f2 f3 f4 f5 f6 f7 f8 f9 f10 f11 f12 f13 f14 f15 f16 f17 f18 f19 f20 f21 fL fN fP fM fO) sz) := by
  refine Met.ofW (cc := cX10_becomes) (maxL := 3) (ret := none) (by decide +kernel) rfl ?_
  intro p e s m args below meth c s₁ B hml hv
  obtain ⟨rfl, hsz, hP, hK, hD0⟩ := hv
  have hx := B.exec
  have hb := B.bytes
  have hr := B.returns
  have hts := atoms_spec (ws := mwX10_becomesm) B.pre
  have hown : s.vm.findClass RX10 = some m.cls := findClass_of_methodNamed B.named
  have hlocks := B.notSynchronized
  subst hsz
  have hD := hD0.self (sz := s.heap.size)
  generalize hAe : va_A (mW ad kc x0 x1 x2 x3 x4 x5 x6 x7 x8 x9 x10 x11 x12 x13 x14 x15 x16 x17 x18 x19 x20 x21 f0 f1 f2 f3 f4 f5 f6 f7 f8 f9 f10 f11 f12 f13 f14 f15 f16 f17 f18 f19 f20 f21 fL fN fP fM fO) s.heap.size = A at hD ⊢
  have hA : ∀ q : Nat, s.heap.size ≤ q → A q := fun q h => by rw [← hAe]; exact Or.inr h
  have hP : va_P (dC, dI) vwCl (mW ad kc x0 x1 x2 x3 x4 x5 x6 x7 x8 x9 x10 x11 x12 x13 x14 x15 x16 x17 x18 x19 x20 x21 f0 f1 f2 f3 f4 f5 f6 f7 f8 f9 f10 f11 f12 f13 f14 f15 f16 f17 f18 f19 f20 f21 fL fN fP fM fO) s.heap := hP
  have hD : va_D A (mW ad kc x0 x1 x2 x3 x4 x5 x6 x7 x8 x9 x10 x11 x12 x13 x14 x15 x16 x17 x18 x19 x20 x21 f0 f1 f2 f3 f4 f5 f6 f7 f8 f9 f10 f11 f12 f13 f14 f15 f16 f17 f18 f19 f20 f21 fL fN fP fM fO) := hD
  have hK : va_K (dC, dI) vwCl (mT kc) s := hK
  generalize hH : s.heap = H at hP ⊢
  have hS : va_S A s.heap H [] := by rw [← hH]; exact va_S.rf
  have hl := lv_entry ([.ref (ad 0), .int i1]) (n := 3) (Nat.le_of_ble_eq_true rfl)
  rw [lg_entry_eq]
  generalize (lg_sl ([.ref (ad 0), .int i1]) ++ List.replicate (3 - (lg_sl ([.ref (ad 0), .int i1])).length) Slot.unset).toArray = ls at hl ⊢
  have hl : lv_has ls 3 [(0, .ref (ad 0)), (1, .int i1)] := hl
  have rg_i1 := i_rng i1
  refine lv_aload_n hx hb dX10_becomes_0 rfl (lv_at hl 0 rfl) ?_
  refine va_get (D := (dC, dI)) (ci := 10) (v := .ref (ad 11)) (C := RX10) (T := TX10) (N := 48) hx hb hts fin_X10_becomesm_X10 hown hK hP 0 rfl rfl 30 (by decide) (hts (.fieldLink RX10 64 "PatternGateModel" "needMany" "[I") (List.mem_of_getElem? (i := 1) (by decide +kernel))) (fun _ h9 => h9) rfl dX10_becomes_1 ?_
  refine lv_iload_n hx hb dX10_becomes_4 rfl (lv_at hl 1 rfl) ?_
  refine lv_aload_n hx hb dX10_becomes_5 rfl (lv_at hl 0 rfl) ?_
  refine va_get (D := (dC, dI)) (ci := 10) (v := .int x18) (C := RX10) (T := TX10) (N := 48) hx hb hts fin_X10_becomesm_X10 hown hK hP 0 rfl rfl 32 (by decide) (hts (.fieldLink RX10 289 "PatternGateModel" "manyTop" "I") (List.mem_of_getElem? (i := 2) (by decide +kernel))) (fun _ h9 => h9) rfl dX10_becomes_6 ?_
  refine va_iast hx hb hK hP hD hS 11 10 rfl rfl (i := i1) (vp_of (a := i1.toInt) rfl (by omega) (by omega)) dX10_becomes_9 (fun H locs hP hD hS => ?_)
  generalize hf_f_1 : upd f10 _ _ = f_1 at hP hD
  have uf_1 := vI_up (a := i1.toInt) (b := x18.toInt) hf_f_1 (by first | omega | decide) (by omega) rfl
  have hP : va_P (dC, dI) vwCl (mW ad kc x0 x1 x2 x3 x4 x5 x6 x7 x8 x9 x10 x11 x12 x13 x14 x15 x16 x17 x18 x19 x20 x21 f0 f1 f2 f3 f4 f5 f6 f7 f8 f9 f_1 f11 f12 f13 f14 f15 f16 f17 f18 f19 f20 f21 fL fN fP fM fO) H := hP
  have hD : va_D A (mW ad kc x0 x1 x2 x3 x4 x5 x6 x7 x8 x9 x10 x11 x12 x13 x14 x15 x16 x17 x18 x19 x20 x21 f0 f1 f2 f3 f4 f5 f6 f7 f8 f9 f_1 f11 f12 f13 f14 f15 f16 f17 f18 f19 f20 f21 fL fN fP fM fO) := hD
  have u9 := uf_1
  refine lv_iconst (v := 0) hx hb dX10_becomes_10 (by decide) ?_
  refine lv_istore_n (lv' := [(2, .int 0), (0, .ref (ad 0)), (1, .int i1)]) hx hb dX10_becomes_11 rfl hl (by decide) rfl (fun ls hl => ?_)
  have loop12 : ∀ (lm12 : Nat) (kk : Int32) (hn : Nat → Nat → Int32) (hm : Nat → Nat → Int32) (ho : Nat → Nat → Int32), (0 ≤ kk.toInt) → (kk.toInt ≤ x18.toInt) → (nFm (rO fN fM fO) (rO hn hm ho) i1.toInt) → (bcI (rO hn hm ho) fP i1.toInt kk.toInt bb) → (∀ a, IR a → (1100 ≤ a ∧ a < 1300) → (rO hn hm ho) a = (rO fN fM fO) a) → ((x18.toInt - kk.toInt).toNat) < lm12 → ∀ (H : Heap) (locs : List Loc) (ls : Array Slot), va_P (dC, dI) vwCl (mW ad kc x0 x1 x2 x3 x4 x5 x6 x7 x8 x9 x10 x11 x12 x13 x14 x15 x16 x17 x18 x19 x20 x21 f0 f1 f2 f3 f4 f5 f6 f7 f8 f9 f_1 f11 f12 f13 f14 f15 f16 f17 f18 f19 f20 f21 fL hn fP hm ho) H → va_D A (mW ad kc x0 x1 x2 x3 x4 x5 x6 x7 x8 x9 x10 x11 x12 x13 x14 x15 x16 x17 x18 x19 x20 x21 f0 f1 f2 f3 f4 f5 f6 f7 f8 f9 f_1 f11 f12 f13 f14 f15 f16 f17 f18 f19 f20 f21 fL hn fP hm ho) → va_S A s.heap H locs → lv_has ls 3 [(2, .int kk), (0, .ref (ad 0)), (1, .int i1)] → W p l e (headSpec mwX10_becomesm ({ frames := 1, cells := 0, slots := 0, locals := 60 })).room s m ([.ref (ad 0), .int i1]).toArray below meth c H locs 0 0 (MQ below (va_Qv (fun (_ : Unit) => True) (fun _ t => ∃ (g10 : Nat → Int32) (Nn9 : Nat → Nat → Int32) (M9 : Nat → Nat → Int32) (O9 : Nat → Nat → Int32), (nOK (rO Nn9 M9 O9) fP g10 i1.toInt bb) ∧ (nFm (rO fN fM fO) (rO Nn9 M9 O9) i1.toInt) ∧ (∀ z : Int, 0 ≤ z → z ≠ i1.toInt → vI g10 z = vI f10 z) ∧ va_P (dC, dI) vwCl (mW ad kc x0 x1 x2 x3 x4 x5 x6 x7 x8 x9 x10 x11 x12 x13 x14 x15 x16 x17 x18 x19 x20 x21 f0 f1 f2 f3 f4 f5 f6 f7 f8 f9 g10 f11 f12 f13 f14 f15 f16 f17 f18 f19 f20 f21 fL Nn9 fP M9 O9) t.heap ∧ va_K (dC, dI) vwCl (mT kc) t ∧ va_D A (mW ad kc x0 x1 x2 x3 x4 x5 x6 x7 x8 x9 x10 x11 x12 x13 x14 x15 x16 x17 x18 x19 x20 x21 f0 f1 f2 f3 f4 f5 f6 f7 f8 f9 g10 f11 f12 f13 f14 f15 f16 f17 f18 f19 f20 f21 fL Nn9 fP M9 O9)) A) ([.ref (ad 0), .int i1]).toArray s 0 0 A) (F0 m 12 ls []) := by
    intro lm12
    induction lm12 with
    | zero => intro kk hn hm ho v12_0 v12_1 v12_2 v12_3 v12_4 hm12; exact absurd hm12 (Nat.not_lt_zero _)
    | succ lm12 ih12 =>
      intro kk hn hm ho v12_0 v12_1 v12_2 v12_3 v12_4 hm12 H locs ls hP hD hS hl
      have rg_kk := i_rng kk
      refine lv_iload_n hx hb dX10_becomes_12 rfl (lv_at hl 0 rfl) ?_
      refine lv_aload_n hx hb dX10_becomes_13 rfl (lv_at hl 1 rfl) ?_
      refine va_get (D := (dC, dI)) (ci := 10) (v := .int x18) (C := RX10) (T := TX10) (N := 48) hx hb hts fin_X10_becomesm_X10 hown hK hP 0 rfl rfl 32 (by decide) (hts (.fieldLink RX10 289 "PatternGateModel" "manyTop" "I") (List.mem_of_getElem? (i := 2) (by decide +kernel))) (fun _ h9 => h9) rfl dX10_becomes_14 ?_
      refine lv_icmp_ge (tgt := 43) hx hb dX10_becomes_17 (by decide) (fun k_2 => ?_) (fun k_2 => ?_)
      · have tk_2 := c_ge (a := kk.toInt) (b := x18.toInt) rfl rfl k_2
        exact W.vret hx hb hr (fun t ht hW => ⟨⟨(), rfl, trivial, f_1, hn, hm, ho, ⟨by have h9 := u9.1; omega, by have h9 := u9.1; omega, fun i hi => v12_3 i (by have h9 := u9.1; omega)⟩, v12_2, u9.2, by rw [ht]; exact hP, va_K.moved hW.alike hK, hD⟩, hS.F ht⟩) hS.2.2 dX10_becomes_43
      · have tk_2 := c_nge (a := kk.toInt) (b := x18.toInt) rfl rfl k_2
        refine lv_aload_n hx hb dX10_becomes_20 rfl (lv_at hl 1 rfl) ?_
        refine va_get (D := (dC, dI)) (ci := 10) (v := .ref (ad 25)) (C := RX10) (T := TX10) (N := 48) hx hb hts fin_X10_becomesm_X10 hown hK hP 0 rfl rfl 29 (by decide) (hts (.fieldLink RX10 61 "PatternGateModel" "many" "[[I") (List.mem_of_getElem? (i := 3) (by decide +kernel))) (fun _ h9 => h9) rfl dX10_becomes_21 ?_
        refine lv_iload_n hx hb dX10_becomes_24 rfl (lv_at hl 0 rfl) ?_
        refine m_aak hx hb hK hP 25 24 (k := kk.toInt.toNat) (b := ad (1100 + kk.toInt.toNat)) rfl rfl rfl (i := kk) (by omega) (by omega) rfl dX10_becomes_25 ?_
        refine lv_aload_n hx hb dX10_becomes_26 rfl (lv_at hl 1 rfl) ?_
        refine va_get (D := (dC, dI)) (ci := 10) (v := .ref (ad 24)) (C := RX10) (T := TX10) (N := 48) hx hb hts fin_X10_becomesm_X10 hown hK hP 0 rfl rfl 28 (by decide) (hts (.fieldLink RX10 56 "PatternGateModel" "needs" "[[[I") (List.mem_of_getElem? (i := 4) (by decide +kernel))) (fun _ h9 => h9) rfl dX10_becomes_27 ?_
        refine lv_iload_n hx hb dX10_becomes_30 rfl (lv_at hl 2 rfl) ?_
        refine m_aak hx hb hK hP 24 23 (k := i1.toInt.toNat) (b := ad (200 + i1.toInt.toNat)) rfl rfl rfl (i := i1) (by omega) (by omega) rfl dX10_becomes_31 ?_
        refine lv_iload_n hx hb dX10_becomes_32 rfl (lv_at hl 0 rfl) ?_
        refine m_aak hx hb hK hP (117 + i1.toInt.toNat) 27 (k := kk.toInt.toNat) (b := ad (300 + (12 * i1.toInt.toNat + fP i1.toInt.toNat kk.toInt.toNat))) (mW_P (by omega)) rfl rfl (i := kk) (by omega) (by omega) rfl dX10_becomes_33 ?_
        have hp33 := (q4 i1.toInt.toNat kk.toInt.toNat (by omega)).1
        have hz0 := q3 kk.toInt.toNat (by omega)
        have hz1 := vI_cg (z := 0) (v12_4 (1100 + kk.toInt.toNat) (by unfold IR; omega) (by omega))
        have hFc := m_free hD hS hA
        refine va_callv (va_runS (As := [.ref (ad (1100 + kk.toInt.toNat)), .ref (ad (300 + (12 * i1.toInt.toNat + fP i1.toInt.toNat kk.toInt.toNat)))]) (rest := []) ⟨hx, hb, hml, hown, hts⟩ (m_lays l dC dI ad kc x0 x1 x2 x3 x4 x5 x6 x7 x8 x9 x10 x11 x12 x13 x14 x15 x16 x17 x18 x19 x20 x21 f0 f1 f2 f3 f4 f5 f6 f7 f8 f9 f_1 f11 f12 f13 f14 f15 f16 f17 f18 f19 f20 f21 fL hn fP hm ho H.size (1100 + kk.toInt.toNat) (300 + (12 * i1.toInt.toNat + fP i1.toInt.toNat kk.toInt.toNat)) (by first | assumption | (unfold IR; omega)) (by first | assumption | (unfold IR; omega)) (by first | omega | assumption | decide | (have l0 := Int32.toInt_zero; omega)) (by first | omega | assumption | decide | (have l0 := Int32.toInt_zero; omega))) (va_cwS 2 hts mg_X10_becomesm_X10_lays_296 rfl rfl rfl (by decide +kernel) ⟨Nat.le_of_ble_eq_true rfl, Nat.le_of_ble_eq_true rfl⟩) ⟨fun a U g mk q => by obtain ⟨q0, q1, qP, qK, qD⟩ := q; exact ⟨q0, q1, qP, va_K.moved (u := U) (U := U.calling g mk a) (Vm.Alike.refl U.vm) qK, qD⟩, fun U hU hW => ⟨rfl, by rw [hU], by rw [hU]; exact hP, va_K.moved hW.alike hK, hD.weaken (fun _ _ _ _ => trivial)⟩⟩ rfl rfl hl.1 rfl (lv_room (Nat.le_of_ble_eq_true rfl)) dX10_becomes_34 ⟨Nat.le_of_ble_eq_true rfl, Nat.le_of_ble_eq_true rfl⟩) hS (fun q _ h => hFc q h) hFc (fun u t H1 locs ht hvm hw hB hz1 hk1 hS => ?_)
        obtain ⟨Nn_4, M_5, O_6, hr_3_0, hr_3_1, hP, hK1, hD1⟩ := hB
        rw [ht] at hP
        have hD := hD1.weaken (fun k q _ h => hFc q.1 h)
        generalize H1 = H at hP hS ⊢
        have hP : va_P (dC, dI) vwCl (mW ad kc x0 x1 x2 x3 x4 x5 x6 x7 x8 x9 x10 x11 x12 x13 x14 x15 x16 x17 x18 x19 x20 x21 f0 f1 f2 f3 f4 f5 f6 f7 f8 f9 f_1 f11 f12 f13 f14 f15 f16 f17 f18 f19 f20 f21 fL Nn_4 fP M_5 O_6) H := hP
        have hD : va_D A (mW ad kc x0 x1 x2 x3 x4 x5 x6 x7 x8 x9 x10 x11 x12 x13 x14 x15 x16 x17 x18 x19 x20 x21 f0 f1 f2 f3 f4 f5 f6 f7 f8 f9 f_1 f11 f12 f13 f14 f15 f16 f17 f18 f19 f20 f21 fL Nn_4 fP M_5 O_6) := hD
        obtain ⟨y_7, ey_7⟩ : ∃ y : Int32, y = kk + 1 := ⟨_, rfl⟩
        first | have ty_7 := i_add (a := kk.toInt) (b := 1) rfl (by decide) ey_7 (by omega) (by omega) | skip
        refine lv_iinc (v := y_7) (lv' := [(2, .int y_7), (0, .ref (ad 0)), (1, .int i1)]) hx hb dX10_becomes_37 hl (k := 0) rfl (by rw [ey_7]; rfl) (by decide) rfl (fun ls hl => ?_)
        refine lv_goto (tgt := 12) hx hb dX10_becomes_40 (by decide) ?_
        exact ih12 y_7 Nn_4 M_5 O_6 (by first | omega | assumption | decide) (by first | omega | assumption | decide) (v12_2.row hr_3_0 hp33) (bc_step q4 v12_3 hr_3_0 (by omega) (by omega) (by omega) (by omega) (by have h8 := hr_3_1; omega) (by have h8 := hr_3_1; omega) (by omega)) (fun a h1 h2 => (hr_3_0 a h1 (by omega)).trans (v12_4 a h1 h2)) (by omega) _ _ ls hP hD hS (lv_sub hl [0, 1, 2] rfl)
  have lit_7 : (0 : Int32).toInt = 0 := by decide
  exact loop12 _ 0 fN fM fO (by first | omega | assumption | decide) (by first | omega | assumption | decide) nFm.rf (fun i hi => by omega) (fun _ _ _ => rfl) (Nat.lt_succ_self _) _ _ ls hP hD hS (lv_sub hl [0, 1, 2] rfl)
theorem dX10_oneEmpty_0 : decode cX10_oneEmpty 0 = .ok (.aload_n 0, 1) := by decide +kernel
theorem dX10_oneEmpty_1 : decode cX10_oneEmpty 1 = .ok (.getfield 64, 3) := by decide +kernel
theorem dX10_oneEmpty_4 : decode cX10_oneEmpty 4 = .ok (.iload_n 1, 1) := by decide +kernel
theorem dX10_oneEmpty_5 : decode cX10_oneEmpty 5 = .ok (.iconst 1, 1) := by decide +kernel
theorem dX10_oneEmpty_6 : decode cX10_oneEmpty 6 = .ok (.iastore, 1) := by decide +kernel
theorem dX10_oneEmpty_7 : decode cX10_oneEmpty 7 = .ok (.aload_n 0, 1) := by decide +kernel
theorem dX10_oneEmpty_8 : decode cX10_oneEmpty 8 = .ok (.getfield 56, 3) := by decide +kernel
theorem dX10_oneEmpty_11 : decode cX10_oneEmpty 11 = .ok (.iload_n 1, 1) := by decide +kernel
theorem dX10_oneEmpty_12 : decode cX10_oneEmpty 12 = .ok (.aaload, 1) := by decide +kernel
theorem dX10_oneEmpty_13 : decode cX10_oneEmpty 13 = .ok (.iconst 0, 1) := by decide +kernel
theorem dX10_oneEmpty_14 : decode cX10_oneEmpty 14 = .ok (.aaload, 1) := by decide +kernel
theorem dX10_oneEmpty_15 : decode cX10_oneEmpty 15 = .ok (.iconst 0, 1) := by decide +kernel
theorem dX10_oneEmpty_16 : decode cX10_oneEmpty 16 = .ok (.iconst 0, 1) := by decide +kernel
theorem dX10_oneEmpty_17 : decode cX10_oneEmpty 17 = .ok (.iastore, 1) := by decide +kernel
theorem dX10_oneEmpty_18 : decode cX10_oneEmpty 18 = .ok (.return_, 1) := by decide +kernel
def mwX10_oneEmptym : List Cond := .code yX10_oneEmpty cX10_oneEmpty 2 none :: ([.fieldLink RX10 64 "PatternGateModel" "needMany" "[I", .fieldLink RX10 56 "PatternGateModel" "needs" "[[[I"] ++ wsX100)
theorem fin_X10_oneEmptym_X10 : ∀ w ∈ wsX100, w ∈ mwX10_oneEmptym := fun w h => List.mem_cons_of_mem _ (List.mem_append_right _ h)
set_option maxHeartbeats 4000000 in
set_option maxRecDepth 100000 in
theorem m_oneEmpty (l : Launch) (dC : Nat → ClassId) (dI : Nat → Nat → Nat) (ad : Nat → Nat) (kc : Nat → ClassId) (x0 x1 x2 x3 x4 x5 x6 x7 x8 x9 x10 x11 x12 x13 x14 x15 x16 x17 x18 x19 x20 x21 : Int32) (f0 f1 f2 f3 f4 f5 f6 f7 f8 f9 f10 f11 f12 f13 f14 f15 f16 f17 f18 f19 f20 f21 : Nat → Int32) (fL : Nat → Nat → Int64) (fN : Nat → Nat → Int32) (fP : Nat → Nat → Nat) (fM : Nat → Nat → Int32) (fO : Nat → Nat → Int32) (sz : Nat) (i1 : Int32) (q0 : 0 ≤ i1.toInt ∧ i1.toInt < 60) (q1 : PI fP) : Met l yX10_oneEmpty mwX10_oneEmptym ({ frames := 0, cells := 0, slots := 0, locals := 0 }) (va_Pc [.ref (ad 0), .int i1] (fun U => U.heap.size = sz ∧ va_P (dC, dI) vwCl (mW ad kc x0 x1 x2 x3 x4 x5 x6 x7 x8 x9 x10 x11 x12 x13 x14 x15 x16 x17 x18 x19 x20 x21 f0 f1 f2 f3 f4 f5 f6 f7 f8 f9 f10 f11 f12 f13 f14 f15 f16 f17 f18 f19 f20 f21 fL fN fP fM fO) U.heap ∧ va_K (dC, dI) vwCl (mT kc) U ∧ va_D (fun _ => True) (mW ad kc x0 x1 x2 x3 x4 x5 x6 x7 x8 x9 x10 x11 x12 x13 x14 x15 x16 x17 x18 x19 x20 x21 f0 f1 f2 f3 f4 f5 f6 f7 f8 f9 f10 f11 f12 f13 f14 f15 f16 f17 f18 f19 f20 f21 fL fN fP fM fO))) (va_Qv (fun (_ : Unit) => True) (fun _ t => ∃ (g10 : Nat → Int32) (Nn9 : Nat → Nat → Int32) (M9 : Nat → Nat → Int32) (O9 : Nat → Nat → Int32), (nOK (rO Nn9 M9 O9) fP g10 i1.toInt 0) ∧ (nFm (rO fN fM fO) (rO Nn9 M9 O9) i1.toInt) ∧ (∀ z : Int, 0 ≤ z → z ≠ i1.toInt → vI g10 z = vI f10 z) ∧ va_P (dC, dI) vwCl (mW ad kc x0 x1 x2 x3 x4 x5 x6 x7 x8 x9 x10 x11 x12 x13 x14 x15 x16 x17 x18 x19 x20 x21 f0 f1 f2 f3 f4 f5 f6 f7 f8 f9 g10 f11 f12 f13 f14 f15 f16 f17 f18 f19 f20 f21 fL Nn9 fP M9 O9) t.heap ∧ va_K (dC, dI) vwCl (mT kc) t ∧ va_D (va_A (mW ad kc x0 x1 x2 x3 x4 x5 x6 x7 x8 x9 x10 x11 x12 x13 x14 x15 x16 x17 x18 x19 x20 x21 f0 f1 f2 f3 f4 f5 f6 f7 f8 f9 f10 f11 f12 f13 f14 f15 f16 f17 f18 f19 f20 f21 fL fN fP fM fO) sz) (mW ad kc x0 x1 x2 x3 x4 x5 x6 x7 x8 x9 x10 x11 x12 x13 x14 x15 x16 x17 x18 x19 x20 x21 f0 f1 f2 f3 f4 f5 f6 f7 f8 f9 g10 f11 f12 f13 f14 f15 f16 f17 f18 f19 f20 f21 fL Nn9 fP M9 O9)) (va_A (mW ad kc x0 x1 x2 x3 x4 x5 x6 x7 x8 x9 x10 x11 x12 x13 x14 x15 x16 x17 x18 x19 x20 x21 f0 f1 f2 f3 f4 f5 f6 f7 f8 f9 f10 f11 f12 f13 f14 f15 f16 f17 f18 f19 f20 f21 fL fN fP fM fO) sz)) 0 0 (va_A (mW ad kc x0 x1 x2 x3 x4 x5 x6 x7 x8 x9 x10 x11 x12 x13 x14 x15 x16 x17 x18 x19 x20 x21 f0 f1 f2 f3 f4 f5 f6 f7 f8 f9 f10 f11 f12 f13 f14 f15 f16 f17 f18 f19 f20 f21 fL fN fP fM fO) sz) := by
  refine Met.ofW (cc := cX10_oneEmpty) (maxL := 2) (ret := none) (by decide +kernel) rfl ?_
  intro p e s m args below meth c s₁ B hml hv
  obtain ⟨rfl, hsz, hP, hK, hD0⟩ := hv
  have hx := B.exec
  have hb := B.bytes
  have hr := B.returns
  have hts := atoms_spec (ws := mwX10_oneEmptym) B.pre
  have hown : s.vm.findClass RX10 = some m.cls := findClass_of_methodNamed B.named
  have hlocks := B.notSynchronized
  subst hsz
  have hD := hD0.self (sz := s.heap.size)
  generalize hAe : va_A (mW ad kc x0 x1 x2 x3 x4 x5 x6 x7 x8 x9 x10 x11 x12 x13 x14 x15 x16 x17 x18 x19 x20 x21 f0 f1 f2 f3 f4 f5 f6 f7 f8 f9 f10 f11 f12 f13 f14 f15 f16 f17 f18 f19 f20 f21 fL fN fP fM fO) s.heap.size = A at hD ⊢
  have hA : ∀ q : Nat, s.heap.size ≤ q → A q := fun q h => by rw [← hAe]; exact Or.inr h
  have hP : va_P (dC, dI) vwCl (mW ad kc x0 x1 x2 x3 x4 x5 x6 x7 x8 x9 x10 x11 x12 x13 x14 x15 x16 x17 x18 x19 x20 x21 f0 f1 f2 f3 f4 f5 f6 f7 f8 f9 f10 f11 f12 f13 f14 f15 f16 f17 f18 f19 f20 f21 fL fN fP fM fO) s.heap := hP
  have hD : va_D A (mW ad kc x0 x1 x2 x3 x4 x5 x6 x7 x8 x9 x10 x11 x12 x13 x14 x15 x16 x17 x18 x19 x20 x21 f0 f1 f2 f3 f4 f5 f6 f7 f8 f9 f10 f11 f12 f13 f14 f15 f16 f17 f18 f19 f20 f21 fL fN fP fM fO) := hD
  have hK : va_K (dC, dI) vwCl (mT kc) s := hK
  generalize hH : s.heap = H at hP ⊢
  have hS : va_S A s.heap H [] := by rw [← hH]; exact va_S.rf
  have hl := lv_entry ([.ref (ad 0), .int i1]) (n := 2) (Nat.le_of_ble_eq_true rfl)
  rw [lg_entry_eq]
  generalize (lg_sl ([.ref (ad 0), .int i1]) ++ List.replicate (2 - (lg_sl ([.ref (ad 0), .int i1])).length) Slot.unset).toArray = ls at hl ⊢
  have hl : lv_has ls 2 [(0, .ref (ad 0)), (1, .int i1)] := hl
  have rg_i1 := i_rng i1
  refine lv_aload_n hx hb dX10_oneEmpty_0 rfl (lv_at hl 0 rfl) ?_
  refine va_get (D := (dC, dI)) (ci := 10) (v := .ref (ad 11)) (C := RX10) (T := TX10) (N := 48) hx hb hts fin_X10_oneEmptym_X10 hown hK hP 0 rfl rfl 30 (by decide) (hts (.fieldLink RX10 64 "PatternGateModel" "needMany" "[I") (List.mem_of_getElem? (i := 1) (by decide +kernel))) (fun _ h9 => h9) rfl dX10_oneEmpty_1 ?_
  refine lv_iload_n hx hb dX10_oneEmpty_4 rfl (lv_at hl 1 rfl) ?_
  refine lv_iconst (v := 1) hx hb dX10_oneEmpty_5 (by decide) ?_
  refine va_iast hx hb hK hP hD hS 11 10 rfl rfl (i := i1) (vp_of (a := i1.toInt) rfl (by omega) (by omega)) dX10_oneEmpty_6 (fun H locs hP hD hS => ?_)
  generalize hf_f_1 : upd f10 _ _ = f_1 at hP hD
  have uf_1 := vI_up (a := i1.toInt) (b := 1) hf_f_1 (by first | omega | decide) (by omega) (by decide)
  have hP : va_P (dC, dI) vwCl (mW ad kc x0 x1 x2 x3 x4 x5 x6 x7 x8 x9 x10 x11 x12 x13 x14 x15 x16 x17 x18 x19 x20 x21 f0 f1 f2 f3 f4 f5 f6 f7 f8 f9 f_1 f11 f12 f13 f14 f15 f16 f17 f18 f19 f20 f21 fL fN fP fM fO) H := hP
  have hD : va_D A (mW ad kc x0 x1 x2 x3 x4 x5 x6 x7 x8 x9 x10 x11 x12 x13 x14 x15 x16 x17 x18 x19 x20 x21 f0 f1 f2 f3 f4 f5 f6 f7 f8 f9 f_1 f11 f12 f13 f14 f15 f16 f17 f18 f19 f20 f21 fL fN fP fM fO) := hD
  refine lv_aload_n hx hb dX10_oneEmpty_7 rfl (lv_at hl 0 rfl) ?_
  refine va_get (D := (dC, dI)) (ci := 10) (v := .ref (ad 24)) (C := RX10) (T := TX10) (N := 48) hx hb hts fin_X10_oneEmptym_X10 hown hK hP 0 rfl rfl 28 (by decide) (hts (.fieldLink RX10 56 "PatternGateModel" "needs" "[[[I") (List.mem_of_getElem? (i := 2) (by decide +kernel))) (fun _ h9 => h9) rfl dX10_oneEmpty_8 ?_
  refine lv_iload_n hx hb dX10_oneEmpty_11 rfl (lv_at hl 1 rfl) ?_
  refine m_aak hx hb hK hP 24 23 (k := i1.toInt.toNat) (b := ad (200 + i1.toInt.toNat)) rfl rfl rfl (i := i1) (by omega) (by omega) rfl dX10_oneEmpty_12 ?_
  refine lv_iconst (v := 0) hx hb dX10_oneEmpty_13 (by decide) ?_
  refine m_aak hx hb hK hP (117 + i1.toInt.toNat) 27 (k := 0) (b := ad (300 + (12 * i1.toInt.toNat + fP i1.toInt.toNat 0))) (mW_P (by omega)) rfl rfl (i := 0) (by decide) (by omega) rfl dX10_oneEmpty_14 ?_
  have hp14 := (q1 i1.toInt.toNat 0 (by omega)).1
  refine lv_iconst (v := 0) hx hb dX10_oneEmpty_15 (by decide) ?_
  refine lv_iconst (v := 0) hx hb dX10_oneEmpty_16 (by decide) ?_
  refine va_iast hx hb hK hP hD hS (rPos (300 + (12 * i1.toInt.toNat + fP i1.toInt.toNat 0))) (rTy (300 + (12 * i1.toInt.toNat + fP i1.toInt.toNat 0))) (mW_R (by first | assumption | (unfold IR; omega))) (mT_R _) (i := 0) (by unfold vp_in; decide +kernel) dX10_oneEmpty_17 (fun H locs hP hD hS => ?_)
  obtain ⟨n_2, m_3, o_4, hP, hD, wu_5⟩ := mW_Rx (by first | assumption | (unfold IR; omega)) hP hD
  have u_5 := rU_v (x := 0) (y := 0) wu_5 (by first | assumption | (unfold IR; omega)) (by first | omega | decide) (by omega) (by decide)
  have hP : va_P (dC, dI) vwCl (mW ad kc x0 x1 x2 x3 x4 x5 x6 x7 x8 x9 x10 x11 x12 x13 x14 x15 x16 x17 x18 x19 x20 x21 f0 f1 f2 f3 f4 f5 f6 f7 f8 f9 f_1 f11 f12 f13 f14 f15 f16 f17 f18 f19 f20 f21 fL n_2 fP m_3 o_4) H := hP
  have hD : va_D A (mW ad kc x0 x1 x2 x3 x4 x5 x6 x7 x8 x9 x10 x11 x12 x13 x14 x15 x16 x17 x18 x19 x20 x21 f0 f1 f2 f3 f4 f5 f6 f7 f8 f9 f_1 f11 f12 f13 f14 f15 f16 f17 f18 f19 f20 f21 fL n_2 fP m_3 o_4) := hD
  exact W.vret hx hb hr (fun t ht hW => ⟨⟨(), rfl, trivial, f_1, n_2, m_3, o_4, ⟨by have h9 := uf_1.1; omega, by have h9 := uf_1.1; omega, fun i hi => by have h9 := uf_1.1; have h8 : i = 0 := (by omega); subst h8; have h7 := u_5.1.1; omega⟩, (nFm.rf.row (fun a h1 h2 => u_5.2 a h1 h2) hp14), uf_1.2, by rw [ht]; exact hP, va_K.moved hW.alike hK, hD⟩, hS.F ht⟩) hS.2.2 dX10_oneEmpty_18
theorem dX10_newNeed_0 : decode cX10_newNeed 0 = .ok (.aload_n 0, 1) := by decide +kernel
theorem dX10_newNeed_1 : decode cX10_newNeed 1 = .ok (.aload_n 0, 1) := by decide +kernel
theorem dX10_newNeed_2 : decode cX10_newNeed 2 = .ok (.getfield 300, 3) := by decide +kernel
theorem dX10_newNeed_5 : decode cX10_newNeed 5 = .ok (.invokevirtual 303, 3) := by decide +kernel
theorem dX10_newNeed_8 : decode cX10_newNeed 8 = .ok (.aload_n 0, 1) := by decide +kernel
theorem dX10_newNeed_9 : decode cX10_newNeed 9 = .ok (.dup, 1) := by decide +kernel
theorem dX10_newNeed_10 : decode cX10_newNeed 10 = .ok (.getfield 300, 3) := by decide +kernel
theorem dX10_newNeed_13 : decode cX10_newNeed 13 = .ok (.iconst 1, 1) := by decide +kernel
theorem dX10_newNeed_14 : decode cX10_newNeed 14 = .ok (.iadd, 1) := by decide +kernel
theorem dX10_newNeed_15 : decode cX10_newNeed 15 = .ok (.putfield 300, 3) := by decide +kernel
theorem dX10_newNeed_18 : decode cX10_newNeed 18 = .ok (.aload_n 0, 1) := by decide +kernel
theorem dX10_newNeed_19 : decode cX10_newNeed 19 = .ok (.getfield 300, 3) := by decide +kernel
theorem dX10_newNeed_22 : decode cX10_newNeed 22 = .ok (.iconst 1, 1) := by decide +kernel
theorem dX10_newNeed_23 : decode cX10_newNeed 23 = .ok (.isub, 1) := by decide +kernel
theorem dX10_newNeed_24 : decode cX10_newNeed 24 = .ok (.ireturn, 1) := by decide +kernel
def mwX10_newNeedm : List Cond := .code yX10_newNeed cX10_newNeed 1 (some .int) :: ([.fieldLink RX10 300 "PatternGateModel" "needTop" "I", .code yX10_oneEmpty cX10_oneEmpty 2 none, .fieldLink RX10 64 "PatternGateModel" "needMany" "[I", .fieldLink RX10 56 "PatternGateModel" "needs" "[[[I", .methodLink RX10 303 yX10_oneEmpty, .instanceMethod yX10_oneEmpty, .selects RX10 yX10_oneEmpty yX10_oneEmpty, .initialized RX10] ++ wsX100)
theorem fin_X10_newNeedm_X10 : ∀ w ∈ wsX100, w ∈ mwX10_newNeedm := fun w h => List.mem_cons_of_mem _ (List.mem_append_right _ h)
set_option maxRecDepth 20000 in
theorem mg_X10_newNeedm_X10_oneEmpty_303 : GoodIn mwX10_newNeedm (wsV RX10 303 RX10 yX10_oneEmpty mwX10_oneEmptym) := goodIn_r _ [5, 6, 7, 8, 2, 3, 4, 9, 10, 11, 12, 13, 14, 15, 16, 17, 18, 19, 20, 21, 22, 23, 24, 25, 26, 27, 28, 29, 30, 31, 32, 33, 34, 35, 36, 37, 38, 39, 40, 41, 42, 43, 44, 45, 46, 47, 48, 49, 50, 51, 52, 53, 54, 55, 56] (by decide +kernel) (by decide +kernel)
set_option maxHeartbeats 4000000 in
set_option maxRecDepth 100000 in
theorem m_newNeed (l : Launch) (dC : Nat → ClassId) (dI : Nat → Nat → Nat) (ad : Nat → Nat) (kc : Nat → ClassId) (x0 x1 x2 x3 x4 x5 x6 x7 x8 x9 x10 x11 x12 x13 x14 x15 x16 x17 x18 x19 x20 x21 : Int32) (f0 f1 f2 f3 f4 f5 f6 f7 f8 f9 f10 f11 f12 f13 f14 f15 f16 f17 f18 f19 f20 f21 : Nat → Int32) (fL : Nat → Nat → Int64) (fN : Nat → Nat → Int32) (fP : Nat → Nat → Nat) (fM : Nat → Nat → Int32) (fO : Nat → Nat → Int32) (sz : Nat) (q0 : 0 ≤ x17.toInt ∧ x17.toInt < 60) (q1 : PI fP) : Met l yX10_newNeed mwX10_newNeedm ({ frames := 1, cells := 0, slots := 0, locals := 60 }) (va_Pc [.ref (ad 0)] (fun U => U.heap.size = sz ∧ va_P (dC, dI) vwCl (mW ad kc x0 x1 x2 x3 x4 x5 x6 x7 x8 x9 x10 x11 x12 x13 x14 x15 x16 x17 x18 x19 x20 x21 f0 f1 f2 f3 f4 f5 f6 f7 f8 f9 f10 f11 f12 f13 f14 f15 f16 f17 f18 f19 f20 f21 fL fN fP fM fO) U.heap ∧ va_K (dC, dI) vwCl (mT kc) U ∧ va_D (fun _ => True) (mW ad kc x0 x1 x2 x3 x4 x5 x6 x7 x8 x9 x10 x11 x12 x13 x14 x15 x16 x17 x18 x19 x20 x21 f0 f1 f2 f3 f4 f5 f6 f7 f8 f9 f10 f11 f12 f13 f14 f15 f16 f17 f18 f19 f20 f21 fL fN fP fM fO))) (va_Qi (fun (o9 u9 : Int32) => o9 = u9) (fun (o9 : Int32) t => ∃ (y17 : Int32) (g10 : Nat → Int32) (Nn9 : Nat → Nat → Int32) (M9 : Nat → Nat → Int32) (O9 : Nat → Nat → Int32), (o9.toInt = x17.toInt) ∧ (y17.toInt = x17.toInt + 1) ∧ (nOK (rO Nn9 M9 O9) fP g10 x17.toInt 0) ∧ (nFm (rO fN fM fO) (rO Nn9 M9 O9) x17.toInt) ∧ (∀ z : Int, 0 ≤ z → z ≠ x17.toInt → vI g10 z = vI f10 z) ∧ va_P (dC, dI) vwCl (mW ad kc x0 x1 x2 x3 x4 x5 x6 x7 x8 x9 x10 x11 x12 x13 x14 x15 x16 y17 x18 x19 x20 x21 f0 f1 f2 f3 f4 f5 f6 f7 f8 f9 g10 f11 f12 f13 f14 f15 f16 f17 f18 f19 f20 f21 fL Nn9 fP M9 O9) t.heap ∧ va_K (dC, dI) vwCl (mT kc) t ∧ va_D (va_A (mW ad kc x0 x1 x2 x3 x4 x5 x6 x7 x8 x9 x10 x11 x12 x13 x14 x15 x16 x17 x18 x19 x20 x21 f0 f1 f2 f3 f4 f5 f6 f7 f8 f9 f10 f11 f12 f13 f14 f15 f16 f17 f18 f19 f20 f21 fL fN fP fM fO) sz) (mW ad kc x0 x1 x2 x3 x4 x5 x6 x7 x8 x9 x10 x11 x12 x13 x14 x15 x16 y17 x18 x19 x20 x21 f0 f1 f2 f3 f4 f5 f6 f7 f8 f9 g10 f11 f12 f13 f14 f15 f16 f17 f18 f19 f20 f21 fL Nn9 fP M9 O9)) (va_A (mW ad kc x0 x1 x2 x3 x4 x5 x6 x7 x8 x9 x10 x11 x12 x13 x14 x15 x16 x17 x18 x19 x20 x21 f0 f1 f2 f3 f4 f5 f6 f7 f8 f9 f10 f11 f12 f13 f14 f15 f16 f17 f18 f19 f20 f21 fL fN fP fM fO) sz)) 0 0 (va_A (mW ad kc x0 x1 x2 x3 x4 x5 x6 x7 x8 x9 x10 x11 x12 x13 x14 x15 x16 x17 x18 x19 x20 x21 f0 f1 f2 f3 f4 f5 f6 f7 f8 f9 f10 f11 f12 f13 f14 f15 f16 f17 f18 f19 f20 f21 fL fN fP fM fO) sz) := by
  refine Met.ofW (cc := cX10_newNeed) (maxL := 1) (ret := (some .int)) (by decide +kernel) rfl ?_
  intro p e s m args below meth c s₁ B hml hv
  obtain ⟨rfl, hsz, hP, hK, hD0⟩ := hv
  have hx := B.exec
  have hb := B.bytes
  have hr := B.returns
  have hts := atoms_spec (ws := mwX10_newNeedm) B.pre
  have hown : s.vm.findClass RX10 = some m.cls := findClass_of_methodNamed B.named
  have hlocks := B.notSynchronized
  subst hsz
  have hD := hD0.self (sz := s.heap.size)
  generalize hAe : va_A (mW ad kc x0 x1 x2 x3 x4 x5 x6 x7 x8 x9 x10 x11 x12 x13 x14 x15 x16 x17 x18 x19 x20 x21 f0 f1 f2 f3 f4 f5 f6 f7 f8 f9 f10 f11 f12 f13 f14 f15 f16 f17 f18 f19 f20 f21 fL fN fP fM fO) s.heap.size = A at hD ⊢
  have hA : ∀ q : Nat, s.heap.size ≤ q → A q := fun q h => by rw [← hAe]; exact Or.inr h
  have hP : va_P (dC, dI) vwCl (mW ad kc x0 x1 x2 x3 x4 x5 x6 x7 x8 x9 x10 x11 x12 x13 x14 x15 x16 x17 x18 x19 x20 x21 f0 f1 f2 f3 f4 f5 f6 f7 f8 f9 f10 f11 f12 f13 f14 f15 f16 f17 f18 f19 f20 f21 fL fN fP fM fO) s.heap := hP
  have hD : va_D A (mW ad kc x0 x1 x2 x3 x4 x5 x6 x7 x8 x9 x10 x11 x12 x13 x14 x15 x16 x17 x18 x19 x20 x21 f0 f1 f2 f3 f4 f5 f6 f7 f8 f9 f10 f11 f12 f13 f14 f15 f16 f17 f18 f19 f20 f21 fL fN fP fM fO) := hD
  have hK : va_K (dC, dI) vwCl (mT kc) s := hK
  generalize hH : s.heap = H at hP ⊢
  have hS : va_S A s.heap H [] := by rw [← hH]; exact va_S.rf
  have hl := lv_entry ([.ref (ad 0)]) (n := 1) (Nat.le_of_ble_eq_true rfl)
  rw [lg_entry_eq]
  generalize (lg_sl ([.ref (ad 0)]) ++ List.replicate (1 - (lg_sl ([.ref (ad 0)])).length) Slot.unset).toArray = ls at hl ⊢
  have hl : lv_has ls 1 [(0, .ref (ad 0))] := hl
  refine lv_aload_n hx hb dX10_newNeed_0 rfl (lv_at hl 0 rfl) ?_
  refine lv_aload_n hx hb dX10_newNeed_1 rfl (lv_at hl 0 rfl) ?_
  refine va_get (D := (dC, dI)) (ci := 10) (v := .int x17) (C := RX10) (T := TX10) (N := 48) hx hb hts fin_X10_newNeedm_X10 hown hK hP 0 rfl rfl 31 (by decide) (hts (.fieldLink RX10 300 "PatternGateModel" "needTop" "I") (List.mem_of_getElem? (i := 1) (by decide +kernel))) (fun _ h9 => h9) rfl dX10_newNeed_2 ?_
  have hFc := m_free hD hS hA
  refine va_callv (va_runV (As := [.int x17]) (rest := []) ⟨hx, hb, hml, hown, hts⟩ (m_oneEmpty l dC dI ad kc x0 x1 x2 x3 x4 x5 x6 x7 x8 x9 x10 x11 x12 x13 x14 x15 x16 x17 x18 x19 x20 x21 f0 f1 f2 f3 f4 f5 f6 f7 f8 f9 f10 f11 f12 f13 f14 f15 f16 f17 f18 f19 f20 f21 fL fN fP fM fO H.size x17 (by first | omega | assumption | decide | (have l0 := Int32.toInt_zero; omega)) (by first | omega | assumption | decide | (have l0 := Int32.toInt_zero; omega))) (cwV 1 hts mg_X10_newNeedm_X10_oneEmpty_303 rfl rfl rfl (by decide +kernel) ⟨Nat.le_of_ble_eq_true rfl, Nat.le_of_ble_eq_true rfl⟩) ⟨fun a U g mk q => by obtain ⟨q0, q1, qP, qK, qD⟩ := q; exact ⟨q0, q1, qP, va_K.moved (u := U) (U := U.calling g mk a) (Vm.Alike.refl U.vm) qK, qD⟩, va_recv hK hP (ci := 10) (q0 := 0) rfl rfl, fun U hU hW => ⟨rfl, by rw [hU], by rw [hU]; exact hP, va_K.moved hW.alike hK, hD.weaken (fun _ _ _ _ => trivial)⟩⟩ rfl rfl hl.1 rfl (lv_room (Nat.le_of_ble_eq_true rfl)) dX10_newNeed_5 ⟨Nat.le_of_ble_eq_true rfl, Nat.le_of_ble_eq_true rfl⟩) hS (fun q _ h => hFc q h) hFc (fun u t H1 locs ht hvm hw hB hz1 hk1 hS => ?_)
  obtain ⟨f_2, Nn_3, M_4, O_5, hr_1_0, hr_1_1, hr_1_2, hP, hK1, hD1⟩ := hB
  rw [ht] at hP
  have hD := hD1.weaken (fun k q _ h => hFc q.1 h)
  generalize H1 = H at hP hS ⊢
  have hP : va_P (dC, dI) vwCl (mW ad kc x0 x1 x2 x3 x4 x5 x6 x7 x8 x9 x10 x11 x12 x13 x14 x15 x16 x17 x18 x19 x20 x21 f0 f1 f2 f3 f4 f5 f6 f7 f8 f9 f_2 f11 f12 f13 f14 f15 f16 f17 f18 f19 f20 f21 fL Nn_3 fP M_4 O_5) H := hP
  have hD : va_D A (mW ad kc x0 x1 x2 x3 x4 x5 x6 x7 x8 x9 x10 x11 x12 x13 x14 x15 x16 x17 x18 x19 x20 x21 f0 f1 f2 f3 f4 f5 f6 f7 f8 f9 f_2 f11 f12 f13 f14 f15 f16 f17 f18 f19 f20 f21 fL Nn_3 fP M_4 O_5) := hD
  refine lv_aload_n hx hb dX10_newNeed_8 rfl (lv_at hl 0 rfl) ?_
  refine lv_dup hx hb dX10_newNeed_9 rfl ?_
  refine va_get (D := (dC, dI)) (ci := 10) (v := .int x17) (C := RX10) (T := TX10) (N := 48) hx hb hts fin_X10_newNeedm_X10 hown hK hP 0 rfl rfl 31 (by decide) (hts (.fieldLink RX10 300 "PatternGateModel" "needTop" "I") (List.mem_of_getElem? (i := 1) (by decide +kernel))) (fun _ h9 => h9) rfl dX10_newNeed_10 ?_
  refine lv_iconst (v := 1) hx hb dX10_newNeed_13 (by decide) ?_
  refine lv_iadd hx hb dX10_newNeed_14 ?_
  refine lv_topi (fun y_6 ey_6 => ?_)
  first | have ty_6 := i_add (a := x17.toInt) (b := 1) rfl (by decide) ey_6 (by omega) (by omega) | skip
  refine va_put (D := (dC, dI)) (ci := 10) (v := .int y_6) (ty := .int) (C := RX10) (T := TX10) (N := 48) hx hb hts fin_X10_newNeedm_X10 tyX10 tyX10_ok nmX10 hown hK hP hD hS 0 rfl rfl 31 (by decide) (hts (.fieldLink RX10 300 "PatternGateModel" "needTop" "I") (List.mem_of_getElem? (i := 1) (by decide +kernel))) (fun _ h9 => h9) rfl (by decide +kernel) rfl rfl (Nat.le_of_ble_eq_true rfl) dX10_newNeed_15 (fun H locs hP hD hS => ?_)
  have hP : va_P (dC, dI) vwCl (mW ad kc x0 x1 x2 x3 x4 x5 x6 x7 x8 x9 x10 x11 x12 x13 x14 x15 x16 y_6 x18 x19 x20 x21 f0 f1 f2 f3 f4 f5 f6 f7 f8 f9 f_2 f11 f12 f13 f14 f15 f16 f17 f18 f19 f20 f21 fL Nn_3 fP M_4 O_5) H := hP
  have hD : va_D A (mW ad kc x0 x1 x2 x3 x4 x5 x6 x7 x8 x9 x10 x11 x12 x13 x14 x15 x16 y_6 x18 x19 x20 x21 f0 f1 f2 f3 f4 f5 f6 f7 f8 f9 f_2 f11 f12 f13 f14 f15 f16 f17 f18 f19 f20 f21 fL Nn_3 fP M_4 O_5) := hD
  refine lv_aload_n hx hb dX10_newNeed_18 rfl (lv_at hl 0 rfl) ?_
  refine va_get (D := (dC, dI)) (ci := 10) (v := .int y_6) (C := RX10) (T := TX10) (N := 48) hx hb hts fin_X10_newNeedm_X10 hown hK hP 0 rfl rfl 31 (by decide) (hts (.fieldLink RX10 300 "PatternGateModel" "needTop" "I") (List.mem_of_getElem? (i := 1) (by decide +kernel))) (fun _ h9 => h9) rfl dX10_newNeed_19 ?_
  refine lv_iconst (v := 1) hx hb dX10_newNeed_22 (by decide) ?_
  refine lv_isub hx hb dX10_newNeed_23 ?_
  refine lv_topi (fun y_7 ey_7 => ?_)
  first | have ty_7 := i_sub (a := y_6.toInt) (b := 1) rfl (by decide) ey_7 (by omega) (by omega) | skip
  exact W.iret hx hb hr (fun t ht hW => ⟨⟨_, _, rfl, rfl, y_6, f_2, Nn_3, M_4, O_5, (by first | omega | assumption | rfl | decide), (by first | omega | assumption | rfl | decide), (by first | omega | assumption | rfl | decide), (by first | omega | assumption | rfl | decide), (by first | omega | assumption | rfl | decide), by rw [ht]; exact hP, va_K.moved hW.alike hK, hD⟩, hS.F ht⟩) hS.2.2 dX10_newNeed_24
theorem dX10_copiesNeed_0 : decode cX10_copiesNeed 0 = .ok (.aload_n 0, 1) := by decide +kernel
theorem dX10_copiesNeed_1 : decode cX10_copiesNeed 1 = .ok (.getfield 64, 3) := by decide +kernel
theorem dX10_copiesNeed_4 : decode cX10_copiesNeed 4 = .ok (.iload_n 2, 1) := by decide +kernel
theorem dX10_copiesNeed_5 : decode cX10_copiesNeed 5 = .ok (.aload_n 0, 1) := by decide +kernel
theorem dX10_copiesNeed_6 : decode cX10_copiesNeed 6 = .ok (.getfield 64, 3) := by decide +kernel
theorem dX10_copiesNeed_9 : decode cX10_copiesNeed 9 = .ok (.iload_n 1, 1) := by decide +kernel
theorem dX10_copiesNeed_10 : decode cX10_copiesNeed 10 = .ok (.iaload, 1) := by decide +kernel
theorem dX10_copiesNeed_11 : decode cX10_copiesNeed 11 = .ok (.iastore, 1) := by decide +kernel
theorem dX10_copiesNeed_12 : decode cX10_copiesNeed 12 = .ok (.iconst 0, 1) := by decide +kernel
theorem dX10_copiesNeed_13 : decode cX10_copiesNeed 13 = .ok (.istore_n 3, 1) := by decide +kernel
theorem dX10_copiesNeed_14 : decode cX10_copiesNeed 14 = .ok (.iload_n 3, 1) := by decide +kernel
theorem dX10_copiesNeed_15 : decode cX10_copiesNeed 15 = .ok (.aload_n 0, 1) := by decide +kernel
theorem dX10_copiesNeed_16 : decode cX10_copiesNeed 16 = .ok (.getfield 64, 3) := by decide +kernel
theorem dX10_copiesNeed_19 : decode cX10_copiesNeed 19 = .ok (.iload_n 1, 1) := by decide +kernel
theorem dX10_copiesNeed_20 : decode cX10_copiesNeed 20 = .ok (.iaload, 1) := by decide +kernel
theorem dX10_copiesNeed_21 : decode cX10_copiesNeed 21 = .ok (.if_icmp .ge 28, 3) := by decide +kernel
theorem dX10_copiesNeed_24 : decode cX10_copiesNeed 24 = .ok (.aload_n 0, 1) := by decide +kernel
theorem dX10_copiesNeed_25 : decode cX10_copiesNeed 25 = .ok (.getfield 56, 3) := by decide +kernel
theorem dX10_copiesNeed_28 : decode cX10_copiesNeed 28 = .ok (.iload_n 1, 1) := by decide +kernel
theorem dX10_copiesNeed_29 : decode cX10_copiesNeed 29 = .ok (.aaload, 1) := by decide +kernel
theorem dX10_copiesNeed_30 : decode cX10_copiesNeed 30 = .ok (.iload_n 3, 1) := by decide +kernel
theorem dX10_copiesNeed_31 : decode cX10_copiesNeed 31 = .ok (.aaload, 1) := by decide +kernel
theorem dX10_copiesNeed_32 : decode cX10_copiesNeed 32 = .ok (.aload_n 0, 1) := by decide +kernel
theorem dX10_copiesNeed_33 : decode cX10_copiesNeed 33 = .ok (.getfield 56, 3) := by decide +kernel
theorem dX10_copiesNeed_36 : decode cX10_copiesNeed 36 = .ok (.iload_n 2, 1) := by decide +kernel
theorem dX10_copiesNeed_37 : decode cX10_copiesNeed 37 = .ok (.aaload, 1) := by decide +kernel
theorem dX10_copiesNeed_38 : decode cX10_copiesNeed 38 = .ok (.iload_n 3, 1) := by decide +kernel
theorem dX10_copiesNeed_39 : decode cX10_copiesNeed 39 = .ok (.aaload, 1) := by decide +kernel
theorem dX10_copiesNeed_40 : decode cX10_copiesNeed 40 = .ok (.invokestatic 296, 3) := by decide +kernel
theorem dX10_copiesNeed_43 : decode cX10_copiesNeed 43 = .ok (.iinc 3 1, 3) := by decide +kernel
theorem dX10_copiesNeed_46 : decode cX10_copiesNeed 46 = .ok (.goto (-32), 3) := by decide +kernel
theorem dX10_copiesNeed_49 : decode cX10_copiesNeed 49 = .ok (.return_, 1) := by decide +kernel
def mwX10_copiesNeedm : List Cond := .code yX10_copiesNeed cX10_copiesNeed 4 none :: ([.fieldLink RX10 64 "PatternGateModel" "needMany" "[I", .fieldLink RX10 56 "PatternGateModel" "needs" "[[[I", .code yX10_lays cX10_lays 3 none, .methodLink RX10 296 yX10_lays, .static yX10_lays, .initialized RX10] ++ wsX100)
theorem fin_X10_copiesNeedm_X10 : ∀ w ∈ wsX100, w ∈ mwX10_copiesNeedm := fun w h => List.mem_cons_of_mem _ (List.mem_append_right _ h)
set_option maxRecDepth 20000 in
theorem mg_X10_copiesNeedm_X10_lays_296 : GoodIn mwX10_copiesNeedm (va_wsS RX10 296 yX10_lays mwX10_laysm) := goodIn_r _ [4, 5, 6, 3] (by decide +kernel) (by decide +kernel)
set_option maxHeartbeats 4000000 in
set_option maxRecDepth 100000 in
theorem m_copiesNeed (l : Launch) (dC : Nat → ClassId) (dI : Nat → Nat → Nat) (ad : Nat → Nat) (kc : Nat → ClassId) (x0 x1 x2 x3 x4 x5 x6 x7 x8 x9 x10 x11 x12 x13 x14 x15 x16 x17 x18 x19 x20 x21 : Int32) (f0 f1 f2 f3 f4 f5 f6 f7 f8 f9 f10 f11 f12 f13 f14 f15 f16 f17 f18 f19 f20 f21 : Nat → Int32) (fL : Nat → Nat → Int64) (fN : Nat → Nat → Int32) (fP : Nat → Nat → Nat) (fM : Nat → Nat → Int32) (fO : Nat → Nat → Int32) (sz : Nat) (i1 i2 : Int32) (bb : Int) (q0 : 0 ≤ i1.toInt ∧ i1.toInt < 60) (q1 : 0 ≤ i2.toInt ∧ i2.toInt < 60) (q2 : i1.toInt ≠ i2.toInt) (q3 : nOK (rO fN fM fO) fP f10 i1.toInt bb) (q4 : PI fP) (q5 : bb ≤ 168) : Met l yX10_copiesNeed mwX10_copiesNeedm ({ frames := 1, cells := 0, slots := 0, locals := 60 }) (va_Pc [.ref (ad 0), .int i1, .int i2] (fun U => U.heap.size = sz ∧ va_P (dC, dI) vwCl (mW ad kc x0 x1 x2 x3 x4 x5 x6 x7 x8 x9 x10 x11 x12 x13 x14 x15 x16 x17 x18 x19 x20 x21 f0 f1 f2 f3 f4 f5 f6 f7 f8 f9 f10 f11 f12 f13 f14 f15 f16 f17 f18 f19 f20 f21 fL fN fP fM fO) U.heap ∧ va_K (dC, dI) vwCl (mT kc) U ∧ va_D (fun _ => True) (mW ad kc x0 x1 x2 x3 x4 x5 x6 x7 x8 x9 x10 x11 x12 x13 x14 x15 x16 x17 x18 x19 x20 x21 f0 f1 f2 f3 f4 f5 f6 f7 f8 f9 f10 f11 f12 f13 f14 f15 f16 f17 f18 f19 f20 f21 fL fN fP fM fO))) (va_Qv (fun (_ : Unit) => True) (fun _ t => ∃ (g10 : Nat → Int32) (Nn9 : Nat → Nat → Int32) (M9 : Nat → Nat → Int32) (O9 : Nat → Nat → Int32), (nOK (rO Nn9 M9 O9) fP g10 i2.toInt bb) ∧ (nFm (rO fN fM fO) (rO Nn9 M9 O9) i2.toInt) ∧ (∀ z : Int, 0 ≤ z → z ≠ i2.toInt → vI g10 z = vI f10 z) ∧ va_P (dC, dI) vwCl (mW ad kc x0 x1 x2 x3 x4 x5 x6 x7 x8 x9 x10 x11 x12 x13 x14 x15 x16 x17 x18 x19 x20 x21 f0 f1 f2 f3 f4 f5 f6 f7 f8 f9 g10 f11 f12 f13 f14 f15 f16 f17 f18 f19 f20 f21 fL Nn9 fP M9 O9) t.heap ∧ va_K (dC, dI) vwCl (mT kc) t ∧ va_D (va_A (mW ad kc x0 x1 x2 x3 x4 x5 x6 x7 x8 x9 x10 x11 x12 x13 x14 x15 x16 x17 x18 x19 x20 x21 f0 f1 f2 f3 f4 f5 f6 f7 f8 f9 f10 f11 f12 f13 f14 f15 f16 f17 f18 f19 f20 f21 fL fN fP fM fO) sz) (mW ad kc x0 x1 x2 x3 x4 x5 x6 x7 x8 x9 x10 x11 x12 x13 x14 x15 x16 x17 x18 x19 x20 x21 f0 f1 f2 f3 f4 f5 f6 f7 f8 f9 g10 f11 f12 f13 f14 f15 f16 f17 f18 f19 f20 f21 fL Nn9 fP M9 O9)) (va_A (mW ad kc x0 x1 x2 x3 x4 x5 x6 x7 x8 x9 x10 x11 x12 x13 x14 x15 x16 x17 x18 x19 x20 x21 f0 f1 f2 f3 f4 f5 f6 f7 f8 f9 f10 f11 f12 f13 f14 f15 f16 f17 f18 f19 f20 f21 fL fN fP fM fO) sz)) 0 0 (va_A (mW ad kc x0 x1 x2 x3 x4 x5 x6 x7 x8 x9 x10 x11 x12 x13 x14 x15 x16 x17 x18 x19 x20 x21 f0 f1 f2 f3 f4 f5 f6 f7 f8 f9 f10 f11 f12 f13 f14 f15 f16 f17 f18 f19 f20 f21 fL fN fP fM fO) sz) := by
  refine Met.ofW (cc := cX10_copiesNeed) (maxL := 4) (ret := none) (by decide +kernel) rfl ?_
  intro p e s m args below meth c s₁ B hml hv
  obtain ⟨rfl, hsz, hP, hK, hD0⟩ := hv
  have hx := B.exec
  have hb := B.bytes
  have hr := B.returns
  have hts := atoms_spec (ws := mwX10_copiesNeedm) B.pre
  have hown : s.vm.findClass RX10 = some m.cls := findClass_of_methodNamed B.named
  have hlocks := B.notSynchronized
  subst hsz
  have hD := hD0.self (sz := s.heap.size)
  generalize hAe : va_A (mW ad kc x0 x1 x2 x3 x4 x5 x6 x7 x8 x9 x10 x11 x12 x13 x14 x15 x16 x17 x18 x19 x20 x21 f0 f1 f2 f3 f4 f5 f6 f7 f8 f9 f10 f11 f12 f13 f14 f15 f16 f17 f18 f19 f20 f21 fL fN fP fM fO) s.heap.size = A at hD ⊢
  have hA : ∀ q : Nat, s.heap.size ≤ q → A q := fun q h => by rw [← hAe]; exact Or.inr h
  have hP : va_P (dC, dI) vwCl (mW ad kc x0 x1 x2 x3 x4 x5 x6 x7 x8 x9 x10 x11 x12 x13 x14 x15 x16 x17 x18 x19 x20 x21 f0 f1 f2 f3 f4 f5 f6 f7 f8 f9 f10 f11 f12 f13 f14 f15 f16 f17 f18 f19 f20 f21 fL fN fP fM fO) s.heap := hP
  have hD : va_D A (mW ad kc x0 x1 x2 x3 x4 x5 x6 x7 x8 x9 x10 x11 x12 x13 x14 x15 x16 x17 x18 x19 x20 x21 f0 f1 f2 f3 f4 f5 f6 f7 f8 f9 f10 f11 f12 f13 f14 f15 f16 f17 f18 f19 f20 f21 fL fN fP fM fO) := hD
  have hK : va_K (dC, dI) vwCl (mT kc) s := hK
  generalize hH : s.heap = H at hP ⊢
  have hS : va_S A s.heap H [] := by rw [← hH]; exact va_S.rf
  have hl := lv_entry ([.ref (ad 0), .int i1, .int i2]) (n := 4) (Nat.le_of_ble_eq_true rfl)
  rw [lg_entry_eq]
  generalize (lg_sl ([.ref (ad 0), .int i1, .int i2]) ++ List.replicate (4 - (lg_sl ([.ref (ad 0), .int i1, .int i2])).length) Slot.unset).toArray = ls at hl ⊢
  have hl : lv_has ls 4 [(0, .ref (ad 0)), (1, .int i1), (2, .int i2)] := hl
  have rg_i1 := i_rng i1
  have rg_i2 := i_rng i2
  refine lv_aload_n hx hb dX10_copiesNeed_0 rfl (lv_at hl 0 rfl) ?_
  refine va_get (D := (dC, dI)) (ci := 10) (v := .ref (ad 11)) (C := RX10) (T := TX10) (N := 48) hx hb hts fin_X10_copiesNeedm_X10 hown hK hP 0 rfl rfl 30 (by decide) (hts (.fieldLink RX10 64 "PatternGateModel" "needMany" "[I") (List.mem_of_getElem? (i := 1) (by decide +kernel))) (fun _ h9 => h9) rfl dX10_copiesNeed_1 ?_
  refine lv_iload_n hx hb dX10_copiesNeed_4 rfl (lv_at hl 2 rfl) ?_
  refine lv_aload_n hx hb dX10_copiesNeed_5 rfl (lv_at hl 0 rfl) ?_
  refine va_get (D := (dC, dI)) (ci := 10) (v := .ref (ad 11)) (C := RX10) (T := TX10) (N := 48) hx hb hts fin_X10_copiesNeedm_X10 hown hK hP 0 rfl rfl 30 (by decide) (hts (.fieldLink RX10 64 "PatternGateModel" "needMany" "[I") (List.mem_of_getElem? (i := 1) (by decide +kernel))) (fun _ h9 => h9) rfl dX10_copiesNeed_6 ?_
  refine lv_iload_n hx hb dX10_copiesNeed_9 rfl (lv_at hl 1 rfl) ?_
  refine va_iald hx hb hK hP 11 10 rfl rfl (i := i1) (vp_of (a := i1.toInt) rfl (by omega) (by omega)) dX10_copiesNeed_10 ?_
  refine lv_topi (fun y_1 ey_1 => ?_)
  have rg_y_1 := i_rng y_1
  have vy_1 := vI_lda (f := f10) (i := i1) (a := i1.toInt) ey_1 (by first | omega | decide)
  have rg_y_1 := i_rng y_1
  refine va_iast hx hb hK hP hD hS 11 10 rfl rfl (i := i2) (vp_of (a := i2.toInt) rfl (by omega) (by omega)) dX10_copiesNeed_11 (fun H locs hP hD hS => ?_)
  generalize hf_f_2 : upd f10 _ _ = f_2 at hP hD
  have uf_2 := vI_up (a := i2.toInt) (b := y_1.toInt) hf_f_2 (by first | omega | decide) (by omega) rfl
  have hP : va_P (dC, dI) vwCl (mW ad kc x0 x1 x2 x3 x4 x5 x6 x7 x8 x9 x10 x11 x12 x13 x14 x15 x16 x17 x18 x19 x20 x21 f0 f1 f2 f3 f4 f5 f6 f7 f8 f9 f_2 f11 f12 f13 f14 f15 f16 f17 f18 f19 f20 f21 fL fN fP fM fO) H := hP
  have hD : va_D A (mW ad kc x0 x1 x2 x3 x4 x5 x6 x7 x8 x9 x10 x11 x12 x13 x14 x15 x16 x17 x18 x19 x20 x21 f0 f1 f2 f3 f4 f5 f6 f7 f8 f9 f_2 f11 f12 f13 f14 f15 f16 f17 f18 f19 f20 f21 fL fN fP fM fO) := hD
  have u9 := uf_2
  have u8 := u9.2 i1.toInt (by omega) (by omega)
  have q3a := q3.1
  have q3b := q3.2.1
  refine lv_iconst (v := 0) hx hb dX10_copiesNeed_12 (by decide) ?_
  refine lv_istore_n (lv' := [(3, .int 0), (0, .ref (ad 0)), (1, .int i1), (2, .int i2)]) hx hb dX10_copiesNeed_13 rfl hl (by decide) rfl (fun ls hl => ?_)
  have loop14 : ∀ (lm14 : Nat) (kk : Int32) (hn : Nat → Nat → Int32) (hm : Nat → Nat → Int32) (ho : Nat → Nat → Int32), (0 ≤ kk.toInt) → (kk.toInt ≤ vI f10 i1.toInt) → (nFm (rO fN fM fO) (rO hn hm ho) i2.toInt) → (bcI (rO hn hm ho) fP i2.toInt kk.toInt bb) → ((vI f10 i1.toInt - kk.toInt).toNat) < lm14 → ∀ (H : Heap) (locs : List Loc) (ls : Array Slot), va_P (dC, dI) vwCl (mW ad kc x0 x1 x2 x3 x4 x5 x6 x7 x8 x9 x10 x11 x12 x13 x14 x15 x16 x17 x18 x19 x20 x21 f0 f1 f2 f3 f4 f5 f6 f7 f8 f9 f_2 f11 f12 f13 f14 f15 f16 f17 f18 f19 f20 f21 fL hn fP hm ho) H → va_D A (mW ad kc x0 x1 x2 x3 x4 x5 x6 x7 x8 x9 x10 x11 x12 x13 x14 x15 x16 x17 x18 x19 x20 x21 f0 f1 f2 f3 f4 f5 f6 f7 f8 f9 f_2 f11 f12 f13 f14 f15 f16 f17 f18 f19 f20 f21 fL hn fP hm ho) → va_S A s.heap H locs → lv_has ls 4 [(3, .int kk), (0, .ref (ad 0)), (1, .int i1), (2, .int i2)] → W p l e (headSpec mwX10_copiesNeedm ({ frames := 1, cells := 0, slots := 0, locals := 60 })).room s m ([.ref (ad 0), .int i1, .int i2]).toArray below meth c H locs 0 0 (MQ below (va_Qv (fun (_ : Unit) => True) (fun _ t => ∃ (g10 : Nat → Int32) (Nn9 : Nat → Nat → Int32) (M9 : Nat → Nat → Int32) (O9 : Nat → Nat → Int32), (nOK (rO Nn9 M9 O9) fP g10 i2.toInt bb) ∧ (nFm (rO fN fM fO) (rO Nn9 M9 O9) i2.toInt) ∧ (∀ z : Int, 0 ≤ z → z ≠ i2.toInt → vI g10 z = vI f10 z) ∧ va_P (dC, dI) vwCl (mW ad kc x0 x1 x2 x3 x4 x5 x6 x7 x8 x9 x10 x11 x12 x13 x14 x15 x16 x17 x18 x19 x20 x21 f0 f1 f2 f3 f4 f5 f6 f7 f8 f9 g10 f11 f12 f13 f14 f15 f16 f17 f18 f19 f20 f21 fL Nn9 fP M9 O9) t.heap ∧ va_K (dC, dI) vwCl (mT kc) t ∧ va_D A (mW ad kc x0 x1 x2 x3 x4 x5 x6 x7 x8 x9 x10 x11 x12 x13 x14 x15 x16 x17 x18 x19 x20 x21 f0 f1 f2 f3 f4 f5 f6 f7 f8 f9 g10 f11 f12 f13 f14 f15 f16 f17 f18 f19 f20 f21 fL Nn9 fP M9 O9)) A) ([.ref (ad 0), .int i1, .int i2]).toArray s 0 0 A) (F0 m 14 ls []) := by
    intro lm14
    induction lm14 with
    | zero => intro kk hn hm ho v14_0 v14_1 v14_2 v14_3 hm14; exact absurd hm14 (Nat.not_lt_zero _)
    | succ lm14 ih14 =>
      intro kk hn hm ho v14_0 v14_1 v14_2 v14_3 hm14 H locs ls hP hD hS hl
      have rg_kk := i_rng kk
      refine lv_iload_n hx hb dX10_copiesNeed_14 rfl (lv_at hl 0 rfl) ?_
      refine lv_aload_n hx hb dX10_copiesNeed_15 rfl (lv_at hl 1 rfl) ?_
      refine va_get (D := (dC, dI)) (ci := 10) (v := .ref (ad 11)) (C := RX10) (T := TX10) (N := 48) hx hb hts fin_X10_copiesNeedm_X10 hown hK hP 0 rfl rfl 30 (by decide) (hts (.fieldLink RX10 64 "PatternGateModel" "needMany" "[I") (List.mem_of_getElem? (i := 1) (by decide +kernel))) (fun _ h9 => h9) rfl dX10_copiesNeed_16 ?_
      refine lv_iload_n hx hb dX10_copiesNeed_19 rfl (lv_at hl 2 rfl) ?_
      refine va_iald hx hb hK hP 11 10 rfl rfl (i := i1) (vp_of (a := i1.toInt) rfl (by omega) (by omega)) dX10_copiesNeed_20 ?_
      refine lv_topi (fun y_3 ey_3 => ?_)
      have rg_y_3 := i_rng y_3
      have vy_3 := vI_lda (f := f_2) (i := i1) (a := i1.toInt) ey_3 (by first | omega | decide)
      have rg_y_3 := i_rng y_3
      refine lv_icmp_ge (tgt := 49) hx hb dX10_copiesNeed_21 (by decide) (fun k_4 => ?_) (fun k_4 => ?_)
      · have tk_4 := c_ge (a := kk.toInt) (b := y_3.toInt) rfl rfl k_4
        exact W.vret hx hb hr (fun t ht hW => ⟨⟨(), rfl, trivial, f_2, hn, hm, ho, ⟨by have h9 := u9.1; omega, by have h9 := u9.1; omega, fun i hi => v14_3 i (by have h9 := u9.1; omega)⟩, v14_2, u9.2, by rw [ht]; exact hP, va_K.moved hW.alike hK, hD⟩, hS.F ht⟩) hS.2.2 dX10_copiesNeed_49
      · have tk_4 := c_nge (a := kk.toInt) (b := y_3.toInt) rfl rfl k_4
        refine lv_aload_n hx hb dX10_copiesNeed_24 rfl (lv_at hl 1 rfl) ?_
        refine va_get (D := (dC, dI)) (ci := 10) (v := .ref (ad 24)) (C := RX10) (T := TX10) (N := 48) hx hb hts fin_X10_copiesNeedm_X10 hown hK hP 0 rfl rfl 28 (by decide) (hts (.fieldLink RX10 56 "PatternGateModel" "needs" "[[[I") (List.mem_of_getElem? (i := 2) (by decide +kernel))) (fun _ h9 => h9) rfl dX10_copiesNeed_25 ?_
        refine lv_iload_n hx hb dX10_copiesNeed_28 rfl (lv_at hl 2 rfl) ?_
        refine m_aak hx hb hK hP 24 23 (k := i1.toInt.toNat) (b := ad (200 + i1.toInt.toNat)) rfl rfl rfl (i := i1) (by omega) (by omega) rfl dX10_copiesNeed_29 ?_
        refine lv_iload_n hx hb dX10_copiesNeed_30 rfl (lv_at hl 0 rfl) ?_
        refine m_aak hx hb hK hP (117 + i1.toInt.toNat) 27 (k := kk.toInt.toNat) (b := ad (300 + (12 * i1.toInt.toNat + fP i1.toInt.toNat kk.toInt.toNat))) (mW_P (by omega)) rfl rfl (i := kk) (by omega) (by omega) rfl dX10_copiesNeed_31 ?_
        have hp31 := (q4 i1.toInt.toNat kk.toInt.toNat (by omega)).1
        refine lv_aload_n hx hb dX10_copiesNeed_32 rfl (lv_at hl 1 rfl) ?_
        refine va_get (D := (dC, dI)) (ci := 10) (v := .ref (ad 24)) (C := RX10) (T := TX10) (N := 48) hx hb hts fin_X10_copiesNeedm_X10 hown hK hP 0 rfl rfl 28 (by decide) (hts (.fieldLink RX10 56 "PatternGateModel" "needs" "[[[I") (List.mem_of_getElem? (i := 2) (by decide +kernel))) (fun _ h9 => h9) rfl dX10_copiesNeed_33 ?_
        refine lv_iload_n hx hb dX10_copiesNeed_36 rfl (lv_at hl 3 rfl) ?_
        refine m_aak hx hb hK hP 24 23 (k := i2.toInt.toNat) (b := ad (200 + i2.toInt.toNat)) rfl rfl rfl (i := i2) (by omega) (by omega) rfl dX10_copiesNeed_37 ?_
        refine lv_iload_n hx hb dX10_copiesNeed_38 rfl (lv_at hl 0 rfl) ?_
        refine m_aak hx hb hK hP (117 + i2.toInt.toNat) 27 (k := kk.toInt.toNat) (b := ad (300 + (12 * i2.toInt.toNat + fP i2.toInt.toNat kk.toInt.toNat))) (mW_P (by omega)) rfl rfl (i := kk) (by omega) (by omega) rfl dX10_copiesNeed_39 ?_
        have hp39 := (q4 i2.toInt.toNat kk.toInt.toNat (by omega)).1
        have hz0 := q3.2.2 kk.toInt.toNat (by omega)
        have hz1 := vI_cg (z := 0) (v14_2 (300 + (12 * i1.toInt.toNat + fP i1.toInt.toNat kk.toInt.toNat)) (by unfold IR; omega) (by omega) (by omega))
        have hFc := m_free hD hS hA
        refine va_callv (va_runS (As := [.ref (ad (300 + (12 * i1.toInt.toNat + fP i1.toInt.toNat kk.toInt.toNat))), .ref (ad (300 + (12 * i2.toInt.toNat + fP i2.toInt.toNat kk.toInt.toNat)))]) (rest := []) ⟨hx, hb, hml, hown, hts⟩ (m_lays l dC dI ad kc x0 x1 x2 x3 x4 x5 x6 x7 x8 x9 x10 x11 x12 x13 x14 x15 x16 x17 x18 x19 x20 x21 f0 f1 f2 f3 f4 f5 f6 f7 f8 f9 f_2 f11 f12 f13 f14 f15 f16 f17 f18 f19 f20 f21 fL hn fP hm ho H.size (300 + (12 * i1.toInt.toNat + fP i1.toInt.toNat kk.toInt.toNat)) (300 + (12 * i2.toInt.toNat + fP i2.toInt.toNat kk.toInt.toNat)) (by first | assumption | (unfold IR; omega)) (by first | assumption | (unfold IR; omega)) (by first | omega | assumption | decide | (have l0 := Int32.toInt_zero; omega)) (by first | omega | assumption | decide | (have l0 := Int32.toInt_zero; omega))) (va_cwS 2 hts mg_X10_copiesNeedm_X10_lays_296 rfl rfl rfl (by decide +kernel) ⟨Nat.le_of_ble_eq_true rfl, Nat.le_of_ble_eq_true rfl⟩) ⟨fun a U g mk q => by obtain ⟨q0, q1, qP, qK, qD⟩ := q; exact ⟨q0, q1, qP, va_K.moved (u := U) (U := U.calling g mk a) (Vm.Alike.refl U.vm) qK, qD⟩, fun U hU hW => ⟨rfl, by rw [hU], by rw [hU]; exact hP, va_K.moved hW.alike hK, hD.weaken (fun _ _ _ _ => trivial)⟩⟩ rfl rfl hl.1 rfl (lv_room (Nat.le_of_ble_eq_true rfl)) dX10_copiesNeed_40 ⟨Nat.le_of_ble_eq_true rfl, Nat.le_of_ble_eq_true rfl⟩) hS (fun q _ h => hFc q h) hFc (fun u t H1 locs ht hvm hw hB hz1 hk1 hS => ?_)
        obtain ⟨Nn_6, M_7, O_8, hr_5_0, hr_5_1, hP, hK1, hD1⟩ := hB
        rw [ht] at hP
        have hD := hD1.weaken (fun k q _ h => hFc q.1 h)
        generalize H1 = H at hP hS ⊢
        have hP : va_P (dC, dI) vwCl (mW ad kc x0 x1 x2 x3 x4 x5 x6 x7 x8 x9 x10 x11 x12 x13 x14 x15 x16 x17 x18 x19 x20 x21 f0 f1 f2 f3 f4 f5 f6 f7 f8 f9 f_2 f11 f12 f13 f14 f15 f16 f17 f18 f19 f20 f21 fL Nn_6 fP M_7 O_8) H := hP
        have hD : va_D A (mW ad kc x0 x1 x2 x3 x4 x5 x6 x7 x8 x9 x10 x11 x12 x13 x14 x15 x16 x17 x18 x19 x20 x21 f0 f1 f2 f3 f4 f5 f6 f7 f8 f9 f_2 f11 f12 f13 f14 f15 f16 f17 f18 f19 f20 f21 fL Nn_6 fP M_7 O_8) := hD
        obtain ⟨y_9, ey_9⟩ : ∃ y : Int32, y = kk + 1 := ⟨_, rfl⟩
        first | have ty_9 := i_add (a := kk.toInt) (b := 1) rfl (by decide) ey_9 (by omega) (by omega) | skip
        refine lv_iinc (v := y_9) (lv' := [(3, .int y_9), (0, .ref (ad 0)), (1, .int i1), (2, .int i2)]) hx hb dX10_copiesNeed_43 hl (k := 0) rfl (by rw [ey_9]; rfl) (by decide) rfl (fun ls hl => ?_)
        refine lv_goto (tgt := 14) hx hb dX10_copiesNeed_46 (by decide) ?_
        exact ih14 y_9 Nn_6 M_7 O_8 (by first | omega | assumption | decide) (by first | omega | assumption | decide) (v14_2.row hr_5_0 hp39) (bc_step q4 v14_3 hr_5_0 (by omega) (by omega) (by omega) (by omega) (by have h8 := hr_5_1; omega) (by have h8 := hr_5_1; omega) (by omega)) (by omega) _ _ ls hP hD hS (lv_sub hl [0, 1, 2, 3] rfl)
  have lit_9 : (0 : Int32).toInt = 0 := by decide
  exact loop14 _ 0 fN fM fO (by first | omega | assumption | decide) (by first | omega | assumption | decide) nFm.rf (fun i hi => by omega) (Nat.lt_succ_self _) _ _ ls hP hD hS (lv_sub hl [0, 1, 2, 3] rfl)
theorem dX10_either_0 : decode cX10_either 0 = .ok (.aload_n 0, 1) := by decide +kernel
theorem dX10_either_1 : decode cX10_either 1 = .ok (.iconst 0, 1) := by decide +kernel
theorem dX10_either_2 : decode cX10_either 2 = .ok (.putfield 289, 3) := by decide +kernel
theorem dX10_either_5 : decode cX10_either 5 = .ok (.iconst 0, 1) := by decide +kernel
theorem dX10_either_6 : decode cX10_either 6 = .ok (.istore_n 3, 1) := by decide +kernel
theorem dX10_either_7 : decode cX10_either 7 = .ok (.iload_n 3, 1) := by decide +kernel
theorem dX10_either_8 : decode cX10_either 8 = .ok (.aload_n 0, 1) := by decide +kernel
theorem dX10_either_9 : decode cX10_either 9 = .ok (.getfield 64, 3) := by decide +kernel
theorem dX10_either_12 : decode cX10_either 12 = .ok (.iload_n 1, 1) := by decide +kernel
theorem dX10_either_13 : decode cX10_either 13 = .ok (.iaload, 1) := by decide +kernel
theorem dX10_either_14 : decode cX10_either 14 = .ok (.if_icmp .ge 39, 3) := by decide +kernel
theorem dX10_either_17 : decode cX10_either 17 = .ok (.aload_n 0, 1) := by decide +kernel
theorem dX10_either_18 : decode cX10_either 18 = .ok (.getfield 56, 3) := by decide +kernel
theorem dX10_either_21 : decode cX10_either 21 = .ok (.iload_n 1, 1) := by decide +kernel
theorem dX10_either_22 : decode cX10_either 22 = .ok (.aaload, 1) := by decide +kernel
theorem dX10_either_23 : decode cX10_either 23 = .ok (.iload_n 3, 1) := by decide +kernel
theorem dX10_either_24 : decode cX10_either 24 = .ok (.aaload, 1) := by decide +kernel
theorem dX10_either_25 : decode cX10_either 25 = .ok (.aload_n 0, 1) := by decide +kernel
theorem dX10_either_26 : decode cX10_either 26 = .ok (.getfield 61, 3) := by decide +kernel
theorem dX10_either_29 : decode cX10_either 29 = .ok (.aload_n 0, 1) := by decide +kernel
theorem dX10_either_30 : decode cX10_either 30 = .ok (.getfield 289, 3) := by decide +kernel
theorem dX10_either_33 : decode cX10_either 33 = .ok (.aaload, 1) := by decide +kernel
theorem dX10_either_34 : decode cX10_either 34 = .ok (.invokestatic 296, 3) := by decide +kernel
theorem dX10_either_37 : decode cX10_either 37 = .ok (.iinc 3 1, 3) := by decide +kernel
theorem dX10_either_40 : decode cX10_either 40 = .ok (.aload_n 0, 1) := by decide +kernel
theorem dX10_either_41 : decode cX10_either 41 = .ok (.dup, 1) := by decide +kernel
theorem dX10_either_42 : decode cX10_either 42 = .ok (.getfield 289, 3) := by decide +kernel
theorem dX10_either_45 : decode cX10_either 45 = .ok (.iconst 1, 1) := by decide +kernel
theorem dX10_either_46 : decode cX10_either 46 = .ok (.iadd, 1) := by decide +kernel
theorem dX10_either_47 : decode cX10_either 47 = .ok (.putfield 289, 3) := by decide +kernel
theorem dX10_either_50 : decode cX10_either 50 = .ok (.goto (-43), 3) := by decide +kernel
theorem dX10_either_53 : decode cX10_either 53 = .ok (.iconst 0, 1) := by decide +kernel
theorem dX10_either_54 : decode cX10_either 54 = .ok (.istore_n 3, 1) := by decide +kernel
theorem dX10_either_55 : decode cX10_either 55 = .ok (.iload_n 3, 1) := by decide +kernel
theorem dX10_either_56 : decode cX10_either 56 = .ok (.aload_n 0, 1) := by decide +kernel
theorem dX10_either_57 : decode cX10_either 57 = .ok (.getfield 64, 3) := by decide +kernel
theorem dX10_either_60 : decode cX10_either 60 = .ok (.iload_n 2, 1) := by decide +kernel
theorem dX10_either_61 : decode cX10_either 61 = .ok (.iaload, 1) := by decide +kernel
theorem dX10_either_62 : decode cX10_either 62 = .ok (.if_icmp .ge 39, 3) := by decide +kernel
theorem dX10_either_65 : decode cX10_either 65 = .ok (.aload_n 0, 1) := by decide +kernel
theorem dX10_either_66 : decode cX10_either 66 = .ok (.getfield 56, 3) := by decide +kernel
theorem dX10_either_69 : decode cX10_either 69 = .ok (.iload_n 2, 1) := by decide +kernel
theorem dX10_either_70 : decode cX10_either 70 = .ok (.aaload, 1) := by decide +kernel
theorem dX10_either_71 : decode cX10_either 71 = .ok (.iload_n 3, 1) := by decide +kernel
theorem dX10_either_72 : decode cX10_either 72 = .ok (.aaload, 1) := by decide +kernel
theorem dX10_either_73 : decode cX10_either 73 = .ok (.aload_n 0, 1) := by decide +kernel
theorem dX10_either_74 : decode cX10_either 74 = .ok (.getfield 61, 3) := by decide +kernel
theorem dX10_either_77 : decode cX10_either 77 = .ok (.aload_n 0, 1) := by decide +kernel
theorem dX10_either_78 : decode cX10_either 78 = .ok (.getfield 289, 3) := by decide +kernel
theorem dX10_either_81 : decode cX10_either 81 = .ok (.aaload, 1) := by decide +kernel
theorem dX10_either_82 : decode cX10_either 82 = .ok (.invokestatic 296, 3) := by decide +kernel
theorem dX10_either_85 : decode cX10_either 85 = .ok (.iinc 3 1, 3) := by decide +kernel
theorem dX10_either_88 : decode cX10_either 88 = .ok (.aload_n 0, 1) := by decide +kernel
theorem dX10_either_89 : decode cX10_either 89 = .ok (.dup, 1) := by decide +kernel
theorem dX10_either_90 : decode cX10_either 90 = .ok (.getfield 289, 3) := by decide +kernel
theorem dX10_either_93 : decode cX10_either 93 = .ok (.iconst 1, 1) := by decide +kernel
theorem dX10_either_94 : decode cX10_either 94 = .ok (.iadd, 1) := by decide +kernel
theorem dX10_either_95 : decode cX10_either 95 = .ok (.putfield 289, 3) := by decide +kernel
theorem dX10_either_98 : decode cX10_either 98 = .ok (.goto (-43), 3) := by decide +kernel
theorem dX10_either_101 : decode cX10_either 101 = .ok (.aload_n 0, 1) := by decide +kernel
theorem dX10_either_102 : decode cX10_either 102 = .ok (.invokevirtual 306, 3) := by decide +kernel
theorem dX10_either_105 : decode cX10_either 105 = .ok (.aload_n 0, 1) := by decide +kernel
theorem dX10_either_106 : decode cX10_either 106 = .ok (.getfield 289, 3) := by decide +kernel
theorem dX10_either_109 : decode cX10_either 109 = .ok (.bipush 12, 2) := by decide +kernel
theorem dX10_either_111 : decode cX10_either 111 = .ok (.if_icmp .le 11, 3) := by decide +kernel
theorem dX10_either_114 : decode cX10_either 114 = .ok (.aload_n 0, 1) := by decide +kernel
theorem dX10_either_115 : decode cX10_either 115 = .ok (.iload_n 1, 1) := by decide +kernel
theorem dX10_either_116 : decode cX10_either 116 = .ok (.invokevirtual 303, 3) := by decide +kernel
theorem dX10_either_119 : decode cX10_either 119 = .ok (.goto 8, 3) := by decide +kernel
theorem dX10_either_122 : decode cX10_either 122 = .ok (.aload_n 0, 1) := by decide +kernel
theorem dX10_either_123 : decode cX10_either 123 = .ok (.iload_n 1, 1) := by decide +kernel
theorem dX10_either_124 : decode cX10_either 124 = .ok (.invokevirtual 309, 3) := by decide +kernel
theorem dX10_either_127 : decode cX10_either 127 = .ok (.return_, 1) := by decide +kernel
def mwX10_eitherm : List Cond := .code yX10_either cX10_either 4 none :: ([.fieldLink RX10 289 "PatternGateModel" "manyTop" "I", .fieldLink RX10 64 "PatternGateModel" "needMany" "[I", .code yX10_cutsDown cX10_cutsDown 5 none, .fieldLink RX10 67 "PatternGateModel" "kept" "[Z", .fieldLink RX10 61 "PatternGateModel" "many" "[[I", .code yX10_lays cX10_lays 3 none, .methodLink RX10 296 yX10_lays, .static yX10_lays, .initialized RX10, .code yX10_hasAll cX10_hasAll 4 (some .boolean), .methodLink RX10 292 yX10_hasAll, .static yX10_hasAll, .methodLink RX10 306 yX10_cutsDown, .instanceMethod yX10_cutsDown, .selects RX10 yX10_cutsDown yX10_cutsDown, .code yX10_becomes cX10_becomes 3 none, .fieldLink RX10 56 "PatternGateModel" "needs" "[[[I", .methodLink RX10 309 yX10_becomes, .instanceMethod yX10_becomes, .selects RX10 yX10_becomes yX10_becomes, .code yX10_oneEmpty cX10_oneEmpty 2 none, .methodLink RX10 303 yX10_oneEmpty, .instanceMethod yX10_oneEmpty, .selects RX10 yX10_oneEmpty yX10_oneEmpty] ++ wsX100)
theorem fin_X10_eitherm_X10 : ∀ w ∈ wsX100, w ∈ mwX10_eitherm := fun w h => List.mem_cons_of_mem _ (List.mem_append_right _ h)
set_option maxRecDepth 20000 in
theorem mg_X10_eitherm_X10_cutsDown_306 : GoodIn mwX10_eitherm (wsV RX10 306 RX10 yX10_cutsDown mwX10_cutsDownm) := goodIn_r _ [13, 14, 15, 9, 3, 1, 4, 5, 6, 7, 8, 9, 10, 11, 12, 25, 26, 27, 28, 29, 30, 31, 32, 33, 34, 35, 36, 37, 38, 39, 40, 41, 42, 43, 44, 45, 46, 47, 48, 49, 50, 51, 52, 53, 54, 55, 56, 57, 58, 59, 60, 61, 62, 63, 64, 65, 66, 67, 68, 69, 70, 71, 72] (by decide +kernel) (by decide +kernel)
set_option maxRecDepth 20000 in
theorem mg_X10_eitherm_X10_becomes_309 : GoodIn mwX10_eitherm (wsV RX10 309 RX10 yX10_becomes mwX10_becomesm) := goodIn_r _ [18, 19, 20, 9, 16, 2, 1, 5, 17, 6, 7, 8, 9, 25, 26, 27, 28, 29, 30, 31, 32, 33, 34, 35, 36, 37, 38, 39, 40, 41, 42, 43, 44, 45, 46, 47, 48, 49, 50, 51, 52, 53, 54, 55, 56, 57, 58, 59, 60, 61, 62, 63, 64, 65, 66, 67, 68, 69, 70, 71, 72] (by decide +kernel) (by decide +kernel)
set_option maxRecDepth 20000 in
theorem mg_X10_eitherm_X10_oneEmpty_303 : GoodIn mwX10_eitherm (wsV RX10 303 RX10 yX10_oneEmpty mwX10_oneEmptym) := goodIn_r _ [22, 23, 24, 9, 21, 2, 17, 25, 26, 27, 28, 29, 30, 31, 32, 33, 34, 35, 36, 37, 38, 39, 40, 41, 42, 43, 44, 45, 46, 47, 48, 49, 50, 51, 52, 53, 54, 55, 56, 57, 58, 59, 60, 61, 62, 63, 64, 65, 66, 67, 68, 69, 70, 71, 72] (by decide +kernel) (by decide +kernel)
set_option maxRecDepth 20000 in
theorem mg_X10_eitherm_X10_lays_296 : GoodIn mwX10_eitherm (va_wsS RX10 296 yX10_lays mwX10_laysm) := goodIn_r _ [7, 8, 9, 6] (by decide +kernel) (by decide +kernel)
set_option maxHeartbeats 4000000 in
set_option maxRecDepth 100000 in
theorem m_either (l : Launch) (dC : Nat → ClassId) (dI : Nat → Nat → Nat) (ad : Nat → Nat) (kc : Nat → ClassId) (x0 x1 x2 x3 x4 x5 x6 x7 x8 x9 x10 x11 x12 x13 x14 x15 x16 x17 x18 x19 x20 x21 : Int32) (f0 f1 f2 f3 f4 f5 f6 f7 f8 f9 f10 f11 f12 f13 f14 f15 f16 f17 f18 f19 f20 f21 : Nat → Int32) (fL : Nat → Nat → Int64) (fN : Nat → Nat → Int32) (fP : Nat → Nat → Nat) (fM : Nat → Nat → Int32) (fO : Nat → Nat → Int32) (sz : Nat) (i1 i2 : Int32) (cc : Int) (q0 : 0 ≤ i1.toInt ∧ i1.toInt < 60) (q1 : 0 ≤ i2.toInt ∧ i2.toInt < 60) (q2 : i1.toInt ≠ i2.toInt) (q3 : nOK (rO fN fM fO) fP f10 i1.toInt cc) (q4 : nOK (rO fN fM fO) fP f10 i2.toInt cc) (q5 : PI fP) (q6 : 0 ≤ cc ∧ cc ≤ 168) : Met l yX10_either mwX10_eitherm ({ frames := 2, cells := 0, slots := 0, locals := 120 }) (va_Pc [.ref (ad 0), .int i1, .int i2] (fun U => U.heap.size = sz ∧ va_P (dC, dI) vwCl (mW ad kc x0 x1 x2 x3 x4 x5 x6 x7 x8 x9 x10 x11 x12 x13 x14 x15 x16 x17 x18 x19 x20 x21 f0 f1 f2 f3 f4 f5 f6 f7 f8 f9 f10 f11 f12 f13 f14 f15 f16 f17 f18 f19 f20 f21 fL fN fP fM fO) U.heap ∧ va_K (dC, dI) vwCl (mT kc) U ∧ va_D (fun _ => True) (mW ad kc x0 x1 x2 x3 x4 x5 x6 x7 x8 x9 x10 x11 x12 x13 x14 x15 x16 x17 x18 x19 x20 x21 f0 f1 f2 f3 f4 f5 f6 f7 f8 f9 f10 f11 f12 f13 f14 f15 f16 f17 f18 f19 f20 f21 fL fN fP fM fO))) (va_Qv (fun (_ : Unit) => True) (fun _ t => ∃ (y18 : Int32) (g11 g10 : Nat → Int32) (Nn9 : Nat → Nat → Int32) (M9 : Nat → Nat → Int32) (O9 : Nat → Nat → Int32), (nOK (rO Nn9 M9 O9) fP g10 i1.toInt cc) ∧ (nFm (rO fN fM fO) (rO Nn9 M9 O9) i1.toInt) ∧ (∀ z : Int, 0 ≤ z → z ≠ i1.toInt → vI g10 z = vI f10 z) ∧ va_P (dC, dI) vwCl (mW ad kc x0 x1 x2 x3 x4 x5 x6 x7 x8 x9 x10 x11 x12 x13 x14 x15 x16 x17 y18 x19 x20 x21 f0 f1 f2 f3 f4 f5 f6 f7 f8 f9 g10 g11 f12 f13 f14 f15 f16 f17 f18 f19 f20 f21 fL Nn9 fP M9 O9) t.heap ∧ va_K (dC, dI) vwCl (mT kc) t ∧ va_D (va_A (mW ad kc x0 x1 x2 x3 x4 x5 x6 x7 x8 x9 x10 x11 x12 x13 x14 x15 x16 x17 x18 x19 x20 x21 f0 f1 f2 f3 f4 f5 f6 f7 f8 f9 f10 f11 f12 f13 f14 f15 f16 f17 f18 f19 f20 f21 fL fN fP fM fO) sz) (mW ad kc x0 x1 x2 x3 x4 x5 x6 x7 x8 x9 x10 x11 x12 x13 x14 x15 x16 x17 y18 x19 x20 x21 f0 f1 f2 f3 f4 f5 f6 f7 f8 f9 g10 g11 f12 f13 f14 f15 f16 f17 f18 f19 f20 f21 fL Nn9 fP M9 O9)) (va_A (mW ad kc x0 x1 x2 x3 x4 x5 x6 x7 x8 x9 x10 x11 x12 x13 x14 x15 x16 x17 x18 x19 x20 x21 f0 f1 f2 f3 f4 f5 f6 f7 f8 f9 f10 f11 f12 f13 f14 f15 f16 f17 f18 f19 f20 f21 fL fN fP fM fO) sz)) 0 0 (va_A (mW ad kc x0 x1 x2 x3 x4 x5 x6 x7 x8 x9 x10 x11 x12 x13 x14 x15 x16 x17 x18 x19 x20 x21 f0 f1 f2 f3 f4 f5 f6 f7 f8 f9 f10 f11 f12 f13 f14 f15 f16 f17 f18 f19 f20 f21 fL fN fP fM fO) sz) := by
  refine Met.ofW (cc := cX10_either) (maxL := 4) (ret := none) (by decide +kernel) rfl ?_
  intro p e s m args below meth c s₁ B hml hv
  obtain ⟨rfl, hsz, hP, hK, hD0⟩ := hv
  have hx := B.exec
  have hb := B.bytes
  have hr := B.returns
  have hts := atoms_spec (ws := mwX10_eitherm) B.pre
  have hown : s.vm.findClass RX10 = some m.cls := findClass_of_methodNamed B.named
  have hlocks := B.notSynchronized
  subst hsz
  have hD := hD0.self (sz := s.heap.size)
  generalize hAe : va_A (mW ad kc x0 x1 x2 x3 x4 x5 x6 x7 x8 x9 x10 x11 x12 x13 x14 x15 x16 x17 x18 x19 x20 x21 f0 f1 f2 f3 f4 f5 f6 f7 f8 f9 f10 f11 f12 f13 f14 f15 f16 f17 f18 f19 f20 f21 fL fN fP fM fO) s.heap.size = A at hD ⊢
  have hA : ∀ q : Nat, s.heap.size ≤ q → A q := fun q h => by rw [← hAe]; exact Or.inr h
  have hP : va_P (dC, dI) vwCl (mW ad kc x0 x1 x2 x3 x4 x5 x6 x7 x8 x9 x10 x11 x12 x13 x14 x15 x16 x17 x18 x19 x20 x21 f0 f1 f2 f3 f4 f5 f6 f7 f8 f9 f10 f11 f12 f13 f14 f15 f16 f17 f18 f19 f20 f21 fL fN fP fM fO) s.heap := hP
  have hD : va_D A (mW ad kc x0 x1 x2 x3 x4 x5 x6 x7 x8 x9 x10 x11 x12 x13 x14 x15 x16 x17 x18 x19 x20 x21 f0 f1 f2 f3 f4 f5 f6 f7 f8 f9 f10 f11 f12 f13 f14 f15 f16 f17 f18 f19 f20 f21 fL fN fP fM fO) := hD
  have hK : va_K (dC, dI) vwCl (mT kc) s := hK
  generalize hH : s.heap = H at hP ⊢
  have hS : va_S A s.heap H [] := by rw [← hH]; exact va_S.rf
  have hl := lv_entry ([.ref (ad 0), .int i1, .int i2]) (n := 4) (Nat.le_of_ble_eq_true rfl)
  rw [lg_entry_eq]
  generalize (lg_sl ([.ref (ad 0), .int i1, .int i2]) ++ List.replicate (4 - (lg_sl ([.ref (ad 0), .int i1, .int i2])).length) Slot.unset).toArray = ls at hl ⊢
  have hl : lv_has ls 4 [(0, .ref (ad 0)), (1, .int i1), (2, .int i2)] := hl
  have rg_i1 := i_rng i1
  have rg_i2 := i_rng i2
  have q3a := q3.1
  have q3b := q3.2.1
  have q4a := q4.1
  have q4b := q4.2.1
  refine lv_aload_n hx hb dX10_either_0 rfl (lv_at hl 0 rfl) ?_
  refine lv_iconst (v := 0) hx hb dX10_either_1 (by decide) ?_
  refine va_put (D := (dC, dI)) (ci := 10) (v := .int 0) (ty := .int) (C := RX10) (T := TX10) (N := 48) hx hb hts fin_X10_eitherm_X10 tyX10 tyX10_ok nmX10 hown hK hP hD hS 0 rfl rfl 32 (by decide) (hts (.fieldLink RX10 289 "PatternGateModel" "manyTop" "I") (List.mem_of_getElem? (i := 1) (by decide +kernel))) (fun _ h9 => h9) rfl (by decide +kernel) rfl rfl (Nat.le_of_ble_eq_true rfl) dX10_either_2 (fun H locs hP hD hS => ?_)
  have hP : va_P (dC, dI) vwCl (mW ad kc x0 x1 x2 x3 x4 x5 x6 x7 x8 x9 x10 x11 x12 x13 x14 x15 x16 x17 0 x19 x20 x21 f0 f1 f2 f3 f4 f5 f6 f7 f8 f9 f10 f11 f12 f13 f14 f15 f16 f17 f18 f19 f20 f21 fL fN fP fM fO) H := hP
  have hD : va_D A (mW ad kc x0 x1 x2 x3 x4 x5 x6 x7 x8 x9 x10 x11 x12 x13 x14 x15 x16 x17 0 x19 x20 x21 f0 f1 f2 f3 f4 f5 f6 f7 f8 f9 f10 f11 f12 f13 f14 f15 f16 f17 f18 f19 f20 f21 fL fN fP fM fO) := hD
  have lit_0 : (0 : Int32).toInt = 0 := by decide
  refine lv_iconst (v := 0) hx hb dX10_either_5 (by decide) ?_
  refine lv_istore_n (lv' := [(3, .int 0), (0, .ref (ad 0)), (1, .int i1), (2, .int i2)]) hx hb dX10_either_6 rfl hl (by decide) rfl (fun ls hl => ?_)
  have loop7 : ∀ (lm7 : Nat) (kk mt : Int32) (hn : Nat → Nat → Int32) (hm : Nat → Nat → Int32) (ho : Nat → Nat → Int32), (0 ≤ kk.toInt) → (kk.toInt ≤ vI f10 i1.toInt) → (mt.toInt = kk.toInt) → (mFr (rO fN fM fO) (rO hn hm ho)) → (mOK (rO hn hm ho) mt.toInt cc) → ((vI f10 i1.toInt - kk.toInt).toNat) < lm7 → ∀ (H : Heap) (locs : List Loc) (ls : Array Slot), va_P (dC, dI) vwCl (mW ad kc x0 x1 x2 x3 x4 x5 x6 x7 x8 x9 x10 x11 x12 x13 x14 x15 x16 x17 mt x19 x20 x21 f0 f1 f2 f3 f4 f5 f6 f7 f8 f9 f10 f11 f12 f13 f14 f15 f16 f17 f18 f19 f20 f21 fL hn fP hm ho) H → va_D A (mW ad kc x0 x1 x2 x3 x4 x5 x6 x7 x8 x9 x10 x11 x12 x13 x14 x15 x16 x17 mt x19 x20 x21 f0 f1 f2 f3 f4 f5 f6 f7 f8 f9 f10 f11 f12 f13 f14 f15 f16 f17 f18 f19 f20 f21 fL hn fP hm ho) → va_S A s.heap H locs → lv_has ls 4 [(3, .int kk), (0, .ref (ad 0)), (1, .int i1), (2, .int i2)] → W p l e (headSpec mwX10_eitherm ({ frames := 2, cells := 0, slots := 0, locals := 120 })).room s m ([.ref (ad 0), .int i1, .int i2]).toArray below meth c H locs 0 0 (MQ below (va_Qv (fun (_ : Unit) => True) (fun _ t => ∃ (y18 : Int32) (g11 g10 : Nat → Int32) (Nn9 : Nat → Nat → Int32) (M9 : Nat → Nat → Int32) (O9 : Nat → Nat → Int32), (nOK (rO Nn9 M9 O9) fP g10 i1.toInt cc) ∧ (nFm (rO fN fM fO) (rO Nn9 M9 O9) i1.toInt) ∧ (∀ z : Int, 0 ≤ z → z ≠ i1.toInt → vI g10 z = vI f10 z) ∧ va_P (dC, dI) vwCl (mW ad kc x0 x1 x2 x3 x4 x5 x6 x7 x8 x9 x10 x11 x12 x13 x14 x15 x16 x17 y18 x19 x20 x21 f0 f1 f2 f3 f4 f5 f6 f7 f8 f9 g10 g11 f12 f13 f14 f15 f16 f17 f18 f19 f20 f21 fL Nn9 fP M9 O9) t.heap ∧ va_K (dC, dI) vwCl (mT kc) t ∧ va_D A (mW ad kc x0 x1 x2 x3 x4 x5 x6 x7 x8 x9 x10 x11 x12 x13 x14 x15 x16 x17 y18 x19 x20 x21 f0 f1 f2 f3 f4 f5 f6 f7 f8 f9 g10 g11 f12 f13 f14 f15 f16 f17 f18 f19 f20 f21 fL Nn9 fP M9 O9)) A) ([.ref (ad 0), .int i1, .int i2]).toArray s 0 0 A) (F0 m 7 ls []) := by
    intro lm7
    induction lm7 with
    | zero => intro kk mt hn hm ho v7_0 v7_1 v7_2 v7_3 v7_4 hm7; exact absurd hm7 (Nat.not_lt_zero _)
    | succ lm7 ih7 =>
      intro kk mt hn hm ho v7_0 v7_1 v7_2 v7_3 v7_4 hm7 H locs ls hP hD hS hl
      have rg_kk := i_rng kk
      have rg_mt := i_rng mt
      refine lv_iload_n hx hb dX10_either_7 rfl (lv_at hl 0 rfl) ?_
      refine lv_aload_n hx hb dX10_either_8 rfl (lv_at hl 1 rfl) ?_
      refine va_get (D := (dC, dI)) (ci := 10) (v := .ref (ad 11)) (C := RX10) (T := TX10) (N := 48) hx hb hts fin_X10_eitherm_X10 hown hK hP 0 rfl rfl 30 (by decide) (hts (.fieldLink RX10 64 "PatternGateModel" "needMany" "[I") (List.mem_of_getElem? (i := 2) (by decide +kernel))) (fun _ h9 => h9) rfl dX10_either_9 ?_
      refine lv_iload_n hx hb dX10_either_12 rfl (lv_at hl 2 rfl) ?_
      refine va_iald hx hb hK hP 11 10 rfl rfl (i := i1) (vp_of (a := i1.toInt) rfl (by omega) (by omega)) dX10_either_13 ?_
      refine lv_topi (fun y_2 ey_2 => ?_)
      have rg_y_2 := i_rng y_2
      have vy_2 := vI_lda (f := f10) (i := i1) (a := i1.toInt) ey_2 (by first | omega | decide)
      have rg_y_2 := i_rng y_2
      refine lv_icmp_ge (tgt := 53) hx hb dX10_either_14 (by decide) (fun k_3 => ?_) (fun k_3 => ?_)
      · have tk_3 := c_ge (a := kk.toInt) (b := y_2.toInt) rfl rfl k_3
        refine lv_iconst (v := 0) hx hb dX10_either_53 (by decide) ?_
        refine lv_istore_n (lv' := [(3, .int 0), (0, .ref (ad 0)), (1, .int i1), (2, .int i2)]) hx hb dX10_either_54 rfl hl (by decide) rfl (fun ls hl => ?_)
        have loop55 : ∀ (lm55 : Nat) (k2 mu : Int32) (jn : Nat → Nat → Int32) (jm : Nat → Nat → Int32) (jo : Nat → Nat → Int32), (0 ≤ k2.toInt) → (k2.toInt ≤ vI f10 i2.toInt) → (mu.toInt = vI f10 i1.toInt + k2.toInt) → (mFr (rO fN fM fO) (rO jn jm jo)) → (mOK (rO jn jm jo) mu.toInt cc) → ((vI f10 i2.toInt - k2.toInt).toNat) < lm55 → ∀ (H : Heap) (locs : List Loc) (ls : Array Slot), va_P (dC, dI) vwCl (mW ad kc x0 x1 x2 x3 x4 x5 x6 x7 x8 x9 x10 x11 x12 x13 x14 x15 x16 x17 mu x19 x20 x21 f0 f1 f2 f3 f4 f5 f6 f7 f8 f9 f10 f11 f12 f13 f14 f15 f16 f17 f18 f19 f20 f21 fL jn fP jm jo) H → va_D A (mW ad kc x0 x1 x2 x3 x4 x5 x6 x7 x8 x9 x10 x11 x12 x13 x14 x15 x16 x17 mu x19 x20 x21 f0 f1 f2 f3 f4 f5 f6 f7 f8 f9 f10 f11 f12 f13 f14 f15 f16 f17 f18 f19 f20 f21 fL jn fP jm jo) → va_S A s.heap H locs → lv_has ls 4 [(3, .int k2), (0, .ref (ad 0)), (1, .int i1), (2, .int i2)] → W p l e (headSpec mwX10_eitherm ({ frames := 2, cells := 0, slots := 0, locals := 120 })).room s m ([.ref (ad 0), .int i1, .int i2]).toArray below meth c H locs 0 0 (MQ below (va_Qv (fun (_ : Unit) => True) (fun _ t => ∃ (y18 : Int32) (g11 g10 : Nat → Int32) (Nn9 : Nat → Nat → Int32) (M9 : Nat → Nat → Int32) (O9 : Nat → Nat → Int32), (nOK (rO Nn9 M9 O9) fP g10 i1.toInt cc) ∧ (nFm (rO fN fM fO) (rO Nn9 M9 O9) i1.toInt) ∧ (∀ z : Int, 0 ≤ z → z ≠ i1.toInt → vI g10 z = vI f10 z) ∧ va_P (dC, dI) vwCl (mW ad kc x0 x1 x2 x3 x4 x5 x6 x7 x8 x9 x10 x11 x12 x13 x14 x15 x16 x17 y18 x19 x20 x21 f0 f1 f2 f3 f4 f5 f6 f7 f8 f9 g10 g11 f12 f13 f14 f15 f16 f17 f18 f19 f20 f21 fL Nn9 fP M9 O9) t.heap ∧ va_K (dC, dI) vwCl (mT kc) t ∧ va_D A (mW ad kc x0 x1 x2 x3 x4 x5 x6 x7 x8 x9 x10 x11 x12 x13 x14 x15 x16 x17 y18 x19 x20 x21 f0 f1 f2 f3 f4 f5 f6 f7 f8 f9 g10 g11 f12 f13 f14 f15 f16 f17 f18 f19 f20 f21 fL Nn9 fP M9 O9)) A) ([.ref (ad 0), .int i1, .int i2]).toArray s 0 0 A) (F0 m 55 ls []) := by
          intro lm55
          induction lm55 with
          | zero => intro k2 mu jn jm jo v55_0 v55_1 v55_2 v55_3 v55_4 hm55; exact absurd hm55 (Nat.not_lt_zero _)
          | succ lm55 ih55 =>
            intro k2 mu jn jm jo v55_0 v55_1 v55_2 v55_3 v55_4 hm55 H locs ls hP hD hS hl
            have rg_k2 := i_rng k2
            have rg_mu := i_rng mu
            refine lv_iload_n hx hb dX10_either_55 rfl (lv_at hl 0 rfl) ?_
            refine lv_aload_n hx hb dX10_either_56 rfl (lv_at hl 1 rfl) ?_
            refine va_get (D := (dC, dI)) (ci := 10) (v := .ref (ad 11)) (C := RX10) (T := TX10) (N := 48) hx hb hts fin_X10_eitherm_X10 hown hK hP 0 rfl rfl 30 (by decide) (hts (.fieldLink RX10 64 "PatternGateModel" "needMany" "[I") (List.mem_of_getElem? (i := 2) (by decide +kernel))) (fun _ h9 => h9) rfl dX10_either_57 ?_
            refine lv_iload_n hx hb dX10_either_60 rfl (lv_at hl 3 rfl) ?_
            refine va_iald hx hb hK hP 11 10 rfl rfl (i := i2) (vp_of (a := i2.toInt) rfl (by omega) (by omega)) dX10_either_61 ?_
            refine lv_topi (fun y_4 ey_4 => ?_)
            have rg_y_4 := i_rng y_4
            have vy_4 := vI_lda (f := f10) (i := i2) (a := i2.toInt) ey_4 (by first | omega | decide)
            have rg_y_4 := i_rng y_4
            refine lv_icmp_ge (tgt := 101) hx hb dX10_either_62 (by decide) (fun k_5 => ?_) (fun k_5 => ?_)
            · have tk_5 := c_ge (a := k2.toInt) (b := y_4.toInt) rfl rfl k_5
              refine lv_aload_n hx hb dX10_either_101 rfl (lv_at hl 1 rfl) ?_
              have hFc := m_free hD hS hA
              refine va_callv (va_runV (As := []) (rest := []) ⟨hx, hb, hml, hown, hts⟩ (m_cutsDown l dC dI ad kc x0 x1 x2 x3 x4 x5 x6 x7 x8 x9 x10 x11 x12 x13 x14 x15 x16 x17 mu x19 x20 x21 f0 f1 f2 f3 f4 f5 f6 f7 f8 f9 f10 f11 f12 f13 f14 f15 f16 f17 f18 f19 f20 f21 fL jn fP jm jo H.size cc (by first | omega | assumption | decide | (have l0 := Int32.toInt_zero; omega)) (by first | omega | assumption | decide | (have l0 := Int32.toInt_zero; omega)) v55_4) (cwV 0 hts mg_X10_eitherm_X10_cutsDown_306 rfl rfl rfl (by decide +kernel) ⟨Nat.le_of_ble_eq_true rfl, Nat.le_of_ble_eq_true rfl⟩) ⟨fun a U g mk q => by obtain ⟨q0, q1, qP, qK, qD⟩ := q; exact ⟨q0, q1, qP, va_K.moved (u := U) (U := U.calling g mk a) (Vm.Alike.refl U.vm) qK, qD⟩, va_recv hK hP (ci := 10) (q0 := 0) rfl rfl, fun U hU hW => ⟨rfl, by rw [hU], by rw [hU]; exact hP, va_K.moved hW.alike hK, hD.weaken (fun _ _ _ _ => trivial)⟩⟩ rfl rfl hl.1 rfl (lv_room (Nat.le_of_ble_eq_true rfl)) dX10_either_102 ⟨Nat.le_of_ble_eq_true rfl, Nat.le_of_ble_eq_true rfl⟩) hS (fun q _ h => hFc q h) hFc (fun u t H1 locs ht hvm hw hB hz1 hk1 hS => ?_)
              obtain ⟨x_7, f_8, Nn_9, M_10, O_11, hr_6_0, hr_6_1, hr_6_2, hP, hK1, hD1⟩ := hB
              rw [ht] at hP
              have hD := hD1.weaken (fun k q _ h => hFc q.1 h)
              generalize H1 = H at hP hS ⊢
              have rg_x_7 := i_rng x_7
              have hP : va_P (dC, dI) vwCl (mW ad kc x0 x1 x2 x3 x4 x5 x6 x7 x8 x9 x10 x11 x12 x13 x14 x15 x16 x17 x_7 x19 x20 x21 f0 f1 f2 f3 f4 f5 f6 f7 f8 f9 f10 f_8 f12 f13 f14 f15 f16 f17 f18 f19 f20 f21 fL Nn_9 fP M_10 O_11) H := hP
              have hD : va_D A (mW ad kc x0 x1 x2 x3 x4 x5 x6 x7 x8 x9 x10 x11 x12 x13 x14 x15 x16 x17 x_7 x19 x20 x21 f0 f1 f2 f3 f4 f5 f6 f7 f8 f9 f10 f_8 f12 f13 f14 f15 f16 f17 f18 f19 f20 f21 fL Nn_9 fP M_10 O_11) := hD
              refine lv_aload_n hx hb dX10_either_105 rfl (lv_at hl 1 rfl) ?_
              refine va_get (D := (dC, dI)) (ci := 10) (v := .int x_7) (C := RX10) (T := TX10) (N := 48) hx hb hts fin_X10_eitherm_X10 hown hK hP 0 rfl rfl 32 (by decide) (hts (.fieldLink RX10 289 "PatternGateModel" "manyTop" "I") (List.mem_of_getElem? (i := 1) (by decide +kernel))) (fun _ h9 => h9) rfl dX10_either_106 ?_
              refine lv_bipush (v := 12) hx hb dX10_either_109 (by decide) ?_
              refine lv_icmp_le (tgt := 122) hx hb dX10_either_111 (by decide) (fun k_12 => ?_) (fun k_12 => ?_)
              · have tk_12 := c_le (a := x_7.toInt) (b := 12) rfl (by decide) k_12
                refine lv_aload_n hx hb dX10_either_122 rfl (lv_at hl 1 rfl) ?_
                refine lv_iload_n hx hb dX10_either_123 rfl (lv_at hl 2 rfl) ?_
                have hFc := m_free hD hS hA
                refine va_callv (va_runV (As := [.int i1]) (rest := []) ⟨hx, hb, hml, hown, hts⟩ (m_becomes l dC dI ad kc x0 x1 x2 x3 x4 x5 x6 x7 x8 x9 x10 x11 x12 x13 x14 x15 x16 x17 x_7 x19 x20 x21 f0 f1 f2 f3 f4 f5 f6 f7 f8 f9 f10 f_8 f12 f13 f14 f15 f16 f17 f18 f19 f20 f21 fL Nn_9 fP M_10 O_11 H.size i1 cc (by first | omega | assumption | decide | (have l0 := Int32.toInt_zero; omega)) (by first | omega | assumption | decide | (have l0 := Int32.toInt_zero; omega)) (by first | omega | assumption | decide | (have l0 := Int32.toInt_zero; omega)) hr_6_2 (by first | omega | assumption | decide | (have l0 := Int32.toInt_zero; omega))) (cwV 1 hts mg_X10_eitherm_X10_becomes_309 rfl rfl rfl (by decide +kernel) ⟨Nat.le_of_ble_eq_true rfl, Nat.le_of_ble_eq_true rfl⟩) ⟨fun a U g mk q => by obtain ⟨q0, q1, qP, qK, qD⟩ := q; exact ⟨q0, q1, qP, va_K.moved (u := U) (U := U.calling g mk a) (Vm.Alike.refl U.vm) qK, qD⟩, va_recv hK hP (ci := 10) (q0 := 0) rfl rfl, fun U hU hW => ⟨rfl, by rw [hU], by rw [hU]; exact hP, va_K.moved hW.alike hK, hD.weaken (fun _ _ _ _ => trivial)⟩⟩ rfl rfl hl.1 rfl (lv_room (Nat.le_of_ble_eq_true rfl)) dX10_either_124 ⟨Nat.le_of_ble_eq_true rfl, Nat.le_of_ble_eq_true rfl⟩) hS (fun q _ h => hFc q h) hFc (fun u t H1 locs ht hvm hw hB hz1 hk1 hS => ?_)
                obtain ⟨f_14, Nn_15, M_16, O_17, hr_13_0, hr_13_1, hr_13_2, hP, hK1, hD1⟩ := hB
                rw [ht] at hP
                have hD := hD1.weaken (fun k q _ h => hFc q.1 h)
                generalize H1 = H at hP hS ⊢
                have hP : va_P (dC, dI) vwCl (mW ad kc x0 x1 x2 x3 x4 x5 x6 x7 x8 x9 x10 x11 x12 x13 x14 x15 x16 x17 x_7 x19 x20 x21 f0 f1 f2 f3 f4 f5 f6 f7 f8 f9 f_14 f_8 f12 f13 f14 f15 f16 f17 f18 f19 f20 f21 fL Nn_15 fP M_16 O_17) H := hP
                have hD : va_D A (mW ad kc x0 x1 x2 x3 x4 x5 x6 x7 x8 x9 x10 x11 x12 x13 x14 x15 x16 x17 x_7 x19 x20 x21 f0 f1 f2 f3 f4 f5 f6 f7 f8 f9 f_14 f_8 f12 f13 f14 f15 f16 f17 f18 f19 f20 f21 fL Nn_15 fP M_16 O_17) := hD
                exact W.vret hx hb hr (fun t ht hW => ⟨⟨(), rfl, trivial, x_7, f_8, f_14, Nn_15, M_16, O_17, (hr_13_0.mono (by omega)), (((nFm.of v55_3).tr (nFm.of hr_6_1)).tr hr_13_1), hr_13_2, by rw [ht]; exact hP, va_K.moved hW.alike hK, hD⟩, hS.F ht⟩) hS.2.2 dX10_either_127
              · have tk_12 := c_nle (a := x_7.toInt) (b := 12) rfl (by decide) k_12
                refine lv_aload_n hx hb dX10_either_114 rfl (lv_at hl 1 rfl) ?_
                refine lv_iload_n hx hb dX10_either_115 rfl (lv_at hl 2 rfl) ?_
                have hFc := m_free hD hS hA
                refine va_callv (va_runV (As := [.int i1]) (rest := []) ⟨hx, hb, hml, hown, hts⟩ (m_oneEmpty l dC dI ad kc x0 x1 x2 x3 x4 x5 x6 x7 x8 x9 x10 x11 x12 x13 x14 x15 x16 x17 x_7 x19 x20 x21 f0 f1 f2 f3 f4 f5 f6 f7 f8 f9 f10 f_8 f12 f13 f14 f15 f16 f17 f18 f19 f20 f21 fL Nn_9 fP M_10 O_11 H.size i1 (by first | omega | assumption | decide | (have l0 := Int32.toInt_zero; omega)) (by first | omega | assumption | decide | (have l0 := Int32.toInt_zero; omega))) (cwV 1 hts mg_X10_eitherm_X10_oneEmpty_303 rfl rfl rfl (by decide +kernel) ⟨Nat.le_of_ble_eq_true rfl, Nat.le_of_ble_eq_true rfl⟩) ⟨fun a U g mk q => by obtain ⟨q0, q1, qP, qK, qD⟩ := q; exact ⟨q0, q1, qP, va_K.moved (u := U) (U := U.calling g mk a) (Vm.Alike.refl U.vm) qK, qD⟩, va_recv hK hP (ci := 10) (q0 := 0) rfl rfl, fun U hU hW => ⟨rfl, by rw [hU], by rw [hU]; exact hP, va_K.moved hW.alike hK, hD.weaken (fun _ _ _ _ => trivial)⟩⟩ rfl rfl hl.1 rfl (lv_room (Nat.le_of_ble_eq_true rfl)) dX10_either_116 ⟨Nat.le_of_ble_eq_true rfl, Nat.le_of_ble_eq_true rfl⟩) hS (fun q _ h => hFc q h) hFc (fun u t H1 locs ht hvm hw hB hz1 hk1 hS => ?_)
                obtain ⟨f_19, Nn_20, M_21, O_22, hr_18_0, hr_18_1, hr_18_2, hP, hK1, hD1⟩ := hB
                rw [ht] at hP
                have hD := hD1.weaken (fun k q _ h => hFc q.1 h)
                generalize H1 = H at hP hS ⊢
                have hP : va_P (dC, dI) vwCl (mW ad kc x0 x1 x2 x3 x4 x5 x6 x7 x8 x9 x10 x11 x12 x13 x14 x15 x16 x17 x_7 x19 x20 x21 f0 f1 f2 f3 f4 f5 f6 f7 f8 f9 f_19 f_8 f12 f13 f14 f15 f16 f17 f18 f19 f20 f21 fL Nn_20 fP M_21 O_22) H := hP
                have hD : va_D A (mW ad kc x0 x1 x2 x3 x4 x5 x6 x7 x8 x9 x10 x11 x12 x13 x14 x15 x16 x17 x_7 x19 x20 x21 f0 f1 f2 f3 f4 f5 f6 f7 f8 f9 f_19 f_8 f12 f13 f14 f15 f16 f17 f18 f19 f20 f21 fL Nn_20 fP M_21 O_22) := hD
                refine lv_goto (tgt := 127) hx hb dX10_either_119 (by decide) ?_
                exact W.vret hx hb hr (fun t ht hW => ⟨⟨(), rfl, trivial, x_7, f_8, f_19, Nn_20, M_21, O_22, (hr_18_0.mono (by omega)), (((nFm.of v55_3).tr (nFm.of hr_6_1)).tr hr_18_1), hr_18_2, by rw [ht]; exact hP, va_K.moved hW.alike hK, hD⟩, hS.F ht⟩) hS.2.2 dX10_either_127
            · have tk_5 := c_nge (a := k2.toInt) (b := y_4.toInt) rfl rfl k_5
              refine lv_aload_n hx hb dX10_either_65 rfl (lv_at hl 1 rfl) ?_
              refine va_get (D := (dC, dI)) (ci := 10) (v := .ref (ad 24)) (C := RX10) (T := TX10) (N := 48) hx hb hts fin_X10_eitherm_X10 hown hK hP 0 rfl rfl 28 (by decide) (hts (.fieldLink RX10 56 "PatternGateModel" "needs" "[[[I") (List.mem_of_getElem? (i := 17) (by decide +kernel))) (fun _ h9 => h9) rfl dX10_either_66 ?_
              refine lv_iload_n hx hb dX10_either_69 rfl (lv_at hl 3 rfl) ?_
              refine m_aak hx hb hK hP 24 23 (k := i2.toInt.toNat) (b := ad (200 + i2.toInt.toNat)) rfl rfl rfl (i := i2) (by omega) (by omega) rfl dX10_either_70 ?_
              refine lv_iload_n hx hb dX10_either_71 rfl (lv_at hl 0 rfl) ?_
              refine m_aak hx hb hK hP (117 + i2.toInt.toNat) 27 (k := k2.toInt.toNat) (b := ad (300 + (12 * i2.toInt.toNat + fP i2.toInt.toNat k2.toInt.toNat))) (mW_P (by omega)) rfl rfl (i := k2) (by omega) (by omega) rfl dX10_either_72 ?_
              have hp72 := (q5 i2.toInt.toNat k2.toInt.toNat (by omega)).1
              refine lv_aload_n hx hb dX10_either_73 rfl (lv_at hl 1 rfl) ?_
              refine va_get (D := (dC, dI)) (ci := 10) (v := .ref (ad 25)) (C := RX10) (T := TX10) (N := 48) hx hb hts fin_X10_eitherm_X10 hown hK hP 0 rfl rfl 29 (by decide) (hts (.fieldLink RX10 61 "PatternGateModel" "many" "[[I") (List.mem_of_getElem? (i := 5) (by decide +kernel))) (fun _ h9 => h9) rfl dX10_either_74 ?_
              refine lv_aload_n hx hb dX10_either_77 rfl (lv_at hl 1 rfl) ?_
              refine va_get (D := (dC, dI)) (ci := 10) (v := .int mu) (C := RX10) (T := TX10) (N := 48) hx hb hts fin_X10_eitherm_X10 hown hK hP 0 rfl rfl 32 (by decide) (hts (.fieldLink RX10 289 "PatternGateModel" "manyTop" "I") (List.mem_of_getElem? (i := 1) (by decide +kernel))) (fun _ h9 => h9) rfl dX10_either_78 ?_
              refine m_aak hx hb hK hP 25 24 (k := mu.toInt.toNat) (b := ad (1100 + mu.toInt.toNat)) rfl rfl rfl (i := mu) (by omega) (by omega) rfl dX10_either_81 ?_
              have hz0 := q4.2.2 k2.toInt.toNat (by omega)
              have hy0 := vI_cg (z := 0) (v55_3 (300 + (12 * i2.toInt.toNat + fP i2.toInt.toNat k2.toInt.toNat)) (by unfold IR; omega) (by omega))
              have hFc := m_free hD hS hA
              refine va_callv (va_runS (As := [.ref (ad (300 + (12 * i2.toInt.toNat + fP i2.toInt.toNat k2.toInt.toNat))), .ref (ad (1100 + mu.toInt.toNat))]) (rest := []) ⟨hx, hb, hml, hown, hts⟩ (m_lays l dC dI ad kc x0 x1 x2 x3 x4 x5 x6 x7 x8 x9 x10 x11 x12 x13 x14 x15 x16 x17 mu x19 x20 x21 f0 f1 f2 f3 f4 f5 f6 f7 f8 f9 f10 f11 f12 f13 f14 f15 f16 f17 f18 f19 f20 f21 fL jn fP jm jo H.size (300 + (12 * i2.toInt.toNat + fP i2.toInt.toNat k2.toInt.toNat)) (1100 + mu.toInt.toNat) (by first | assumption | (unfold IR; omega)) (by first | assumption | (unfold IR; omega)) (by first | omega | assumption | decide | (have l0 := Int32.toInt_zero; omega)) (by first | omega | assumption | decide | (have l0 := Int32.toInt_zero; omega))) (va_cwS 2 hts mg_X10_eitherm_X10_lays_296 rfl rfl rfl (by decide +kernel) ⟨Nat.le_of_ble_eq_true rfl, Nat.le_of_ble_eq_true rfl⟩) ⟨fun a U g mk q => by obtain ⟨q0, q1, qP, qK, qD⟩ := q; exact ⟨q0, q1, qP, va_K.moved (u := U) (U := U.calling g mk a) (Vm.Alike.refl U.vm) qK, qD⟩, fun U hU hW => ⟨rfl, by rw [hU], by rw [hU]; exact hP, va_K.moved hW.alike hK, hD.weaken (fun _ _ _ _ => trivial)⟩⟩ rfl rfl hl.1 rfl (lv_room (Nat.le_of_ble_eq_true rfl)) dX10_either_82 ⟨Nat.le_of_ble_eq_true rfl, Nat.le_of_ble_eq_true rfl⟩) hS (fun q _ h => hFc q h) hFc (fun u t H1 locs ht hvm hw hB hz1 hk1 hS => ?_)
              obtain ⟨Nn_24, M_25, O_26, hr_23_0, hr_23_1, hP, hK1, hD1⟩ := hB
              rw [ht] at hP
              have hD := hD1.weaken (fun k q _ h => hFc q.1 h)
              generalize H1 = H at hP hS ⊢
              have hP : va_P (dC, dI) vwCl (mW ad kc x0 x1 x2 x3 x4 x5 x6 x7 x8 x9 x10 x11 x12 x13 x14 x15 x16 x17 mu x19 x20 x21 f0 f1 f2 f3 f4 f5 f6 f7 f8 f9 f10 f11 f12 f13 f14 f15 f16 f17 f18 f19 f20 f21 fL Nn_24 fP M_25 O_26) H := hP
              have hD : va_D A (mW ad kc x0 x1 x2 x3 x4 x5 x6 x7 x8 x9 x10 x11 x12 x13 x14 x15 x16 x17 mu x19 x20 x21 f0 f1 f2 f3 f4 f5 f6 f7 f8 f9 f10 f11 f12 f13 f14 f15 f16 f17 f18 f19 f20 f21 fL Nn_24 fP M_25 O_26) := hD
              obtain ⟨y_27, ey_27⟩ : ∃ y : Int32, y = k2 + 1 := ⟨_, rfl⟩
              first | have ty_27 := i_add (a := k2.toInt) (b := 1) rfl (by decide) ey_27 (by omega) (by omega) | skip
              refine lv_iinc (v := y_27) (lv' := [(3, .int y_27), (0, .ref (ad 0)), (1, .int i1), (2, .int i2)]) hx hb dX10_either_85 hl (k := 0) rfl (by rw [ey_27]; rfl) (by decide) rfl (fun ls hl => ?_)
              refine lv_aload_n hx hb dX10_either_88 rfl (lv_at hl 1 rfl) ?_
              refine lv_dup hx hb dX10_either_89 rfl ?_
              refine va_get (D := (dC, dI)) (ci := 10) (v := .int mu) (C := RX10) (T := TX10) (N := 48) hx hb hts fin_X10_eitherm_X10 hown hK hP 0 rfl rfl 32 (by decide) (hts (.fieldLink RX10 289 "PatternGateModel" "manyTop" "I") (List.mem_of_getElem? (i := 1) (by decide +kernel))) (fun _ h9 => h9) rfl dX10_either_90 ?_
              refine lv_iconst (v := 1) hx hb dX10_either_93 (by decide) ?_
              refine lv_iadd hx hb dX10_either_94 ?_
              refine lv_topi (fun y_28 ey_28 => ?_)
              first | have ty_28 := i_add (a := mu.toInt) (b := 1) rfl (by decide) ey_28 (by omega) (by omega) | skip
              refine va_put (D := (dC, dI)) (ci := 10) (v := .int y_28) (ty := .int) (C := RX10) (T := TX10) (N := 48) hx hb hts fin_X10_eitherm_X10 tyX10 tyX10_ok nmX10 hown hK hP hD hS 0 rfl rfl 32 (by decide) (hts (.fieldLink RX10 289 "PatternGateModel" "manyTop" "I") (List.mem_of_getElem? (i := 1) (by decide +kernel))) (fun _ h9 => h9) rfl (by decide +kernel) rfl rfl (Nat.le_of_ble_eq_true rfl) dX10_either_95 (fun H locs hP hD hS => ?_)
              have hP : va_P (dC, dI) vwCl (mW ad kc x0 x1 x2 x3 x4 x5 x6 x7 x8 x9 x10 x11 x12 x13 x14 x15 x16 x17 y_28 x19 x20 x21 f0 f1 f2 f3 f4 f5 f6 f7 f8 f9 f10 f11 f12 f13 f14 f15 f16 f17 f18 f19 f20 f21 fL Nn_24 fP M_25 O_26) H := hP
              have hD : va_D A (mW ad kc x0 x1 x2 x3 x4 x5 x6 x7 x8 x9 x10 x11 x12 x13 x14 x15 x16 x17 y_28 x19 x20 x21 f0 f1 f2 f3 f4 f5 f6 f7 f8 f9 f10 f11 f12 f13 f14 f15 f16 f17 f18 f19 f20 f21 fL Nn_24 fP M_25 O_26) := hD
              refine lv_goto (tgt := 55) hx hb dX10_either_98 (by decide) ?_
              exact ih55 y_27 y_28 Nn_24 M_25 O_26 (by first | omega | assumption | decide) (by first | omega | assumption | decide) (by first | omega | assumption | decide) (v55_3.row hr_23_0 (by omega)) (v55_4.push hr_23_0 (by have h9 := hr_23_1; omega) (by have h9 := hr_23_1; omega) (by omega) (by omega) (by omega)) (by omega) _ _ ls hP hD hS (lv_sub hl [0, 1, 2, 3] rfl)
        have lit_28 : (0 : Int32).toInt = 0 := by decide
        exact loop55 _ 0 mt hn hm ho (by first | omega | assumption | decide) (by first | omega | assumption | decide) (by first | omega | assumption | decide) v7_3 (v7_4.mono (by omega) (by omega)) (Nat.lt_succ_self _) _ _ ls hP hD hS (lv_sub hl [0, 1, 2, 3] rfl)
      · have tk_3 := c_nge (a := kk.toInt) (b := y_2.toInt) rfl rfl k_3
        refine lv_aload_n hx hb dX10_either_17 rfl (lv_at hl 1 rfl) ?_
        refine va_get (D := (dC, dI)) (ci := 10) (v := .ref (ad 24)) (C := RX10) (T := TX10) (N := 48) hx hb hts fin_X10_eitherm_X10 hown hK hP 0 rfl rfl 28 (by decide) (hts (.fieldLink RX10 56 "PatternGateModel" "needs" "[[[I") (List.mem_of_getElem? (i := 17) (by decide +kernel))) (fun _ h9 => h9) rfl dX10_either_18 ?_
        refine lv_iload_n hx hb dX10_either_21 rfl (lv_at hl 2 rfl) ?_
        refine m_aak hx hb hK hP 24 23 (k := i1.toInt.toNat) (b := ad (200 + i1.toInt.toNat)) rfl rfl rfl (i := i1) (by omega) (by omega) rfl dX10_either_22 ?_
        refine lv_iload_n hx hb dX10_either_23 rfl (lv_at hl 0 rfl) ?_
        refine m_aak hx hb hK hP (117 + i1.toInt.toNat) 27 (k := kk.toInt.toNat) (b := ad (300 + (12 * i1.toInt.toNat + fP i1.toInt.toNat kk.toInt.toNat))) (mW_P (by omega)) rfl rfl (i := kk) (by omega) (by omega) rfl dX10_either_24 ?_
        have hp24 := (q5 i1.toInt.toNat kk.toInt.toNat (by omega)).1
        refine lv_aload_n hx hb dX10_either_25 rfl (lv_at hl 1 rfl) ?_
        refine va_get (D := (dC, dI)) (ci := 10) (v := .ref (ad 25)) (C := RX10) (T := TX10) (N := 48) hx hb hts fin_X10_eitherm_X10 hown hK hP 0 rfl rfl 29 (by decide) (hts (.fieldLink RX10 61 "PatternGateModel" "many" "[[I") (List.mem_of_getElem? (i := 5) (by decide +kernel))) (fun _ h9 => h9) rfl dX10_either_26 ?_
        refine lv_aload_n hx hb dX10_either_29 rfl (lv_at hl 1 rfl) ?_
        refine va_get (D := (dC, dI)) (ci := 10) (v := .int mt) (C := RX10) (T := TX10) (N := 48) hx hb hts fin_X10_eitherm_X10 hown hK hP 0 rfl rfl 32 (by decide) (hts (.fieldLink RX10 289 "PatternGateModel" "manyTop" "I") (List.mem_of_getElem? (i := 1) (by decide +kernel))) (fun _ h9 => h9) rfl dX10_either_30 ?_
        refine m_aak hx hb hK hP 25 24 (k := mt.toInt.toNat) (b := ad (1100 + mt.toInt.toNat)) rfl rfl rfl (i := mt) (by omega) (by omega) rfl dX10_either_33 ?_
        have hz0 := q3.2.2 kk.toInt.toNat (by omega)
        have hy0 := vI_cg (z := 0) (v7_3 (300 + (12 * i1.toInt.toNat + fP i1.toInt.toNat kk.toInt.toNat)) (by unfold IR; omega) (by omega))
        have hFc := m_free hD hS hA
        refine va_callv (va_runS (As := [.ref (ad (300 + (12 * i1.toInt.toNat + fP i1.toInt.toNat kk.toInt.toNat))), .ref (ad (1100 + mt.toInt.toNat))]) (rest := []) ⟨hx, hb, hml, hown, hts⟩ (m_lays l dC dI ad kc x0 x1 x2 x3 x4 x5 x6 x7 x8 x9 x10 x11 x12 x13 x14 x15 x16 x17 mt x19 x20 x21 f0 f1 f2 f3 f4 f5 f6 f7 f8 f9 f10 f11 f12 f13 f14 f15 f16 f17 f18 f19 f20 f21 fL hn fP hm ho H.size (300 + (12 * i1.toInt.toNat + fP i1.toInt.toNat kk.toInt.toNat)) (1100 + mt.toInt.toNat) (by first | assumption | (unfold IR; omega)) (by first | assumption | (unfold IR; omega)) (by first | omega | assumption | decide | (have l0 := Int32.toInt_zero; omega)) (by first | omega | assumption | decide | (have l0 := Int32.toInt_zero; omega))) (va_cwS 2 hts mg_X10_eitherm_X10_lays_296 rfl rfl rfl (by decide +kernel) ⟨Nat.le_of_ble_eq_true rfl, Nat.le_of_ble_eq_true rfl⟩) ⟨fun a U g mk q => by obtain ⟨q0, q1, qP, qK, qD⟩ := q; exact ⟨q0, q1, qP, va_K.moved (u := U) (U := U.calling g mk a) (Vm.Alike.refl U.vm) qK, qD⟩, fun U hU hW => ⟨rfl, by rw [hU], by rw [hU]; exact hP, va_K.moved hW.alike hK, hD.weaken (fun _ _ _ _ => trivial)⟩⟩ rfl rfl hl.1 rfl (lv_room (Nat.le_of_ble_eq_true rfl)) dX10_either_34 ⟨Nat.le_of_ble_eq_true rfl, Nat.le_of_ble_eq_true rfl⟩) hS (fun q _ h => hFc q h) hFc (fun u t H1 locs ht hvm hw hB hz1 hk1 hS => ?_)
        obtain ⟨Nn_31, M_32, O_33, hr_30_0, hr_30_1, hP, hK1, hD1⟩ := hB
        rw [ht] at hP
        have hD := hD1.weaken (fun k q _ h => hFc q.1 h)
        generalize H1 = H at hP hS ⊢
        have hP : va_P (dC, dI) vwCl (mW ad kc x0 x1 x2 x3 x4 x5 x6 x7 x8 x9 x10 x11 x12 x13 x14 x15 x16 x17 mt x19 x20 x21 f0 f1 f2 f3 f4 f5 f6 f7 f8 f9 f10 f11 f12 f13 f14 f15 f16 f17 f18 f19 f20 f21 fL Nn_31 fP M_32 O_33) H := hP
        have hD : va_D A (mW ad kc x0 x1 x2 x3 x4 x5 x6 x7 x8 x9 x10 x11 x12 x13 x14 x15 x16 x17 mt x19 x20 x21 f0 f1 f2 f3 f4 f5 f6 f7 f8 f9 f10 f11 f12 f13 f14 f15 f16 f17 f18 f19 f20 f21 fL Nn_31 fP M_32 O_33) := hD
        obtain ⟨y_34, ey_34⟩ : ∃ y : Int32, y = kk + 1 := ⟨_, rfl⟩
        first | have ty_34 := i_add (a := kk.toInt) (b := 1) rfl (by decide) ey_34 (by omega) (by omega) | skip
        refine lv_iinc (v := y_34) (lv' := [(3, .int y_34), (0, .ref (ad 0)), (1, .int i1), (2, .int i2)]) hx hb dX10_either_37 hl (k := 0) rfl (by rw [ey_34]; rfl) (by decide) rfl (fun ls hl => ?_)
        refine lv_aload_n hx hb dX10_either_40 rfl (lv_at hl 1 rfl) ?_
        refine lv_dup hx hb dX10_either_41 rfl ?_
        refine va_get (D := (dC, dI)) (ci := 10) (v := .int mt) (C := RX10) (T := TX10) (N := 48) hx hb hts fin_X10_eitherm_X10 hown hK hP 0 rfl rfl 32 (by decide) (hts (.fieldLink RX10 289 "PatternGateModel" "manyTop" "I") (List.mem_of_getElem? (i := 1) (by decide +kernel))) (fun _ h9 => h9) rfl dX10_either_42 ?_
        refine lv_iconst (v := 1) hx hb dX10_either_45 (by decide) ?_
        refine lv_iadd hx hb dX10_either_46 ?_
        refine lv_topi (fun y_35 ey_35 => ?_)
        first | have ty_35 := i_add (a := mt.toInt) (b := 1) rfl (by decide) ey_35 (by omega) (by omega) | skip
        refine va_put (D := (dC, dI)) (ci := 10) (v := .int y_35) (ty := .int) (C := RX10) (T := TX10) (N := 48) hx hb hts fin_X10_eitherm_X10 tyX10 tyX10_ok nmX10 hown hK hP hD hS 0 rfl rfl 32 (by decide) (hts (.fieldLink RX10 289 "PatternGateModel" "manyTop" "I") (List.mem_of_getElem? (i := 1) (by decide +kernel))) (fun _ h9 => h9) rfl (by decide +kernel) rfl rfl (Nat.le_of_ble_eq_true rfl) dX10_either_47 (fun H locs hP hD hS => ?_)
        have hP : va_P (dC, dI) vwCl (mW ad kc x0 x1 x2 x3 x4 x5 x6 x7 x8 x9 x10 x11 x12 x13 x14 x15 x16 x17 y_35 x19 x20 x21 f0 f1 f2 f3 f4 f5 f6 f7 f8 f9 f10 f11 f12 f13 f14 f15 f16 f17 f18 f19 f20 f21 fL Nn_31 fP M_32 O_33) H := hP
        have hD : va_D A (mW ad kc x0 x1 x2 x3 x4 x5 x6 x7 x8 x9 x10 x11 x12 x13 x14 x15 x16 x17 y_35 x19 x20 x21 f0 f1 f2 f3 f4 f5 f6 f7 f8 f9 f10 f11 f12 f13 f14 f15 f16 f17 f18 f19 f20 f21 fL Nn_31 fP M_32 O_33) := hD
        refine lv_goto (tgt := 7) hx hb dX10_either_50 (by decide) ?_
        exact ih7 y_34 y_35 Nn_31 M_32 O_33 (by first | omega | assumption | decide) (by first | omega | assumption | decide) (by first | omega | assumption | decide) (v7_3.row hr_30_0 (by omega)) (v7_4.push hr_30_0 (by have h9 := hr_30_1; omega) (by have h9 := hr_30_1; omega) (by omega) (by omega) (by omega)) (by omega) _ _ ls hP hD hS (lv_sub hl [0, 1, 2, 3] rfl)
  have lit_35 : (0 : Int32).toInt = 0 := by decide
  have lit_36 : (0 : Int32).toInt = 0 := by decide
  exact loop7 _ 0 0 fN fM fO (by first | omega | assumption | decide) (by first | omega | assumption | decide) (by first | omega | assumption | decide) mFr.rf (fun i hi => by omega) (Nat.lt_succ_self _) _ _ ls hP hD hS (lv_sub hl [0, 1, 2, 3] rfl)
theorem dX10_both_0 : decode cX10_both 0 = .ok (.aload_n 0, 1) := by decide +kernel
theorem dX10_both_1 : decode cX10_both 1 = .ok (.iconst 0, 1) := by decide +kernel
theorem dX10_both_2 : decode cX10_both 2 = .ok (.putfield 289, 3) := by decide +kernel
theorem dX10_both_5 : decode cX10_both 5 = .ok (.iconst 0, 1) := by decide +kernel
theorem dX10_both_6 : decode cX10_both 6 = .ok (.istore_n 3, 1) := by decide +kernel
theorem dX10_both_7 : decode cX10_both 7 = .ok (.iload_n 3, 1) := by decide +kernel
theorem dX10_both_8 : decode cX10_both 8 = .ok (.aload_n 0, 1) := by decide +kernel
theorem dX10_both_9 : decode cX10_both 9 = .ok (.getfield 64, 3) := by decide +kernel
theorem dX10_both_12 : decode cX10_both 12 = .ok (.iload_n 1, 1) := by decide +kernel
theorem dX10_both_13 : decode cX10_both 13 = .ok (.iaload, 1) := by decide +kernel
theorem dX10_both_14 : decode cX10_both 14 = .ok (.if_icmp .ge 68, 3) := by decide +kernel
theorem dX10_both_17 : decode cX10_both 17 = .ok (.iconst 0, 1) := by decide +kernel
theorem dX10_both_18 : decode cX10_both 18 = .ok (.istore 4, 2) := by decide +kernel
theorem dX10_both_20 : decode cX10_both 20 = .ok (.iload 4, 2) := by decide +kernel
theorem dX10_both_22 : decode cX10_both 22 = .ok (.aload_n 0, 1) := by decide +kernel
theorem dX10_both_23 : decode cX10_both 23 = .ok (.getfield 64, 3) := by decide +kernel
theorem dX10_both_26 : decode cX10_both 26 = .ok (.iload_n 2, 1) := by decide +kernel
theorem dX10_both_27 : decode cX10_both 27 = .ok (.iaload, 1) := by decide +kernel
theorem dX10_both_28 : decode cX10_both 28 = .ok (.if_icmp .ge 48, 3) := by decide +kernel
theorem dX10_both_31 : decode cX10_both 31 = .ok (.aload_n 0, 1) := by decide +kernel
theorem dX10_both_32 : decode cX10_both 32 = .ok (.getfield 56, 3) := by decide +kernel
theorem dX10_both_35 : decode cX10_both 35 = .ok (.iload_n 1, 1) := by decide +kernel
theorem dX10_both_36 : decode cX10_both 36 = .ok (.aaload, 1) := by decide +kernel
theorem dX10_both_37 : decode cX10_both 37 = .ok (.iload_n 3, 1) := by decide +kernel
theorem dX10_both_38 : decode cX10_both 38 = .ok (.aaload, 1) := by decide +kernel
theorem dX10_both_39 : decode cX10_both 39 = .ok (.aload_n 0, 1) := by decide +kernel
theorem dX10_both_40 : decode cX10_both 40 = .ok (.getfield 56, 3) := by decide +kernel
theorem dX10_both_43 : decode cX10_both 43 = .ok (.iload_n 2, 1) := by decide +kernel
theorem dX10_both_44 : decode cX10_both 44 = .ok (.aaload, 1) := by decide +kernel
theorem dX10_both_45 : decode cX10_both 45 = .ok (.iload 4, 2) := by decide +kernel
theorem dX10_both_47 : decode cX10_both 47 = .ok (.aaload, 1) := by decide +kernel
theorem dX10_both_48 : decode cX10_both 48 = .ok (.aload_n 0, 1) := by decide +kernel
theorem dX10_both_49 : decode cX10_both 49 = .ok (.getfield 61, 3) := by decide +kernel
theorem dX10_both_52 : decode cX10_both 52 = .ok (.aload_n 0, 1) := by decide +kernel
theorem dX10_both_53 : decode cX10_both 53 = .ok (.getfield 289, 3) := by decide +kernel
theorem dX10_both_56 : decode cX10_both 56 = .ok (.aaload, 1) := by decide +kernel
theorem dX10_both_57 : decode cX10_both 57 = .ok (.invokestatic 312, 3) := by decide +kernel
theorem dX10_both_60 : decode cX10_both 60 = .ok (.iinc 4 1, 3) := by decide +kernel
theorem dX10_both_63 : decode cX10_both 63 = .ok (.aload_n 0, 1) := by decide +kernel
theorem dX10_both_64 : decode cX10_both 64 = .ok (.dup, 1) := by decide +kernel
theorem dX10_both_65 : decode cX10_both 65 = .ok (.getfield 289, 3) := by decide +kernel
theorem dX10_both_68 : decode cX10_both 68 = .ok (.iconst 1, 1) := by decide +kernel
theorem dX10_both_69 : decode cX10_both 69 = .ok (.iadd, 1) := by decide +kernel
theorem dX10_both_70 : decode cX10_both 70 = .ok (.putfield 289, 3) := by decide +kernel
theorem dX10_both_73 : decode cX10_both 73 = .ok (.goto (-53), 3) := by decide +kernel
theorem dX10_both_76 : decode cX10_both 76 = .ok (.iinc 3 1, 3) := by decide +kernel
theorem dX10_both_79 : decode cX10_both 79 = .ok (.goto (-72), 3) := by decide +kernel
theorem dX10_both_82 : decode cX10_both 82 = .ok (.aload_n 0, 1) := by decide +kernel
theorem dX10_both_83 : decode cX10_both 83 = .ok (.invokevirtual 306, 3) := by decide +kernel
theorem dX10_both_86 : decode cX10_both 86 = .ok (.aload_n 0, 1) := by decide +kernel
theorem dX10_both_87 : decode cX10_both 87 = .ok (.getfield 289, 3) := by decide +kernel
theorem dX10_both_90 : decode cX10_both 90 = .ok (.bipush 12, 2) := by decide +kernel
theorem dX10_both_92 : decode cX10_both 92 = .ok (.if_icmp .gt 8, 3) := by decide +kernel
theorem dX10_both_95 : decode cX10_both 95 = .ok (.aload_n 0, 1) := by decide +kernel
theorem dX10_both_96 : decode cX10_both 96 = .ok (.iload_n 1, 1) := by decide +kernel
theorem dX10_both_97 : decode cX10_both 97 = .ok (.invokevirtual 309, 3) := by decide +kernel
theorem dX10_both_100 : decode cX10_both 100 = .ok (.return_, 1) := by decide +kernel
def mwX10_bothm : List Cond := .code yX10_both cX10_both 5 none :: ([.fieldLink RX10 289 "PatternGateModel" "manyTop" "I", .fieldLink RX10 64 "PatternGateModel" "needMany" "[I", .code yX10_cutsDown cX10_cutsDown 5 none, .fieldLink RX10 67 "PatternGateModel" "kept" "[Z", .fieldLink RX10 61 "PatternGateModel" "many" "[[I", .code yX10_lays cX10_lays 3 none, .methodLink RX10 296 yX10_lays, .static yX10_lays, .initialized RX10, .code yX10_hasAll cX10_hasAll 4 (some .boolean), .methodLink RX10 292 yX10_hasAll, .static yX10_hasAll, .methodLink RX10 306 yX10_cutsDown, .instanceMethod yX10_cutsDown, .selects RX10 yX10_cutsDown yX10_cutsDown, .code yX10_becomes cX10_becomes 3 none, .fieldLink RX10 56 "PatternGateModel" "needs" "[[[I", .methodLink RX10 309 yX10_becomes, .instanceMethod yX10_becomes, .selects RX10 yX10_becomes yX10_becomes, .code yX10_joins_ cX10_joins_ 7 none, .methodLink RX10 312 yX10_joins_, .static yX10_joins_] ++ wsX100)
theorem fin_X10_bothm_X10 : ∀ w ∈ wsX100, w ∈ mwX10_bothm := fun w h => List.mem_cons_of_mem _ (List.mem_append_right _ h)
set_option maxRecDepth 20000 in
theorem mg_X10_bothm_X10_cutsDown_306 : GoodIn mwX10_bothm (wsV RX10 306 RX10 yX10_cutsDown mwX10_cutsDownm) := goodIn_r _ [13, 14, 15, 9, 3, 1, 4, 5, 6, 7, 8, 9, 10, 11, 12, 24, 25, 26, 27, 28, 29, 30, 31, 32, 33, 34, 35, 36, 37, 38, 39, 40, 41, 42, 43, 44, 45, 46, 47, 48, 49, 50, 51, 52, 53, 54, 55, 56, 57, 58, 59, 60, 61, 62, 63, 64, 65, 66, 67, 68, 69, 70, 71] (by decide +kernel) (by decide +kernel)
set_option maxRecDepth 20000 in
theorem mg_X10_bothm_X10_becomes_309 : GoodIn mwX10_bothm (wsV RX10 309 RX10 yX10_becomes mwX10_becomesm) := goodIn_r _ [18, 19, 20, 9, 16, 2, 1, 5, 17, 6, 7, 8, 9, 24, 25, 26, 27, 28, 29, 30, 31, 32, 33, 34, 35, 36, 37, 38, 39, 40, 41, 42, 43, 44, 45, 46, 47, 48, 49, 50, 51, 52, 53, 54, 55, 56, 57, 58, 59, 60, 61, 62, 63, 64, 65, 66, 67, 68, 69, 70, 71] (by decide +kernel) (by decide +kernel)
set_option maxRecDepth 20000 in
theorem mg_X10_bothm_X10_joins__312 : GoodIn mwX10_bothm (va_wsS RX10 312 yX10_joins_ mwX10_joins_m) := goodIn_r _ [22, 23, 9, 21] (by decide +kernel) (by decide +kernel)
set_option maxHeartbeats 4000000 in
set_option maxRecDepth 100000 in
theorem m_both (l : Launch) (dC : Nat → ClassId) (dI : Nat → Nat → Nat) (ad : Nat → Nat) (kc : Nat → ClassId) (x0 x1 x2 x3 x4 x5 x6 x7 x8 x9 x10 x11 x12 x13 x14 x15 x16 x17 x18 x19 x20 x21 : Int32) (f0 f1 f2 f3 f4 f5 f6 f7 f8 f9 f10 f11 f12 f13 f14 f15 f16 f17 f18 f19 f20 f21 : Nat → Int32) (fL : Nat → Nat → Int64) (fN : Nat → Nat → Int32) (fP : Nat → Nat → Nat) (fM : Nat → Nat → Int32) (fO : Nat → Nat → Int32) (sz : Nat) (i1 i2 : Int32) (ba : Int) (bb : Int) (cc : Int) (q0 : 0 ≤ i1.toInt ∧ i1.toInt < 60) (q1 : 0 ≤ i2.toInt ∧ i2.toInt < 60) (q2 : i1.toInt ≠ i2.toInt) (q3 : nOK (rO fN fM fO) fP f10 i1.toInt ba) (q4 : nOK (rO fN fM fO) fP f10 i2.toInt bb) (q5 : PI fP) (q6 : 0 ≤ bb ∧ 0 ≤ ba ∧ ba + bb ≤ cc ∧ cc ≤ 168) : Met l yX10_both mwX10_bothm ({ frames := 2, cells := 0, slots := 0, locals := 120 }) (va_Pc [.ref (ad 0), .int i1, .int i2] (fun U => U.heap.size = sz ∧ va_P (dC, dI) vwCl (mW ad kc x0 x1 x2 x3 x4 x5 x6 x7 x8 x9 x10 x11 x12 x13 x14 x15 x16 x17 x18 x19 x20 x21 f0 f1 f2 f3 f4 f5 f6 f7 f8 f9 f10 f11 f12 f13 f14 f15 f16 f17 f18 f19 f20 f21 fL fN fP fM fO) U.heap ∧ va_K (dC, dI) vwCl (mT kc) U ∧ va_D (fun _ => True) (mW ad kc x0 x1 x2 x3 x4 x5 x6 x7 x8 x9 x10 x11 x12 x13 x14 x15 x16 x17 x18 x19 x20 x21 f0 f1 f2 f3 f4 f5 f6 f7 f8 f9 f10 f11 f12 f13 f14 f15 f16 f17 f18 f19 f20 f21 fL fN fP fM fO))) (va_Qv (fun (_ : Unit) => True) (fun _ t => ∃ (y18 : Int32) (g11 g10 : Nat → Int32) (Nn9 : Nat → Nat → Int32) (M9 : Nat → Nat → Int32) (O9 : Nat → Nat → Int32), (nOK (rO Nn9 M9 O9) fP g10 i1.toInt cc) ∧ (nFm (rO fN fM fO) (rO Nn9 M9 O9) i1.toInt) ∧ (∀ z : Int, 0 ≤ z → z ≠ i1.toInt → vI g10 z = vI f10 z) ∧ va_P (dC, dI) vwCl (mW ad kc x0 x1 x2 x3 x4 x5 x6 x7 x8 x9 x10 x11 x12 x13 x14 x15 x16 x17 y18 x19 x20 x21 f0 f1 f2 f3 f4 f5 f6 f7 f8 f9 g10 g11 f12 f13 f14 f15 f16 f17 f18 f19 f20 f21 fL Nn9 fP M9 O9) t.heap ∧ va_K (dC, dI) vwCl (mT kc) t ∧ va_D (va_A (mW ad kc x0 x1 x2 x3 x4 x5 x6 x7 x8 x9 x10 x11 x12 x13 x14 x15 x16 x17 x18 x19 x20 x21 f0 f1 f2 f3 f4 f5 f6 f7 f8 f9 f10 f11 f12 f13 f14 f15 f16 f17 f18 f19 f20 f21 fL fN fP fM fO) sz) (mW ad kc x0 x1 x2 x3 x4 x5 x6 x7 x8 x9 x10 x11 x12 x13 x14 x15 x16 x17 y18 x19 x20 x21 f0 f1 f2 f3 f4 f5 f6 f7 f8 f9 g10 g11 f12 f13 f14 f15 f16 f17 f18 f19 f20 f21 fL Nn9 fP M9 O9)) (va_A (mW ad kc x0 x1 x2 x3 x4 x5 x6 x7 x8 x9 x10 x11 x12 x13 x14 x15 x16 x17 x18 x19 x20 x21 f0 f1 f2 f3 f4 f5 f6 f7 f8 f9 f10 f11 f12 f13 f14 f15 f16 f17 f18 f19 f20 f21 fL fN fP fM fO) sz)) 0 0 (va_A (mW ad kc x0 x1 x2 x3 x4 x5 x6 x7 x8 x9 x10 x11 x12 x13 x14 x15 x16 x17 x18 x19 x20 x21 f0 f1 f2 f3 f4 f5 f6 f7 f8 f9 f10 f11 f12 f13 f14 f15 f16 f17 f18 f19 f20 f21 fL fN fP fM fO) sz) := by
  refine Met.ofW (cc := cX10_both) (maxL := 5) (ret := none) (by decide +kernel) rfl ?_
  intro p e s m args below meth c s₁ B hml hv
  obtain ⟨rfl, hsz, hP, hK, hD0⟩ := hv
  have hx := B.exec
  have hb := B.bytes
  have hr := B.returns
  have hts := atoms_spec (ws := mwX10_bothm) B.pre
  have hown : s.vm.findClass RX10 = some m.cls := findClass_of_methodNamed B.named
  have hlocks := B.notSynchronized
  subst hsz
  have hD := hD0.self (sz := s.heap.size)
  generalize hAe : va_A (mW ad kc x0 x1 x2 x3 x4 x5 x6 x7 x8 x9 x10 x11 x12 x13 x14 x15 x16 x17 x18 x19 x20 x21 f0 f1 f2 f3 f4 f5 f6 f7 f8 f9 f10 f11 f12 f13 f14 f15 f16 f17 f18 f19 f20 f21 fL fN fP fM fO) s.heap.size = A at hD ⊢
  have hA : ∀ q : Nat, s.heap.size ≤ q → A q := fun q h => by rw [← hAe]; exact Or.inr h
  have hP : va_P (dC, dI) vwCl (mW ad kc x0 x1 x2 x3 x4 x5 x6 x7 x8 x9 x10 x11 x12 x13 x14 x15 x16 x17 x18 x19 x20 x21 f0 f1 f2 f3 f4 f5 f6 f7 f8 f9 f10 f11 f12 f13 f14 f15 f16 f17 f18 f19 f20 f21 fL fN fP fM fO) s.heap := hP
  have hD : va_D A (mW ad kc x0 x1 x2 x3 x4 x5 x6 x7 x8 x9 x10 x11 x12 x13 x14 x15 x16 x17 x18 x19 x20 x21 f0 f1 f2 f3 f4 f5 f6 f7 f8 f9 f10 f11 f12 f13 f14 f15 f16 f17 f18 f19 f20 f21 fL fN fP fM fO) := hD
  have hK : va_K (dC, dI) vwCl (mT kc) s := hK
  generalize hH : s.heap = H at hP ⊢
  have hS : va_S A s.heap H [] := by rw [← hH]; exact va_S.rf
  have hl := lv_entry ([.ref (ad 0), .int i1, .int i2]) (n := 5) (Nat.le_of_ble_eq_true rfl)
  rw [lg_entry_eq]
  generalize (lg_sl ([.ref (ad 0), .int i1, .int i2]) ++ List.replicate (5 - (lg_sl ([.ref (ad 0), .int i1, .int i2])).length) Slot.unset).toArray = ls at hl ⊢
  have hl : lv_has ls 5 [(0, .ref (ad 0)), (1, .int i1), (2, .int i2)] := hl
  have rg_i1 := i_rng i1
  have rg_i2 := i_rng i2
  have q3a := q3.1
  have q3b := q3.2.1
  have q4a := q4.1
  have q4b := q4.2.1
  have hnl : vI f10 i1.toInt * 12 ≤ 144 := by omega
  refine lv_aload_n hx hb dX10_both_0 rfl (lv_at hl 0 rfl) ?_
  refine lv_iconst (v := 0) hx hb dX10_both_1 (by decide) ?_
  refine va_put (D := (dC, dI)) (ci := 10) (v := .int 0) (ty := .int) (C := RX10) (T := TX10) (N := 48) hx hb hts fin_X10_bothm_X10 tyX10 tyX10_ok nmX10 hown hK hP hD hS 0 rfl rfl 32 (by decide) (hts (.fieldLink RX10 289 "PatternGateModel" "manyTop" "I") (List.mem_of_getElem? (i := 1) (by decide +kernel))) (fun _ h9 => h9) rfl (by decide +kernel) rfl rfl (Nat.le_of_ble_eq_true rfl) dX10_both_2 (fun H locs hP hD hS => ?_)
  have hP : va_P (dC, dI) vwCl (mW ad kc x0 x1 x2 x3 x4 x5 x6 x7 x8 x9 x10 x11 x12 x13 x14 x15 x16 x17 0 x19 x20 x21 f0 f1 f2 f3 f4 f5 f6 f7 f8 f9 f10 f11 f12 f13 f14 f15 f16 f17 f18 f19 f20 f21 fL fN fP fM fO) H := hP
  have hD : va_D A (mW ad kc x0 x1 x2 x3 x4 x5 x6 x7 x8 x9 x10 x11 x12 x13 x14 x15 x16 x17 0 x19 x20 x21 f0 f1 f2 f3 f4 f5 f6 f7 f8 f9 f10 f11 f12 f13 f14 f15 f16 f17 f18 f19 f20 f21 fL fN fP fM fO) := hD
  have lit_0 : (0 : Int32).toInt = 0 := by decide
  refine lv_iconst (v := 0) hx hb dX10_both_5 (by decide) ?_
  refine lv_istore_n (lv' := [(3, .int 0), (0, .ref (ad 0)), (1, .int i1), (2, .int i2)]) hx hb dX10_both_6 rfl hl (by decide) rfl (fun ls hl => ?_)
  have loop7 : ∀ (lm7 : Nat) (kk mt : Int32) (hn : Nat → Nat → Int32) (hm : Nat → Nat → Int32) (ho : Nat → Nat → Int32), (0 ≤ kk.toInt) → (kk.toInt ≤ vI f10 i1.toInt) → (0 ≤ mt.toInt ∧ mt.toInt ≤ 12 * kk.toInt) → (mFr (rO fN fM fO) (rO hn hm ho)) → (mOK (rO hn hm ho) mt.toInt cc) → ((vI f10 i1.toInt - kk.toInt).toNat) < lm7 → ∀ (H : Heap) (locs : List Loc) (ls : Array Slot), va_P (dC, dI) vwCl (mW ad kc x0 x1 x2 x3 x4 x5 x6 x7 x8 x9 x10 x11 x12 x13 x14 x15 x16 x17 mt x19 x20 x21 f0 f1 f2 f3 f4 f5 f6 f7 f8 f9 f10 f11 f12 f13 f14 f15 f16 f17 f18 f19 f20 f21 fL hn fP hm ho) H → va_D A (mW ad kc x0 x1 x2 x3 x4 x5 x6 x7 x8 x9 x10 x11 x12 x13 x14 x15 x16 x17 mt x19 x20 x21 f0 f1 f2 f3 f4 f5 f6 f7 f8 f9 f10 f11 f12 f13 f14 f15 f16 f17 f18 f19 f20 f21 fL hn fP hm ho) → va_S A s.heap H locs → lv_has ls 5 [(3, .int kk), (0, .ref (ad 0)), (1, .int i1), (2, .int i2)] → W p l e (headSpec mwX10_bothm ({ frames := 2, cells := 0, slots := 0, locals := 120 })).room s m ([.ref (ad 0), .int i1, .int i2]).toArray below meth c H locs 0 0 (MQ below (va_Qv (fun (_ : Unit) => True) (fun _ t => ∃ (y18 : Int32) (g11 g10 : Nat → Int32) (Nn9 : Nat → Nat → Int32) (M9 : Nat → Nat → Int32) (O9 : Nat → Nat → Int32), (nOK (rO Nn9 M9 O9) fP g10 i1.toInt cc) ∧ (nFm (rO fN fM fO) (rO Nn9 M9 O9) i1.toInt) ∧ (∀ z : Int, 0 ≤ z → z ≠ i1.toInt → vI g10 z = vI f10 z) ∧ va_P (dC, dI) vwCl (mW ad kc x0 x1 x2 x3 x4 x5 x6 x7 x8 x9 x10 x11 x12 x13 x14 x15 x16 x17 y18 x19 x20 x21 f0 f1 f2 f3 f4 f5 f6 f7 f8 f9 g10 g11 f12 f13 f14 f15 f16 f17 f18 f19 f20 f21 fL Nn9 fP M9 O9) t.heap ∧ va_K (dC, dI) vwCl (mT kc) t ∧ va_D A (mW ad kc x0 x1 x2 x3 x4 x5 x6 x7 x8 x9 x10 x11 x12 x13 x14 x15 x16 x17 y18 x19 x20 x21 f0 f1 f2 f3 f4 f5 f6 f7 f8 f9 g10 g11 f12 f13 f14 f15 f16 f17 f18 f19 f20 f21 fL Nn9 fP M9 O9)) A) ([.ref (ad 0), .int i1, .int i2]).toArray s 0 0 A) (F0 m 7 ls []) := by
    intro lm7
    induction lm7 with
    | zero => intro kk mt hn hm ho v7_0 v7_1 v7_2 v7_3 v7_4 hm7; exact absurd hm7 (Nat.not_lt_zero _)
    | succ lm7 ih7 =>
      intro kk mt hn hm ho v7_0 v7_1 v7_2 v7_3 v7_4 hm7 H locs ls hP hD hS hl
      have rg_kk := i_rng kk
      have rg_mt := i_rng mt
      refine lv_iload_n hx hb dX10_both_7 rfl (lv_at hl 0 rfl) ?_
      refine lv_aload_n hx hb dX10_both_8 rfl (lv_at hl 1 rfl) ?_
      refine va_get (D := (dC, dI)) (ci := 10) (v := .ref (ad 11)) (C := RX10) (T := TX10) (N := 48) hx hb hts fin_X10_bothm_X10 hown hK hP 0 rfl rfl 30 (by decide) (hts (.fieldLink RX10 64 "PatternGateModel" "needMany" "[I") (List.mem_of_getElem? (i := 2) (by decide +kernel))) (fun _ h9 => h9) rfl dX10_both_9 ?_
      refine lv_iload_n hx hb dX10_both_12 rfl (lv_at hl 2 rfl) ?_
      refine va_iald hx hb hK hP 11 10 rfl rfl (i := i1) (vp_of (a := i1.toInt) rfl (by omega) (by omega)) dX10_both_13 ?_
      refine lv_topi (fun y_2 ey_2 => ?_)
      have rg_y_2 := i_rng y_2
      have vy_2 := vI_lda (f := f10) (i := i1) (a := i1.toInt) ey_2 (by first | omega | decide)
      have rg_y_2 := i_rng y_2
      refine lv_icmp_ge (tgt := 82) hx hb dX10_both_14 (by decide) (fun k_3 => ?_) (fun k_3 => ?_)
      · have tk_3 := c_ge (a := kk.toInt) (b := y_2.toInt) rfl rfl k_3
        refine lv_aload_n hx hb dX10_both_82 rfl (lv_at hl 1 rfl) ?_
        have hFc := m_free hD hS hA
        refine va_callv (va_runV (As := []) (rest := []) ⟨hx, hb, hml, hown, hts⟩ (m_cutsDown l dC dI ad kc x0 x1 x2 x3 x4 x5 x6 x7 x8 x9 x10 x11 x12 x13 x14 x15 x16 x17 mt x19 x20 x21 f0 f1 f2 f3 f4 f5 f6 f7 f8 f9 f10 f11 f12 f13 f14 f15 f16 f17 f18 f19 f20 f21 fL hn fP hm ho H.size cc (by first | omega | assumption | decide | (have l0 := Int32.toInt_zero; omega)) (by first | omega | assumption | decide | (have l0 := Int32.toInt_zero; omega)) v7_4) (cwV 0 hts mg_X10_bothm_X10_cutsDown_306 rfl rfl rfl (by decide +kernel) ⟨Nat.le_of_ble_eq_true rfl, Nat.le_of_ble_eq_true rfl⟩) ⟨fun a U g mk q => by obtain ⟨q0, q1, qP, qK, qD⟩ := q; exact ⟨q0, q1, qP, va_K.moved (u := U) (U := U.calling g mk a) (Vm.Alike.refl U.vm) qK, qD⟩, va_recv hK hP (ci := 10) (q0 := 0) rfl rfl, fun U hU hW => ⟨rfl, by rw [hU], by rw [hU]; exact hP, va_K.moved hW.alike hK, hD.weaken (fun _ _ _ _ => trivial)⟩⟩ rfl rfl hl.1 rfl (lv_room (Nat.le_of_ble_eq_true rfl)) dX10_both_83 ⟨Nat.le_of_ble_eq_true rfl, Nat.le_of_ble_eq_true rfl⟩) hS (fun q _ h => hFc q h) hFc (fun u t H1 locs ht hvm hw hB hz1 hk1 hS => ?_)
        obtain ⟨x_5, f_6, Nn_7, M_8, O_9, hr_4_0, hr_4_1, hr_4_2, hP, hK1, hD1⟩ := hB
        rw [ht] at hP
        have hD := hD1.weaken (fun k q _ h => hFc q.1 h)
        generalize H1 = H at hP hS ⊢
        have rg_x_5 := i_rng x_5
        have hP : va_P (dC, dI) vwCl (mW ad kc x0 x1 x2 x3 x4 x5 x6 x7 x8 x9 x10 x11 x12 x13 x14 x15 x16 x17 x_5 x19 x20 x21 f0 f1 f2 f3 f4 f5 f6 f7 f8 f9 f10 f_6 f12 f13 f14 f15 f16 f17 f18 f19 f20 f21 fL Nn_7 fP M_8 O_9) H := hP
        have hD : va_D A (mW ad kc x0 x1 x2 x3 x4 x5 x6 x7 x8 x9 x10 x11 x12 x13 x14 x15 x16 x17 x_5 x19 x20 x21 f0 f1 f2 f3 f4 f5 f6 f7 f8 f9 f10 f_6 f12 f13 f14 f15 f16 f17 f18 f19 f20 f21 fL Nn_7 fP M_8 O_9) := hD
        refine lv_aload_n hx hb dX10_both_86 rfl (lv_at hl 1 rfl) ?_
        refine va_get (D := (dC, dI)) (ci := 10) (v := .int x_5) (C := RX10) (T := TX10) (N := 48) hx hb hts fin_X10_bothm_X10 hown hK hP 0 rfl rfl 32 (by decide) (hts (.fieldLink RX10 289 "PatternGateModel" "manyTop" "I") (List.mem_of_getElem? (i := 1) (by decide +kernel))) (fun _ h9 => h9) rfl dX10_both_87 ?_
        refine lv_bipush (v := 12) hx hb dX10_both_90 (by decide) ?_
        refine lv_icmp_gt (tgt := 100) hx hb dX10_both_92 (by decide) (fun k_10 => ?_) (fun k_10 => ?_)
        · have tk_10 := c_gt (a := x_5.toInt) (b := 12) rfl (by decide) k_10
          exact W.vret hx hb hr (fun t ht hW => ⟨⟨(), rfl, trivial, x_5, f_6, f10, Nn_7, M_8, O_9, ((q3.fm q5 v7_3 (by omega) (by omega)).fm q5 hr_4_1 (by omega) (by omega) |>.mono (by omega)), ((nFm.of v7_3).tr (nFm.of hr_4_1)), (fun _ _ _ => rfl), by rw [ht]; exact hP, va_K.moved hW.alike hK, hD⟩, hS.F ht⟩) hS.2.2 dX10_both_100
        · have tk_10 := c_ngt (a := x_5.toInt) (b := 12) rfl (by decide) k_10
          refine lv_aload_n hx hb dX10_both_95 rfl (lv_at hl 1 rfl) ?_
          refine lv_iload_n hx hb dX10_both_96 rfl (lv_at hl 2 rfl) ?_
          have hFc := m_free hD hS hA
          refine va_callv (va_runV (As := [.int i1]) (rest := []) ⟨hx, hb, hml, hown, hts⟩ (m_becomes l dC dI ad kc x0 x1 x2 x3 x4 x5 x6 x7 x8 x9 x10 x11 x12 x13 x14 x15 x16 x17 x_5 x19 x20 x21 f0 f1 f2 f3 f4 f5 f6 f7 f8 f9 f10 f_6 f12 f13 f14 f15 f16 f17 f18 f19 f20 f21 fL Nn_7 fP M_8 O_9 H.size i1 cc (by first | omega | assumption | decide | (have l0 := Int32.toInt_zero; omega)) (by first | omega | assumption | decide | (have l0 := Int32.toInt_zero; omega)) (by first | omega | assumption | decide | (have l0 := Int32.toInt_zero; omega)) hr_4_2 (by first | omega | assumption | decide | (have l0 := Int32.toInt_zero; omega))) (cwV 1 hts mg_X10_bothm_X10_becomes_309 rfl rfl rfl (by decide +kernel) ⟨Nat.le_of_ble_eq_true rfl, Nat.le_of_ble_eq_true rfl⟩) ⟨fun a U g mk q => by obtain ⟨q0, q1, qP, qK, qD⟩ := q; exact ⟨q0, q1, qP, va_K.moved (u := U) (U := U.calling g mk a) (Vm.Alike.refl U.vm) qK, qD⟩, va_recv hK hP (ci := 10) (q0 := 0) rfl rfl, fun U hU hW => ⟨rfl, by rw [hU], by rw [hU]; exact hP, va_K.moved hW.alike hK, hD.weaken (fun _ _ _ _ => trivial)⟩⟩ rfl rfl hl.1 rfl (lv_room (Nat.le_of_ble_eq_true rfl)) dX10_both_97 ⟨Nat.le_of_ble_eq_true rfl, Nat.le_of_ble_eq_true rfl⟩) hS (fun q _ h => hFc q h) hFc (fun u t H1 locs ht hvm hw hB hz1 hk1 hS => ?_)
          obtain ⟨f_12, Nn_13, M_14, O_15, hr_11_0, hr_11_1, hr_11_2, hP, hK1, hD1⟩ := hB
          rw [ht] at hP
          have hD := hD1.weaken (fun k q _ h => hFc q.1 h)
          generalize H1 = H at hP hS ⊢
          have hP : va_P (dC, dI) vwCl (mW ad kc x0 x1 x2 x3 x4 x5 x6 x7 x8 x9 x10 x11 x12 x13 x14 x15 x16 x17 x_5 x19 x20 x21 f0 f1 f2 f3 f4 f5 f6 f7 f8 f9 f_12 f_6 f12 f13 f14 f15 f16 f17 f18 f19 f20 f21 fL Nn_13 fP M_14 O_15) H := hP
          have hD : va_D A (mW ad kc x0 x1 x2 x3 x4 x5 x6 x7 x8 x9 x10 x11 x12 x13 x14 x15 x16 x17 x_5 x19 x20 x21 f0 f1 f2 f3 f4 f5 f6 f7 f8 f9 f_12 f_6 f12 f13 f14 f15 f16 f17 f18 f19 f20 f21 fL Nn_13 fP M_14 O_15) := hD
          exact W.vret hx hb hr (fun t ht hW => ⟨⟨(), rfl, trivial, x_5, f_6, f_12, Nn_13, M_14, O_15, hr_11_0, (((nFm.of v7_3).tr (nFm.of hr_4_1)).tr hr_11_1), hr_11_2, by rw [ht]; exact hP, va_K.moved hW.alike hK, hD⟩, hS.F ht⟩) hS.2.2 dX10_both_100
      · have tk_3 := c_nge (a := kk.toInt) (b := y_2.toInt) rfl rfl k_3
        refine lv_iconst (v := 0) hx hb dX10_both_17 (by decide) ?_
        refine lv_istore (lv' := [(4, .int 0), (3, .int kk), (0, .ref (ad 0)), (1, .int i1), (2, .int i2)]) hx hb dX10_both_18 hl (by decide) rfl (fun ls hl => ?_)
        have loop20 : ∀ (lm20 : Nat) (k2 mu : Int32) (jn : Nat → Nat → Int32) (jm : Nat → Nat → Int32) (jo : Nat → Nat → Int32), (0 ≤ k2.toInt) → (k2.toInt ≤ vI f10 i2.toInt) → (0 ≤ mu.toInt ∧ mu.toInt ≤ 12 * kk.toInt + k2.toInt) → (mFr (rO fN fM fO) (rO jn jm jo)) → (mOK (rO jn jm jo) mu.toInt cc) → ((vI f10 i2.toInt - k2.toInt).toNat) < lm20 → ∀ (H : Heap) (locs : List Loc) (ls : Array Slot), va_P (dC, dI) vwCl (mW ad kc x0 x1 x2 x3 x4 x5 x6 x7 x8 x9 x10 x11 x12 x13 x14 x15 x16 x17 mu x19 x20 x21 f0 f1 f2 f3 f4 f5 f6 f7 f8 f9 f10 f11 f12 f13 f14 f15 f16 f17 f18 f19 f20 f21 fL jn fP jm jo) H → va_D A (mW ad kc x0 x1 x2 x3 x4 x5 x6 x7 x8 x9 x10 x11 x12 x13 x14 x15 x16 x17 mu x19 x20 x21 f0 f1 f2 f3 f4 f5 f6 f7 f8 f9 f10 f11 f12 f13 f14 f15 f16 f17 f18 f19 f20 f21 fL jn fP jm jo) → va_S A s.heap H locs → lv_has ls 5 [(4, .int k2), (3, .int kk), (0, .ref (ad 0)), (1, .int i1), (2, .int i2)] → W p l e (headSpec mwX10_bothm ({ frames := 2, cells := 0, slots := 0, locals := 120 })).room s m ([.ref (ad 0), .int i1, .int i2]).toArray below meth c H locs 0 0 (MQ below (va_Qv (fun (_ : Unit) => True) (fun _ t => ∃ (y18 : Int32) (g11 g10 : Nat → Int32) (Nn9 : Nat → Nat → Int32) (M9 : Nat → Nat → Int32) (O9 : Nat → Nat → Int32), (nOK (rO Nn9 M9 O9) fP g10 i1.toInt cc) ∧ (nFm (rO fN fM fO) (rO Nn9 M9 O9) i1.toInt) ∧ (∀ z : Int, 0 ≤ z → z ≠ i1.toInt → vI g10 z = vI f10 z) ∧ va_P (dC, dI) vwCl (mW ad kc x0 x1 x2 x3 x4 x5 x6 x7 x8 x9 x10 x11 x12 x13 x14 x15 x16 x17 y18 x19 x20 x21 f0 f1 f2 f3 f4 f5 f6 f7 f8 f9 g10 g11 f12 f13 f14 f15 f16 f17 f18 f19 f20 f21 fL Nn9 fP M9 O9) t.heap ∧ va_K (dC, dI) vwCl (mT kc) t ∧ va_D A (mW ad kc x0 x1 x2 x3 x4 x5 x6 x7 x8 x9 x10 x11 x12 x13 x14 x15 x16 x17 y18 x19 x20 x21 f0 f1 f2 f3 f4 f5 f6 f7 f8 f9 g10 g11 f12 f13 f14 f15 f16 f17 f18 f19 f20 f21 fL Nn9 fP M9 O9)) A) ([.ref (ad 0), .int i1, .int i2]).toArray s 0 0 A) (F0 m 20 ls []) := by
          intro lm20
          induction lm20 with
          | zero => intro k2 mu jn jm jo v20_0 v20_1 v20_2 v20_3 v20_4 hm20; exact absurd hm20 (Nat.not_lt_zero _)
          | succ lm20 ih20 =>
            intro k2 mu jn jm jo v20_0 v20_1 v20_2 v20_3 v20_4 hm20 H locs ls hP hD hS hl
            have rg_k2 := i_rng k2
            have rg_mu := i_rng mu
            refine lv_iload hx hb dX10_both_20 (lv_at hl 0 rfl) ?_
            refine lv_aload_n hx hb dX10_both_22 rfl (lv_at hl 2 rfl) ?_
            refine va_get (D := (dC, dI)) (ci := 10) (v := .ref (ad 11)) (C := RX10) (T := TX10) (N := 48) hx hb hts fin_X10_bothm_X10 hown hK hP 0 rfl rfl 30 (by decide) (hts (.fieldLink RX10 64 "PatternGateModel" "needMany" "[I") (List.mem_of_getElem? (i := 2) (by decide +kernel))) (fun _ h9 => h9) rfl dX10_both_23 ?_
            refine lv_iload_n hx hb dX10_both_26 rfl (lv_at hl 4 rfl) ?_
            refine va_iald hx hb hK hP 11 10 rfl rfl (i := i2) (vp_of (a := i2.toInt) rfl (by omega) (by omega)) dX10_both_27 ?_
            refine lv_topi (fun y_16 ey_16 => ?_)
            have rg_y_16 := i_rng y_16
            have vy_16 := vI_lda (f := f10) (i := i2) (a := i2.toInt) ey_16 (by first | omega | decide)
            have rg_y_16 := i_rng y_16
            refine lv_icmp_ge (tgt := 76) hx hb dX10_both_28 (by decide) (fun k_17 => ?_) (fun k_17 => ?_)
            · have tk_17 := c_ge (a := k2.toInt) (b := y_16.toInt) rfl rfl k_17
              obtain ⟨y_18, ey_18⟩ : ∃ y : Int32, y = kk + 1 := ⟨_, rfl⟩
              first | have ty_18 := i_add (a := kk.toInt) (b := 1) rfl (by decide) ey_18 (by omega) (by omega) | skip
              refine lv_iinc (v := y_18) (lv' := [(3, .int y_18), (4, .int k2), (0, .ref (ad 0)), (1, .int i1), (2, .int i2)]) hx hb dX10_both_76 hl (k := 1) rfl (by rw [ey_18]; rfl) (by decide) rfl (fun ls hl => ?_)
              refine lv_goto (tgt := 7) hx hb dX10_both_79 (by decide) ?_
              exact ih7 y_18 mu jn jm jo (by first | omega | assumption | decide) (by first | omega | assumption | decide) (by first | omega | assumption | decide) v20_3 v20_4 (by omega) _ _ ls hP hD hS (lv_sub hl [0, 2, 3, 4] rfl)
            · have tk_17 := c_nge (a := k2.toInt) (b := y_16.toInt) rfl rfl k_17
              refine lv_aload_n hx hb dX10_both_31 rfl (lv_at hl 2 rfl) ?_
              refine va_get (D := (dC, dI)) (ci := 10) (v := .ref (ad 24)) (C := RX10) (T := TX10) (N := 48) hx hb hts fin_X10_bothm_X10 hown hK hP 0 rfl rfl 28 (by decide) (hts (.fieldLink RX10 56 "PatternGateModel" "needs" "[[[I") (List.mem_of_getElem? (i := 17) (by decide +kernel))) (fun _ h9 => h9) rfl dX10_both_32 ?_
              refine lv_iload_n hx hb dX10_both_35 rfl (lv_at hl 3 rfl) ?_
              refine m_aak hx hb hK hP 24 23 (k := i1.toInt.toNat) (b := ad (200 + i1.toInt.toNat)) rfl rfl rfl (i := i1) (by omega) (by omega) rfl dX10_both_36 ?_
              refine lv_iload_n hx hb dX10_both_37 rfl (lv_at hl 1 rfl) ?_
              refine m_aak hx hb hK hP (117 + i1.toInt.toNat) 27 (k := kk.toInt.toNat) (b := ad (300 + (12 * i1.toInt.toNat + fP i1.toInt.toNat kk.toInt.toNat))) (mW_P (by omega)) rfl rfl (i := kk) (by omega) (by omega) rfl dX10_both_38 ?_
              have hp38 := (q5 i1.toInt.toNat kk.toInt.toNat (by omega)).1
              refine lv_aload_n hx hb dX10_both_39 rfl (lv_at hl 2 rfl) ?_
              refine va_get (D := (dC, dI)) (ci := 10) (v := .ref (ad 24)) (C := RX10) (T := TX10) (N := 48) hx hb hts fin_X10_bothm_X10 hown hK hP 0 rfl rfl 28 (by decide) (hts (.fieldLink RX10 56 "PatternGateModel" "needs" "[[[I") (List.mem_of_getElem? (i := 17) (by decide +kernel))) (fun _ h9 => h9) rfl dX10_both_40 ?_
              refine lv_iload_n hx hb dX10_both_43 rfl (lv_at hl 4 rfl) ?_
              refine m_aak hx hb hK hP 24 23 (k := i2.toInt.toNat) (b := ad (200 + i2.toInt.toNat)) rfl rfl rfl (i := i2) (by omega) (by omega) rfl dX10_both_44 ?_
              refine lv_iload hx hb dX10_both_45 (lv_at hl 0 rfl) ?_
              refine m_aak hx hb hK hP (117 + i2.toInt.toNat) 27 (k := k2.toInt.toNat) (b := ad (300 + (12 * i2.toInt.toNat + fP i2.toInt.toNat k2.toInt.toNat))) (mW_P (by omega)) rfl rfl (i := k2) (by omega) (by omega) rfl dX10_both_47 ?_
              have hp47 := (q5 i2.toInt.toNat k2.toInt.toNat (by omega)).1
              refine lv_aload_n hx hb dX10_both_48 rfl (lv_at hl 2 rfl) ?_
              refine va_get (D := (dC, dI)) (ci := 10) (v := .ref (ad 25)) (C := RX10) (T := TX10) (N := 48) hx hb hts fin_X10_bothm_X10 hown hK hP 0 rfl rfl 29 (by decide) (hts (.fieldLink RX10 61 "PatternGateModel" "many" "[[I") (List.mem_of_getElem? (i := 5) (by decide +kernel))) (fun _ h9 => h9) rfl dX10_both_49 ?_
              refine lv_aload_n hx hb dX10_both_52 rfl (lv_at hl 2 rfl) ?_
              refine va_get (D := (dC, dI)) (ci := 10) (v := .int mu) (C := RX10) (T := TX10) (N := 48) hx hb hts fin_X10_bothm_X10 hown hK hP 0 rfl rfl 32 (by decide) (hts (.fieldLink RX10 289 "PatternGateModel" "manyTop" "I") (List.mem_of_getElem? (i := 1) (by decide +kernel))) (fun _ h9 => h9) rfl dX10_both_53 ?_
              refine m_aak hx hb hK hP 25 24 (k := mu.toInt.toNat) (b := ad (1100 + mu.toInt.toNat)) rfl rfl rfl (i := mu) (by omega) (by omega) rfl dX10_both_56 ?_
              have hz0 := q3.2.2 kk.toInt.toNat (by omega)
              have hy0 := vI_cg (z := 0) (v20_3 (300 + (12 * i1.toInt.toNat + fP i1.toInt.toNat kk.toInt.toNat)) (by unfold IR; omega) (by omega))
              have hz1 := q4.2.2 k2.toInt.toNat (by omega)
              have hy1 := vI_cg (z := 0) (v20_3 (300 + (12 * i2.toInt.toNat + fP i2.toInt.toNat k2.toInt.toNat)) (by unfold IR; omega) (by omega))
              have hFc := m_free hD hS hA
              refine va_callv (va_runS (As := [.ref (ad (300 + (12 * i1.toInt.toNat + fP i1.toInt.toNat kk.toInt.toNat))), .ref (ad (300 + (12 * i2.toInt.toNat + fP i2.toInt.toNat k2.toInt.toNat))), .ref (ad (1100 + mu.toInt.toNat))]) (rest := []) ⟨hx, hb, hml, hown, hts⟩ (m_joinsR l dC dI ad kc x0 x1 x2 x3 x4 x5 x6 x7 x8 x9 x10 x11 x12 x13 x14 x15 x16 x17 mu x19 x20 x21 f0 f1 f2 f3 f4 f5 f6 f7 f8 f9 f10 f11 f12 f13 f14 f15 f16 f17 f18 f19 f20 f21 fL jn fP jm jo H.size (300 + (12 * i1.toInt.toNat + fP i1.toInt.toNat kk.toInt.toNat)) (300 + (12 * i2.toInt.toNat + fP i2.toInt.toNat k2.toInt.toNat)) (1100 + mu.toInt.toNat) (by first | assumption | (unfold IR; omega)) (by first | assumption | (unfold IR; omega)) (by first | assumption | (unfold IR; omega)) (by first | omega | assumption | decide | (have l0 := Int32.toInt_zero; omega)) (by first | omega | assumption | decide | (have l0 := Int32.toInt_zero; omega)) (by first | omega | assumption | decide | (have l0 := Int32.toInt_zero; omega))) (va_cwS 3 hts mg_X10_bothm_X10_joins__312 rfl rfl rfl (by decide +kernel) ⟨Nat.le_of_ble_eq_true rfl, Nat.le_of_ble_eq_true rfl⟩) ⟨fun a U g mk q => by obtain ⟨q0, q1, qP, qK, qD⟩ := q; exact ⟨q0, q1, qP, va_K.moved (u := U) (U := U.calling g mk a) (Vm.Alike.refl U.vm) qK, qD⟩, fun U hU hW => ⟨rfl, by rw [hU], by rw [hU]; exact hP, va_K.moved hW.alike hK, hD.weaken (fun _ _ _ _ => trivial)⟩⟩ rfl rfl hl.1 rfl (lv_room (Nat.le_of_ble_eq_true rfl)) dX10_both_57 ⟨Nat.le_of_ble_eq_true rfl, Nat.le_of_ble_eq_true rfl⟩) hS (fun q _ h => hFc q h) hFc (fun u t H1 locs ht hvm hw hB hz1 hk1 hS => ?_)
              obtain ⟨Nn_20, M_21, O_22, hr_19_0, hr_19_1, hP, hK1, hD1⟩ := hB
              rw [ht] at hP
              have hD := hD1.weaken (fun k q _ h => hFc q.1 h)
              generalize H1 = H at hP hS ⊢
              have hP : va_P (dC, dI) vwCl (mW ad kc x0 x1 x2 x3 x4 x5 x6 x7 x8 x9 x10 x11 x12 x13 x14 x15 x16 x17 mu x19 x20 x21 f0 f1 f2 f3 f4 f5 f6 f7 f8 f9 f10 f11 f12 f13 f14 f15 f16 f17 f18 f19 f20 f21 fL Nn_20 fP M_21 O_22) H := hP
              have hD : va_D A (mW ad kc x0 x1 x2 x3 x4 x5 x6 x7 x8 x9 x10 x11 x12 x13 x14 x15 x16 x17 mu x19 x20 x21 f0 f1 f2 f3 f4 f5 f6 f7 f8 f9 f10 f11 f12 f13 f14 f15 f16 f17 f18 f19 f20 f21 fL Nn_20 fP M_21 O_22) := hD
              obtain ⟨y_23, ey_23⟩ : ∃ y : Int32, y = k2 + 1 := ⟨_, rfl⟩
              first | have ty_23 := i_add (a := k2.toInt) (b := 1) rfl (by decide) ey_23 (by omega) (by omega) | skip
              refine lv_iinc (v := y_23) (lv' := [(4, .int y_23), (3, .int kk), (0, .ref (ad 0)), (1, .int i1), (2, .int i2)]) hx hb dX10_both_60 hl (k := 0) rfl (by rw [ey_23]; rfl) (by decide) rfl (fun ls hl => ?_)
              refine lv_aload_n hx hb dX10_both_63 rfl (lv_at hl 2 rfl) ?_
              refine lv_dup hx hb dX10_both_64 rfl ?_
              refine va_get (D := (dC, dI)) (ci := 10) (v := .int mu) (C := RX10) (T := TX10) (N := 48) hx hb hts fin_X10_bothm_X10 hown hK hP 0 rfl rfl 32 (by decide) (hts (.fieldLink RX10 289 "PatternGateModel" "manyTop" "I") (List.mem_of_getElem? (i := 1) (by decide +kernel))) (fun _ h9 => h9) rfl dX10_both_65 ?_
              refine lv_iconst (v := 1) hx hb dX10_both_68 (by decide) ?_
              refine lv_iadd hx hb dX10_both_69 ?_
              refine lv_topi (fun y_24 ey_24 => ?_)
              first | have ty_24 := i_add (a := mu.toInt) (b := 1) rfl (by decide) ey_24 (by omega) (by omega) | skip
              refine va_put (D := (dC, dI)) (ci := 10) (v := .int y_24) (ty := .int) (C := RX10) (T := TX10) (N := 48) hx hb hts fin_X10_bothm_X10 tyX10 tyX10_ok nmX10 hown hK hP hD hS 0 rfl rfl 32 (by decide) (hts (.fieldLink RX10 289 "PatternGateModel" "manyTop" "I") (List.mem_of_getElem? (i := 1) (by decide +kernel))) (fun _ h9 => h9) rfl (by decide +kernel) rfl rfl (Nat.le_of_ble_eq_true rfl) dX10_both_70 (fun H locs hP hD hS => ?_)
              have hP : va_P (dC, dI) vwCl (mW ad kc x0 x1 x2 x3 x4 x5 x6 x7 x8 x9 x10 x11 x12 x13 x14 x15 x16 x17 y_24 x19 x20 x21 f0 f1 f2 f3 f4 f5 f6 f7 f8 f9 f10 f11 f12 f13 f14 f15 f16 f17 f18 f19 f20 f21 fL Nn_20 fP M_21 O_22) H := hP
              have hD : va_D A (mW ad kc x0 x1 x2 x3 x4 x5 x6 x7 x8 x9 x10 x11 x12 x13 x14 x15 x16 x17 y_24 x19 x20 x21 f0 f1 f2 f3 f4 f5 f6 f7 f8 f9 f10 f11 f12 f13 f14 f15 f16 f17 f18 f19 f20 f21 fL Nn_20 fP M_21 O_22) := hD
              refine lv_goto (tgt := 20) hx hb dX10_both_73 (by decide) ?_
              exact ih20 y_23 y_24 Nn_20 M_21 O_22 (by first | omega | assumption | decide) (by first | omega | assumption | decide) (by first | omega | assumption | decide) (v20_3.row hr_19_0 (by omega)) (v20_4.push hr_19_0 (by have h9 := hr_19_1; omega) (by have h9 := hr_19_1; omega) (by omega) (by omega) (by omega)) (by omega) _ _ ls hP hD hS (lv_sub hl [0, 1, 2, 3, 4] rfl)
        have lit_24 : (0 : Int32).toInt = 0 := by decide
        exact loop20 _ 0 mt hn hm ho (by first | omega | assumption | decide) (by first | omega | assumption | decide) (by first | omega | assumption | decide) v7_3 v7_4 (Nat.lt_succ_self _) _ _ ls hP hD hS (lv_sub hl [0, 1, 2, 3, 4] rfl)
  have lit_25 : (0 : Int32).toInt = 0 := by decide
  have lit_26 : (0 : Int32).toInt = 0 := by decide
  exact loop7 _ 0 0 fN fM fO (by first | omega | assumption | decide) (by first | omega | assumption | decide) (by first | omega | assumption | decide) mFr.rf (fun i hi => by omega) (Nat.lt_succ_self _) _ _ ls hP hD hS (lv_sub hl [0, 1, 2, 3] rfl)
theorem dX10_ofRows_0 : decode cX10_ofRows 0 = .ok (.aload_n 0, 1) := by decide +kernel
theorem dX10_ofRows_1 : decode cX10_ofRows 1 = .ok (.iconst 0, 1) := by decide +kernel
theorem dX10_ofRows_2 : decode cX10_ofRows 2 = .ok (.putfield 289, 3) := by decide +kernel
theorem dX10_ofRows_5 : decode cX10_ofRows 5 = .ok (.iconst 0, 1) := by decide +kernel
theorem dX10_ofRows_6 : decode cX10_ofRows 6 = .ok (.istore_n 3, 1) := by decide +kernel
theorem dX10_ofRows_7 : decode cX10_ofRows 7 = .ok (.iload_n 3, 1) := by decide +kernel
theorem dX10_ofRows_8 : decode cX10_ofRows 8 = .ok (.aload_n 0, 1) := by decide +kernel
theorem dX10_ofRows_9 : decode cX10_ofRows 9 = .ok (.getfield 51, 3) := by decide +kernel
theorem dX10_ofRows_12 : decode cX10_ofRows 12 = .ok (.iload_n 1, 1) := by decide +kernel
theorem dX10_ofRows_13 : decode cX10_ofRows 13 = .ok (.iaload, 1) := by decide +kernel
theorem dX10_ofRows_14 : decode cX10_ofRows 14 = .ok (.if_icmp .ge 108, 3) := by decide +kernel
theorem dX10_ofRows_17 : decode cX10_ofRows 17 = .ok (.aload_n 0, 1) := by decide +kernel
theorem dX10_ofRows_18 : decode cX10_ofRows 18 = .ok (.getfield 48, 3) := by decide +kernel
theorem dX10_ofRows_21 : decode cX10_ofRows 21 = .ok (.iload_n 1, 1) := by decide +kernel
theorem dX10_ofRows_22 : decode cX10_ofRows 22 = .ok (.aaload, 1) := by decide +kernel
theorem dX10_ofRows_23 : decode cX10_ofRows 23 = .ok (.iload_n 3, 1) := by decide +kernel
theorem dX10_ofRows_24 : decode cX10_ofRows 24 = .ok (.laload, 1) := by decide +kernel
theorem dX10_ofRows_25 : decode cX10_ofRows 25 = .ok (.lstore 4, 2) := by decide +kernel
theorem dX10_ofRows_27 : decode cX10_ofRows 27 = .ok (.aload_n 0, 1) := by decide +kernel
theorem dX10_ofRows_28 : decode cX10_ofRows 28 = .ok (.getfield 61, 3) := by decide +kernel
theorem dX10_ofRows_31 : decode cX10_ofRows 31 = .ok (.aload_n 0, 1) := by decide +kernel
theorem dX10_ofRows_32 : decode cX10_ofRows 32 = .ok (.getfield 289, 3) := by decide +kernel
theorem dX10_ofRows_35 : decode cX10_ofRows 35 = .ok (.aaload, 1) := by decide +kernel
theorem dX10_ofRows_36 : decode cX10_ofRows 36 = .ok (.iconst 0, 1) := by decide +kernel
theorem dX10_ofRows_37 : decode cX10_ofRows 37 = .ok (.iconst 0, 1) := by decide +kernel
theorem dX10_ofRows_38 : decode cX10_ofRows 38 = .ok (.iastore, 1) := by decide +kernel
theorem dX10_ofRows_39 : decode cX10_ofRows 39 = .ok (.iconst 0, 1) := by decide +kernel
theorem dX10_ofRows_40 : decode cX10_ofRows 40 = .ok (.istore 6, 2) := by decide +kernel
theorem dX10_ofRows_42 : decode cX10_ofRows 42 = .ok (.iload 6, 2) := by decide +kernel
theorem dX10_ofRows_44 : decode cX10_ofRows 44 = .ok (.iconst 2, 1) := by decide +kernel
theorem dX10_ofRows_45 : decode cX10_ofRows 45 = .ok (.iadd, 1) := by decide +kernel
theorem dX10_ofRows_46 : decode cX10_ofRows 46 = .ok (.lload 4, 2) := by decide +kernel
theorem dX10_ofRows_48 : decode cX10_ofRows 48 = .ok (.invokestatic 256, 3) := by decide +kernel
theorem dX10_ofRows_51 : decode cX10_ofRows 51 = .ok (.if_icmp .ge 55, 3) := by decide +kernel
theorem dX10_ofRows_54 : decode cX10_ofRows 54 = .ok (.aload_n 0, 1) := by decide +kernel
theorem dX10_ofRows_55 : decode cX10_ofRows 55 = .ok (.getfield 61, 3) := by decide +kernel
theorem dX10_ofRows_58 : decode cX10_ofRows 58 = .ok (.aload_n 0, 1) := by decide +kernel
theorem dX10_ofRows_59 : decode cX10_ofRows 59 = .ok (.getfield 289, 3) := by decide +kernel
theorem dX10_ofRows_62 : decode cX10_ofRows 62 = .ok (.aaload, 1) := by decide +kernel
theorem dX10_ofRows_63 : decode cX10_ofRows 63 = .ok (.sipush 676, 3) := by decide +kernel
theorem dX10_ofRows_66 : decode cX10_ofRows 66 = .ok (.lload 4, 2) := by decide +kernel
theorem dX10_ofRows_68 : decode cX10_ofRows 68 = .ok (.iload 6, 2) := by decide +kernel
theorem dX10_ofRows_70 : decode cX10_ofRows 70 = .ok (.invokestatic 260, 3) := by decide +kernel
theorem dX10_ofRows_73 : decode cX10_ofRows 73 = .ok (.imul, 1) := by decide +kernel
theorem dX10_ofRows_74 : decode cX10_ofRows 74 = .ok (.bipush 26, 2) := by decide +kernel
theorem dX10_ofRows_76 : decode cX10_ofRows 76 = .ok (.lload 4, 2) := by decide +kernel
theorem dX10_ofRows_78 : decode cX10_ofRows 78 = .ok (.iload 6, 2) := by decide +kernel
theorem dX10_ofRows_80 : decode cX10_ofRows 80 = .ok (.iconst 1, 1) := by decide +kernel
theorem dX10_ofRows_81 : decode cX10_ofRows 81 = .ok (.iadd, 1) := by decide +kernel
theorem dX10_ofRows_82 : decode cX10_ofRows 82 = .ok (.invokestatic 260, 3) := by decide +kernel
theorem dX10_ofRows_85 : decode cX10_ofRows 85 = .ok (.imul, 1) := by decide +kernel
theorem dX10_ofRows_86 : decode cX10_ofRows 86 = .ok (.iadd, 1) := by decide +kernel
theorem dX10_ofRows_87 : decode cX10_ofRows 87 = .ok (.lload 4, 2) := by decide +kernel
theorem dX10_ofRows_89 : decode cX10_ofRows 89 = .ok (.iload 6, 2) := by decide +kernel
theorem dX10_ofRows_91 : decode cX10_ofRows 91 = .ok (.iconst 2, 1) := by decide +kernel
theorem dX10_ofRows_92 : decode cX10_ofRows 92 = .ok (.iadd, 1) := by decide +kernel
theorem dX10_ofRows_93 : decode cX10_ofRows 93 = .ok (.invokestatic 260, 3) := by decide +kernel
theorem dX10_ofRows_96 : decode cX10_ofRows 96 = .ok (.iadd, 1) := by decide +kernel
theorem dX10_ofRows_97 : decode cX10_ofRows 97 = .ok (.invokestatic 315, 3) := by decide +kernel
theorem dX10_ofRows_100 : decode cX10_ofRows 100 = .ok (.iinc 6 1, 3) := by decide +kernel
theorem dX10_ofRows_103 : decode cX10_ofRows 103 = .ok (.goto (-61), 3) := by decide +kernel
theorem dX10_ofRows_106 : decode cX10_ofRows 106 = .ok (.iinc 3 1, 3) := by decide +kernel
theorem dX10_ofRows_109 : decode cX10_ofRows 109 = .ok (.aload_n 0, 1) := by decide +kernel
theorem dX10_ofRows_110 : decode cX10_ofRows 110 = .ok (.dup, 1) := by decide +kernel
theorem dX10_ofRows_111 : decode cX10_ofRows 111 = .ok (.getfield 289, 3) := by decide +kernel
theorem dX10_ofRows_114 : decode cX10_ofRows 114 = .ok (.iconst 1, 1) := by decide +kernel
theorem dX10_ofRows_115 : decode cX10_ofRows 115 = .ok (.iadd, 1) := by decide +kernel
theorem dX10_ofRows_116 : decode cX10_ofRows 116 = .ok (.putfield 289, 3) := by decide +kernel
theorem dX10_ofRows_119 : decode cX10_ofRows 119 = .ok (.goto (-112), 3) := by decide +kernel
theorem dX10_ofRows_122 : decode cX10_ofRows 122 = .ok (.aload_n 0, 1) := by decide +kernel
theorem dX10_ofRows_123 : decode cX10_ofRows 123 = .ok (.invokevirtual 306, 3) := by decide +kernel
theorem dX10_ofRows_126 : decode cX10_ofRows 126 = .ok (.aload_n 0, 1) := by decide +kernel
theorem dX10_ofRows_127 : decode cX10_ofRows 127 = .ok (.iload_n 2, 1) := by decide +kernel
theorem dX10_ofRows_128 : decode cX10_ofRows 128 = .ok (.invokevirtual 309, 3) := by decide +kernel
theorem dX10_ofRows_131 : decode cX10_ofRows 131 = .ok (.return_, 1) := by decide +kernel
def mwX10_ofRowsm : List Cond := .code yX10_ofRows cX10_ofRows 7 none :: ([.fieldLink RX10 289 "PatternGateModel" "manyTop" "I", .fieldLink RX10 51 "PatternGateModel" "rowMany" "[I", .code yX10_cutsDown cX10_cutsDown 5 none, .fieldLink RX10 67 "PatternGateModel" "kept" "[Z", .fieldLink RX10 61 "PatternGateModel" "many" "[[I", .code yX10_lays cX10_lays 3 none, .methodLink RX10 296 yX10_lays, .static yX10_lays, .initialized RX10, .code yX10_hasAll cX10_hasAll 4 (some .boolean), .methodLink RX10 292 yX10_hasAll, .static yX10_hasAll, .methodLink RX10 306 yX10_cutsDown, .instanceMethod yX10_cutsDown, .selects RX10 yX10_cutsDown yX10_cutsDown, .code yX10_becomes cX10_becomes 3 none, .fieldLink RX10 64 "PatternGateModel" "needMany" "[I", .fieldLink RX10 56 "PatternGateModel" "needs" "[[[I", .methodLink RX10 309 yX10_becomes, .instanceMethod yX10_becomes, .selects RX10 yX10_becomes yX10_becomes, .fieldLink RX10 48 "PatternGateModel" "rows" "[[J", .code yX10_longOf cX10_longOf 2 (some .int), .methodLink RX10 256 yX10_longOf, .static yX10_longOf, .code yX10_letterIn cX10_letterIn 3 (some .int), .constantLong RX10 252 (31), .methodLink RX10 260 yX10_letterIn, .static yX10_letterIn, .code yX10_adds cX10_adds 4 none, .methodLink RX10 315 yX10_adds, .static yX10_adds] ++ wsX100)
theorem fin_X10_ofRowsm_X10 : ∀ w ∈ wsX100, w ∈ mwX10_ofRowsm := fun w h => List.mem_cons_of_mem _ (List.mem_append_right _ h)
set_option maxRecDepth 20000 in
theorem mg_X10_ofRowsm_X10_cutsDown_306 : GoodIn mwX10_ofRowsm (wsV RX10 306 RX10 yX10_cutsDown mwX10_cutsDownm) := goodIn_r _ [13, 14, 15, 9, 3, 1, 4, 5, 6, 7, 8, 9, 10, 11, 12, 33, 34, 35, 36, 37, 38, 39, 40, 41, 42, 43, 44, 45, 46, 47, 48, 49, 50, 51, 52, 53, 54, 55, 56, 57, 58, 59, 60, 61, 62, 63, 64, 65, 66, 67, 68, 69, 70, 71, 72, 73, 74, 75, 76, 77, 78, 79, 80] (by decide +kernel) (by decide +kernel)
set_option maxRecDepth 20000 in
theorem mg_X10_ofRowsm_X10_becomes_309 : GoodIn mwX10_ofRowsm (wsV RX10 309 RX10 yX10_becomes mwX10_becomesm) := goodIn_r _ [19, 20, 21, 9, 16, 17, 1, 5, 18, 6, 7, 8, 9, 33, 34, 35, 36, 37, 38, 39, 40, 41, 42, 43, 44, 45, 46, 47, 48, 49, 50, 51, 52, 53, 54, 55, 56, 57, 58, 59, 60, 61, 62, 63, 64, 65, 66, 67, 68, 69, 70, 71, 72, 73, 74, 75, 76, 77, 78, 79, 80] (by decide +kernel) (by decide +kernel)
set_option maxRecDepth 20000 in
theorem mg_X10_ofRowsm_X10_longOf_256 : GoodIn mwX10_ofRowsm (va_wsS RX10 256 yX10_longOf mwX10_longOfm) := goodIn_r _ [24, 25, 9, 23] (by decide +kernel) (by decide +kernel)
set_option maxRecDepth 20000 in
theorem mg_X10_ofRowsm_X10_letterIn_260 : GoodIn mwX10_ofRowsm (va_wsS RX10 260 yX10_letterIn mwX10_letterInm) := goodIn_r _ [28, 29, 9, 26, 27] (by decide +kernel) (by decide +kernel)
set_option maxRecDepth 20000 in
theorem mg_X10_ofRowsm_X10_adds_315 : GoodIn mwX10_ofRowsm (va_wsS RX10 315 yX10_adds mwX10_addsm) := goodIn_r _ [31, 32, 9, 30] (by decide +kernel) (by decide +kernel)
set_option maxHeartbeats 4000000 in
set_option maxRecDepth 100000 in
theorem m_ofRows (l : Launch) (dC : Nat → ClassId) (dI : Nat → Nat → Nat) (ad : Nat → Nat) (kc : Nat → ClassId) (x0 x1 x2 x3 x4 x5 x6 x7 x8 x9 x10 x11 x12 x13 x14 x15 x16 x17 x18 x19 x20 x21 : Int32) (f0 f1 f2 f3 f4 f5 f6 f7 f8 f9 f10 f11 f12 f13 f14 f15 f16 f17 f18 f19 f20 f21 : Nat → Int32) (fL : Nat → Nat → Int64) (fN : Nat → Nat → Int32) (fP : Nat → Nat → Nat) (fM : Nat → Nat → Int32) (fO : Nat → Nat → Int32) (sz : Nat) (i1 i2 : Int32) (bb : Int) (dd : Int) (q0 : 0 ≤ i1.toInt ∧ i1.toInt < 90) (q1 : 0 ≤ i2.toInt ∧ i2.toInt < 60) (q2 : sOK fL f9 i1.toInt 6 bb) (q3 : PI fP) (q4 : 0 ≤ dd ∧ bb ≤ dd + 2 ∧ dd ≤ 100) : Met l yX10_ofRows mwX10_ofRowsm ({ frames := 2, cells := 0, slots := 0, locals := 120 }) (va_Pc [.ref (ad 0), .int i1, .int i2] (fun U => U.heap.size = sz ∧ va_P (dC, dI) vwCl (mW ad kc x0 x1 x2 x3 x4 x5 x6 x7 x8 x9 x10 x11 x12 x13 x14 x15 x16 x17 x18 x19 x20 x21 f0 f1 f2 f3 f4 f5 f6 f7 f8 f9 f10 f11 f12 f13 f14 f15 f16 f17 f18 f19 f20 f21 fL fN fP fM fO) U.heap ∧ va_K (dC, dI) vwCl (mT kc) U ∧ va_D (fun _ => True) (mW ad kc x0 x1 x2 x3 x4 x5 x6 x7 x8 x9 x10 x11 x12 x13 x14 x15 x16 x17 x18 x19 x20 x21 f0 f1 f2 f3 f4 f5 f6 f7 f8 f9 f10 f11 f12 f13 f14 f15 f16 f17 f18 f19 f20 f21 fL fN fP fM fO))) (va_Qv (fun (_ : Unit) => True) (fun _ t => ∃ (y18 : Int32) (g11 g10 : Nat → Int32) (Nn9 : Nat → Nat → Int32) (M9 : Nat → Nat → Int32) (O9 : Nat → Nat → Int32), (nOK (rO Nn9 M9 O9) fP g10 i2.toInt dd) ∧ (nFm (rO fN fM fO) (rO Nn9 M9 O9) i2.toInt) ∧ (∀ z : Int, 0 ≤ z → z ≠ i2.toInt → vI g10 z = vI f10 z) ∧ va_P (dC, dI) vwCl (mW ad kc x0 x1 x2 x3 x4 x5 x6 x7 x8 x9 x10 x11 x12 x13 x14 x15 x16 x17 y18 x19 x20 x21 f0 f1 f2 f3 f4 f5 f6 f7 f8 f9 g10 g11 f12 f13 f14 f15 f16 f17 f18 f19 f20 f21 fL Nn9 fP M9 O9) t.heap ∧ va_K (dC, dI) vwCl (mT kc) t ∧ va_D (va_A (mW ad kc x0 x1 x2 x3 x4 x5 x6 x7 x8 x9 x10 x11 x12 x13 x14 x15 x16 x17 x18 x19 x20 x21 f0 f1 f2 f3 f4 f5 f6 f7 f8 f9 f10 f11 f12 f13 f14 f15 f16 f17 f18 f19 f20 f21 fL fN fP fM fO) sz) (mW ad kc x0 x1 x2 x3 x4 x5 x6 x7 x8 x9 x10 x11 x12 x13 x14 x15 x16 x17 y18 x19 x20 x21 f0 f1 f2 f3 f4 f5 f6 f7 f8 f9 g10 g11 f12 f13 f14 f15 f16 f17 f18 f19 f20 f21 fL Nn9 fP M9 O9)) (va_A (mW ad kc x0 x1 x2 x3 x4 x5 x6 x7 x8 x9 x10 x11 x12 x13 x14 x15 x16 x17 x18 x19 x20 x21 f0 f1 f2 f3 f4 f5 f6 f7 f8 f9 f10 f11 f12 f13 f14 f15 f16 f17 f18 f19 f20 f21 fL fN fP fM fO) sz)) 0 0 (va_A (mW ad kc x0 x1 x2 x3 x4 x5 x6 x7 x8 x9 x10 x11 x12 x13 x14 x15 x16 x17 x18 x19 x20 x21 f0 f1 f2 f3 f4 f5 f6 f7 f8 f9 f10 f11 f12 f13 f14 f15 f16 f17 f18 f19 f20 f21 fL fN fP fM fO) sz) := by
  refine Met.ofW (cc := cX10_ofRows) (maxL := 7) (ret := none) (by decide +kernel) rfl ?_
  intro p e s m args below meth c s₁ B hml hv
  obtain ⟨rfl, hsz, hP, hK, hD0⟩ := hv
  have hx := B.exec
  have hb := B.bytes
  have hr := B.returns
  have hts := atoms_spec (ws := mwX10_ofRowsm) B.pre
  have hown : s.vm.findClass RX10 = some m.cls := findClass_of_methodNamed B.named
  have hlocks := B.notSynchronized
  subst hsz
  have hD := hD0.self (sz := s.heap.size)
  generalize hAe : va_A (mW ad kc x0 x1 x2 x3 x4 x5 x6 x7 x8 x9 x10 x11 x12 x13 x14 x15 x16 x17 x18 x19 x20 x21 f0 f1 f2 f3 f4 f5 f6 f7 f8 f9 f10 f11 f12 f13 f14 f15 f16 f17 f18 f19 f20 f21 fL fN fP fM fO) s.heap.size = A at hD ⊢
  have hA : ∀ q : Nat, s.heap.size ≤ q → A q := fun q h => by rw [← hAe]; exact Or.inr h
  have hP : va_P (dC, dI) vwCl (mW ad kc x0 x1 x2 x3 x4 x5 x6 x7 x8 x9 x10 x11 x12 x13 x14 x15 x16 x17 x18 x19 x20 x21 f0 f1 f2 f3 f4 f5 f6 f7 f8 f9 f10 f11 f12 f13 f14 f15 f16 f17 f18 f19 f20 f21 fL fN fP fM fO) s.heap := hP
  have hD : va_D A (mW ad kc x0 x1 x2 x3 x4 x5 x6 x7 x8 x9 x10 x11 x12 x13 x14 x15 x16 x17 x18 x19 x20 x21 f0 f1 f2 f3 f4 f5 f6 f7 f8 f9 f10 f11 f12 f13 f14 f15 f16 f17 f18 f19 f20 f21 fL fN fP fM fO) := hD
  have hK : va_K (dC, dI) vwCl (mT kc) s := hK
  generalize hH : s.heap = H at hP ⊢
  have hS : va_S A s.heap H [] := by rw [← hH]; exact va_S.rf
  have hl := lv_entry ([.ref (ad 0), .int i1, .int i2]) (n := 7) (Nat.le_of_ble_eq_true rfl)
  rw [lg_entry_eq]
  generalize (lg_sl ([.ref (ad 0), .int i1, .int i2]) ++ List.replicate (7 - (lg_sl ([.ref (ad 0), .int i1, .int i2])).length) Slot.unset).toArray = ls at hl ⊢
  have hl : lv_has ls 7 [(0, .ref (ad 0)), (1, .int i1), (2, .int i2)] := hl
  have rg_i1 := i_rng i1
  have rg_i2 := i_rng i2
  have q2a := q2.1
  have q2b := q2.2.1
  refine lv_aload_n hx hb dX10_ofRows_0 rfl (lv_at hl 0 rfl) ?_
  refine lv_iconst (v := 0) hx hb dX10_ofRows_1 (by decide) ?_
  refine va_put (D := (dC, dI)) (ci := 10) (v := .int 0) (ty := .int) (C := RX10) (T := TX10) (N := 48) hx hb hts fin_X10_ofRowsm_X10 tyX10 tyX10_ok nmX10 hown hK hP hD hS 0 rfl rfl 32 (by decide) (hts (.fieldLink RX10 289 "PatternGateModel" "manyTop" "I") (List.mem_of_getElem? (i := 1) (by decide +kernel))) (fun _ h9 => h9) rfl (by decide +kernel) rfl rfl (Nat.le_of_ble_eq_true rfl) dX10_ofRows_2 (fun H locs hP hD hS => ?_)
  have hP : va_P (dC, dI) vwCl (mW ad kc x0 x1 x2 x3 x4 x5 x6 x7 x8 x9 x10 x11 x12 x13 x14 x15 x16 x17 0 x19 x20 x21 f0 f1 f2 f3 f4 f5 f6 f7 f8 f9 f10 f11 f12 f13 f14 f15 f16 f17 f18 f19 f20 f21 fL fN fP fM fO) H := hP
  have hD : va_D A (mW ad kc x0 x1 x2 x3 x4 x5 x6 x7 x8 x9 x10 x11 x12 x13 x14 x15 x16 x17 0 x19 x20 x21 f0 f1 f2 f3 f4 f5 f6 f7 f8 f9 f10 f11 f12 f13 f14 f15 f16 f17 f18 f19 f20 f21 fL fN fP fM fO) := hD
  have lit_0 : (0 : Int32).toInt = 0 := by decide
  refine lv_iconst (v := 0) hx hb dX10_ofRows_5 (by decide) ?_
  refine lv_istore_n (lv' := [(3, .int 0), (0, .ref (ad 0)), (1, .int i1), (2, .int i2)]) hx hb dX10_ofRows_6 rfl hl (by decide) rfl (fun ls hl => ?_)
  have loop7 : ∀ (lm7 : Nat) (kk mt : Int32) (hn : Nat → Nat → Int32) (hm : Nat → Nat → Int32) (ho : Nat → Nat → Int32), (0 ≤ kk.toInt) → (kk.toInt ≤ vI f9 i1.toInt) → (mt.toInt = kk.toInt) → (mFr (rO fN fM fO) (rO hn hm ho)) → (mOK (rO hn hm ho) mt.toInt dd) → ((vI f9 i1.toInt - kk.toInt).toNat) < lm7 → ∀ (H : Heap) (locs : List Loc) (ls : Array Slot), va_P (dC, dI) vwCl (mW ad kc x0 x1 x2 x3 x4 x5 x6 x7 x8 x9 x10 x11 x12 x13 x14 x15 x16 x17 mt x19 x20 x21 f0 f1 f2 f3 f4 f5 f6 f7 f8 f9 f10 f11 f12 f13 f14 f15 f16 f17 f18 f19 f20 f21 fL hn fP hm ho) H → va_D A (mW ad kc x0 x1 x2 x3 x4 x5 x6 x7 x8 x9 x10 x11 x12 x13 x14 x15 x16 x17 mt x19 x20 x21 f0 f1 f2 f3 f4 f5 f6 f7 f8 f9 f10 f11 f12 f13 f14 f15 f16 f17 f18 f19 f20 f21 fL hn fP hm ho) → va_S A s.heap H locs → lv_has ls 7 [(3, .int kk), (0, .ref (ad 0)), (1, .int i1), (2, .int i2)] → W p l e (headSpec mwX10_ofRowsm ({ frames := 2, cells := 0, slots := 0, locals := 120 })).room s m ([.ref (ad 0), .int i1, .int i2]).toArray below meth c H locs 0 0 (MQ below (va_Qv (fun (_ : Unit) => True) (fun _ t => ∃ (y18 : Int32) (g11 g10 : Nat → Int32) (Nn9 : Nat → Nat → Int32) (M9 : Nat → Nat → Int32) (O9 : Nat → Nat → Int32), (nOK (rO Nn9 M9 O9) fP g10 i2.toInt dd) ∧ (nFm (rO fN fM fO) (rO Nn9 M9 O9) i2.toInt) ∧ (∀ z : Int, 0 ≤ z → z ≠ i2.toInt → vI g10 z = vI f10 z) ∧ va_P (dC, dI) vwCl (mW ad kc x0 x1 x2 x3 x4 x5 x6 x7 x8 x9 x10 x11 x12 x13 x14 x15 x16 x17 y18 x19 x20 x21 f0 f1 f2 f3 f4 f5 f6 f7 f8 f9 g10 g11 f12 f13 f14 f15 f16 f17 f18 f19 f20 f21 fL Nn9 fP M9 O9) t.heap ∧ va_K (dC, dI) vwCl (mT kc) t ∧ va_D A (mW ad kc x0 x1 x2 x3 x4 x5 x6 x7 x8 x9 x10 x11 x12 x13 x14 x15 x16 x17 y18 x19 x20 x21 f0 f1 f2 f3 f4 f5 f6 f7 f8 f9 g10 g11 f12 f13 f14 f15 f16 f17 f18 f19 f20 f21 fL Nn9 fP M9 O9)) A) ([.ref (ad 0), .int i1, .int i2]).toArray s 0 0 A) (F0 m 7 ls []) := by
    intro lm7
    induction lm7 with
    | zero => intro kk mt hn hm ho v7_0 v7_1 v7_2 v7_3 v7_4 hm7; exact absurd hm7 (Nat.not_lt_zero _)
    | succ lm7 ih7 =>
      intro kk mt hn hm ho v7_0 v7_1 v7_2 v7_3 v7_4 hm7 H locs ls hP hD hS hl
      have rg_kk := i_rng kk
      have rg_mt := i_rng mt
      refine lv_iload_n hx hb dX10_ofRows_7 rfl (lv_at hl 0 rfl) ?_
      refine lv_aload_n hx hb dX10_ofRows_8 rfl (lv_at hl 1 rfl) ?_
      refine va_get (D := (dC, dI)) (ci := 10) (v := .ref (ad 10)) (C := RX10) (T := TX10) (N := 48) hx hb hts fin_X10_ofRowsm_X10 hown hK hP 0 rfl rfl 26 (by decide) (hts (.fieldLink RX10 51 "PatternGateModel" "rowMany" "[I") (List.mem_of_getElem? (i := 2) (by decide +kernel))) (fun _ h9 => h9) rfl dX10_ofRows_9 ?_
      refine lv_iload_n hx hb dX10_ofRows_12 rfl (lv_at hl 2 rfl) ?_
      refine va_iald hx hb hK hP 10 9 rfl rfl (i := i1) (vp_of (a := i1.toInt) rfl (by omega) (by omega)) dX10_ofRows_13 ?_
      refine lv_topi (fun y_2 ey_2 => ?_)
      have rg_y_2 := i_rng y_2
      have vy_2 := vI_lda (f := f9) (i := i1) (a := i1.toInt) ey_2 (by first | omega | decide)
      have rg_y_2 := i_rng y_2
      refine lv_icmp_ge (tgt := 122) hx hb dX10_ofRows_14 (by decide) (fun k_3 => ?_) (fun k_3 => ?_)
      · have tk_3 := c_ge (a := kk.toInt) (b := y_2.toInt) rfl rfl k_3
        refine lv_aload_n hx hb dX10_ofRows_122 rfl (lv_at hl 1 rfl) ?_
        have hFc := m_free hD hS hA
        refine va_callv (va_runV (As := []) (rest := []) ⟨hx, hb, hml, hown, hts⟩ (m_cutsDown l dC dI ad kc x0 x1 x2 x3 x4 x5 x6 x7 x8 x9 x10 x11 x12 x13 x14 x15 x16 x17 mt x19 x20 x21 f0 f1 f2 f3 f4 f5 f6 f7 f8 f9 f10 f11 f12 f13 f14 f15 f16 f17 f18 f19 f20 f21 fL hn fP hm ho H.size dd (by first | omega | assumption | decide | (have l0 := Int32.toInt_zero; omega)) (by first | omega | assumption | decide | (have l0 := Int32.toInt_zero; omega)) v7_4) (cwV 0 hts mg_X10_ofRowsm_X10_cutsDown_306 rfl rfl rfl (by decide +kernel) ⟨Nat.le_of_ble_eq_true rfl, Nat.le_of_ble_eq_true rfl⟩) ⟨fun a U g mk q => by obtain ⟨q0, q1, qP, qK, qD⟩ := q; exact ⟨q0, q1, qP, va_K.moved (u := U) (U := U.calling g mk a) (Vm.Alike.refl U.vm) qK, qD⟩, va_recv hK hP (ci := 10) (q0 := 0) rfl rfl, fun U hU hW => ⟨rfl, by rw [hU], by rw [hU]; exact hP, va_K.moved hW.alike hK, hD.weaken (fun _ _ _ _ => trivial)⟩⟩ rfl rfl hl.1 rfl (lv_room (Nat.le_of_ble_eq_true rfl)) dX10_ofRows_123 ⟨Nat.le_of_ble_eq_true rfl, Nat.le_of_ble_eq_true rfl⟩) hS (fun q _ h => hFc q h) hFc (fun u t H1 locs ht hvm hw hB hz1 hk1 hS => ?_)
        obtain ⟨x_5, f_6, Nn_7, M_8, O_9, hr_4_0, hr_4_1, hr_4_2, hP, hK1, hD1⟩ := hB
        rw [ht] at hP
        have hD := hD1.weaken (fun k q _ h => hFc q.1 h)
        generalize H1 = H at hP hS ⊢
        have rg_x_5 := i_rng x_5
        have hP : va_P (dC, dI) vwCl (mW ad kc x0 x1 x2 x3 x4 x5 x6 x7 x8 x9 x10 x11 x12 x13 x14 x15 x16 x17 x_5 x19 x20 x21 f0 f1 f2 f3 f4 f5 f6 f7 f8 f9 f10 f_6 f12 f13 f14 f15 f16 f17 f18 f19 f20 f21 fL Nn_7 fP M_8 O_9) H := hP
        have hD : va_D A (mW ad kc x0 x1 x2 x3 x4 x5 x6 x7 x8 x9 x10 x11 x12 x13 x14 x15 x16 x17 x_5 x19 x20 x21 f0 f1 f2 f3 f4 f5 f6 f7 f8 f9 f10 f_6 f12 f13 f14 f15 f16 f17 f18 f19 f20 f21 fL Nn_7 fP M_8 O_9) := hD
        refine lv_aload_n hx hb dX10_ofRows_126 rfl (lv_at hl 1 rfl) ?_
        refine lv_iload_n hx hb dX10_ofRows_127 rfl (lv_at hl 3 rfl) ?_
        have hFc := m_free hD hS hA
        refine va_callv (va_runV (As := [.int i2]) (rest := []) ⟨hx, hb, hml, hown, hts⟩ (m_becomes l dC dI ad kc x0 x1 x2 x3 x4 x5 x6 x7 x8 x9 x10 x11 x12 x13 x14 x15 x16 x17 x_5 x19 x20 x21 f0 f1 f2 f3 f4 f5 f6 f7 f8 f9 f10 f_6 f12 f13 f14 f15 f16 f17 f18 f19 f20 f21 fL Nn_7 fP M_8 O_9 H.size i2 dd (by first | omega | assumption | decide | (have l0 := Int32.toInt_zero; omega)) (by first | omega | assumption | decide | (have l0 := Int32.toInt_zero; omega)) (by first | omega | assumption | decide | (have l0 := Int32.toInt_zero; omega)) hr_4_2 (by first | omega | assumption | decide | (have l0 := Int32.toInt_zero; omega))) (cwV 1 hts mg_X10_ofRowsm_X10_becomes_309 rfl rfl rfl (by decide +kernel) ⟨Nat.le_of_ble_eq_true rfl, Nat.le_of_ble_eq_true rfl⟩) ⟨fun a U g mk q => by obtain ⟨q0, q1, qP, qK, qD⟩ := q; exact ⟨q0, q1, qP, va_K.moved (u := U) (U := U.calling g mk a) (Vm.Alike.refl U.vm) qK, qD⟩, va_recv hK hP (ci := 10) (q0 := 0) rfl rfl, fun U hU hW => ⟨rfl, by rw [hU], by rw [hU]; exact hP, va_K.moved hW.alike hK, hD.weaken (fun _ _ _ _ => trivial)⟩⟩ rfl rfl hl.1 rfl (lv_room (Nat.le_of_ble_eq_true rfl)) dX10_ofRows_128 ⟨Nat.le_of_ble_eq_true rfl, Nat.le_of_ble_eq_true rfl⟩) hS (fun q _ h => hFc q h) hFc (fun u t H1 locs ht hvm hw hB hz1 hk1 hS => ?_)
        obtain ⟨f_11, Nn_12, M_13, O_14, hr_10_0, hr_10_1, hr_10_2, hP, hK1, hD1⟩ := hB
        rw [ht] at hP
        have hD := hD1.weaken (fun k q _ h => hFc q.1 h)
        generalize H1 = H at hP hS ⊢
        have hP : va_P (dC, dI) vwCl (mW ad kc x0 x1 x2 x3 x4 x5 x6 x7 x8 x9 x10 x11 x12 x13 x14 x15 x16 x17 x_5 x19 x20 x21 f0 f1 f2 f3 f4 f5 f6 f7 f8 f9 f_11 f_6 f12 f13 f14 f15 f16 f17 f18 f19 f20 f21 fL Nn_12 fP M_13 O_14) H := hP
        have hD : va_D A (mW ad kc x0 x1 x2 x3 x4 x5 x6 x7 x8 x9 x10 x11 x12 x13 x14 x15 x16 x17 x_5 x19 x20 x21 f0 f1 f2 f3 f4 f5 f6 f7 f8 f9 f_11 f_6 f12 f13 f14 f15 f16 f17 f18 f19 f20 f21 fL Nn_12 fP M_13 O_14) := hD
        exact W.vret hx hb hr (fun t ht hW => ⟨⟨(), rfl, trivial, x_5, f_6, f_11, Nn_12, M_13, O_14, hr_10_0, (((nFm.of v7_3).tr (nFm.of hr_4_1)).tr hr_10_1), hr_10_2, by rw [ht]; exact hP, va_K.moved hW.alike hK, hD⟩, hS.F ht⟩) hS.2.2 dX10_ofRows_131
      · have tk_3 := c_nge (a := kk.toInt) (b := y_2.toInt) rfl rfl k_3
        refine lv_aload_n hx hb dX10_ofRows_17 rfl (lv_at hl 1 rfl) ?_
        refine va_get (D := (dC, dI)) (ci := 10) (v := .ref (ad 23)) (C := RX10) (T := TX10) (N := 48) hx hb hts fin_X10_ofRowsm_X10 hown hK hP 0 rfl rfl 25 (by decide) (hts (.fieldLink RX10 48 "PatternGateModel" "rows" "[[J") (List.mem_of_getElem? (i := 22) (by decide +kernel))) (fun _ h9 => h9) rfl dX10_ofRows_18 ?_
        refine lv_iload_n hx hb dX10_ofRows_21 rfl (lv_at hl 2 rfl) ?_
        refine m_aak hx hb hK hP 23 22 (k := i1.toInt.toNat) (b := ad (100 + i1.toInt.toNat)) rfl rfl rfl (i := i1) (by omega) (by omega) rfl dX10_ofRows_22 ?_
        refine lv_iload_n hx hb dX10_ofRows_23 rfl (lv_at hl 0 rfl) ?_
        refine va_lald hx hb hK hP (27 + i1.toInt.toNat) 26 (mW_L (by omega)) rfl (i := kk) (vp_of (a := kk.toInt) rfl (by omega) (by omega)) dX10_ofRows_24 ?_
        refine lv_topl (fun w_15 ew_15 => ?_)
        obtain ⟨n1, hn1a, hn1b, hn1c⟩ := q2.2.2 kk.toInt.toNat (by omega)
        have hn1w : rLen w_15 n1 := by rw [ew_15]; exact hn1c
        refine lv_lstore (lv' := [(4, .long w_15), (3, .int kk), (0, .ref (ad 0)), (1, .int i1), (2, .int i2)]) hx hb dX10_ofRows_25 hl (by decide) rfl (fun ls hl => ?_)
        refine lv_aload_n hx hb dX10_ofRows_27 rfl (lv_at hl 2 rfl) ?_
        refine va_get (D := (dC, dI)) (ci := 10) (v := .ref (ad 25)) (C := RX10) (T := TX10) (N := 48) hx hb hts fin_X10_ofRowsm_X10 hown hK hP 0 rfl rfl 29 (by decide) (hts (.fieldLink RX10 61 "PatternGateModel" "many" "[[I") (List.mem_of_getElem? (i := 5) (by decide +kernel))) (fun _ h9 => h9) rfl dX10_ofRows_28 ?_
        refine lv_aload_n hx hb dX10_ofRows_31 rfl (lv_at hl 2 rfl) ?_
        refine va_get (D := (dC, dI)) (ci := 10) (v := .int mt) (C := RX10) (T := TX10) (N := 48) hx hb hts fin_X10_ofRowsm_X10 hown hK hP 0 rfl rfl 32 (by decide) (hts (.fieldLink RX10 289 "PatternGateModel" "manyTop" "I") (List.mem_of_getElem? (i := 1) (by decide +kernel))) (fun _ h9 => h9) rfl dX10_ofRows_32 ?_
        refine m_aak hx hb hK hP 25 24 (k := mt.toInt.toNat) (b := ad (1100 + mt.toInt.toNat)) rfl rfl rfl (i := mt) (by omega) (by omega) rfl dX10_ofRows_35 ?_
        refine lv_iconst (v := 0) hx hb dX10_ofRows_36 (by decide) ?_
        refine lv_iconst (v := 0) hx hb dX10_ofRows_37 (by decide) ?_
        refine va_iast hx hb hK hP hD hS (rPos (1100 + mt.toInt.toNat)) (rTy (1100 + mt.toInt.toNat)) (mW_R (by first | assumption | (unfold IR; omega))) (mT_R _) (i := 0) (by unfold vp_in; decide +kernel) dX10_ofRows_38 (fun H locs hP hD hS => ?_)
        obtain ⟨n_16, m_17, o_18, hP, hD, wu_19⟩ := mW_Rx (by first | assumption | (unfold IR; omega)) hP hD
        have u_19 := rU_v (x := 0) (y := 0) wu_19 (by first | assumption | (unfold IR; omega)) (by first | omega | decide) (by omega) (by decide)
        have hP : va_P (dC, dI) vwCl (mW ad kc x0 x1 x2 x3 x4 x5 x6 x7 x8 x9 x10 x11 x12 x13 x14 x15 x16 x17 mt x19 x20 x21 f0 f1 f2 f3 f4 f5 f6 f7 f8 f9 f10 f11 f12 f13 f14 f15 f16 f17 f18 f19 f20 f21 fL n_16 fP m_17 o_18) H := hP
        have hD : va_D A (mW ad kc x0 x1 x2 x3 x4 x5 x6 x7 x8 x9 x10 x11 x12 x13 x14 x15 x16 x17 mt x19 x20 x21 f0 f1 f2 f3 f4 f5 f6 f7 f8 f9 f10 f11 f12 f13 f14 f15 f16 f17 f18 f19 f20 f21 fL n_16 fP m_17 o_18) := hD
        refine lv_iconst (v := 0) hx hb dX10_ofRows_39 (by decide) ?_
        refine lv_istore (lv' := [(6, .int 0), (4, .long w_15), (3, .int kk), (0, .ref (ad 0)), (1, .int i1), (2, .int i2)]) hx hb dX10_ofRows_40 hl (by decide) rfl (fun ls hl => ?_)
        have loop42 : ∀ (lm42 : Nat) (k2 : Int32) (jn : Nat → Nat → Int32) (jm : Nat → Nat → Int32) (jo : Nat → Nat → Int32), (0 ≤ k2.toInt) → (0 ≤ vI ((rO jn jm jo) (1100 + mt.toInt.toNat)) 0 ∧ vI ((rO jn jm jo) (1100 + mt.toInt.toNat)) 0 ≤ k2.toInt) → (mFr (rO fN fM fO) (rO jn jm jo)) → (k2.toInt = 0 ∨ k2.toInt + 2 ≤ n1) → (mOK (rO jn jm jo) mt.toInt dd) → (((n1 : Int) - k2.toInt).toNat) < lm42 → ∀ (H : Heap) (locs : List Loc) (ls : Array Slot), va_P (dC, dI) vwCl (mW ad kc x0 x1 x2 x3 x4 x5 x6 x7 x8 x9 x10 x11 x12 x13 x14 x15 x16 x17 mt x19 x20 x21 f0 f1 f2 f3 f4 f5 f6 f7 f8 f9 f10 f11 f12 f13 f14 f15 f16 f17 f18 f19 f20 f21 fL jn fP jm jo) H → va_D A (mW ad kc x0 x1 x2 x3 x4 x5 x6 x7 x8 x9 x10 x11 x12 x13 x14 x15 x16 x17 mt x19 x20 x21 f0 f1 f2 f3 f4 f5 f6 f7 f8 f9 f10 f11 f12 f13 f14 f15 f16 f17 f18 f19 f20 f21 fL jn fP jm jo) → va_S A s.heap H locs → lv_has ls 7 [(6, .int k2), (4, .long w_15), (3, .int kk), (0, .ref (ad 0)), (1, .int i1), (2, .int i2)] → W p l e (headSpec mwX10_ofRowsm ({ frames := 2, cells := 0, slots := 0, locals := 120 })).room s m ([.ref (ad 0), .int i1, .int i2]).toArray below meth c H locs 0 0 (MQ below (va_Qv (fun (_ : Unit) => True) (fun _ t => ∃ (y18 : Int32) (g11 g10 : Nat → Int32) (Nn9 : Nat → Nat → Int32) (M9 : Nat → Nat → Int32) (O9 : Nat → Nat → Int32), (nOK (rO Nn9 M9 O9) fP g10 i2.toInt dd) ∧ (nFm (rO fN fM fO) (rO Nn9 M9 O9) i2.toInt) ∧ (∀ z : Int, 0 ≤ z → z ≠ i2.toInt → vI g10 z = vI f10 z) ∧ va_P (dC, dI) vwCl (mW ad kc x0 x1 x2 x3 x4 x5 x6 x7 x8 x9 x10 x11 x12 x13 x14 x15 x16 x17 y18 x19 x20 x21 f0 f1 f2 f3 f4 f5 f6 f7 f8 f9 g10 g11 f12 f13 f14 f15 f16 f17 f18 f19 f20 f21 fL Nn9 fP M9 O9) t.heap ∧ va_K (dC, dI) vwCl (mT kc) t ∧ va_D A (mW ad kc x0 x1 x2 x3 x4 x5 x6 x7 x8 x9 x10 x11 x12 x13 x14 x15 x16 x17 y18 x19 x20 x21 f0 f1 f2 f3 f4 f5 f6 f7 f8 f9 g10 g11 f12 f13 f14 f15 f16 f17 f18 f19 f20 f21 fL Nn9 fP M9 O9)) A) ([.ref (ad 0), .int i1, .int i2]).toArray s 0 0 A) (F0 m 42 ls []) := by
          intro lm42
          induction lm42 with
          | zero => intro k2 jn jm jo v42_0 v42_1 v42_2 v42_3 v42_4 hm42; exact absurd hm42 (Nat.not_lt_zero _)
          | succ lm42 ih42 =>
            intro k2 jn jm jo v42_0 v42_1 v42_2 v42_3 v42_4 hm42 H locs ls hP hD hS hl
            have rg_k2 := i_rng k2
            refine lv_iload hx hb dX10_ofRows_42 (lv_at hl 0 rfl) ?_
            refine lv_iconst (v := 2) hx hb dX10_ofRows_44 (by decide) ?_
            refine lv_iadd hx hb dX10_ofRows_45 ?_
            refine lv_topi (fun y_20 ey_20 => ?_)
            first | have ty_20 := i_add (a := k2.toInt) (b := 2) rfl (by decide) ey_20 (by omega) (by omega) | skip
            refine lv_lload hx hb dX10_ofRows_46 (lv_at hl 1 rfl) ?_
            refine vp_callSi (W.runS (As := [.long w_15]) (rest := [.int y_20]) ⟨hx, hb, hml, hown, hts⟩ (m_longOf l dC dI  w_15 ) (va_cwS 1 hts mg_X10_ofRowsm_X10_longOf_256 rfl rfl rfl (by decide +kernel) ⟨Nat.le_of_ble_eq_true rfl, Nat.le_of_ble_eq_true rfl⟩) ⟨fun a U g mk q => ⟨q.1, trivial⟩, fun U hU hW => ⟨rfl, trivial⟩⟩ rfl rfl hl.1 rfl (lv_room (Nat.le_of_ble_eq_true rfl)) dX10_ofRows_48 ⟨Nat.le_of_ble_eq_true rfl, Nat.le_of_ble_eq_true rfl⟩) (fun r_21 hr_21 => ?_)
            have rg_r_21 := i_rng r_21
            have hqr_21 := hr_21 n1 (by omega) hn1w
            refine lv_icmp_ge (tgt := 106) hx hb dX10_ofRows_51 (by decide) (fun k_22 => ?_) (fun k_22 => ?_)
            · have tk_22 := c_ge (a := y_20.toInt) (b := r_21.toInt) rfl rfl k_22
              obtain ⟨y_23, ey_23⟩ : ∃ y : Int32, y = kk + 1 := ⟨_, rfl⟩
              first | have ty_23 := i_add (a := kk.toInt) (b := 1) rfl (by decide) ey_23 (by omega) (by omega) | skip
              refine lv_iinc (v := y_23) (lv' := [(3, .int y_23), (6, .int k2), (4, .long w_15), (0, .ref (ad 0)), (1, .int i1), (2, .int i2)]) hx hb dX10_ofRows_106 hl (k := 2) rfl (by rw [ey_23]; rfl) (by decide) rfl (fun ls hl => ?_)
              refine lv_aload_n hx hb dX10_ofRows_109 rfl (lv_at hl 3 rfl) ?_
              refine lv_dup hx hb dX10_ofRows_110 rfl ?_
              refine va_get (D := (dC, dI)) (ci := 10) (v := .int mt) (C := RX10) (T := TX10) (N := 48) hx hb hts fin_X10_ofRowsm_X10 hown hK hP 0 rfl rfl 32 (by decide) (hts (.fieldLink RX10 289 "PatternGateModel" "manyTop" "I") (List.mem_of_getElem? (i := 1) (by decide +kernel))) (fun _ h9 => h9) rfl dX10_ofRows_111 ?_
              refine lv_iconst (v := 1) hx hb dX10_ofRows_114 (by decide) ?_
              refine lv_iadd hx hb dX10_ofRows_115 ?_
              refine lv_topi (fun y_24 ey_24 => ?_)
              first | have ty_24 := i_add (a := mt.toInt) (b := 1) rfl (by decide) ey_24 (by omega) (by omega) | skip
              refine va_put (D := (dC, dI)) (ci := 10) (v := .int y_24) (ty := .int) (C := RX10) (T := TX10) (N := 48) hx hb hts fin_X10_ofRowsm_X10 tyX10 tyX10_ok nmX10 hown hK hP hD hS 0 rfl rfl 32 (by decide) (hts (.fieldLink RX10 289 "PatternGateModel" "manyTop" "I") (List.mem_of_getElem? (i := 1) (by decide +kernel))) (fun _ h9 => h9) rfl (by decide +kernel) rfl rfl (Nat.le_of_ble_eq_true rfl) dX10_ofRows_116 (fun H locs hP hD hS => ?_)
              have hP : va_P (dC, dI) vwCl (mW ad kc x0 x1 x2 x3 x4 x5 x6 x7 x8 x9 x10 x11 x12 x13 x14 x15 x16 x17 y_24 x19 x20 x21 f0 f1 f2 f3 f4 f5 f6 f7 f8 f9 f10 f11 f12 f13 f14 f15 f16 f17 f18 f19 f20 f21 fL jn fP jm jo) H := hP
              have hD : va_D A (mW ad kc x0 x1 x2 x3 x4 x5 x6 x7 x8 x9 x10 x11 x12 x13 x14 x15 x16 x17 y_24 x19 x20 x21 f0 f1 f2 f3 f4 f5 f6 f7 f8 f9 f10 f11 f12 f13 f14 f15 f16 f17 f18 f19 f20 f21 fL jn fP jm jo) := hD
              refine lv_goto (tgt := 7) hx hb dX10_ofRows_119 (by decide) ?_
              exact ih7 y_23 y_24 jn jm jo (by first | omega | assumption | decide) (by first | omega | assumption | decide) (by first | omega | assumption | decide) v42_2 (v42_4.push (j := mt.toInt.toNat) (fun _ _ _ => rfl) (by omega) (by omega) (by omega) (by omega) (by omega)) (by omega) _ _ ls hP hD hS (lv_sub hl [0, 3, 4, 5] rfl)
            · have tk_22 := c_nge (a := y_20.toInt) (b := r_21.toInt) rfl rfl k_22
              refine lv_aload_n hx hb dX10_ofRows_54 rfl (lv_at hl 3 rfl) ?_
              refine va_get (D := (dC, dI)) (ci := 10) (v := .ref (ad 25)) (C := RX10) (T := TX10) (N := 48) hx hb hts fin_X10_ofRowsm_X10 hown hK hP 0 rfl rfl 29 (by decide) (hts (.fieldLink RX10 61 "PatternGateModel" "many" "[[I") (List.mem_of_getElem? (i := 5) (by decide +kernel))) (fun _ h9 => h9) rfl dX10_ofRows_55 ?_
              refine lv_aload_n hx hb dX10_ofRows_58 rfl (lv_at hl 3 rfl) ?_
              refine va_get (D := (dC, dI)) (ci := 10) (v := .int mt) (C := RX10) (T := TX10) (N := 48) hx hb hts fin_X10_ofRowsm_X10 hown hK hP 0 rfl rfl 32 (by decide) (hts (.fieldLink RX10 289 "PatternGateModel" "manyTop" "I") (List.mem_of_getElem? (i := 1) (by decide +kernel))) (fun _ h9 => h9) rfl dX10_ofRows_59 ?_
              refine m_aak hx hb hK hP 25 24 (k := mt.toInt.toNat) (b := ad (1100 + mt.toInt.toNat)) rfl rfl rfl (i := mt) (by omega) (by omega) rfl dX10_ofRows_62 ?_
              refine lv_sipush (v := 676) hx hb dX10_ofRows_63 (by decide) ?_
              refine lv_lload hx hb dX10_ofRows_66 (lv_at hl 1 rfl) ?_
              refine lv_iload hx hb dX10_ofRows_68 (lv_at hl 0 rfl) ?_
              refine vp_callSi (W.runS (As := [.long w_15, .int k2]) (rest := [.int 676, .ref (ad (1100 + mt.toInt.toNat))]) ⟨hx, hb, hml, hown, hts⟩ (m_letterIn l dC dI  k2 w_15 ) (va_cwS 2 hts mg_X10_ofRowsm_X10_letterIn_260 rfl rfl rfl (by decide +kernel) ⟨Nat.le_of_ble_eq_true rfl, Nat.le_of_ble_eq_true rfl⟩) ⟨fun a U g mk q => ⟨q.1, trivial⟩, fun U hU hW => ⟨rfl, trivial⟩⟩ rfl rfl hl.1 rfl (lv_room (Nat.le_of_ble_eq_true rfl)) dX10_ofRows_70 ⟨Nat.le_of_ble_eq_true rfl, Nat.le_of_ble_eq_true rfl⟩) (fun r_25 hr_25 => ?_)
              have rg_r_25 := i_rng r_25
              refine lv_imul hx hb dX10_ofRows_73 ?_
              refine lv_topi (fun y_26 ey_26 => ?_)
              first | have ty_26 := i_mul (a := 676) (b := r_25.toInt) (by decide) rfl ey_26 (by omega) (by omega) | skip
              refine lv_bipush (v := 26) hx hb dX10_ofRows_74 (by decide) ?_
              refine lv_lload hx hb dX10_ofRows_76 (lv_at hl 1 rfl) ?_
              refine lv_iload hx hb dX10_ofRows_78 (lv_at hl 0 rfl) ?_
              refine lv_iconst (v := 1) hx hb dX10_ofRows_80 (by decide) ?_
              refine lv_iadd hx hb dX10_ofRows_81 ?_
              refine lv_topi (fun y_27 ey_27 => ?_)
              first | have ty_27 := i_add (a := k2.toInt) (b := 1) rfl (by decide) ey_27 (by omega) (by omega) | skip
              refine vp_callSi (W.runS (As := [.long w_15, .int y_27]) (rest := [.int 26, .int y_26, .ref (ad (1100 + mt.toInt.toNat))]) ⟨hx, hb, hml, hown, hts⟩ (m_letterIn l dC dI  y_27 w_15 ) (va_cwS 2 hts mg_X10_ofRowsm_X10_letterIn_260 rfl rfl rfl (by decide +kernel) ⟨Nat.le_of_ble_eq_true rfl, Nat.le_of_ble_eq_true rfl⟩) ⟨fun a U g mk q => ⟨q.1, trivial⟩, fun U hU hW => ⟨rfl, trivial⟩⟩ rfl rfl hl.1 rfl (lv_room (Nat.le_of_ble_eq_true rfl)) dX10_ofRows_82 ⟨Nat.le_of_ble_eq_true rfl, Nat.le_of_ble_eq_true rfl⟩) (fun r_28 hr_28 => ?_)
              have rg_r_28 := i_rng r_28
              refine lv_imul hx hb dX10_ofRows_85 ?_
              refine lv_topi (fun y_29 ey_29 => ?_)
              first | have ty_29 := i_mul (a := 26) (b := r_28.toInt) (by decide) rfl ey_29 (by omega) (by omega) | skip
              refine lv_iadd hx hb dX10_ofRows_86 ?_
              refine lv_topi (fun y_30 ey_30 => ?_)
              first | have ty_30 := i_add (a := y_26.toInt) (b := y_29.toInt) rfl rfl ey_30 (by omega) (by omega) | skip
              refine lv_lload hx hb dX10_ofRows_87 (lv_at hl 1 rfl) ?_
              refine lv_iload hx hb dX10_ofRows_89 (lv_at hl 0 rfl) ?_
              refine lv_iconst (v := 2) hx hb dX10_ofRows_91 (by decide) ?_
              refine lv_iadd hx hb dX10_ofRows_92 ?_
              refine lv_topi (fun y_31 ey_31 => ?_)
              first | have ty_31 := i_add (a := k2.toInt) (b := 2) rfl (by decide) ey_31 (by omega) (by omega) | skip
              refine vp_callSi (W.runS (As := [.long w_15, .int y_31]) (rest := [.int y_30, .ref (ad (1100 + mt.toInt.toNat))]) ⟨hx, hb, hml, hown, hts⟩ (m_letterIn l dC dI  y_31 w_15 ) (va_cwS 2 hts mg_X10_ofRowsm_X10_letterIn_260 rfl rfl rfl (by decide +kernel) ⟨Nat.le_of_ble_eq_true rfl, Nat.le_of_ble_eq_true rfl⟩) ⟨fun a U g mk q => ⟨q.1, trivial⟩, fun U hU hW => ⟨rfl, trivial⟩⟩ rfl rfl hl.1 rfl (lv_room (Nat.le_of_ble_eq_true rfl)) dX10_ofRows_93 ⟨Nat.le_of_ble_eq_true rfl, Nat.le_of_ble_eq_true rfl⟩) (fun r_32 hr_32 => ?_)
              have rg_r_32 := i_rng r_32
              refine lv_iadd hx hb dX10_ofRows_96 ?_
              refine lv_topi (fun y_33 ey_33 => ?_)
              first | have ty_33 := i_add (a := y_30.toInt) (b := r_32.toInt) rfl rfl ey_33 (by omega) (by omega) | skip
              have hFc := m_free hD hS hA
              refine va_callv (va_runS (As := [.ref (ad (1100 + mt.toInt.toNat)), .int y_33]) (rest := []) ⟨hx, hb, hml, hown, hts⟩ (m_adds l dC dI ad kc x0 x1 x2 x3 x4 x5 x6 x7 x8 x9 x10 x11 x12 x13 x14 x15 x16 x17 mt x19 x20 x21 f0 f1 f2 f3 f4 f5 f6 f7 f8 f9 f10 f11 f12 f13 f14 f15 f16 f17 f18 f19 f20 f21 fL jn fP jm jo H.size y_33 (1100 + mt.toInt.toNat) (by first | assumption | (unfold IR; omega)) (by first | omega | assumption | decide | (have l0 := Int32.toInt_zero; omega))) (va_cwS 2 hts mg_X10_ofRowsm_X10_adds_315 rfl rfl rfl (by decide +kernel) ⟨Nat.le_of_ble_eq_true rfl, Nat.le_of_ble_eq_true rfl⟩) ⟨fun a U g mk q => by obtain ⟨q0, q1, qP, qK, qD⟩ := q; exact ⟨q0, q1, qP, va_K.moved (u := U) (U := U.calling g mk a) (Vm.Alike.refl U.vm) qK, qD⟩, fun U hU hW => ⟨rfl, by rw [hU], by rw [hU]; exact hP, va_K.moved hW.alike hK, hD.weaken (fun _ _ _ _ => trivial)⟩⟩ rfl rfl hl.1 rfl (lv_room (Nat.le_of_ble_eq_true rfl)) dX10_ofRows_97 ⟨Nat.le_of_ble_eq_true rfl, Nat.le_of_ble_eq_true rfl⟩) hS (fun q _ h => hFc q h) hFc (fun u t H1 locs ht hvm hw hB hz1 hk1 hS => ?_)
              obtain ⟨Nn_35, M_36, O_37, hr_34_0, hr_34_1, hP, hK1, hD1⟩ := hB
              rw [ht] at hP
              have hD := hD1.weaken (fun k q _ h => hFc q.1 h)
              generalize H1 = H at hP hS ⊢
              have hP : va_P (dC, dI) vwCl (mW ad kc x0 x1 x2 x3 x4 x5 x6 x7 x8 x9 x10 x11 x12 x13 x14 x15 x16 x17 mt x19 x20 x21 f0 f1 f2 f3 f4 f5 f6 f7 f8 f9 f10 f11 f12 f13 f14 f15 f16 f17 f18 f19 f20 f21 fL Nn_35 fP M_36 O_37) H := hP
              have hD : va_D A (mW ad kc x0 x1 x2 x3 x4 x5 x6 x7 x8 x9 x10 x11 x12 x13 x14 x15 x16 x17 mt x19 x20 x21 f0 f1 f2 f3 f4 f5 f6 f7 f8 f9 f10 f11 f12 f13 f14 f15 f16 f17 f18 f19 f20 f21 fL Nn_35 fP M_36 O_37) := hD
              obtain ⟨y_38, ey_38⟩ : ∃ y : Int32, y = k2 + 1 := ⟨_, rfl⟩
              first | have ty_38 := i_add (a := k2.toInt) (b := 1) rfl (by decide) ey_38 (by omega) (by omega) | skip
              refine lv_iinc (v := y_38) (lv' := [(6, .int y_38), (4, .long w_15), (3, .int kk), (0, .ref (ad 0)), (1, .int i1), (2, .int i2)]) hx hb dX10_ofRows_100 hl (k := 0) rfl (by rw [ey_38]; rfl) (by decide) rfl (fun ls hl => ?_)
              refine lv_goto (tgt := 42) hx hb dX10_ofRows_103 (by decide) ?_
              exact ih42 y_38 Nn_35 M_36 O_37 (by first | omega | assumption | decide) (by have h9 := hr_34_1; omega) (v42_2.row hr_34_0 (by omega)) (by first | omega | assumption | decide) (fun i hi => by rw [hr_34_0 (1100 + i) (by unfold IR; omega) (by omega)]; exact v42_4 i hi) (by omega) _ _ ls hP hD hS (lv_sub hl [0, 1, 2, 3, 4, 5] rfl)
        have lit_38 : (0 : Int32).toInt = 0 := by decide
        exact loop42 _ 0 n_16 m_17 o_18 (by first | omega | assumption | decide) (by have h9 := u_19.1.1; omega) (v7_3.row (fun c h1 h2 => u_19.2 c h1 h2) (by omega)) (by first | omega | assumption | decide) (fun i hi => by rw [u_19.2 (1100 + i) (by unfold IR; omega) (by omega)]; exact v7_4 i hi) (Nat.lt_succ_self _) _ _ ls hP hD hS (lv_sub hl [0, 1, 2, 3, 4, 5] rfl)
  have lit_39 : (0 : Int32).toInt = 0 := by decide
  have lit_40 : (0 : Int32).toInt = 0 := by decide
  exact loop7 _ 0 0 fN fM fO (by first | omega | assumption | decide) (by first | omega | assumption | decide) (by first | omega | assumption | decide) mFr.rf (fun i hi => by omega) (Nat.lt_succ_self _) _ _ ls hP hD hS (lv_sub hl [0, 1, 2, 3] rfl)

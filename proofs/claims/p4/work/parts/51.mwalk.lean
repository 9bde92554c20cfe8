theorem sub_un {V : Nat → Int → Int} {d : Nat} {a b m : Int} (h : tSub V d a b m) : ∃ e, d = e + 1 ∧ tPat V e a b m := by
  cases d with
  | zero => exact absurd h id
  | succ d => exact ⟨d, rfl, h⟩
theorem hm_ch (V : Nat → Int → Int) (d : Nat) : ∀ a b c : Int, (tSpot V a b c ∨ tSub V d a b c) → a < b := fun a b c h => by
  rcases h with h | h
  · have := h.2.2.2.1; omega
  · exact tm_sub d a b c h
theorem hp_ch (V : Nat → Int → Int) (d : Nat) : ∀ a b c : Int, (tSpot V a b c ∨ tSub V d a b c) → 1 ≤ c := fun a b c h => by
  rcases h with h | h
  · have := h.2.2.2.2; omega
  · exact tpos_sub d a b c h
def wgU_walks : List Cond := ([.code yX10_walks cX10_walks 3 none, .code yX10_walksBranch cX10_walksBranch 3 none, .code yX10_walksItem cX10_walksItem 4 none, .code yX10_walksPattern cX10_walksPattern 3 none, .fieldLink RX10 28 "PatternGateModel" "kind" "[I", .fieldLink RX10 31 "PatternGateModel" "first" "[I", .fieldLink RX10 34 "PatternGateModel" "next" "[I", .initialized RX10, .instanceMethod yX10_walks, .instanceMethod yX10_walksBranch, .instanceMethod yX10_walksItem, .instanceMethod yX10_walksPattern, .methodLink RX10 375 yX10_walks, .methodLink RX10 378 yX10_walksItem, .methodLink RX10 381 yX10_walksBranch, .methodLink RX10 384 yX10_walksPattern, .selects RX10 yX10_walks yX10_walks, .selects RX10 yX10_walksBranch yX10_walksBranch, .selects RX10 yX10_walksItem yX10_walksItem, .selects RX10 yX10_walksPattern yX10_walksPattern] : List Cond) ++ (wsX100 ++ (mwX10_walksBranchm ++ (mwX10_walksItemm ++ (mwX10_walksPatternm ++ (mwX10_walksmS)))))
set_option maxRecDepth 100000 in
theorem gd_wgU_walks : wgU_walks.all goodWord = true := by decide +kernel
def mwg_X10_walksI : List Cond := .code yX10_walks cX10_walks 3 none :: wgU_walks
def mwg_X10_walksB : List Cond := .code yX10_walks cX10_walks 3 none :: wgU_walks
def mwg_X10_walksP : List Cond := .code yX10_walks cX10_walks 3 none :: wgU_walks
def k_m_walksI (l : Launch) (dC : Nat → ClassId) (dI : Nat → Nat → Nat) (d : Nat) : Prop := ∀ (ad : Nat → Nat) (kc : Nat → ClassId) (x0 x1 x2 x3 x4 x5 x6 x7 x8 x9 x10 x11 x12 x13 x14 x15 x16 x17 x18 x19 x20 x21 : Int32) (f0 f1 f2 f3 f4 f5 f6 f7 f8 f9 f10 f11 f12 f13 f14 f15 f16 f17 f18 f19 f20 f21 : Nat → Int32) (fL : Nat → Nat → Int64) (fN : Nat → Nat → Int32) (fP : Nat → Nat → Nat) (fM : Nat → Nat → Int32) (fO : Nat → Nat → Int32) (sz : Nat) (i1 : Int32) (hi : Int) (m9 : Int) (q0 : 0 ≤ i1.toInt ∧ i1.toInt < 1600) (q1 : tItem (mV f3 f4 f5 f7) (tSub (mV f3 f4 f5 f7) d) i1.toInt hi m9) (q2 : hi ≤ 1600), Met l yX10_walks mwg_X10_walksI ({ frames := (3 * d + 3), cells := 0, slots := 0, locals := 60 * (3 * d + 3) }) (va_Pc [.ref (ad 0), .int i1] (fun U => U.heap.size = sz ∧ va_P (dC, dI) vwCl (mW ad kc x0 x1 x2 x3 x4 x5 x6 x7 x8 x9 x10 x11 x12 x13 x14 x15 x16 x17 x18 x19 x20 x21 f0 f1 f2 f3 f4 f5 f6 f7 f8 f9 f10 f11 f12 f13 f14 f15 f16 f17 f18 f19 f20 f21 fL fN fP fM fO) U.heap ∧ va_K (dC, dI) vwCl (mT kc) U ∧ va_D (fun _ => True) (mW ad kc x0 x1 x2 x3 x4 x5 x6 x7 x8 x9 x10 x11 x12 x13 x14 x15 x16 x17 x18 x19 x20 x21 f0 f1 f2 f3 f4 f5 f6 f7 f8 f9 f10 f11 f12 f13 f14 f15 f16 f17 f18 f19 f20 f21 fL fN fP fM fO))) (va_Qv (fun (_ : Unit) => True) (fun _ t => ∃ (g12 g13 g14 g15 g16 g17 g18 : Nat → Int32), va_P (dC, dI) vwCl (mW ad kc x0 x1 x2 x3 x4 x5 x6 x7 x8 x9 x10 x11 x12 x13 x14 x15 x16 x17 x18 x19 x20 x21 f0 f1 f2 f3 f4 f5 f6 f7 f8 f9 f10 f11 g12 g13 g14 g15 g16 g17 g18 f19 f20 f21 fL fN fP fM fO) t.heap ∧ va_K (dC, dI) vwCl (mT kc) t ∧ va_D (va_A (mW ad kc x0 x1 x2 x3 x4 x5 x6 x7 x8 x9 x10 x11 x12 x13 x14 x15 x16 x17 x18 x19 x20 x21 f0 f1 f2 f3 f4 f5 f6 f7 f8 f9 f10 f11 f12 f13 f14 f15 f16 f17 f18 f19 f20 f21 fL fN fP fM fO) sz) (mW ad kc x0 x1 x2 x3 x4 x5 x6 x7 x8 x9 x10 x11 x12 x13 x14 x15 x16 x17 x18 x19 x20 x21 f0 f1 f2 f3 f4 f5 f6 f7 f8 f9 f10 f11 g12 g13 g14 g15 g16 g17 g18 f19 f20 f21 fL fN fP fM fO)) (va_A (mW ad kc x0 x1 x2 x3 x4 x5 x6 x7 x8 x9 x10 x11 x12 x13 x14 x15 x16 x17 x18 x19 x20 x21 f0 f1 f2 f3 f4 f5 f6 f7 f8 f9 f10 f11 f12 f13 f14 f15 f16 f17 f18 f19 f20 f21 fL fN fP fM fO) sz)) 0 0 (va_A (mW ad kc x0 x1 x2 x3 x4 x5 x6 x7 x8 x9 x10 x11 x12 x13 x14 x15 x16 x17 x18 x19 x20 x21 f0 f1 f2 f3 f4 f5 f6 f7 f8 f9 f10 f11 f12 f13 f14 f15 f16 f17 f18 f19 f20 f21 fL fN fP fM fO) sz)
def k_m_walksB (l : Launch) (dC : Nat → ClassId) (dI : Nat → Nat → Nat) (d : Nat) : Prop := ∀ (ad : Nat → Nat) (kc : Nat → ClassId) (x0 x1 x2 x3 x4 x5 x6 x7 x8 x9 x10 x11 x12 x13 x14 x15 x16 x17 x18 x19 x20 x21 : Int32) (f0 f1 f2 f3 f4 f5 f6 f7 f8 f9 f10 f11 f12 f13 f14 f15 f16 f17 f18 f19 f20 f21 : Nat → Int32) (fL : Nat → Nat → Int64) (fN : Nat → Nat → Int32) (fP : Nat → Nat → Nat) (fM : Nat → Nat → Int32) (fO : Nat → Nat → Int32) (sz : Nat) (i1 : Int32) (hi : Int) (m9 : Int) (q0 : 0 ≤ i1.toInt ∧ i1.toInt < 1600) (q1 : tBranch (mV f3 f4 f5 f7) (tSub (mV f3 f4 f5 f7) d) i1.toInt hi m9) (q2 : hi ≤ 1600), Met l yX10_walks mwg_X10_walksB ({ frames := (3 * d + 4), cells := 0, slots := 0, locals := 60 * (3 * d + 4) }) (va_Pc [.ref (ad 0), .int i1] (fun U => U.heap.size = sz ∧ va_P (dC, dI) vwCl (mW ad kc x0 x1 x2 x3 x4 x5 x6 x7 x8 x9 x10 x11 x12 x13 x14 x15 x16 x17 x18 x19 x20 x21 f0 f1 f2 f3 f4 f5 f6 f7 f8 f9 f10 f11 f12 f13 f14 f15 f16 f17 f18 f19 f20 f21 fL fN fP fM fO) U.heap ∧ va_K (dC, dI) vwCl (mT kc) U ∧ va_D (fun _ => True) (mW ad kc x0 x1 x2 x3 x4 x5 x6 x7 x8 x9 x10 x11 x12 x13 x14 x15 x16 x17 x18 x19 x20 x21 f0 f1 f2 f3 f4 f5 f6 f7 f8 f9 f10 f11 f12 f13 f14 f15 f16 f17 f18 f19 f20 f21 fL fN fP fM fO))) (va_Qv (fun (_ : Unit) => True) (fun _ t => ∃ (g12 g13 g14 g15 g16 g17 g18 : Nat → Int32), va_P (dC, dI) vwCl (mW ad kc x0 x1 x2 x3 x4 x5 x6 x7 x8 x9 x10 x11 x12 x13 x14 x15 x16 x17 x18 x19 x20 x21 f0 f1 f2 f3 f4 f5 f6 f7 f8 f9 f10 f11 g12 g13 g14 g15 g16 g17 g18 f19 f20 f21 fL fN fP fM fO) t.heap ∧ va_K (dC, dI) vwCl (mT kc) t ∧ va_D (va_A (mW ad kc x0 x1 x2 x3 x4 x5 x6 x7 x8 x9 x10 x11 x12 x13 x14 x15 x16 x17 x18 x19 x20 x21 f0 f1 f2 f3 f4 f5 f6 f7 f8 f9 f10 f11 f12 f13 f14 f15 f16 f17 f18 f19 f20 f21 fL fN fP fM fO) sz) (mW ad kc x0 x1 x2 x3 x4 x5 x6 x7 x8 x9 x10 x11 x12 x13 x14 x15 x16 x17 x18 x19 x20 x21 f0 f1 f2 f3 f4 f5 f6 f7 f8 f9 f10 f11 g12 g13 g14 g15 g16 g17 g18 f19 f20 f21 fL fN fP fM fO)) (va_A (mW ad kc x0 x1 x2 x3 x4 x5 x6 x7 x8 x9 x10 x11 x12 x13 x14 x15 x16 x17 x18 x19 x20 x21 f0 f1 f2 f3 f4 f5 f6 f7 f8 f9 f10 f11 f12 f13 f14 f15 f16 f17 f18 f19 f20 f21 fL fN fP fM fO) sz)) 0 0 (va_A (mW ad kc x0 x1 x2 x3 x4 x5 x6 x7 x8 x9 x10 x11 x12 x13 x14 x15 x16 x17 x18 x19 x20 x21 f0 f1 f2 f3 f4 f5 f6 f7 f8 f9 f10 f11 f12 f13 f14 f15 f16 f17 f18 f19 f20 f21 fL fN fP fM fO) sz)
def k_m_walksP (l : Launch) (dC : Nat → ClassId) (dI : Nat → Nat → Nat) (d : Nat) : Prop := ∀ (ad : Nat → Nat) (kc : Nat → ClassId) (x0 x1 x2 x3 x4 x5 x6 x7 x8 x9 x10 x11 x12 x13 x14 x15 x16 x17 x18 x19 x20 x21 : Int32) (f0 f1 f2 f3 f4 f5 f6 f7 f8 f9 f10 f11 f12 f13 f14 f15 f16 f17 f18 f19 f20 f21 : Nat → Int32) (fL : Nat → Nat → Int64) (fN : Nat → Nat → Int32) (fP : Nat → Nat → Nat) (fM : Nat → Nat → Int32) (fO : Nat → Nat → Int32) (sz : Nat) (i1 : Int32) (hi : Int) (m9 : Int) (q0 : 0 ≤ i1.toInt ∧ i1.toInt < 1600) (q1 : tPat (mV f3 f4 f5 f7) d i1.toInt hi m9) (q2 : hi ≤ 1600), Met l yX10_walks mwg_X10_walksP ({ frames := (3 * d + 5), cells := 0, slots := 0, locals := 60 * (3 * d + 5) }) (va_Pc [.ref (ad 0), .int i1] (fun U => U.heap.size = sz ∧ va_P (dC, dI) vwCl (mW ad kc x0 x1 x2 x3 x4 x5 x6 x7 x8 x9 x10 x11 x12 x13 x14 x15 x16 x17 x18 x19 x20 x21 f0 f1 f2 f3 f4 f5 f6 f7 f8 f9 f10 f11 f12 f13 f14 f15 f16 f17 f18 f19 f20 f21 fL fN fP fM fO) U.heap ∧ va_K (dC, dI) vwCl (mT kc) U ∧ va_D (fun _ => True) (mW ad kc x0 x1 x2 x3 x4 x5 x6 x7 x8 x9 x10 x11 x12 x13 x14 x15 x16 x17 x18 x19 x20 x21 f0 f1 f2 f3 f4 f5 f6 f7 f8 f9 f10 f11 f12 f13 f14 f15 f16 f17 f18 f19 f20 f21 fL fN fP fM fO))) (va_Qv (fun (_ : Unit) => True) (fun _ t => ∃ (g12 g13 g14 g15 g16 g17 g18 : Nat → Int32), va_P (dC, dI) vwCl (mW ad kc x0 x1 x2 x3 x4 x5 x6 x7 x8 x9 x10 x11 x12 x13 x14 x15 x16 x17 x18 x19 x20 x21 f0 f1 f2 f3 f4 f5 f6 f7 f8 f9 f10 f11 g12 g13 g14 g15 g16 g17 g18 f19 f20 f21 fL fN fP fM fO) t.heap ∧ va_K (dC, dI) vwCl (mT kc) t ∧ va_D (va_A (mW ad kc x0 x1 x2 x3 x4 x5 x6 x7 x8 x9 x10 x11 x12 x13 x14 x15 x16 x17 x18 x19 x20 x21 f0 f1 f2 f3 f4 f5 f6 f7 f8 f9 f10 f11 f12 f13 f14 f15 f16 f17 f18 f19 f20 f21 fL fN fP fM fO) sz) (mW ad kc x0 x1 x2 x3 x4 x5 x6 x7 x8 x9 x10 x11 x12 x13 x14 x15 x16 x17 x18 x19 x20 x21 f0 f1 f2 f3 f4 f5 f6 f7 f8 f9 f10 f11 g12 g13 g14 g15 g16 g17 g18 f19 f20 f21 fL fN fP fM fO)) (va_A (mW ad kc x0 x1 x2 x3 x4 x5 x6 x7 x8 x9 x10 x11 x12 x13 x14 x15 x16 x17 x18 x19 x20 x21 f0 f1 f2 f3 f4 f5 f6 f7 f8 f9 f10 f11 f12 f13 f14 f15 f16 f17 f18 f19 f20 f21 fL fN fP fM fO) sz)) 0 0 (va_A (mW ad kc x0 x1 x2 x3 x4 x5 x6 x7 x8 x9 x10 x11 x12 x13 x14 x15 x16 x17 x18 x19 x20 x21 f0 f1 f2 f3 f4 f5 f6 f7 f8 f9 f10 f11 f12 f13 f14 f15 f16 f17 f18 f19 f20 f21 fL fN fP fM fO) sz)
theorem dX10_walks_12 : decode cX10_walks 12 = .ok (.aload_n 0, 1) := by decide +kernel
theorem dX10_walks_13 : decode cX10_walks 13 = .ok (.iload_n 2, 1) := by decide +kernel
theorem dX10_walks_14 : decode cX10_walks 14 = .ok (.invokevirtual 375, 3) := by decide +kernel
theorem dX10_walks_17 : decode cX10_walks 17 = .ok (.aload_n 0, 1) := by decide +kernel
theorem dX10_walks_18 : decode cX10_walks 18 = .ok (.getfield 34, 3) := by decide +kernel
theorem dX10_walks_21 : decode cX10_walks 21 = .ok (.iload_n 2, 1) := by decide +kernel
theorem dX10_walks_22 : decode cX10_walks 22 = .ok (.iaload, 1) := by decide +kernel
theorem dX10_walks_23 : decode cX10_walks 23 = .ok (.istore_n 2, 1) := by decide +kernel
theorem dX10_walks_24 : decode cX10_walks 24 = .ok (.goto (-17), 3) := by decide +kernel
theorem dX10_walks_139 : decode cX10_walks 139 = .ok (.aload_n 0, 1) := by decide +kernel
theorem dX10_walks_140 : decode cX10_walks 140 = .ok (.iload_n 1, 1) := by decide +kernel
theorem dX10_walks_141 : decode cX10_walks 141 = .ok (.aload_n 0, 1) := by decide +kernel
theorem dX10_walks_142 : decode cX10_walks 142 = .ok (.getfield 31, 3) := by decide +kernel
theorem dX10_walks_145 : decode cX10_walks 145 = .ok (.iload_n 1, 1) := by decide +kernel
theorem dX10_walks_146 : decode cX10_walks 146 = .ok (.iaload, 1) := by decide +kernel
theorem dX10_walks_147 : decode cX10_walks 147 = .ok (.invokevirtual 378, 3) := by decide +kernel
theorem dX10_walks_150 : decode cX10_walks 150 = .ok (.goto 16, 3) := by decide +kernel
theorem fin_X10_walksgI_X10 : ∀ w ∈ wsX100, w ∈ mwg_X10_walksI := fun w h => List.mem_cons_of_mem _ (List.mem_append_right _ (List.mem_append_left _ h))
set_option maxRecDepth 100000 in
theorem gd_mwX10_walksBranchm : mwX10_walksBranchm.all goodWord = true := by decide +kernel
set_option maxRecDepth 100000 in
theorem gd_mwX10_walksItemm : mwX10_walksItemm.all goodWord = true := by decide +kernel
set_option maxRecDepth 100000 in
theorem gd_mwX10_walksPatternm : mwX10_walksPatternm.all goodWord = true := by decide +kernel
set_option maxRecDepth 100000 in
theorem gd_mwX10_walksmS : mwX10_walksmS.all goodWord = true := by decide +kernel
set_option maxRecDepth 100000 in
theorem mg_X10_walksgI_X10_walksItem_378 : GoodIn mwg_X10_walksI (wsV RX10 378 RX10 yX10_walksItem mwX10_walksItemm) := gj_app (A := [.methodLink RX10 378 yX10_walksItem, .instanceMethod yX10_walksItem, .selects RX10 yX10_walksItem yX10_walksItem, .initialized RX10]) (goodIn_r _ [14, 11, 19, 8] (by decide +kernel) (by decide +kernel)) (gj_sub gd_mwX10_walksItemm (fun w h => List.mem_cons_of_mem _ (List.mem_append_right _ (List.mem_append_right _ (List.mem_append_right _ (List.mem_append_left _ h))))))
set_option maxRecDepth 100000 in
theorem mg_X10_walksgI_X10_walks_375 : GoodIn mwg_X10_walksI (wsV RX10 375 RX10 yX10_walks mwX10_walksmS) := gj_app (A := [.methodLink RX10 375 yX10_walks, .instanceMethod yX10_walks, .selects RX10 yX10_walks yX10_walks, .initialized RX10]) (goodIn_r _ [13, 9, 17, 8] (by decide +kernel) (by decide +kernel)) (gj_sub gd_mwX10_walksmS (fun w h => List.mem_cons_of_mem _ (List.mem_append_right _ (List.mem_append_right _ (List.mem_append_right _ (List.mem_append_right _ (List.mem_append_right _ (h))))))))
set_option maxRecDepth 100000 in
theorem mg_X10_walksgI_X10_walks_375_mwg_X10_walksP : GoodIn mwg_X10_walksI (wsV RX10 375 RX10 yX10_walks mwg_X10_walksP) := gj_app (A := [.methodLink RX10 375 yX10_walks, .instanceMethod yX10_walks, .selects RX10 yX10_walks yX10_walks, .initialized RX10]) (goodIn_r _ [13, 9, 17, 8] (by decide +kernel) (by decide +kernel)) (gj_cons ⟨List.mem_of_getElem? (i := 1) rfl, good_of_word rfl⟩ (gj_sub gd_wgU_walks (fun w h => List.mem_cons_of_mem _ h)))
set_option maxHeartbeats 4000000 in
set_option maxRecDepth 100000 in
theorem m_walksI (l : Launch) (dC : Nat → ClassId) (dI : Nat → Nat → Nat) (d : Nat) (hrec : ∀ e, d = e + 1 → k_m_walksP l dC dI e) : k_m_walksI l dC dI d := by
  intro ad kc x0 x1 x2 x3 x4 x5 x6 x7 x8 x9 x10 x11 x12 x13 x14 x15 x16 x17 x18 x19 x20 x21 f0 f1 f2 f3 f4 f5 f6 f7 f8 f9 f10 f11 f12 f13 f14 f15 f16 f17 f18 f19 f20 f21 fL fN fP fM fO sz i1 hi m9 q0 q1 q2
  refine Met.ofW (cc := cX10_walks) (maxL := 3) (ret := none) (by decide +kernel) rfl ?_
  intro p e s m args below meth c s₁ B hml hv
  obtain ⟨rfl, hsz, hP, hK, hD0⟩ := hv
  have hx := B.exec
  have hb := B.bytes
  have hr := B.returns
  have hts := atoms_spec (ws := mwg_X10_walksI) B.pre
  have hown : s.vm.findClass RX10 = some m.cls := findClass_of_methodNamed B.named
  have hlocks := B.notSynchronized
  subst hsz
  have hD := hD0.self (sz := s.heap.size)
  generalize hAe : va_A (mW ad kc x0 x1 x2 x3 x4 x5 x6 x7 x8 x9 x10 x11 x12 x13 x14 x15 x16 x17 x18 x19 x20 x21 f0 f1 f2 f3 f4 f5 f6 f7 f8 f9 f10 f11 f12 f13 f14 f15 f16 f17 f18 f19 f20 f21 fL fN fP fM fO) s.heap.size = A at hD ⊢
  have hA : ∀ q : Nat, s.heap.size ≤ q → A q := fun q h => by rw [← hAe]; exact Or.inr h
  have hP : va_P (dC, dI) vwCl (mW ad kc x0 x1 x2 x3 x4 x5 x6 x7 x8 x9 x10 x11 x12 x13 x14 x15 x16 x17 x18 x19 x20 x21 f0 f1 f2 f3 f4 f5 f6 f7 f8 f9 f10 f11 f12 f13 f14 f15 f16 f17 f18 f19 f20 f21 fL fN fP fM fO) s.heap := hP
  have hD : va_D A (mW ad kc x0 x1 x2 x3 x4 x5 x6 x7 x8 x9 x10 x11 x12 x13 x14 x15 x16 x17 x18 x19 x20 x21 f0 f1 f2 f3 f4 f5 f6 f7 f8 f9 f10 f11 f12 f13 f14 f15 f16 f17 f18 f19 f20 f21 fL fN fP fM fO) := hD
  have hK : va_K (dC, dI) vwCl (mT kc) s := hK
  generalize hH : s.heap = H at hP ⊢
  have hS : va_S A s.heap H [] := by rw [← hH]; exact va_S.rf
  have hl := lv_entry ([.ref (ad 0), .int i1]) (n := 3) (Nat.le_of_ble_eq_true rfl)
  rw [lg_entry_eq]
  generalize (lg_sl ([.ref (ad 0), .int i1]) ++ List.replicate (3 - (lg_sl ([.ref (ad 0), .int i1])).length) Slot.unset).toArray = ls at hl ⊢
  have hl : lv_has ls 3 [(0, .ref (ad 0)), (1, .int i1)] := hl
  have rg_i1 := i_rng i1
  have hkd : vI f3 i1.toInt = 1 := q1.1
  have hT0 := ts_init (hm_ch (mV f3 f4 f5 f7) d) (hp_ch (mV f3 f4 f5 f7) d) (by omega) ⟨q1.2.1, ⟨0, i1.toInt + 1, ⟨q1.2.2.2, rfl, q1.2.2.1⟩⟩⟩
  have hfi : vI f4 i1.toInt = i1.toInt + 1 := q1.2.1
  have htm := tm_item (tm_sub d) q1
  have hps := tpos_item (tpos_sub d) q1
  refine lv_aload_n hx hb dX10_walks_0 rfl (lv_at hl 0 rfl) ?_
  refine va_get (D := (dC, dI)) (ci := 10) (v := .ref (ad 5)) (C := RX10) (T := TX10) (N := 48) hx hb hts fin_X10_walksgI_X10 hown hK hP 0 rfl rfl 16 (by decide) (hts (.fieldLink RX10 31 "PatternGateModel" "first" "[I") (List.mem_of_getElem? (i := 6) (by decide +kernel))) (fun _ h9 => h9) rfl dX10_walks_1 ?_
  refine lv_iload_n hx hb dX10_walks_4 rfl (lv_at hl 1 rfl) ?_
  refine va_iald hx hb hK hP 5 4 rfl rfl (i := i1) (vp_of (a := i1.toInt) rfl (by omega) (by omega)) dX10_walks_5 ?_
  refine lv_topi (fun y_1 ey_1 => ?_)
  have rg_y_1 := i_rng y_1
  have vy_1 := vI_lda (f := f4) (i := i1) (a := i1.toInt) ey_1 (by first | omega | decide)
  have rg_y_1 := i_rng y_1
  refine lv_istore_n (lv' := [(2, .int y_1), (0, .ref (ad 0)), (1, .int i1)]) hx hb dX10_walks_6 rfl hl (by decide) rfl (fun ls hl => ?_)
  have loop7 : ∀ (lm7 : Nat) (kk : Int32) (le9 : Int) (ga gb gc gd ge gf gg : Nat → Int32), (tsI (mV f3 f4 f5 f7) (fun a b c => tSpot (mV f3 f4 f5 f7) a b c ∨ tSub (mV f3 f4 f5 f7) d a b c) kk.toInt hi le9) → (0 ≤ le9) → le9.toNat < lm7 → ∀ (H : Heap) (locs : List Loc) (ls : Array Slot), va_P (dC, dI) vwCl (mW ad kc x0 x1 x2 x3 x4 x5 x6 x7 x8 x9 x10 x11 x12 x13 x14 x15 x16 x17 x18 x19 x20 x21 f0 f1 f2 f3 f4 f5 f6 f7 f8 f9 f10 f11 ga gb gc gd ge gf gg f19 f20 f21 fL fN fP fM fO) H → va_D A (mW ad kc x0 x1 x2 x3 x4 x5 x6 x7 x8 x9 x10 x11 x12 x13 x14 x15 x16 x17 x18 x19 x20 x21 f0 f1 f2 f3 f4 f5 f6 f7 f8 f9 f10 f11 ga gb gc gd ge gf gg f19 f20 f21 fL fN fP fM fO) → va_S A s.heap H locs → lv_has ls 3 [(2, .int kk), (0, .ref (ad 0)), (1, .int i1)] → W p l e (headSpec mwg_X10_walksI ({ frames := (3 * d + 3), cells := 0, slots := 0, locals := 60 * (3 * d + 3) })).room s m ([.ref (ad 0), .int i1]).toArray below meth c H locs 0 0 (MQ below (va_Qv (fun (_ : Unit) => True) (fun _ t => ∃ (g12 g13 g14 g15 g16 g17 g18 : Nat → Int32), va_P (dC, dI) vwCl (mW ad kc x0 x1 x2 x3 x4 x5 x6 x7 x8 x9 x10 x11 x12 x13 x14 x15 x16 x17 x18 x19 x20 x21 f0 f1 f2 f3 f4 f5 f6 f7 f8 f9 f10 f11 g12 g13 g14 g15 g16 g17 g18 f19 f20 f21 fL fN fP fM fO) t.heap ∧ va_K (dC, dI) vwCl (mT kc) t ∧ va_D A (mW ad kc x0 x1 x2 x3 x4 x5 x6 x7 x8 x9 x10 x11 x12 x13 x14 x15 x16 x17 x18 x19 x20 x21 f0 f1 f2 f3 f4 f5 f6 f7 f8 f9 f10 f11 g12 g13 g14 g15 g16 g17 g18 f19 f20 f21 fL fN fP fM fO)) A) ([.ref (ad 0), .int i1]).toArray s 0 0 A) (F0 m 7 ls []) := by
    intro lm7
    induction lm7 with
    | zero => intro kk le9 ga gb gc gd ge gf gg v7_0 v7_1 hm7; exact absurd hm7 (Nat.not_lt_zero _)
    | succ lm7 ih7 =>
      intro kk le9 ga gb gc gd ge gf gg v7_0 v7_1 hm7 H locs ls hP hD hS hl
      have rg_kk := i_rng kk
      refine lv_iload_n hx hb dX10_walks_7 rfl (lv_at hl 0 rfl) ?_
      refine lv_iconst (v := (-1)) hx hb dX10_walks_8 (by decide) ?_
      refine lv_icmp_eq (tgt := 27) hx hb dX10_walks_9 (by decide) (fun k_2 => ?_) (fun k_2 => ?_)
      · have tk_2 := c_eq (a := kk.toInt) (b := (-1)) rfl (by decide) k_2
        refine lv_aload_n hx hb dX10_walks_27 rfl (lv_at hl 1 rfl) ?_
        refine va_get (D := (dC, dI)) (ci := 10) (v := .ref (ad 4)) (C := RX10) (T := TX10) (N := 48) hx hb hts fin_X10_walksgI_X10 hown hK hP 0 rfl rfl 15 (by decide) (hts (.fieldLink RX10 28 "PatternGateModel" "kind" "[I") (List.mem_of_getElem? (i := 5) (by decide +kernel))) (fun _ h9 => h9) rfl dX10_walks_28 ?_
        refine lv_iload_n hx hb dX10_walks_31 rfl (lv_at hl 2 rfl) ?_
        refine va_iald hx hb hK hP 4 3 rfl rfl (i := i1) (vp_of (a := i1.toInt) rfl (by omega) (by omega)) dX10_walks_32 ?_
        refine lv_topi (fun y_3 ey_3 => ?_)
        have rg_y_3 := i_rng y_3
        have vy_3 := vI_lda (f := f3) (i := i1) (a := i1.toInt) ey_3 (by first | omega | decide)
        have rg_y_3 := i_rng y_3
        refine lv_tableIn (off := 106) (tgt := 139) hx hb dX10_walks_33 (by omega) (by omega) (by rw [show (y_3.toInt - 0).toNat = 1 by omega]; rfl) (by decide) ?_
        refine lv_aload_n hx hb dX10_walks_139 rfl (lv_at hl 1 rfl) ?_
        refine lv_iload_n hx hb dX10_walks_140 rfl (lv_at hl 2 rfl) ?_
        refine lv_aload_n hx hb dX10_walks_141 rfl (lv_at hl 1 rfl) ?_
        refine va_get (D := (dC, dI)) (ci := 10) (v := .ref (ad 5)) (C := RX10) (T := TX10) (N := 48) hx hb hts fin_X10_walksgI_X10 hown hK hP 0 rfl rfl 16 (by decide) (hts (.fieldLink RX10 31 "PatternGateModel" "first" "[I") (List.mem_of_getElem? (i := 6) (by decide +kernel))) (fun _ h9 => h9) rfl dX10_walks_142 ?_
        refine lv_iload_n hx hb dX10_walks_145 rfl (lv_at hl 2 rfl) ?_
        refine va_iald hx hb hK hP 5 4 rfl rfl (i := i1) (vp_of (a := i1.toInt) rfl (by omega) (by omega)) dX10_walks_146 ?_
        refine lv_topi (fun y_4 ey_4 => ?_)
        have rg_y_4 := i_rng y_4
        have vy_4 := vI_lda (f := f4) (i := i1) (a := i1.toInt) ey_4 (by first | omega | decide)
        have rg_y_4 := i_rng y_4
        have hFc := m_free hD hS hA
        refine va_callv (va_runV (As := [.int i1, .int y_4]) (rest := []) ⟨hx, hb, hml, hown, hts⟩ (m_walksItem l dC dI ad kc x0 x1 x2 x3 x4 x5 x6 x7 x8 x9 x10 x11 x12 x13 x14 x15 x16 x17 x18 x19 x20 x21 f0 f1 f2 f3 f4 f5 f6 f7 f8 f9 f10 f11 ga gb gc gd ge gf gg f19 f20 f21 fL fN fP fM fO H.size i1 y_4 (by first | omega | assumption | decide | (have l0 := Int32.toInt_zero; omega)) (by first | omega | assumption | decide | (have l0 := Int32.toInt_zero; omega))) (cwV 2 hts mg_X10_walksgI_X10_walksItem_378 rfl rfl rfl (by decide +kernel) ⟨(show 2 + 1 ≤ 3 * d + 3 by omega), (show 8 + (4 + 11) + 120 ≤ 60 * (3 * d + 3) by omega)⟩) ⟨fun a U g mk q => by obtain ⟨q0, q1, qP, qK, qD⟩ := q; exact ⟨q0, q1, qP, va_K.moved (u := U) (U := U.calling g mk a) (Vm.Alike.refl U.vm) qK, qD⟩, va_recv hK hP (ci := 10) (q0 := 0) rfl rfl, fun U hU hW => ⟨rfl, by rw [hU], by rw [hU]; exact hP, va_K.moved hW.alike hK, hD.weaken (fun _ _ _ _ => trivial)⟩⟩ rfl rfl hl.1 rfl (lv_room (Nat.le_of_ble_eq_true rfl)) dX10_walks_147 ⟨Nat.le_of_ble_eq_true rfl, Nat.le_of_ble_eq_true rfl⟩) hS (fun q _ h => hFc q h) hFc (fun u t H1 locs ht hvm hw hB hz1 hk1 hS => ?_)
        obtain ⟨f_6, f_7, f_8, f_9, f_10, f_11, f_12, hP, hK1, hD1⟩ := hB
        rw [ht] at hP
        have hD := hD1.weaken (fun k q _ h => hFc q.1 h)
        clear hz1 hk1 hFc hD1 hK1 hvm
        generalize H1 = H at hP hS ⊢
        have hP : va_P (dC, dI) vwCl (mW ad kc x0 x1 x2 x3 x4 x5 x6 x7 x8 x9 x10 x11 x12 x13 x14 x15 x16 x17 x18 x19 x20 x21 f0 f1 f2 f3 f4 f5 f6 f7 f8 f9 f10 f11 f_6 f_7 f_8 f_9 f_10 f_11 f_12 f19 f20 f21 fL fN fP fM fO) H := hP
        have hD : va_D A (mW ad kc x0 x1 x2 x3 x4 x5 x6 x7 x8 x9 x10 x11 x12 x13 x14 x15 x16 x17 x18 x19 x20 x21 f0 f1 f2 f3 f4 f5 f6 f7 f8 f9 f10 f11 f_6 f_7 f_8 f_9 f_10 f_11 f_12 f19 f20 f21 fL fN fP fM fO) := hD
        refine lv_goto (tgt := 166) hx hb dX10_walks_150 (by decide) ?_
        exact W.vret hx hb hr (fun t ht hW => ⟨⟨(), rfl, trivial, f_6, f_7, f_8, f_9, f_10, f_11, f_12, by rw [ht]; exact hP, va_K.moved hW.alike hK, hD⟩, hS.F ht⟩) hS.2.2 dX10_walks_166
      · have tk_2 := c_ne (a := kk.toInt) (b := (-1)) rfl (by decide) k_2
        obtain ⟨h8, m8, hI8, hk0, hk1, hk2, hk3, hk4, hN8⟩ := ts_cont (hm_ch (mV f3 f4 f5 f7) d) (hp_ch (mV f3 f4 f5 f7) d) v7_0 tk_2
        rcases hI8 with hsb | hsb
        · have hsb9 := hsb
          refine lv_aload_n hx hb dX10_walks_12 rfl (lv_at hl 1 rfl) ?_
          refine lv_iload_n hx hb dX10_walks_13 rfl (lv_at hl 0 rfl) ?_
          have hFc := m_free hD hS hA
          refine va_callv (va_runV (As := [.int kk]) (rest := []) ⟨hx, hb, hml, hown, hts⟩ (m_walksS l dC dI ad kc x0 x1 x2 x3 x4 x5 x6 x7 x8 x9 x10 x11 x12 x13 x14 x15 x16 x17 x18 x19 x20 x21 f0 f1 f2 f3 f4 f5 f6 f7 f8 f9 f10 f11 ga gb gc gd ge gf gg f19 f20 f21 fL fN fP fM fO H.size kk h8 m8 (by first | omega | assumption | decide | (have l0 := Int32.toInt_zero; omega)) (by first | omega | assumption | decide | (have l0 := Int32.toInt_zero; omega))) (cwV 1 hts mg_X10_walksgI_X10_walks_375 rfl rfl rfl (by decide +kernel) ⟨(show 1 + 1 ≤ 3 * d + 3 by omega), (show 8 + (3 + 11) + 60 ≤ 60 * (3 * d + 3) by omega)⟩) ⟨fun a U g mk q => by obtain ⟨q0, q1, qP, qK, qD⟩ := q; exact ⟨q0, q1, qP, va_K.moved (u := U) (U := U.calling g mk a) (Vm.Alike.refl U.vm) qK, qD⟩, va_recv hK hP (ci := 10) (q0 := 0) rfl rfl, fun U hU hW => ⟨rfl, by rw [hU], by rw [hU]; exact hP, va_K.moved hW.alike hK, hD.weaken (fun _ _ _ _ => trivial)⟩⟩ rfl rfl hl.1 rfl (lv_room (Nat.le_of_ble_eq_true rfl)) dX10_walks_14 ⟨Nat.le_of_ble_eq_true rfl, Nat.le_of_ble_eq_true rfl⟩) hS (fun q _ h => hFc q h) hFc (fun u t H1 locs ht hvm hw hB hz1 hk1 hS => ?_)
          obtain ⟨f_14, f_15, f_16, f_17, f_18, f_19, f_20, hP, hK1, hD1⟩ := hB
          rw [ht] at hP
          have hD := hD1.weaken (fun k q _ h => hFc q.1 h)
          clear hz1 hk1 hFc hD1 hK1 hvm
          generalize H1 = H at hP hS ⊢
          have hP : va_P (dC, dI) vwCl (mW ad kc x0 x1 x2 x3 x4 x5 x6 x7 x8 x9 x10 x11 x12 x13 x14 x15 x16 x17 x18 x19 x20 x21 f0 f1 f2 f3 f4 f5 f6 f7 f8 f9 f10 f11 f_14 f_15 f_16 f_17 f_18 f_19 f_20 f19 f20 f21 fL fN fP fM fO) H := hP
          have hD : va_D A (mW ad kc x0 x1 x2 x3 x4 x5 x6 x7 x8 x9 x10 x11 x12 x13 x14 x15 x16 x17 x18 x19 x20 x21 f0 f1 f2 f3 f4 f5 f6 f7 f8 f9 f10 f11 f_14 f_15 f_16 f_17 f_18 f_19 f_20 f19 f20 f21 fL fN fP fM fO) := hD
          refine lv_aload_n hx hb dX10_walks_17 rfl (lv_at hl 1 rfl) ?_
          refine va_get (D := (dC, dI)) (ci := 10) (v := .ref (ad 6)) (C := RX10) (T := TX10) (N := 48) hx hb hts fin_X10_walksgI_X10 hown hK hP 0 rfl rfl 17 (by decide) (hts (.fieldLink RX10 34 "PatternGateModel" "next" "[I") (List.mem_of_getElem? (i := 7) (by decide +kernel))) (fun _ h9 => h9) rfl dX10_walks_18 ?_
          refine lv_iload_n hx hb dX10_walks_21 rfl (lv_at hl 0 rfl) ?_
          refine va_iald hx hb hK hP 6 5 rfl rfl (i := kk) (vp_of (a := kk.toInt) rfl (by omega) (by omega)) dX10_walks_22 ?_
          refine lv_topi (fun y_21 ey_21 => ?_)
          have rg_y_21 := i_rng y_21
          have vy_21 := vI_lda (f := f5) (i := kk) (a := kk.toInt) ey_21 (by first | omega | decide)
          have rg_y_21 := i_rng y_21
          refine lv_istore_n (lv' := [(2, .int y_21), (0, .ref (ad 0)), (1, .int i1)]) hx hb dX10_walks_23 rfl hl (by decide) rfl (fun ls hl => ?_)
          refine lv_goto (tgt := 7) hx hb dX10_walks_24 (by decide) ?_
          exact ih7 y_21 (le9 - m8) f_14 f_15 f_16 f_17 f_18 f_19 f_20 (by rw [show y_21.toInt = mV f3 f4 f5 f7 2 kk.toInt from vy_21]; exact hN8) (by first | omega | assumption | decide) (by omega) _ _ ls hP hD hS (lv_sub hl [0, 1, 2] rfl)
        · obtain ⟨e9, he9, hsb⟩ := sub_un hsb
          refine lv_aload_n hx hb dX10_walks_12 rfl (lv_at hl 1 rfl) ?_
          refine lv_iload_n hx hb dX10_walks_13 rfl (lv_at hl 0 rfl) ?_
          have hFc := m_free hD hS hA
          refine va_callv (va_runV (As := [.int kk]) (rest := []) ⟨hx, hb, hml, hown, hts⟩ ((hrec e9 he9) ad kc x0 x1 x2 x3 x4 x5 x6 x7 x8 x9 x10 x11 x12 x13 x14 x15 x16 x17 x18 x19 x20 x21 f0 f1 f2 f3 f4 f5 f6 f7 f8 f9 f10 f11 ga gb gc gd ge gf gg f19 f20 f21 fL fN fP fM fO H.size kk h8 m8 (by first | omega | assumption | decide | (have l0 := Int32.toInt_zero; omega)) (by first | omega | assumption | decide | (have l0 := Int32.toInt_zero; omega)) (by first | omega | assumption | decide | (have l0 := Int32.toInt_zero; omega))) (cwV 1 hts mg_X10_walksgI_X10_walks_375_mwg_X10_walksP rfl rfl rfl (by decide +kernel) ⟨(show (3 * e9 + 5) + 1 ≤ 3 * d + 3 by omega), (show 8 + (3 + 11) + 60 * (3 * e9 + 5) ≤ 60 * (3 * d + 3) by omega)⟩) ⟨fun a U g mk q => by obtain ⟨q0, q1, qP, qK, qD⟩ := q; exact ⟨q0, q1, qP, va_K.moved (u := U) (U := U.calling g mk a) (Vm.Alike.refl U.vm) qK, qD⟩, va_recv hK hP (ci := 10) (q0 := 0) rfl rfl, fun U hU hW => ⟨rfl, by rw [hU], by rw [hU]; exact hP, va_K.moved hW.alike hK, hD.weaken (fun _ _ _ _ => trivial)⟩⟩ rfl rfl hl.1 rfl (lv_room (Nat.le_of_ble_eq_true rfl)) dX10_walks_14 ⟨Nat.le_of_ble_eq_true rfl, Nat.le_of_ble_eq_true rfl⟩) hS (fun q _ h => hFc q h) hFc (fun u t H1 locs ht hvm hw hB hz1 hk1 hS => ?_)
          obtain ⟨f_23, f_24, f_25, f_26, f_27, f_28, f_29, hP, hK1, hD1⟩ := hB
          rw [ht] at hP
          have hD := hD1.weaken (fun k q _ h => hFc q.1 h)
          clear hz1 hk1 hFc hD1 hK1 hvm
          generalize H1 = H at hP hS ⊢
          have hP : va_P (dC, dI) vwCl (mW ad kc x0 x1 x2 x3 x4 x5 x6 x7 x8 x9 x10 x11 x12 x13 x14 x15 x16 x17 x18 x19 x20 x21 f0 f1 f2 f3 f4 f5 f6 f7 f8 f9 f10 f11 f_23 f_24 f_25 f_26 f_27 f_28 f_29 f19 f20 f21 fL fN fP fM fO) H := hP
          have hD : va_D A (mW ad kc x0 x1 x2 x3 x4 x5 x6 x7 x8 x9 x10 x11 x12 x13 x14 x15 x16 x17 x18 x19 x20 x21 f0 f1 f2 f3 f4 f5 f6 f7 f8 f9 f10 f11 f_23 f_24 f_25 f_26 f_27 f_28 f_29 f19 f20 f21 fL fN fP fM fO) := hD
          refine lv_aload_n hx hb dX10_walks_17 rfl (lv_at hl 1 rfl) ?_
          refine va_get (D := (dC, dI)) (ci := 10) (v := .ref (ad 6)) (C := RX10) (T := TX10) (N := 48) hx hb hts fin_X10_walksgI_X10 hown hK hP 0 rfl rfl 17 (by decide) (hts (.fieldLink RX10 34 "PatternGateModel" "next" "[I") (List.mem_of_getElem? (i := 7) (by decide +kernel))) (fun _ h9 => h9) rfl dX10_walks_18 ?_
          refine lv_iload_n hx hb dX10_walks_21 rfl (lv_at hl 0 rfl) ?_
          refine va_iald hx hb hK hP 6 5 rfl rfl (i := kk) (vp_of (a := kk.toInt) rfl (by omega) (by omega)) dX10_walks_22 ?_
          refine lv_topi (fun y_30 ey_30 => ?_)
          have rg_y_30 := i_rng y_30
          have vy_30 := vI_lda (f := f5) (i := kk) (a := kk.toInt) ey_30 (by first | omega | decide)
          have rg_y_30 := i_rng y_30
          refine lv_istore_n (lv' := [(2, .int y_30), (0, .ref (ad 0)), (1, .int i1)]) hx hb dX10_walks_23 rfl hl (by decide) rfl (fun ls hl => ?_)
          refine lv_goto (tgt := 7) hx hb dX10_walks_24 (by decide) ?_
          exact ih7 y_30 (le9 - m8) f_23 f_24 f_25 f_26 f_27 f_28 f_29 (by rw [show y_30.toInt = mV f3 f4 f5 f7 2 kk.toInt from vy_30]; exact hN8) (by first | omega | assumption | decide) (by omega) _ _ ls hP hD hS (lv_sub hl [0, 1, 2] rfl)
  exact loop7 _ y_1 m9 f12 f13 f14 f15 f16 f17 f18 (by rw [show y_1.toInt = mV f3 f4 f5 f7 1 i1.toInt from vy_1]; exact hT0) (by first | omega | assumption | decide) (Nat.lt_succ_self _) _ _ ls hP hD hS (lv_sub hl [0, 1, 2] rfl)
theorem dX10_walks_153 : decode cX10_walks 153 = .ok (.aload_n 0, 1) := by decide +kernel
theorem dX10_walks_154 : decode cX10_walks 154 = .ok (.iload_n 1, 1) := by decide +kernel
theorem dX10_walks_155 : decode cX10_walks 155 = .ok (.invokevirtual 381, 3) := by decide +kernel
theorem dX10_walks_158 : decode cX10_walks 158 = .ok (.goto 8, 3) := by decide +kernel
theorem fin_X10_walksgB_X10 : ∀ w ∈ wsX100, w ∈ mwg_X10_walksB := fun w h => List.mem_cons_of_mem _ (List.mem_append_right _ (List.mem_append_left _ h))
set_option maxRecDepth 100000 in
theorem mg_X10_walksgB_X10_walksBranch_381 : GoodIn mwg_X10_walksB (wsV RX10 381 RX10 yX10_walksBranch mwX10_walksBranchm) := gj_app (A := [.methodLink RX10 381 yX10_walksBranch, .instanceMethod yX10_walksBranch, .selects RX10 yX10_walksBranch yX10_walksBranch, .initialized RX10]) (goodIn_r _ [15, 10, 18, 8] (by decide +kernel) (by decide +kernel)) (gj_sub gd_mwX10_walksBranchm (fun w h => List.mem_cons_of_mem _ (List.mem_append_right _ (List.mem_append_right _ (List.mem_append_left _ h)))))
set_option maxRecDepth 100000 in
theorem mg_X10_walksgB_X10_walks_375 : GoodIn mwg_X10_walksB (wsV RX10 375 RX10 yX10_walks mwg_X10_walksI) := gj_app (A := [.methodLink RX10 375 yX10_walks, .instanceMethod yX10_walks, .selects RX10 yX10_walks yX10_walks, .initialized RX10]) (goodIn_r _ [13, 9, 17, 8] (by decide +kernel) (by decide +kernel)) (gj_cons ⟨List.mem_of_getElem? (i := 1) rfl, good_of_word rfl⟩ (gj_sub gd_wgU_walks (fun w h => List.mem_cons_of_mem _ h)))
set_option maxHeartbeats 4000000 in
set_option maxRecDepth 100000 in
theorem m_walksB (l : Launch) (dC : Nat → ClassId) (dI : Nat → Nat → Nat) (d : Nat) (hrec : k_m_walksI l dC dI d) : k_m_walksB l dC dI d := by
  intro ad kc x0 x1 x2 x3 x4 x5 x6 x7 x8 x9 x10 x11 x12 x13 x14 x15 x16 x17 x18 x19 x20 x21 f0 f1 f2 f3 f4 f5 f6 f7 f8 f9 f10 f11 f12 f13 f14 f15 f16 f17 f18 f19 f20 f21 fL fN fP fM fO sz i1 hi m9 q0 q1 q2
  refine Met.ofW (cc := cX10_walks) (maxL := 3) (ret := none) (by decide +kernel) rfl ?_
  intro p e s m args below meth c s₁ B hml hv
  obtain ⟨rfl, hsz, hP, hK, hD0⟩ := hv
  have hx := B.exec
  have hb := B.bytes
  have hr := B.returns
  have hts := atoms_spec (ws := mwg_X10_walksB) B.pre
  have hown : s.vm.findClass RX10 = some m.cls := findClass_of_methodNamed B.named
  have hlocks := B.notSynchronized
  subst hsz
  have hD := hD0.self (sz := s.heap.size)
  generalize hAe : va_A (mW ad kc x0 x1 x2 x3 x4 x5 x6 x7 x8 x9 x10 x11 x12 x13 x14 x15 x16 x17 x18 x19 x20 x21 f0 f1 f2 f3 f4 f5 f6 f7 f8 f9 f10 f11 f12 f13 f14 f15 f16 f17 f18 f19 f20 f21 fL fN fP fM fO) s.heap.size = A at hD ⊢
  have hA : ∀ q : Nat, s.heap.size ≤ q → A q := fun q h => by rw [← hAe]; exact Or.inr h
  have hP : va_P (dC, dI) vwCl (mW ad kc x0 x1 x2 x3 x4 x5 x6 x7 x8 x9 x10 x11 x12 x13 x14 x15 x16 x17 x18 x19 x20 x21 f0 f1 f2 f3 f4 f5 f6 f7 f8 f9 f10 f11 f12 f13 f14 f15 f16 f17 f18 f19 f20 f21 fL fN fP fM fO) s.heap := hP
  have hD : va_D A (mW ad kc x0 x1 x2 x3 x4 x5 x6 x7 x8 x9 x10 x11 x12 x13 x14 x15 x16 x17 x18 x19 x20 x21 f0 f1 f2 f3 f4 f5 f6 f7 f8 f9 f10 f11 f12 f13 f14 f15 f16 f17 f18 f19 f20 f21 fL fN fP fM fO) := hD
  have hK : va_K (dC, dI) vwCl (mT kc) s := hK
  generalize hH : s.heap = H at hP ⊢
  have hS : va_S A s.heap H [] := by rw [← hH]; exact va_S.rf
  have hl := lv_entry ([.ref (ad 0), .int i1]) (n := 3) (Nat.le_of_ble_eq_true rfl)
  rw [lg_entry_eq]
  generalize (lg_sl ([.ref (ad 0), .int i1]) ++ List.replicate (3 - (lg_sl ([.ref (ad 0), .int i1])).length) Slot.unset).toArray = ls at hl ⊢
  have hl : lv_has ls 3 [(0, .ref (ad 0)), (1, .int i1)] := hl
  have rg_i1 := i_rng i1
  have hkd : vI f3 i1.toInt = 2 := q1.1
  have hT0 := ts_init (fun a b m => hm_item d (mV f3 f4 f5 f7) a b m) (hp_item (mV f3 f4 f5 f7) d) (by omega) ⟨q1.2.1, q1.2.2⟩
  have hfi : vI f4 i1.toInt = i1.toInt + 1 := q1.2.1
  have htm := tm_branch (tm_sub d) q1
  have hps := tpos_branch (tpos_sub d) q1
  refine lv_aload_n hx hb dX10_walks_0 rfl (lv_at hl 0 rfl) ?_
  refine va_get (D := (dC, dI)) (ci := 10) (v := .ref (ad 5)) (C := RX10) (T := TX10) (N := 48) hx hb hts fin_X10_walksgB_X10 hown hK hP 0 rfl rfl 16 (by decide) (hts (.fieldLink RX10 31 "PatternGateModel" "first" "[I") (List.mem_of_getElem? (i := 6) (by decide +kernel))) (fun _ h9 => h9) rfl dX10_walks_1 ?_
  refine lv_iload_n hx hb dX10_walks_4 rfl (lv_at hl 1 rfl) ?_
  refine va_iald hx hb hK hP 5 4 rfl rfl (i := i1) (vp_of (a := i1.toInt) rfl (by omega) (by omega)) dX10_walks_5 ?_
  refine lv_topi (fun y_1 ey_1 => ?_)
  have rg_y_1 := i_rng y_1
  have vy_1 := vI_lda (f := f4) (i := i1) (a := i1.toInt) ey_1 (by first | omega | decide)
  have rg_y_1 := i_rng y_1
  refine lv_istore_n (lv' := [(2, .int y_1), (0, .ref (ad 0)), (1, .int i1)]) hx hb dX10_walks_6 rfl hl (by decide) rfl (fun ls hl => ?_)
  have loop7 : ∀ (lm7 : Nat) (kk : Int32) (le9 : Int) (ga gb gc gd ge gf gg : Nat → Int32), (tsI (mV f3 f4 f5 f7) (tItem (mV f3 f4 f5 f7) (tSub (mV f3 f4 f5 f7) d)) kk.toInt hi le9) → (0 ≤ le9) → le9.toNat < lm7 → ∀ (H : Heap) (locs : List Loc) (ls : Array Slot), va_P (dC, dI) vwCl (mW ad kc x0 x1 x2 x3 x4 x5 x6 x7 x8 x9 x10 x11 x12 x13 x14 x15 x16 x17 x18 x19 x20 x21 f0 f1 f2 f3 f4 f5 f6 f7 f8 f9 f10 f11 ga gb gc gd ge gf gg f19 f20 f21 fL fN fP fM fO) H → va_D A (mW ad kc x0 x1 x2 x3 x4 x5 x6 x7 x8 x9 x10 x11 x12 x13 x14 x15 x16 x17 x18 x19 x20 x21 f0 f1 f2 f3 f4 f5 f6 f7 f8 f9 f10 f11 ga gb gc gd ge gf gg f19 f20 f21 fL fN fP fM fO) → va_S A s.heap H locs → lv_has ls 3 [(2, .int kk), (0, .ref (ad 0)), (1, .int i1)] → W p l e (headSpec mwg_X10_walksB ({ frames := (3 * d + 4), cells := 0, slots := 0, locals := 60 * (3 * d + 4) })).room s m ([.ref (ad 0), .int i1]).toArray below meth c H locs 0 0 (MQ below (va_Qv (fun (_ : Unit) => True) (fun _ t => ∃ (g12 g13 g14 g15 g16 g17 g18 : Nat → Int32), va_P (dC, dI) vwCl (mW ad kc x0 x1 x2 x3 x4 x5 x6 x7 x8 x9 x10 x11 x12 x13 x14 x15 x16 x17 x18 x19 x20 x21 f0 f1 f2 f3 f4 f5 f6 f7 f8 f9 f10 f11 g12 g13 g14 g15 g16 g17 g18 f19 f20 f21 fL fN fP fM fO) t.heap ∧ va_K (dC, dI) vwCl (mT kc) t ∧ va_D A (mW ad kc x0 x1 x2 x3 x4 x5 x6 x7 x8 x9 x10 x11 x12 x13 x14 x15 x16 x17 x18 x19 x20 x21 f0 f1 f2 f3 f4 f5 f6 f7 f8 f9 f10 f11 g12 g13 g14 g15 g16 g17 g18 f19 f20 f21 fL fN fP fM fO)) A) ([.ref (ad 0), .int i1]).toArray s 0 0 A) (F0 m 7 ls []) := by
    intro lm7
    induction lm7 with
    | zero => intro kk le9 ga gb gc gd ge gf gg v7_0 v7_1 hm7; exact absurd hm7 (Nat.not_lt_zero _)
    | succ lm7 ih7 =>
      intro kk le9 ga gb gc gd ge gf gg v7_0 v7_1 hm7 H locs ls hP hD hS hl
      have rg_kk := i_rng kk
      refine lv_iload_n hx hb dX10_walks_7 rfl (lv_at hl 0 rfl) ?_
      refine lv_iconst (v := (-1)) hx hb dX10_walks_8 (by decide) ?_
      refine lv_icmp_eq (tgt := 27) hx hb dX10_walks_9 (by decide) (fun k_2 => ?_) (fun k_2 => ?_)
      · have tk_2 := c_eq (a := kk.toInt) (b := (-1)) rfl (by decide) k_2
        refine lv_aload_n hx hb dX10_walks_27 rfl (lv_at hl 1 rfl) ?_
        refine va_get (D := (dC, dI)) (ci := 10) (v := .ref (ad 4)) (C := RX10) (T := TX10) (N := 48) hx hb hts fin_X10_walksgB_X10 hown hK hP 0 rfl rfl 15 (by decide) (hts (.fieldLink RX10 28 "PatternGateModel" "kind" "[I") (List.mem_of_getElem? (i := 5) (by decide +kernel))) (fun _ h9 => h9) rfl dX10_walks_28 ?_
        refine lv_iload_n hx hb dX10_walks_31 rfl (lv_at hl 2 rfl) ?_
        refine va_iald hx hb hK hP 4 3 rfl rfl (i := i1) (vp_of (a := i1.toInt) rfl (by omega) (by omega)) dX10_walks_32 ?_
        refine lv_topi (fun y_3 ey_3 => ?_)
        have rg_y_3 := i_rng y_3
        have vy_3 := vI_lda (f := f3) (i := i1) (a := i1.toInt) ey_3 (by first | omega | decide)
        have rg_y_3 := i_rng y_3
        refine lv_tableIn (off := 120) (tgt := 153) hx hb dX10_walks_33 (by omega) (by omega) (by rw [show (y_3.toInt - 0).toNat = 2 by omega]; rfl) (by decide) ?_
        refine lv_aload_n hx hb dX10_walks_153 rfl (lv_at hl 1 rfl) ?_
        refine lv_iload_n hx hb dX10_walks_154 rfl (lv_at hl 2 rfl) ?_
        have hFc := m_free hD hS hA
        refine va_callv (va_runV (As := [.int i1]) (rest := []) ⟨hx, hb, hml, hown, hts⟩ (m_walksBranch l dC dI ad kc x0 x1 x2 x3 x4 x5 x6 x7 x8 x9 x10 x11 x12 x13 x14 x15 x16 x17 x18 x19 x20 x21 f0 f1 f2 f3 f4 f5 f6 f7 f8 f9 f10 f11 ga gb gc gd ge gf gg f19 f20 f21 fL fN fP fM fO H.size i1 hi (by first | omega | assumption | decide | (have l0 := Int32.toInt_zero; omega)) (knC.nb q1 (by omega)) (by first | omega | assumption | decide | (have l0 := Int32.toInt_zero; omega)) (by show vI f4 i1.toInt ≠ -1; omega)) (cwV 1 hts mg_X10_walksgB_X10_walksBranch_381 rfl rfl rfl (by decide +kernel) ⟨(show 2 + 1 ≤ 3 * d + 4 by omega), (show 8 + (3 + 11) + 120 ≤ 60 * (3 * d + 4) by omega)⟩) ⟨fun a U g mk q => by obtain ⟨q0, q1, qP, qK, qD⟩ := q; exact ⟨q0, q1, qP, va_K.moved (u := U) (U := U.calling g mk a) (Vm.Alike.refl U.vm) qK, qD⟩, va_recv hK hP (ci := 10) (q0 := 0) rfl rfl, fun U hU hW => ⟨rfl, by rw [hU], by rw [hU]; exact hP, va_K.moved hW.alike hK, hD.weaken (fun _ _ _ _ => trivial)⟩⟩ rfl rfl hl.1 rfl (lv_room (Nat.le_of_ble_eq_true rfl)) dX10_walks_155 ⟨Nat.le_of_ble_eq_true rfl, Nat.le_of_ble_eq_true rfl⟩) hS (fun q _ h => hFc q h) hFc (fun u t H1 locs ht hvm hw hB hz1 hk1 hS => ?_)
        obtain ⟨f_5, f_6, f_7, f_8, f_9, f_10, f_11, hP, hK1, hD1⟩ := hB
        rw [ht] at hP
        have hD := hD1.weaken (fun k q _ h => hFc q.1 h)
        clear hz1 hk1 hFc hD1 hK1 hvm
        generalize H1 = H at hP hS ⊢
        have hP : va_P (dC, dI) vwCl (mW ad kc x0 x1 x2 x3 x4 x5 x6 x7 x8 x9 x10 x11 x12 x13 x14 x15 x16 x17 x18 x19 x20 x21 f0 f1 f2 f3 f4 f5 f6 f7 f8 f9 f10 f11 f_5 f_6 f_7 f_8 f_9 f_10 f_11 f19 f20 f21 fL fN fP fM fO) H := hP
        have hD : va_D A (mW ad kc x0 x1 x2 x3 x4 x5 x6 x7 x8 x9 x10 x11 x12 x13 x14 x15 x16 x17 x18 x19 x20 x21 f0 f1 f2 f3 f4 f5 f6 f7 f8 f9 f10 f11 f_5 f_6 f_7 f_8 f_9 f_10 f_11 f19 f20 f21 fL fN fP fM fO) := hD
        refine lv_goto (tgt := 166) hx hb dX10_walks_158 (by decide) ?_
        exact W.vret hx hb hr (fun t ht hW => ⟨⟨(), rfl, trivial, f_5, f_6, f_7, f_8, f_9, f_10, f_11, by rw [ht]; exact hP, va_K.moved hW.alike hK, hD⟩, hS.F ht⟩) hS.2.2 dX10_walks_166
      · have tk_2 := c_ne (a := kk.toInt) (b := (-1)) rfl (by decide) k_2
        obtain ⟨h8, m8, hI8, hk0, hk1, hk2, hk3, hk4, hN8⟩ := ts_cont (fun a b m => hm_item d (mV f3 f4 f5 f7) a b m) (hp_item (mV f3 f4 f5 f7) d) v7_0 tk_2
        refine lv_aload_n hx hb dX10_walks_12 rfl (lv_at hl 1 rfl) ?_
        refine lv_iload_n hx hb dX10_walks_13 rfl (lv_at hl 0 rfl) ?_
        have hFc := m_free hD hS hA
        refine va_callv (va_runV (As := [.int kk]) (rest := []) ⟨hx, hb, hml, hown, hts⟩ (hrec ad kc x0 x1 x2 x3 x4 x5 x6 x7 x8 x9 x10 x11 x12 x13 x14 x15 x16 x17 x18 x19 x20 x21 f0 f1 f2 f3 f4 f5 f6 f7 f8 f9 f10 f11 ga gb gc gd ge gf gg f19 f20 f21 fL fN fP fM fO H.size kk h8 m8 (by first | omega | assumption | decide | (have l0 := Int32.toInt_zero; omega)) (by first | omega | assumption | decide | (have l0 := Int32.toInt_zero; omega)) (by first | omega | assumption | decide | (have l0 := Int32.toInt_zero; omega))) (cwV 1 hts mg_X10_walksgB_X10_walks_375 rfl rfl rfl (by decide +kernel) ⟨(show (3 * d + 3) + 1 ≤ 3 * d + 4 by omega), (show 8 + (3 + 11) + 60 * (3 * d + 3) ≤ 60 * (3 * d + 4) by omega)⟩) ⟨fun a U g mk q => by obtain ⟨q0, q1, qP, qK, qD⟩ := q; exact ⟨q0, q1, qP, va_K.moved (u := U) (U := U.calling g mk a) (Vm.Alike.refl U.vm) qK, qD⟩, va_recv hK hP (ci := 10) (q0 := 0) rfl rfl, fun U hU hW => ⟨rfl, by rw [hU], by rw [hU]; exact hP, va_K.moved hW.alike hK, hD.weaken (fun _ _ _ _ => trivial)⟩⟩ rfl rfl hl.1 rfl (lv_room (Nat.le_of_ble_eq_true rfl)) dX10_walks_14 ⟨Nat.le_of_ble_eq_true rfl, Nat.le_of_ble_eq_true rfl⟩) hS (fun q _ h => hFc q h) hFc (fun u t H1 locs ht hvm hw hB hz1 hk1 hS => ?_)
        obtain ⟨f_13, f_14, f_15, f_16, f_17, f_18, f_19, hP, hK1, hD1⟩ := hB
        rw [ht] at hP
        have hD := hD1.weaken (fun k q _ h => hFc q.1 h)
        clear hz1 hk1 hFc hD1 hK1 hvm
        generalize H1 = H at hP hS ⊢
        have hP : va_P (dC, dI) vwCl (mW ad kc x0 x1 x2 x3 x4 x5 x6 x7 x8 x9 x10 x11 x12 x13 x14 x15 x16 x17 x18 x19 x20 x21 f0 f1 f2 f3 f4 f5 f6 f7 f8 f9 f10 f11 f_13 f_14 f_15 f_16 f_17 f_18 f_19 f19 f20 f21 fL fN fP fM fO) H := hP
        have hD : va_D A (mW ad kc x0 x1 x2 x3 x4 x5 x6 x7 x8 x9 x10 x11 x12 x13 x14 x15 x16 x17 x18 x19 x20 x21 f0 f1 f2 f3 f4 f5 f6 f7 f8 f9 f10 f11 f_13 f_14 f_15 f_16 f_17 f_18 f_19 f19 f20 f21 fL fN fP fM fO) := hD
        refine lv_aload_n hx hb dX10_walks_17 rfl (lv_at hl 1 rfl) ?_
        refine va_get (D := (dC, dI)) (ci := 10) (v := .ref (ad 6)) (C := RX10) (T := TX10) (N := 48) hx hb hts fin_X10_walksgB_X10 hown hK hP 0 rfl rfl 17 (by decide) (hts (.fieldLink RX10 34 "PatternGateModel" "next" "[I") (List.mem_of_getElem? (i := 7) (by decide +kernel))) (fun _ h9 => h9) rfl dX10_walks_18 ?_
        refine lv_iload_n hx hb dX10_walks_21 rfl (lv_at hl 0 rfl) ?_
        refine va_iald hx hb hK hP 6 5 rfl rfl (i := kk) (vp_of (a := kk.toInt) rfl (by omega) (by omega)) dX10_walks_22 ?_
        refine lv_topi (fun y_20 ey_20 => ?_)
        have rg_y_20 := i_rng y_20
        have vy_20 := vI_lda (f := f5) (i := kk) (a := kk.toInt) ey_20 (by first | omega | decide)
        have rg_y_20 := i_rng y_20
        refine lv_istore_n (lv' := [(2, .int y_20), (0, .ref (ad 0)), (1, .int i1)]) hx hb dX10_walks_23 rfl hl (by decide) rfl (fun ls hl => ?_)
        refine lv_goto (tgt := 7) hx hb dX10_walks_24 (by decide) ?_
        exact ih7 y_20 (le9 - m8) f_13 f_14 f_15 f_16 f_17 f_18 f_19 (by rw [show y_20.toInt = mV f3 f4 f5 f7 2 kk.toInt from vy_20]; exact hN8) (by first | omega | assumption | decide) (by omega) _ _ ls hP hD hS (lv_sub hl [0, 1, 2] rfl)
  exact loop7 _ y_1 m9 f12 f13 f14 f15 f16 f17 f18 (by rw [show y_1.toInt = mV f3 f4 f5 f7 1 i1.toInt from vy_1]; exact hT0) (by first | omega | assumption | decide) (Nat.lt_succ_self _) _ _ ls hP hD hS (lv_sub hl [0, 1, 2] rfl)
theorem dX10_walks_161 : decode cX10_walks 161 = .ok (.aload_n 0, 1) := by decide +kernel
theorem dX10_walks_162 : decode cX10_walks 162 = .ok (.iload_n 1, 1) := by decide +kernel
theorem dX10_walks_163 : decode cX10_walks 163 = .ok (.invokevirtual 384, 3) := by decide +kernel
theorem fin_X10_walksgP_X10 : ∀ w ∈ wsX100, w ∈ mwg_X10_walksP := fun w h => List.mem_cons_of_mem _ (List.mem_append_right _ (List.mem_append_left _ h))
set_option maxRecDepth 100000 in
theorem mg_X10_walksgP_X10_walksPattern_384 : GoodIn mwg_X10_walksP (wsV RX10 384 RX10 yX10_walksPattern mwX10_walksPatternm) := gj_app (A := [.methodLink RX10 384 yX10_walksPattern, .instanceMethod yX10_walksPattern, .selects RX10 yX10_walksPattern yX10_walksPattern, .initialized RX10]) (goodIn_r _ [16, 12, 20, 8] (by decide +kernel) (by decide +kernel)) (gj_sub gd_mwX10_walksPatternm (fun w h => List.mem_cons_of_mem _ (List.mem_append_right _ (List.mem_append_right _ (List.mem_append_right _ (List.mem_append_right _ (List.mem_append_left _ h)))))))
set_option maxRecDepth 100000 in
theorem mg_X10_walksgP_X10_walks_375 : GoodIn mwg_X10_walksP (wsV RX10 375 RX10 yX10_walks mwg_X10_walksB) := gj_app (A := [.methodLink RX10 375 yX10_walks, .instanceMethod yX10_walks, .selects RX10 yX10_walks yX10_walks, .initialized RX10]) (goodIn_r _ [13, 9, 17, 8] (by decide +kernel) (by decide +kernel)) (gj_cons ⟨List.mem_of_getElem? (i := 1) rfl, good_of_word rfl⟩ (gj_sub gd_wgU_walks (fun w h => List.mem_cons_of_mem _ h)))
set_option maxHeartbeats 4000000 in
set_option maxRecDepth 100000 in
theorem m_walksP (l : Launch) (dC : Nat → ClassId) (dI : Nat → Nat → Nat) (d : Nat) (hrec : k_m_walksB l dC dI d) : k_m_walksP l dC dI d := by
  intro ad kc x0 x1 x2 x3 x4 x5 x6 x7 x8 x9 x10 x11 x12 x13 x14 x15 x16 x17 x18 x19 x20 x21 f0 f1 f2 f3 f4 f5 f6 f7 f8 f9 f10 f11 f12 f13 f14 f15 f16 f17 f18 f19 f20 f21 fL fN fP fM fO sz i1 hi m9 q0 q1 q2
  refine Met.ofW (cc := cX10_walks) (maxL := 3) (ret := none) (by decide +kernel) rfl ?_
  intro p e s m args below meth c s₁ B hml hv
  obtain ⟨rfl, hsz, hP, hK, hD0⟩ := hv
  have hx := B.exec
  have hb := B.bytes
  have hr := B.returns
  have hts := atoms_spec (ws := mwg_X10_walksP) B.pre
  have hown : s.vm.findClass RX10 = some m.cls := findClass_of_methodNamed B.named
  have hlocks := B.notSynchronized
  subst hsz
  have hD := hD0.self (sz := s.heap.size)
  generalize hAe : va_A (mW ad kc x0 x1 x2 x3 x4 x5 x6 x7 x8 x9 x10 x11 x12 x13 x14 x15 x16 x17 x18 x19 x20 x21 f0 f1 f2 f3 f4 f5 f6 f7 f8 f9 f10 f11 f12 f13 f14 f15 f16 f17 f18 f19 f20 f21 fL fN fP fM fO) s.heap.size = A at hD ⊢
  have hA : ∀ q : Nat, s.heap.size ≤ q → A q := fun q h => by rw [← hAe]; exact Or.inr h
  have hP : va_P (dC, dI) vwCl (mW ad kc x0 x1 x2 x3 x4 x5 x6 x7 x8 x9 x10 x11 x12 x13 x14 x15 x16 x17 x18 x19 x20 x21 f0 f1 f2 f3 f4 f5 f6 f7 f8 f9 f10 f11 f12 f13 f14 f15 f16 f17 f18 f19 f20 f21 fL fN fP fM fO) s.heap := hP
  have hD : va_D A (mW ad kc x0 x1 x2 x3 x4 x5 x6 x7 x8 x9 x10 x11 x12 x13 x14 x15 x16 x17 x18 x19 x20 x21 f0 f1 f2 f3 f4 f5 f6 f7 f8 f9 f10 f11 f12 f13 f14 f15 f16 f17 f18 f19 f20 f21 fL fN fP fM fO) := hD
  have hK : va_K (dC, dI) vwCl (mT kc) s := hK
  generalize hH : s.heap = H at hP ⊢
  have hS : va_S A s.heap H [] := by rw [← hH]; exact va_S.rf
  have hl := lv_entry ([.ref (ad 0), .int i1]) (n := 3) (Nat.le_of_ble_eq_true rfl)
  rw [lg_entry_eq]
  generalize (lg_sl ([.ref (ad 0), .int i1]) ++ List.replicate (3 - (lg_sl ([.ref (ad 0), .int i1])).length) Slot.unset).toArray = ls at hl ⊢
  have hl : lv_has ls 3 [(0, .ref (ad 0)), (1, .int i1)] := hl
  have rg_i1 := i_rng i1
  have q1b := q1
  rw [tPat_eq] at q1b
  have hkd : vI f3 i1.toInt = 3 := q1b.1
  have hT0 := ts_init (fun a b m => hm_branch d (mV f3 f4 f5 f7) a b m) (hp_branch (mV f3 f4 f5 f7) d) (by omega) ⟨q1b.2.1, q1b.2.2⟩
  have hfi : vI f4 i1.toInt = i1.toInt + 1 := q1b.2.1
  have htm := tm_pat d _ _ _ q1
  have hps := tpos_pat d _ _ _ q1
  refine lv_aload_n hx hb dX10_walks_0 rfl (lv_at hl 0 rfl) ?_
  refine va_get (D := (dC, dI)) (ci := 10) (v := .ref (ad 5)) (C := RX10) (T := TX10) (N := 48) hx hb hts fin_X10_walksgP_X10 hown hK hP 0 rfl rfl 16 (by decide) (hts (.fieldLink RX10 31 "PatternGateModel" "first" "[I") (List.mem_of_getElem? (i := 6) (by decide +kernel))) (fun _ h9 => h9) rfl dX10_walks_1 ?_
  refine lv_iload_n hx hb dX10_walks_4 rfl (lv_at hl 1 rfl) ?_
  refine va_iald hx hb hK hP 5 4 rfl rfl (i := i1) (vp_of (a := i1.toInt) rfl (by omega) (by omega)) dX10_walks_5 ?_
  refine lv_topi (fun y_1 ey_1 => ?_)
  have rg_y_1 := i_rng y_1
  have vy_1 := vI_lda (f := f4) (i := i1) (a := i1.toInt) ey_1 (by first | omega | decide)
  have rg_y_1 := i_rng y_1
  refine lv_istore_n (lv' := [(2, .int y_1), (0, .ref (ad 0)), (1, .int i1)]) hx hb dX10_walks_6 rfl hl (by decide) rfl (fun ls hl => ?_)
  have loop7 : ∀ (lm7 : Nat) (kk : Int32) (le9 : Int) (ga gb gc gd ge gf gg : Nat → Int32), (tsI (mV f3 f4 f5 f7) (tBranch (mV f3 f4 f5 f7) (tSub (mV f3 f4 f5 f7) d)) kk.toInt hi le9) → (0 ≤ le9) → le9.toNat < lm7 → ∀ (H : Heap) (locs : List Loc) (ls : Array Slot), va_P (dC, dI) vwCl (mW ad kc x0 x1 x2 x3 x4 x5 x6 x7 x8 x9 x10 x11 x12 x13 x14 x15 x16 x17 x18 x19 x20 x21 f0 f1 f2 f3 f4 f5 f6 f7 f8 f9 f10 f11 ga gb gc gd ge gf gg f19 f20 f21 fL fN fP fM fO) H → va_D A (mW ad kc x0 x1 x2 x3 x4 x5 x6 x7 x8 x9 x10 x11 x12 x13 x14 x15 x16 x17 x18 x19 x20 x21 f0 f1 f2 f3 f4 f5 f6 f7 f8 f9 f10 f11 ga gb gc gd ge gf gg f19 f20 f21 fL fN fP fM fO) → va_S A s.heap H locs → lv_has ls 3 [(2, .int kk), (0, .ref (ad 0)), (1, .int i1)] → W p l e (headSpec mwg_X10_walksP ({ frames := (3 * d + 5), cells := 0, slots := 0, locals := 60 * (3 * d + 5) })).room s m ([.ref (ad 0), .int i1]).toArray below meth c H locs 0 0 (MQ below (va_Qv (fun (_ : Unit) => True) (fun _ t => ∃ (g12 g13 g14 g15 g16 g17 g18 : Nat → Int32), va_P (dC, dI) vwCl (mW ad kc x0 x1 x2 x3 x4 x5 x6 x7 x8 x9 x10 x11 x12 x13 x14 x15 x16 x17 x18 x19 x20 x21 f0 f1 f2 f3 f4 f5 f6 f7 f8 f9 f10 f11 g12 g13 g14 g15 g16 g17 g18 f19 f20 f21 fL fN fP fM fO) t.heap ∧ va_K (dC, dI) vwCl (mT kc) t ∧ va_D A (mW ad kc x0 x1 x2 x3 x4 x5 x6 x7 x8 x9 x10 x11 x12 x13 x14 x15 x16 x17 x18 x19 x20 x21 f0 f1 f2 f3 f4 f5 f6 f7 f8 f9 f10 f11 g12 g13 g14 g15 g16 g17 g18 f19 f20 f21 fL fN fP fM fO)) A) ([.ref (ad 0), .int i1]).toArray s 0 0 A) (F0 m 7 ls []) := by
    intro lm7
    induction lm7 with
    | zero => intro kk le9 ga gb gc gd ge gf gg v7_0 v7_1 hm7; exact absurd hm7 (Nat.not_lt_zero _)
    | succ lm7 ih7 =>
      intro kk le9 ga gb gc gd ge gf gg v7_0 v7_1 hm7 H locs ls hP hD hS hl
      have rg_kk := i_rng kk
      refine lv_iload_n hx hb dX10_walks_7 rfl (lv_at hl 0 rfl) ?_
      refine lv_iconst (v := (-1)) hx hb dX10_walks_8 (by decide) ?_
      refine lv_icmp_eq (tgt := 27) hx hb dX10_walks_9 (by decide) (fun k_2 => ?_) (fun k_2 => ?_)
      · have tk_2 := c_eq (a := kk.toInt) (b := (-1)) rfl (by decide) k_2
        refine lv_aload_n hx hb dX10_walks_27 rfl (lv_at hl 1 rfl) ?_
        refine va_get (D := (dC, dI)) (ci := 10) (v := .ref (ad 4)) (C := RX10) (T := TX10) (N := 48) hx hb hts fin_X10_walksgP_X10 hown hK hP 0 rfl rfl 15 (by decide) (hts (.fieldLink RX10 28 "PatternGateModel" "kind" "[I") (List.mem_of_getElem? (i := 5) (by decide +kernel))) (fun _ h9 => h9) rfl dX10_walks_28 ?_
        refine lv_iload_n hx hb dX10_walks_31 rfl (lv_at hl 2 rfl) ?_
        refine va_iald hx hb hK hP 4 3 rfl rfl (i := i1) (vp_of (a := i1.toInt) rfl (by omega) (by omega)) dX10_walks_32 ?_
        refine lv_topi (fun y_3 ey_3 => ?_)
        have rg_y_3 := i_rng y_3
        have vy_3 := vI_lda (f := f3) (i := i1) (a := i1.toInt) ey_3 (by first | omega | decide)
        have rg_y_3 := i_rng y_3
        refine lv_tableOut (tgt := 161) hx hb dX10_walks_33 (Or.inr (by omega)) (by decide) ?_
        refine lv_aload_n hx hb dX10_walks_161 rfl (lv_at hl 1 rfl) ?_
        refine lv_iload_n hx hb dX10_walks_162 rfl (lv_at hl 2 rfl) ?_
        have hFc := m_free hD hS hA
        refine va_callv (va_runV (As := [.int i1]) (rest := []) ⟨hx, hb, hml, hown, hts⟩ (m_walksPattern l dC dI ad kc x0 x1 x2 x3 x4 x5 x6 x7 x8 x9 x10 x11 x12 x13 x14 x15 x16 x17 x18 x19 x20 x21 f0 f1 f2 f3 f4 f5 f6 f7 f8 f9 f10 f11 ga gb gc gd ge gf gg f19 f20 f21 fL fN fP fM fO H.size i1 hi (by first | omega | assumption | decide | (have l0 := Int32.toInt_zero; omega)) (knC.np q1 (by omega)) (by first | omega | assumption | decide | (have l0 := Int32.toInt_zero; omega)) (by show vI f4 i1.toInt ≠ -1; omega)) (cwV 1 hts mg_X10_walksgP_X10_walksPattern_384 rfl rfl rfl (by decide +kernel) ⟨(show 2 + 1 ≤ 3 * d + 5 by omega), (show 8 + (3 + 11) + 120 ≤ 60 * (3 * d + 5) by omega)⟩) ⟨fun a U g mk q => by obtain ⟨q0, q1, qP, qK, qD⟩ := q; exact ⟨q0, q1, qP, va_K.moved (u := U) (U := U.calling g mk a) (Vm.Alike.refl U.vm) qK, qD⟩, va_recv hK hP (ci := 10) (q0 := 0) rfl rfl, fun U hU hW => ⟨rfl, by rw [hU], by rw [hU]; exact hP, va_K.moved hW.alike hK, hD.weaken (fun _ _ _ _ => trivial)⟩⟩ rfl rfl hl.1 rfl (lv_room (Nat.le_of_ble_eq_true rfl)) dX10_walks_163 ⟨Nat.le_of_ble_eq_true rfl, Nat.le_of_ble_eq_true rfl⟩) hS (fun q _ h => hFc q h) hFc (fun u t H1 locs ht hvm hw hB hz1 hk1 hS => ?_)
        obtain ⟨f_5, f_6, f_7, f_8, f_9, f_10, f_11, hP, hK1, hD1⟩ := hB
        rw [ht] at hP
        have hD := hD1.weaken (fun k q _ h => hFc q.1 h)
        clear hz1 hk1 hFc hD1 hK1 hvm
        generalize H1 = H at hP hS ⊢
        have hP : va_P (dC, dI) vwCl (mW ad kc x0 x1 x2 x3 x4 x5 x6 x7 x8 x9 x10 x11 x12 x13 x14 x15 x16 x17 x18 x19 x20 x21 f0 f1 f2 f3 f4 f5 f6 f7 f8 f9 f10 f11 f_5 f_6 f_7 f_8 f_9 f_10 f_11 f19 f20 f21 fL fN fP fM fO) H := hP
        have hD : va_D A (mW ad kc x0 x1 x2 x3 x4 x5 x6 x7 x8 x9 x10 x11 x12 x13 x14 x15 x16 x17 x18 x19 x20 x21 f0 f1 f2 f3 f4 f5 f6 f7 f8 f9 f10 f11 f_5 f_6 f_7 f_8 f_9 f_10 f_11 f19 f20 f21 fL fN fP fM fO) := hD
        exact W.vret hx hb hr (fun t ht hW => ⟨⟨(), rfl, trivial, f_5, f_6, f_7, f_8, f_9, f_10, f_11, by rw [ht]; exact hP, va_K.moved hW.alike hK, hD⟩, hS.F ht⟩) hS.2.2 dX10_walks_166
      · have tk_2 := c_ne (a := kk.toInt) (b := (-1)) rfl (by decide) k_2
        obtain ⟨h8, m8, hI8, hk0, hk1, hk2, hk3, hk4, hN8⟩ := ts_cont (fun a b m => hm_branch d (mV f3 f4 f5 f7) a b m) (hp_branch (mV f3 f4 f5 f7) d) v7_0 tk_2
        refine lv_aload_n hx hb dX10_walks_12 rfl (lv_at hl 1 rfl) ?_
        refine lv_iload_n hx hb dX10_walks_13 rfl (lv_at hl 0 rfl) ?_
        have hFc := m_free hD hS hA
        refine va_callv (va_runV (As := [.int kk]) (rest := []) ⟨hx, hb, hml, hown, hts⟩ (hrec ad kc x0 x1 x2 x3 x4 x5 x6 x7 x8 x9 x10 x11 x12 x13 x14 x15 x16 x17 x18 x19 x20 x21 f0 f1 f2 f3 f4 f5 f6 f7 f8 f9 f10 f11 ga gb gc gd ge gf gg f19 f20 f21 fL fN fP fM fO H.size kk h8 m8 (by first | omega | assumption | decide | (have l0 := Int32.toInt_zero; omega)) (by first | omega | assumption | decide | (have l0 := Int32.toInt_zero; omega)) (by first | omega | assumption | decide | (have l0 := Int32.toInt_zero; omega))) (cwV 1 hts mg_X10_walksgP_X10_walks_375 rfl rfl rfl (by decide +kernel) ⟨(show (3 * d + 4) + 1 ≤ 3 * d + 5 by omega), (show 8 + (3 + 11) + 60 * (3 * d + 4) ≤ 60 * (3 * d + 5) by omega)⟩) ⟨fun a U g mk q => by obtain ⟨q0, q1, qP, qK, qD⟩ := q; exact ⟨q0, q1, qP, va_K.moved (u := U) (U := U.calling g mk a) (Vm.Alike.refl U.vm) qK, qD⟩, va_recv hK hP (ci := 10) (q0 := 0) rfl rfl, fun U hU hW => ⟨rfl, by rw [hU], by rw [hU]; exact hP, va_K.moved hW.alike hK, hD.weaken (fun _ _ _ _ => trivial)⟩⟩ rfl rfl hl.1 rfl (lv_room (Nat.le_of_ble_eq_true rfl)) dX10_walks_14 ⟨Nat.le_of_ble_eq_true rfl, Nat.le_of_ble_eq_true rfl⟩) hS (fun q _ h => hFc q h) hFc (fun u t H1 locs ht hvm hw hB hz1 hk1 hS => ?_)
        obtain ⟨f_13, f_14, f_15, f_16, f_17, f_18, f_19, hP, hK1, hD1⟩ := hB
        rw [ht] at hP
        have hD := hD1.weaken (fun k q _ h => hFc q.1 h)
        clear hz1 hk1 hFc hD1 hK1 hvm
        generalize H1 = H at hP hS ⊢
        have hP : va_P (dC, dI) vwCl (mW ad kc x0 x1 x2 x3 x4 x5 x6 x7 x8 x9 x10 x11 x12 x13 x14 x15 x16 x17 x18 x19 x20 x21 f0 f1 f2 f3 f4 f5 f6 f7 f8 f9 f10 f11 f_13 f_14 f_15 f_16 f_17 f_18 f_19 f19 f20 f21 fL fN fP fM fO) H := hP
        have hD : va_D A (mW ad kc x0 x1 x2 x3 x4 x5 x6 x7 x8 x9 x10 x11 x12 x13 x14 x15 x16 x17 x18 x19 x20 x21 f0 f1 f2 f3 f4 f5 f6 f7 f8 f9 f10 f11 f_13 f_14 f_15 f_16 f_17 f_18 f_19 f19 f20 f21 fL fN fP fM fO) := hD
        refine lv_aload_n hx hb dX10_walks_17 rfl (lv_at hl 1 rfl) ?_
        refine va_get (D := (dC, dI)) (ci := 10) (v := .ref (ad 6)) (C := RX10) (T := TX10) (N := 48) hx hb hts fin_X10_walksgP_X10 hown hK hP 0 rfl rfl 17 (by decide) (hts (.fieldLink RX10 34 "PatternGateModel" "next" "[I") (List.mem_of_getElem? (i := 7) (by decide +kernel))) (fun _ h9 => h9) rfl dX10_walks_18 ?_
        refine lv_iload_n hx hb dX10_walks_21 rfl (lv_at hl 0 rfl) ?_
        refine va_iald hx hb hK hP 6 5 rfl rfl (i := kk) (vp_of (a := kk.toInt) rfl (by omega) (by omega)) dX10_walks_22 ?_
        refine lv_topi (fun y_20 ey_20 => ?_)
        have rg_y_20 := i_rng y_20
        have vy_20 := vI_lda (f := f5) (i := kk) (a := kk.toInt) ey_20 (by first | omega | decide)
        have rg_y_20 := i_rng y_20
        refine lv_istore_n (lv' := [(2, .int y_20), (0, .ref (ad 0)), (1, .int i1)]) hx hb dX10_walks_23 rfl hl (by decide) rfl (fun ls hl => ?_)
        refine lv_goto (tgt := 7) hx hb dX10_walks_24 (by decide) ?_
        exact ih7 y_20 (le9 - m8) f_13 f_14 f_15 f_16 f_17 f_18 f_19 (by rw [show y_20.toInt = mV f3 f4 f5 f7 2 kk.toInt from vy_20]; exact hN8) (by first | omega | assumption | decide) (by omega) _ _ ls hP hD hS (lv_sub hl [0, 1, 2] rfl)
  exact loop7 _ y_1 m9 f12 f13 f14 f15 f16 f17 f18 (by rw [show y_1.toInt = mV f3 f4 f5 f7 1 i1.toInt from vy_1]; exact hT0) (by first | omega | assumption | decide) (Nat.lt_succ_self _) _ _ ls hP hD hS (lv_sub hl [0, 1, 2] rfl)
theorem m_kP (l : Launch) (dC : Nat → ClassId) (dI : Nat → Nat → Nat) : ∀ d : Nat, k_m_walksP l dC dI d
  | 0 => m_walksP l dC dI 0 (m_walksB l dC dI 0 (m_walksI l dC dI 0 (fun e h => by omega)))
  | d + 1 => m_walksP l dC dI (d + 1) (m_walksB l dC dI (d + 1) (m_walksI l dC dI (d + 1) (fun e h => by
    have h9 : d = e := by omega
    subst h9
    exact m_kP l dC dI d)))

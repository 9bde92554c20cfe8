theorem gj_sub {big A : List Cond} (hA : A.all goodWord = true) (hs : ∀ w ∈ A, w ∈ big) : GoodIn big A := fun w h => ⟨hs w h, good_of_word (List.all_eq_true.mp hA w h)⟩
theorem gj_app {big A B : List Cond} (h1 : GoodIn big A) (h2 : GoodIn big B) : GoodIn big (A ++ B) := fun w h => (List.mem_append.mp h).elim (h1 w) (h2 w)
theorem gj_cons {big A : List Cond} {w : Cond} (h1 : w ∈ big ∧ ((w.onTables && w.keeps) = true ∨ ∃ ty, w = .arrayClass ty)) (h2 : GoodIn big A) : GoodIn big (w :: A) := fun x h => (List.mem_cons.mp h).elim (fun e => by subst e; exact h1) (h2 x)
def wgU_works : List Cond := ([.code yX10_worksBranch cX10_worksBranch 10 (some .boolean), .code yX10_worksItem cX10_worksItem 5 (some .boolean), .code yX10_worksOut cX10_worksOut 4 (some .boolean), .code yX10_worksPattern cX10_worksPattern 10 (some .boolean), .fieldLink RX10 274 "PatternGateModel" "sets" "I", .fieldLink RX10 28 "PatternGateModel" "kind" "[I", .fieldLink RX10 300 "PatternGateModel" "needTop" "I", .fieldLink RX10 31 "PatternGateModel" "first" "[I", .fieldLink RX10 34 "PatternGateModel" "next" "[I", .fieldLink RX10 43 "PatternGateModel" "sign" "[I", .fieldLink RX10 48 "PatternGateModel" "rows" "[[J", .fieldLink RX10 51 "PatternGateModel" "rowMany" "[I", .initialized RX10, .instanceMethod yX10_addsRow, .instanceMethod yX10_both, .instanceMethod yX10_copiesNeed, .instanceMethod yX10_copiesSet, .instanceMethod yX10_crosses, .instanceMethod yX10_either, .instanceMethod yX10_newNeed, .instanceMethod yX10_newSet, .instanceMethod yX10_ofRows, .instanceMethod yX10_oneEmpty, .instanceMethod yX10_worksBranch, .instanceMethod yX10_worksItem, .instanceMethod yX10_worksOut, .instanceMethod yX10_worksPattern, .methodLink RX10 285 yX10_addsRow, .methodLink RX10 303 yX10_oneEmpty, .methodLink RX10 322 yX10_worksItem, .methodLink RX10 325 yX10_worksBranch, .methodLink RX10 328 yX10_worksPattern, .methodLink RX10 331 yX10_worksOut, .methodLink RX10 334 yX10_newSet, .methodLink RX10 337 yX10_newNeed, .methodLink RX10 340 yX10_ofRows, .methodLink RX10 343 yX10_both, .methodLink RX10 346 yX10_crosses, .methodLink RX10 350 yX10_copiesSet, .methodLink RX10 353 yX10_copiesNeed, .methodLink RX10 356 yX10_either, .selects RX10 yX10_addsRow yX10_addsRow, .selects RX10 yX10_both yX10_both, .selects RX10 yX10_copiesNeed yX10_copiesNeed, .selects RX10 yX10_copiesSet yX10_copiesSet, .selects RX10 yX10_crosses yX10_crosses, .selects RX10 yX10_either yX10_either, .selects RX10 yX10_newNeed yX10_newNeed, .selects RX10 yX10_newSet yX10_newSet, .selects RX10 yX10_ofRows yX10_ofRows, .selects RX10 yX10_oneEmpty yX10_oneEmpty, .selects RX10 yX10_worksBranch yX10_worksBranch, .selects RX10 yX10_worksItem yX10_worksItem, .selects RX10 yX10_worksOut yX10_worksOut, .selects RX10 yX10_worksPattern yX10_worksPattern] : List Cond) ++ (wsX100 ++ (mwX10_addsRowm ++ (mwX10_bothm ++ (mwX10_copiesNeedm ++ (mwX10_copiesSetm ++ (mwX10_crossesm ++ (mwX10_eitherm ++ (mwX10_newNeedm ++ (mwX10_newSetm ++ (mwX10_ofRowsm ++ (mwX10_oneEmptym ++ (mwX10_worksOutmS))))))))))))
set_option maxRecDepth 100000 in
theorem gd_wgU_works : wgU_works.all goodWord = true := by decide +kernel
def mwg_X10_worksItem : List Cond := .code yX10_worksItem cX10_worksItem 5 (some .boolean) :: wgU_works
def mwg_X10_worksOutI : List Cond := .code yX10_worksOut cX10_worksOut 4 (some .boolean) :: wgU_works
def mwg_X10_worksBranch : List Cond := .code yX10_worksBranch cX10_worksBranch 10 (some .boolean) :: wgU_works
def mwg_X10_worksOutB : List Cond := .code yX10_worksOut cX10_worksOut 4 (some .boolean) :: wgU_works
def mwg_X10_worksPattern : List Cond := .code yX10_worksPattern cX10_worksPattern 10 (some .boolean) :: wgU_works
def mwg_X10_worksOutP : List Cond := .code yX10_worksOut cX10_worksOut 4 (some .boolean) :: wgU_works
def k_m_worksItem (l : Launch) (dC : Nat → ClassId) (dI : Nat → Nat → Nat) (d : Nat) : Prop := ∀ (ad : Nat → Nat) (kc : Nat → ClassId) (x0 x1 x2 x3 x4 x5 x6 x7 x8 x9 x10 x11 x12 x13 x14 x15 x16 x17 x18 x19 x20 x21 : Int32) (f0 f1 f2 f3 f4 f5 f6 f7 f8 f9 f10 f11 f12 f13 f14 f15 f16 f17 f18 f19 f20 f21 : Nat → Int32) (fL : Nat → Nat → Int64) (fN : Nat → Nat → Int32) (fP : Nat → Nat → Nat) (fM : Nat → Nat → Int32) (fO : Nat → Nat → Int32) (sz : Nat) (i1 i2 i3 : Int32) (hi : Int) (m9 : Int) (q0 : 0 ≤ i1.toInt ∧ i1.toInt < 1600) (q1 : 0 ≤ i2.toInt ∧ i2.toInt < x16.toInt) (q2 : x16.toInt + (4 * (d : Int) + 0) ≤ 90) (q3 : 0 ≤ i3.toInt ∧ i3.toInt < x17.toInt) (q4 : x17.toInt + (3 * (d : Int) + 0) ≤ 60) (q5 : PI fP) (q6 : tItem (mV f3 f4 f5 f7) (tSub (mV f3 f4 f5 f7) d) i1.toInt hi m9) (q7 : hi ≤ 1600) (q8 : m9 ≤ 24), Met l yX10_worksItem mwg_X10_worksItem ({ frames := (6 * d + 4), cells := 0, slots := 0, locals := 60 * (6 * d + 4) }) (va_Pc [.ref (ad 0), .int i1, .int i2, .int i3] (fun U => U.heap.size = sz ∧ va_P (dC, dI) vwCl (mW ad kc x0 x1 x2 x3 x4 x5 x6 x7 x8 x9 x10 x11 x12 x13 x14 x15 x16 x17 x18 x19 x20 x21 f0 f1 f2 f3 f4 f5 f6 f7 f8 f9 f10 f11 f12 f13 f14 f15 f16 f17 f18 f19 f20 f21 fL fN fP fM fO) U.heap ∧ va_K (dC, dI) vwCl (mT kc) U ∧ va_D (fun _ => True) (mW ad kc x0 x1 x2 x3 x4 x5 x6 x7 x8 x9 x10 x11 x12 x13 x14 x15 x16 x17 x18 x19 x20 x21 f0 f1 f2 f3 f4 f5 f6 f7 f8 f9 f10 f11 f12 f13 f14 f15 f16 f17 f18 f19 f20 f21 fL fN fP fM fO))) (va_Qi (fun (o9 u9 : Int32) => o9 = u9) (fun (o9 : Int32) t => ∃ (y16 y17 y18 : Int32) (g9 g10 g11 : Nat → Int32) (L9 : Nat → Nat → Int64) (Nn9 : Nat → Nat → Int32) (M9 : Nat → Nat → Int32) (O9 : Nat → Nat → Int32), (o9.toInt = 0 ∨ o9.toInt = 1) ∧ (y16.toInt = x16.toInt) ∧ (y17.toInt = x17.toInt) ∧ (wF fL f9 f10 (rO fN fM fO) L9 g9 g10 (rO Nn9 M9 O9) i2.toInt i3.toInt x16.toInt x17.toInt) ∧ (nOK (rO Nn9 M9 O9) fP g10 i3.toInt m9) ∧ (o9.toInt = 1 → sOK L9 g9 i2.toInt 6 m9) ∧ va_P (dC, dI) vwCl (mW ad kc x0 x1 x2 x3 x4 x5 x6 x7 x8 x9 x10 x11 x12 x13 x14 x15 y16 y17 y18 x19 x20 x21 f0 f1 f2 f3 f4 f5 f6 f7 f8 g9 g10 g11 f12 f13 f14 f15 f16 f17 f18 f19 f20 f21 L9 Nn9 fP M9 O9) t.heap ∧ va_K (dC, dI) vwCl (mT kc) t ∧ va_D (va_A (mW ad kc x0 x1 x2 x3 x4 x5 x6 x7 x8 x9 x10 x11 x12 x13 x14 x15 x16 x17 x18 x19 x20 x21 f0 f1 f2 f3 f4 f5 f6 f7 f8 f9 f10 f11 f12 f13 f14 f15 f16 f17 f18 f19 f20 f21 fL fN fP fM fO) sz) (mW ad kc x0 x1 x2 x3 x4 x5 x6 x7 x8 x9 x10 x11 x12 x13 x14 x15 y16 y17 y18 x19 x20 x21 f0 f1 f2 f3 f4 f5 f6 f7 f8 g9 g10 g11 f12 f13 f14 f15 f16 f17 f18 f19 f20 f21 L9 Nn9 fP M9 O9)) (va_A (mW ad kc x0 x1 x2 x3 x4 x5 x6 x7 x8 x9 x10 x11 x12 x13 x14 x15 x16 x17 x18 x19 x20 x21 f0 f1 f2 f3 f4 f5 f6 f7 f8 f9 f10 f11 f12 f13 f14 f15 f16 f17 f18 f19 f20 f21 fL fN fP fM fO) sz)) 0 0 (va_A (mW ad kc x0 x1 x2 x3 x4 x5 x6 x7 x8 x9 x10 x11 x12 x13 x14 x15 x16 x17 x18 x19 x20 x21 f0 f1 f2 f3 f4 f5 f6 f7 f8 f9 f10 f11 f12 f13 f14 f15 f16 f17 f18 f19 f20 f21 fL fN fP fM fO) sz)
def k_m_worksOutI (l : Launch) (dC : Nat → ClassId) (dI : Nat → Nat → Nat) (d : Nat) : Prop := ∀ (ad : Nat → Nat) (kc : Nat → ClassId) (x0 x1 x2 x3 x4 x5 x6 x7 x8 x9 x10 x11 x12 x13 x14 x15 x16 x17 x18 x19 x20 x21 : Int32) (f0 f1 f2 f3 f4 f5 f6 f7 f8 f9 f10 f11 f12 f13 f14 f15 f16 f17 f18 f19 f20 f21 : Nat → Int32) (fL : Nat → Nat → Int64) (fN : Nat → Nat → Int32) (fP : Nat → Nat → Nat) (fM : Nat → Nat → Int32) (fO : Nat → Nat → Int32) (sz : Nat) (i1 i2 i3 : Int32) (hi : Int) (m9 : Int) (q0 : 0 ≤ i1.toInt ∧ i1.toInt < 1600) (q1 : 0 ≤ i2.toInt ∧ i2.toInt < x16.toInt) (q2 : x16.toInt + (4 * (d : Int) + 0) ≤ 90) (q3 : 0 ≤ i3.toInt ∧ i3.toInt < x17.toInt) (q4 : x17.toInt + (3 * (d : Int) + 0) ≤ 60) (q5 : PI fP) (q6 : tItem (mV f3 f4 f5 f7) (tSub (mV f3 f4 f5 f7) d) i1.toInt hi m9) (q7 : hi ≤ 1600) (q8 : m9 ≤ 24), Met l yX10_worksOut mwg_X10_worksOutI ({ frames := (6 * d + 5), cells := 0, slots := 0, locals := 60 * (6 * d + 5) }) (va_Pc [.ref (ad 0), .int i1, .int i2, .int i3] (fun U => U.heap.size = sz ∧ va_P (dC, dI) vwCl (mW ad kc x0 x1 x2 x3 x4 x5 x6 x7 x8 x9 x10 x11 x12 x13 x14 x15 x16 x17 x18 x19 x20 x21 f0 f1 f2 f3 f4 f5 f6 f7 f8 f9 f10 f11 f12 f13 f14 f15 f16 f17 f18 f19 f20 f21 fL fN fP fM fO) U.heap ∧ va_K (dC, dI) vwCl (mT kc) U ∧ va_D (fun _ => True) (mW ad kc x0 x1 x2 x3 x4 x5 x6 x7 x8 x9 x10 x11 x12 x13 x14 x15 x16 x17 x18 x19 x20 x21 f0 f1 f2 f3 f4 f5 f6 f7 f8 f9 f10 f11 f12 f13 f14 f15 f16 f17 f18 f19 f20 f21 fL fN fP fM fO))) (va_Qi (fun (o9 u9 : Int32) => o9 = u9) (fun (o9 : Int32) t => ∃ (y16 y17 y18 : Int32) (g9 g10 g11 : Nat → Int32) (L9 : Nat → Nat → Int64) (Nn9 : Nat → Nat → Int32) (M9 : Nat → Nat → Int32) (O9 : Nat → Nat → Int32), (o9.toInt = 0 ∨ o9.toInt = 1) ∧ (y16.toInt = x16.toInt) ∧ (y17.toInt = x17.toInt) ∧ (wF fL f9 f10 (rO fN fM fO) L9 g9 g10 (rO Nn9 M9 O9) i2.toInt i3.toInt x16.toInt x17.toInt) ∧ (nOK (rO Nn9 M9 O9) fP g10 i3.toInt m9) ∧ (o9.toInt = 1 → sOK L9 g9 i2.toInt 6 m9) ∧ va_P (dC, dI) vwCl (mW ad kc x0 x1 x2 x3 x4 x5 x6 x7 x8 x9 x10 x11 x12 x13 x14 x15 y16 y17 y18 x19 x20 x21 f0 f1 f2 f3 f4 f5 f6 f7 f8 g9 g10 g11 f12 f13 f14 f15 f16 f17 f18 f19 f20 f21 L9 Nn9 fP M9 O9) t.heap ∧ va_K (dC, dI) vwCl (mT kc) t ∧ va_D (va_A (mW ad kc x0 x1 x2 x3 x4 x5 x6 x7 x8 x9 x10 x11 x12 x13 x14 x15 x16 x17 x18 x19 x20 x21 f0 f1 f2 f3 f4 f5 f6 f7 f8 f9 f10 f11 f12 f13 f14 f15 f16 f17 f18 f19 f20 f21 fL fN fP fM fO) sz) (mW ad kc x0 x1 x2 x3 x4 x5 x6 x7 x8 x9 x10 x11 x12 x13 x14 x15 y16 y17 y18 x19 x20 x21 f0 f1 f2 f3 f4 f5 f6 f7 f8 g9 g10 g11 f12 f13 f14 f15 f16 f17 f18 f19 f20 f21 L9 Nn9 fP M9 O9)) (va_A (mW ad kc x0 x1 x2 x3 x4 x5 x6 x7 x8 x9 x10 x11 x12 x13 x14 x15 x16 x17 x18 x19 x20 x21 f0 f1 f2 f3 f4 f5 f6 f7 f8 f9 f10 f11 f12 f13 f14 f15 f16 f17 f18 f19 f20 f21 fL fN fP fM fO) sz)) 0 0 (va_A (mW ad kc x0 x1 x2 x3 x4 x5 x6 x7 x8 x9 x10 x11 x12 x13 x14 x15 x16 x17 x18 x19 x20 x21 f0 f1 f2 f3 f4 f5 f6 f7 f8 f9 f10 f11 f12 f13 f14 f15 f16 f17 f18 f19 f20 f21 fL fN fP fM fO) sz)
def k_m_worksBranch (l : Launch) (dC : Nat → ClassId) (dI : Nat → Nat → Nat) (d : Nat) : Prop := ∀ (ad : Nat → Nat) (kc : Nat → ClassId) (x0 x1 x2 x3 x4 x5 x6 x7 x8 x9 x10 x11 x12 x13 x14 x15 x16 x17 x18 x19 x20 x21 : Int32) (f0 f1 f2 f3 f4 f5 f6 f7 f8 f9 f10 f11 f12 f13 f14 f15 f16 f17 f18 f19 f20 f21 : Nat → Int32) (fL : Nat → Nat → Int64) (fN : Nat → Nat → Int32) (fP : Nat → Nat → Nat) (fM : Nat → Nat → Int32) (fO : Nat → Nat → Int32) (sz : Nat) (i1 i2 i3 : Int32) (hi : Int) (m9 : Int) (q0 : 0 ≤ i1.toInt ∧ i1.toInt < 1600) (q1 : 0 ≤ i2.toInt ∧ i2.toInt < x16.toInt) (q2 : x16.toInt + (4 * (d : Int) + 2) ≤ 90) (q3 : 0 ≤ i3.toInt ∧ i3.toInt < x17.toInt) (q4 : x17.toInt + (3 * (d : Int) + 2) ≤ 60) (q5 : PI fP) (q6 : tBranch (mV f3 f4 f5 f7) (tSub (mV f3 f4 f5 f7) d) i1.toInt hi m9) (q7 : hi ≤ 1600) (q8 : m9 ≤ 24), Met l yX10_worksBranch mwg_X10_worksBranch ({ frames := (6 * d + 6), cells := 0, slots := 0, locals := 60 * (6 * d + 6) }) (va_Pc [.ref (ad 0), .int i1, .int i2, .int i3] (fun U => U.heap.size = sz ∧ va_P (dC, dI) vwCl (mW ad kc x0 x1 x2 x3 x4 x5 x6 x7 x8 x9 x10 x11 x12 x13 x14 x15 x16 x17 x18 x19 x20 x21 f0 f1 f2 f3 f4 f5 f6 f7 f8 f9 f10 f11 f12 f13 f14 f15 f16 f17 f18 f19 f20 f21 fL fN fP fM fO) U.heap ∧ va_K (dC, dI) vwCl (mT kc) U ∧ va_D (fun _ => True) (mW ad kc x0 x1 x2 x3 x4 x5 x6 x7 x8 x9 x10 x11 x12 x13 x14 x15 x16 x17 x18 x19 x20 x21 f0 f1 f2 f3 f4 f5 f6 f7 f8 f9 f10 f11 f12 f13 f14 f15 f16 f17 f18 f19 f20 f21 fL fN fP fM fO))) (va_Qi (fun (o9 u9 : Int32) => o9 = u9) (fun (o9 : Int32) t => ∃ (y16 y17 y18 : Int32) (g9 g10 g11 : Nat → Int32) (L9 : Nat → Nat → Int64) (Nn9 : Nat → Nat → Int32) (M9 : Nat → Nat → Int32) (O9 : Nat → Nat → Int32), (o9.toInt = 0 ∨ o9.toInt = 1) ∧ (y16.toInt = x16.toInt) ∧ (y17.toInt = x17.toInt) ∧ (wF fL f9 f10 (rO fN fM fO) L9 g9 g10 (rO Nn9 M9 O9) i2.toInt i3.toInt x16.toInt x17.toInt) ∧ (nOK (rO Nn9 M9 O9) fP g10 i3.toInt m9) ∧ (o9.toInt = 1 → sOK L9 g9 i2.toInt 6 m9) ∧ va_P (dC, dI) vwCl (mW ad kc x0 x1 x2 x3 x4 x5 x6 x7 x8 x9 x10 x11 x12 x13 x14 x15 y16 y17 y18 x19 x20 x21 f0 f1 f2 f3 f4 f5 f6 f7 f8 g9 g10 g11 f12 f13 f14 f15 f16 f17 f18 f19 f20 f21 L9 Nn9 fP M9 O9) t.heap ∧ va_K (dC, dI) vwCl (mT kc) t ∧ va_D (va_A (mW ad kc x0 x1 x2 x3 x4 x5 x6 x7 x8 x9 x10 x11 x12 x13 x14 x15 x16 x17 x18 x19 x20 x21 f0 f1 f2 f3 f4 f5 f6 f7 f8 f9 f10 f11 f12 f13 f14 f15 f16 f17 f18 f19 f20 f21 fL fN fP fM fO) sz) (mW ad kc x0 x1 x2 x3 x4 x5 x6 x7 x8 x9 x10 x11 x12 x13 x14 x15 y16 y17 y18 x19 x20 x21 f0 f1 f2 f3 f4 f5 f6 f7 f8 g9 g10 g11 f12 f13 f14 f15 f16 f17 f18 f19 f20 f21 L9 Nn9 fP M9 O9)) (va_A (mW ad kc x0 x1 x2 x3 x4 x5 x6 x7 x8 x9 x10 x11 x12 x13 x14 x15 x16 x17 x18 x19 x20 x21 f0 f1 f2 f3 f4 f5 f6 f7 f8 f9 f10 f11 f12 f13 f14 f15 f16 f17 f18 f19 f20 f21 fL fN fP fM fO) sz)) 0 0 (va_A (mW ad kc x0 x1 x2 x3 x4 x5 x6 x7 x8 x9 x10 x11 x12 x13 x14 x15 x16 x17 x18 x19 x20 x21 f0 f1 f2 f3 f4 f5 f6 f7 f8 f9 f10 f11 f12 f13 f14 f15 f16 f17 f18 f19 f20 f21 fL fN fP fM fO) sz)
def k_m_worksOutB (l : Launch) (dC : Nat → ClassId) (dI : Nat → Nat → Nat) (d : Nat) : Prop := ∀ (ad : Nat → Nat) (kc : Nat → ClassId) (x0 x1 x2 x3 x4 x5 x6 x7 x8 x9 x10 x11 x12 x13 x14 x15 x16 x17 x18 x19 x20 x21 : Int32) (f0 f1 f2 f3 f4 f5 f6 f7 f8 f9 f10 f11 f12 f13 f14 f15 f16 f17 f18 f19 f20 f21 : Nat → Int32) (fL : Nat → Nat → Int64) (fN : Nat → Nat → Int32) (fP : Nat → Nat → Nat) (fM : Nat → Nat → Int32) (fO : Nat → Nat → Int32) (sz : Nat) (i1 i2 i3 : Int32) (hi : Int) (m9 : Int) (q0 : 0 ≤ i1.toInt ∧ i1.toInt < 1600) (q1 : 0 ≤ i2.toInt ∧ i2.toInt < x16.toInt) (q2 : x16.toInt + (4 * (d : Int) + 2) ≤ 90) (q3 : 0 ≤ i3.toInt ∧ i3.toInt < x17.toInt) (q4 : x17.toInt + (3 * (d : Int) + 2) ≤ 60) (q5 : PI fP) (q6 : tBranch (mV f3 f4 f5 f7) (tSub (mV f3 f4 f5 f7) d) i1.toInt hi m9) (q7 : hi ≤ 1600) (q8 : m9 ≤ 24), Met l yX10_worksOut mwg_X10_worksOutB ({ frames := (6 * d + 7), cells := 0, slots := 0, locals := 60 * (6 * d + 7) }) (va_Pc [.ref (ad 0), .int i1, .int i2, .int i3] (fun U => U.heap.size = sz ∧ va_P (dC, dI) vwCl (mW ad kc x0 x1 x2 x3 x4 x5 x6 x7 x8 x9 x10 x11 x12 x13 x14 x15 x16 x17 x18 x19 x20 x21 f0 f1 f2 f3 f4 f5 f6 f7 f8 f9 f10 f11 f12 f13 f14 f15 f16 f17 f18 f19 f20 f21 fL fN fP fM fO) U.heap ∧ va_K (dC, dI) vwCl (mT kc) U ∧ va_D (fun _ => True) (mW ad kc x0 x1 x2 x3 x4 x5 x6 x7 x8 x9 x10 x11 x12 x13 x14 x15 x16 x17 x18 x19 x20 x21 f0 f1 f2 f3 f4 f5 f6 f7 f8 f9 f10 f11 f12 f13 f14 f15 f16 f17 f18 f19 f20 f21 fL fN fP fM fO))) (va_Qi (fun (o9 u9 : Int32) => o9 = u9) (fun (o9 : Int32) t => ∃ (y16 y17 y18 : Int32) (g9 g10 g11 : Nat → Int32) (L9 : Nat → Nat → Int64) (Nn9 : Nat → Nat → Int32) (M9 : Nat → Nat → Int32) (O9 : Nat → Nat → Int32), (o9.toInt = 0 ∨ o9.toInt = 1) ∧ (y16.toInt = x16.toInt) ∧ (y17.toInt = x17.toInt) ∧ (wF fL f9 f10 (rO fN fM fO) L9 g9 g10 (rO Nn9 M9 O9) i2.toInt i3.toInt x16.toInt x17.toInt) ∧ (nOK (rO Nn9 M9 O9) fP g10 i3.toInt m9) ∧ (o9.toInt = 1 → sOK L9 g9 i2.toInt 6 m9) ∧ va_P (dC, dI) vwCl (mW ad kc x0 x1 x2 x3 x4 x5 x6 x7 x8 x9 x10 x11 x12 x13 x14 x15 y16 y17 y18 x19 x20 x21 f0 f1 f2 f3 f4 f5 f6 f7 f8 g9 g10 g11 f12 f13 f14 f15 f16 f17 f18 f19 f20 f21 L9 Nn9 fP M9 O9) t.heap ∧ va_K (dC, dI) vwCl (mT kc) t ∧ va_D (va_A (mW ad kc x0 x1 x2 x3 x4 x5 x6 x7 x8 x9 x10 x11 x12 x13 x14 x15 x16 x17 x18 x19 x20 x21 f0 f1 f2 f3 f4 f5 f6 f7 f8 f9 f10 f11 f12 f13 f14 f15 f16 f17 f18 f19 f20 f21 fL fN fP fM fO) sz) (mW ad kc x0 x1 x2 x3 x4 x5 x6 x7 x8 x9 x10 x11 x12 x13 x14 x15 y16 y17 y18 x19 x20 x21 f0 f1 f2 f3 f4 f5 f6 f7 f8 g9 g10 g11 f12 f13 f14 f15 f16 f17 f18 f19 f20 f21 L9 Nn9 fP M9 O9)) (va_A (mW ad kc x0 x1 x2 x3 x4 x5 x6 x7 x8 x9 x10 x11 x12 x13 x14 x15 x16 x17 x18 x19 x20 x21 f0 f1 f2 f3 f4 f5 f6 f7 f8 f9 f10 f11 f12 f13 f14 f15 f16 f17 f18 f19 f20 f21 fL fN fP fM fO) sz)) 0 0 (va_A (mW ad kc x0 x1 x2 x3 x4 x5 x6 x7 x8 x9 x10 x11 x12 x13 x14 x15 x16 x17 x18 x19 x20 x21 f0 f1 f2 f3 f4 f5 f6 f7 f8 f9 f10 f11 f12 f13 f14 f15 f16 f17 f18 f19 f20 f21 fL fN fP fM fO) sz)
def k_m_worksPattern (l : Launch) (dC : Nat → ClassId) (dI : Nat → Nat → Nat) (d : Nat) : Prop := ∀ (ad : Nat → Nat) (kc : Nat → ClassId) (x0 x1 x2 x3 x4 x5 x6 x7 x8 x9 x10 x11 x12 x13 x14 x15 x16 x17 x18 x19 x20 x21 : Int32) (f0 f1 f2 f3 f4 f5 f6 f7 f8 f9 f10 f11 f12 f13 f14 f15 f16 f17 f18 f19 f20 f21 : Nat → Int32) (fL : Nat → Nat → Int64) (fN : Nat → Nat → Int32) (fP : Nat → Nat → Nat) (fM : Nat → Nat → Int32) (fO : Nat → Nat → Int32) (sz : Nat) (i1 i2 i3 : Int32) (hi : Int) (m9 : Int) (q0 : 0 ≤ i1.toInt ∧ i1.toInt < 1600) (q1 : 0 ≤ i2.toInt ∧ i2.toInt < x16.toInt) (q2 : x16.toInt + (4 * (d : Int) + 4) ≤ 90) (q3 : 0 ≤ i3.toInt ∧ i3.toInt < x17.toInt) (q4 : x17.toInt + (3 * (d : Int) + 3) ≤ 60) (q5 : PI fP) (q6 : tPat (mV f3 f4 f5 f7) d i1.toInt hi m9) (q7 : hi ≤ 1600) (q8 : m9 ≤ 24), Met l yX10_worksPattern mwg_X10_worksPattern ({ frames := (6 * d + 8), cells := 0, slots := 0, locals := 60 * (6 * d + 8) }) (va_Pc [.ref (ad 0), .int i1, .int i2, .int i3] (fun U => U.heap.size = sz ∧ va_P (dC, dI) vwCl (mW ad kc x0 x1 x2 x3 x4 x5 x6 x7 x8 x9 x10 x11 x12 x13 x14 x15 x16 x17 x18 x19 x20 x21 f0 f1 f2 f3 f4 f5 f6 f7 f8 f9 f10 f11 f12 f13 f14 f15 f16 f17 f18 f19 f20 f21 fL fN fP fM fO) U.heap ∧ va_K (dC, dI) vwCl (mT kc) U ∧ va_D (fun _ => True) (mW ad kc x0 x1 x2 x3 x4 x5 x6 x7 x8 x9 x10 x11 x12 x13 x14 x15 x16 x17 x18 x19 x20 x21 f0 f1 f2 f3 f4 f5 f6 f7 f8 f9 f10 f11 f12 f13 f14 f15 f16 f17 f18 f19 f20 f21 fL fN fP fM fO))) (va_Qi (fun (o9 u9 : Int32) => o9 = u9) (fun (o9 : Int32) t => ∃ (y16 y17 y18 : Int32) (g9 g10 g11 : Nat → Int32) (L9 : Nat → Nat → Int64) (Nn9 : Nat → Nat → Int32) (M9 : Nat → Nat → Int32) (O9 : Nat → Nat → Int32), (o9.toInt = 0 ∨ o9.toInt = 1) ∧ (y16.toInt = x16.toInt) ∧ (y17.toInt = x17.toInt) ∧ (wF fL f9 f10 (rO fN fM fO) L9 g9 g10 (rO Nn9 M9 O9) i2.toInt i3.toInt x16.toInt x17.toInt) ∧ (nOK (rO Nn9 M9 O9) fP g10 i3.toInt m9) ∧ (o9.toInt = 1 → sOK L9 g9 i2.toInt 6 m9) ∧ va_P (dC, dI) vwCl (mW ad kc x0 x1 x2 x3 x4 x5 x6 x7 x8 x9 x10 x11 x12 x13 x14 x15 y16 y17 y18 x19 x20 x21 f0 f1 f2 f3 f4 f5 f6 f7 f8 g9 g10 g11 f12 f13 f14 f15 f16 f17 f18 f19 f20 f21 L9 Nn9 fP M9 O9) t.heap ∧ va_K (dC, dI) vwCl (mT kc) t ∧ va_D (va_A (mW ad kc x0 x1 x2 x3 x4 x5 x6 x7 x8 x9 x10 x11 x12 x13 x14 x15 x16 x17 x18 x19 x20 x21 f0 f1 f2 f3 f4 f5 f6 f7 f8 f9 f10 f11 f12 f13 f14 f15 f16 f17 f18 f19 f20 f21 fL fN fP fM fO) sz) (mW ad kc x0 x1 x2 x3 x4 x5 x6 x7 x8 x9 x10 x11 x12 x13 x14 x15 y16 y17 y18 x19 x20 x21 f0 f1 f2 f3 f4 f5 f6 f7 f8 g9 g10 g11 f12 f13 f14 f15 f16 f17 f18 f19 f20 f21 L9 Nn9 fP M9 O9)) (va_A (mW ad kc x0 x1 x2 x3 x4 x5 x6 x7 x8 x9 x10 x11 x12 x13 x14 x15 x16 x17 x18 x19 x20 x21 f0 f1 f2 f3 f4 f5 f6 f7 f8 f9 f10 f11 f12 f13 f14 f15 f16 f17 f18 f19 f20 f21 fL fN fP fM fO) sz)) 0 0 (va_A (mW ad kc x0 x1 x2 x3 x4 x5 x6 x7 x8 x9 x10 x11 x12 x13 x14 x15 x16 x17 x18 x19 x20 x21 f0 f1 f2 f3 f4 f5 f6 f7 f8 f9 f10 f11 f12 f13 f14 f15 f16 f17 f18 f19 f20 f21 fL fN fP fM fO) sz)
def k_m_worksOutP (l : Launch) (dC : Nat → ClassId) (dI : Nat → Nat → Nat) (d : Nat) : Prop := ∀ (ad : Nat → Nat) (kc : Nat → ClassId) (x0 x1 x2 x3 x4 x5 x6 x7 x8 x9 x10 x11 x12 x13 x14 x15 x16 x17 x18 x19 x20 x21 : Int32) (f0 f1 f2 f3 f4 f5 f6 f7 f8 f9 f10 f11 f12 f13 f14 f15 f16 f17 f18 f19 f20 f21 : Nat → Int32) (fL : Nat → Nat → Int64) (fN : Nat → Nat → Int32) (fP : Nat → Nat → Nat) (fM : Nat → Nat → Int32) (fO : Nat → Nat → Int32) (sz : Nat) (i1 i2 i3 : Int32) (hi : Int) (m9 : Int) (q0 : 0 ≤ i1.toInt ∧ i1.toInt < 1600) (q1 : 0 ≤ i2.toInt ∧ i2.toInt < x16.toInt) (q2 : x16.toInt + (4 * (d : Int) + 4) ≤ 90) (q3 : 0 ≤ i3.toInt ∧ i3.toInt < x17.toInt) (q4 : x17.toInt + (3 * (d : Int) + 3) ≤ 60) (q5 : PI fP) (q6 : tPat (mV f3 f4 f5 f7) d i1.toInt hi m9) (q7 : hi ≤ 1600) (q8 : m9 ≤ 24), Met l yX10_worksOut mwg_X10_worksOutP ({ frames := (6 * d + 9), cells := 0, slots := 0, locals := 60 * (6 * d + 9) }) (va_Pc [.ref (ad 0), .int i1, .int i2, .int i3] (fun U => U.heap.size = sz ∧ va_P (dC, dI) vwCl (mW ad kc x0 x1 x2 x3 x4 x5 x6 x7 x8 x9 x10 x11 x12 x13 x14 x15 x16 x17 x18 x19 x20 x21 f0 f1 f2 f3 f4 f5 f6 f7 f8 f9 f10 f11 f12 f13 f14 f15 f16 f17 f18 f19 f20 f21 fL fN fP fM fO) U.heap ∧ va_K (dC, dI) vwCl (mT kc) U ∧ va_D (fun _ => True) (mW ad kc x0 x1 x2 x3 x4 x5 x6 x7 x8 x9 x10 x11 x12 x13 x14 x15 x16 x17 x18 x19 x20 x21 f0 f1 f2 f3 f4 f5 f6 f7 f8 f9 f10 f11 f12 f13 f14 f15 f16 f17 f18 f19 f20 f21 fL fN fP fM fO))) (va_Qi (fun (o9 u9 : Int32) => o9 = u9) (fun (o9 : Int32) t => ∃ (y16 y17 y18 : Int32) (g9 g10 g11 : Nat → Int32) (L9 : Nat → Nat → Int64) (Nn9 : Nat → Nat → Int32) (M9 : Nat → Nat → Int32) (O9 : Nat → Nat → Int32), (o9.toInt = 0 ∨ o9.toInt = 1) ∧ (y16.toInt = x16.toInt) ∧ (y17.toInt = x17.toInt) ∧ (wF fL f9 f10 (rO fN fM fO) L9 g9 g10 (rO Nn9 M9 O9) i2.toInt i3.toInt x16.toInt x17.toInt) ∧ (nOK (rO Nn9 M9 O9) fP g10 i3.toInt m9) ∧ (o9.toInt = 1 → sOK L9 g9 i2.toInt 6 m9) ∧ va_P (dC, dI) vwCl (mW ad kc x0 x1 x2 x3 x4 x5 x6 x7 x8 x9 x10 x11 x12 x13 x14 x15 y16 y17 y18 x19 x20 x21 f0 f1 f2 f3 f4 f5 f6 f7 f8 g9 g10 g11 f12 f13 f14 f15 f16 f17 f18 f19 f20 f21 L9 Nn9 fP M9 O9) t.heap ∧ va_K (dC, dI) vwCl (mT kc) t ∧ va_D (va_A (mW ad kc x0 x1 x2 x3 x4 x5 x6 x7 x8 x9 x10 x11 x12 x13 x14 x15 x16 x17 x18 x19 x20 x21 f0 f1 f2 f3 f4 f5 f6 f7 f8 f9 f10 f11 f12 f13 f14 f15 f16 f17 f18 f19 f20 f21 fL fN fP fM fO) sz) (mW ad kc x0 x1 x2 x3 x4 x5 x6 x7 x8 x9 x10 x11 x12 x13 x14 x15 y16 y17 y18 x19 x20 x21 f0 f1 f2 f3 f4 f5 f6 f7 f8 g9 g10 g11 f12 f13 f14 f15 f16 f17 f18 f19 f20 f21 L9 Nn9 fP M9 O9)) (va_A (mW ad kc x0 x1 x2 x3 x4 x5 x6 x7 x8 x9 x10 x11 x12 x13 x14 x15 x16 x17 x18 x19 x20 x21 f0 f1 f2 f3 f4 f5 f6 f7 f8 f9 f10 f11 f12 f13 f14 f15 f16 f17 f18 f19 f20 f21 fL fN fP fM fO) sz)) 0 0 (va_A (mW ad kc x0 x1 x2 x3 x4 x5 x6 x7 x8 x9 x10 x11 x12 x13 x14 x15 x16 x17 x18 x19 x20 x21 f0 f1 f2 f3 f4 f5 f6 f7 f8 f9 f10 f11 f12 f13 f14 f15 f16 f17 f18 f19 f20 f21 fL fN fP fM fO) sz)
theorem dX10_worksItem_0 : decode cX10_worksItem 0 = .ok (.aload_n 0, 1) := by decide +kernel
theorem dX10_worksItem_1 : decode cX10_worksItem 1 = .ok (.aload_n 0, 1) := by decide +kernel
theorem dX10_worksItem_2 : decode cX10_worksItem 2 = .ok (.getfield 31, 3) := by decide +kernel
theorem dX10_worksItem_5 : decode cX10_worksItem 5 = .ok (.iload_n 1, 1) := by decide +kernel
theorem dX10_worksItem_6 : decode cX10_worksItem 6 = .ok (.iaload, 1) := by decide +kernel
theorem dX10_worksItem_7 : decode cX10_worksItem 7 = .ok (.iload_n 2, 1) := by decide +kernel
theorem dX10_worksItem_8 : decode cX10_worksItem 8 = .ok (.iload_n 3, 1) := by decide +kernel
theorem dX10_worksItem_9 : decode cX10_worksItem 9 = .ok (.invokevirtual 331, 3) := by decide +kernel
theorem dX10_worksItem_12 : decode cX10_worksItem 12 = .ok (.istore 4, 2) := by decide +kernel
theorem dX10_worksItem_14 : decode cX10_worksItem 14 = .ok (.aload_n 0, 1) := by decide +kernel
theorem dX10_worksItem_15 : decode cX10_worksItem 15 = .ok (.getfield 43, 3) := by decide +kernel
theorem dX10_worksItem_18 : decode cX10_worksItem 18 = .ok (.iload_n 1, 1) := by decide +kernel
theorem dX10_worksItem_19 : decode cX10_worksItem 19 = .ok (.iaload, 1) := by decide +kernel
theorem dX10_worksItem_20 : decode cX10_worksItem 20 = .ok (.iconst (-1), 1) := by decide +kernel
theorem dX10_worksItem_21 : decode cX10_worksItem 21 = .ok (.if_icmp .ne 6, 3) := by decide +kernel
theorem dX10_worksItem_24 : decode cX10_worksItem 24 = .ok (.iload 4, 2) := by decide +kernel
theorem dX10_worksItem_26 : decode cX10_worksItem 26 = .ok (.ireturn, 1) := by decide +kernel
theorem dX10_worksItem_27 : decode cX10_worksItem 27 = .ok (.aload_n 0, 1) := by decide +kernel
theorem dX10_worksItem_28 : decode cX10_worksItem 28 = .ok (.getfield 43, 3) := by decide +kernel
theorem dX10_worksItem_31 : decode cX10_worksItem 31 = .ok (.iload_n 1, 1) := by decide +kernel
theorem dX10_worksItem_32 : decode cX10_worksItem 32 = .ok (.iaload, 1) := by decide +kernel
theorem dX10_worksItem_33 : decode cX10_worksItem 33 = .ok (.bipush 43, 2) := by decide +kernel
theorem dX10_worksItem_35 : decode cX10_worksItem 35 = .ok (.if_icmp .eq 8, 3) := by decide +kernel
theorem dX10_worksItem_38 : decode cX10_worksItem 38 = .ok (.aload_n 0, 1) := by decide +kernel
theorem dX10_worksItem_39 : decode cX10_worksItem 39 = .ok (.iload_n 3, 1) := by decide +kernel
theorem dX10_worksItem_40 : decode cX10_worksItem 40 = .ok (.invokevirtual 303, 3) := by decide +kernel
theorem dX10_worksItem_43 : decode cX10_worksItem 43 = .ok (.aload_n 0, 1) := by decide +kernel
theorem dX10_worksItem_44 : decode cX10_worksItem 44 = .ok (.getfield 43, 3) := by decide +kernel
theorem dX10_worksItem_47 : decode cX10_worksItem 47 = .ok (.iload_n 1, 1) := by decide +kernel
theorem dX10_worksItem_48 : decode cX10_worksItem 48 = .ok (.iaload, 1) := by decide +kernel
theorem dX10_worksItem_49 : decode cX10_worksItem 49 = .ok (.bipush 63, 2) := by decide +kernel
theorem dX10_worksItem_51 : decode cX10_worksItem 51 = .ok (.if_icmp .ne 8, 3) := by decide +kernel
theorem dX10_worksItem_54 : decode cX10_worksItem 54 = .ok (.iload 4, 2) := by decide +kernel
theorem dX10_worksItem_56 : decode cX10_worksItem 56 = .ok (.ifCond .ne 5, 3) := by decide +kernel
theorem dX10_worksItem_59 : decode cX10_worksItem 59 = .ok (.iconst 0, 1) := by decide +kernel
theorem dX10_worksItem_60 : decode cX10_worksItem 60 = .ok (.ireturn, 1) := by decide +kernel
theorem dX10_worksItem_61 : decode cX10_worksItem 61 = .ok (.aload_n 0, 1) := by decide +kernel
theorem dX10_worksItem_62 : decode cX10_worksItem 62 = .ok (.iload_n 2, 1) := by decide +kernel
theorem dX10_worksItem_63 : decode cX10_worksItem 63 = .ok (.lconst 0, 1) := by decide +kernel
theorem dX10_worksItem_64 : decode cX10_worksItem 64 = .ok (.invokevirtual 285, 3) := by decide +kernel
theorem dX10_worksItem_67 : decode cX10_worksItem 67 = .ok (.aload_n 0, 1) := by decide +kernel
theorem dX10_worksItem_68 : decode cX10_worksItem 68 = .ok (.getfield 51, 3) := by decide +kernel
theorem dX10_worksItem_71 : decode cX10_worksItem 71 = .ok (.iload_n 2, 1) := by decide +kernel
theorem dX10_worksItem_72 : decode cX10_worksItem 72 = .ok (.iaload, 1) := by decide +kernel
theorem dX10_worksItem_73 : decode cX10_worksItem 73 = .ok (.bipush 6, 2) := by decide +kernel
theorem dX10_worksItem_75 : decode cX10_worksItem 75 = .ok (.if_icmp .gt 7, 3) := by decide +kernel
theorem dX10_worksItem_78 : decode cX10_worksItem 78 = .ok (.iconst 1, 1) := by decide +kernel
theorem dX10_worksItem_79 : decode cX10_worksItem 79 = .ok (.goto 4, 3) := by decide +kernel
theorem dX10_worksItem_82 : decode cX10_worksItem 82 = .ok (.iconst 0, 1) := by decide +kernel
theorem dX10_worksItem_83 : decode cX10_worksItem 83 = .ok (.ireturn, 1) := by decide +kernel
theorem fin_X10_worksItemg_X10 : ∀ w ∈ wsX100, w ∈ mwg_X10_worksItem := fun w h => List.mem_cons_of_mem _ (List.mem_append_right _ (List.mem_append_left _ h))
set_option maxRecDepth 100000 in
theorem gd_mwX10_addsRowm : mwX10_addsRowm.all goodWord = true := by decide +kernel
set_option maxRecDepth 100000 in
theorem gd_mwX10_bothm : mwX10_bothm.all goodWord = true := by decide +kernel
set_option maxRecDepth 100000 in
theorem gd_mwX10_copiesNeedm : mwX10_copiesNeedm.all goodWord = true := by decide +kernel
set_option maxRecDepth 100000 in
theorem gd_mwX10_copiesSetm : mwX10_copiesSetm.all goodWord = true := by decide +kernel
set_option maxRecDepth 100000 in
theorem gd_mwX10_crossesm : mwX10_crossesm.all goodWord = true := by decide +kernel
set_option maxRecDepth 100000 in
theorem gd_mwX10_eitherm : mwX10_eitherm.all goodWord = true := by decide +kernel
set_option maxRecDepth 100000 in
theorem gd_mwX10_newNeedm : mwX10_newNeedm.all goodWord = true := by decide +kernel
set_option maxRecDepth 100000 in
theorem gd_mwX10_newSetm : mwX10_newSetm.all goodWord = true := by decide +kernel
set_option maxRecDepth 100000 in
theorem gd_mwX10_ofRowsm : mwX10_ofRowsm.all goodWord = true := by decide +kernel
set_option maxRecDepth 100000 in
theorem gd_mwX10_oneEmptym : mwX10_oneEmptym.all goodWord = true := by decide +kernel
set_option maxRecDepth 100000 in
theorem gd_mwX10_worksOutmS : mwX10_worksOutmS.all goodWord = true := by decide +kernel
set_option maxRecDepth 100000 in
theorem mg_X10_worksItemg_X10_worksOut_331 : GoodIn mwg_X10_worksItem (wsV RX10 331 RX10 yX10_worksOut mwX10_worksOutmS) := gj_app (A := [.methodLink RX10 331 yX10_worksOut, .instanceMethod yX10_worksOut, .selects RX10 yX10_worksOut yX10_worksOut, .initialized RX10]) (goodIn_r _ [33, 26, 54, 13] (by decide +kernel) (by decide +kernel)) (gj_sub gd_mwX10_worksOutmS (fun w h => List.mem_cons_of_mem _ (List.mem_append_right _ (List.mem_append_right _ (List.mem_append_right _ (List.mem_append_right _ (List.mem_append_right _ (List.mem_append_right _ (List.mem_append_right _ (List.mem_append_right _ (List.mem_append_right _ (List.mem_append_right _ (List.mem_append_right _ (List.mem_append_right _ (h)))))))))))))))
set_option maxRecDepth 100000 in
theorem mg_X10_worksItemg_X10_addsRow_285 : GoodIn mwg_X10_worksItem (wsV RX10 285 RX10 yX10_addsRow mwX10_addsRowm) := gj_app (A := [.methodLink RX10 285 yX10_addsRow, .instanceMethod yX10_addsRow, .selects RX10 yX10_addsRow yX10_addsRow, .initialized RX10]) (goodIn_r _ [28, 14, 42, 13] (by decide +kernel) (by decide +kernel)) (gj_sub gd_mwX10_addsRowm (fun w h => List.mem_cons_of_mem _ (List.mem_append_right _ (List.mem_append_right _ (List.mem_append_left _ h)))))
set_option maxRecDepth 100000 in
theorem mg_X10_worksItemg_X10_oneEmpty_303 : GoodIn mwg_X10_worksItem (wsV RX10 303 RX10 yX10_oneEmpty mwX10_oneEmptym) := gj_app (A := [.methodLink RX10 303 yX10_oneEmpty, .instanceMethod yX10_oneEmpty, .selects RX10 yX10_oneEmpty yX10_oneEmpty, .initialized RX10]) (goodIn_r _ [29, 23, 51, 13] (by decide +kernel) (by decide +kernel)) (gj_sub gd_mwX10_oneEmptym (fun w h => List.mem_cons_of_mem _ (List.mem_append_right _ (List.mem_append_right _ (List.mem_append_right _ (List.mem_append_right _ (List.mem_append_right _ (List.mem_append_right _ (List.mem_append_right _ (List.mem_append_right _ (List.mem_append_right _ (List.mem_append_right _ (List.mem_append_right _ (List.mem_append_left _ h))))))))))))))
set_option maxRecDepth 100000 in
theorem mg_X10_worksItemg_X10_worksOut_331_mwg_X10_worksOutP : GoodIn mwg_X10_worksItem (wsV RX10 331 RX10 yX10_worksOut mwg_X10_worksOutP) := gj_app (A := [.methodLink RX10 331 yX10_worksOut, .instanceMethod yX10_worksOut, .selects RX10 yX10_worksOut yX10_worksOut, .initialized RX10]) (goodIn_r _ [33, 26, 54, 13] (by decide +kernel) (by decide +kernel)) (gj_cons ⟨List.mem_of_getElem? (i := 3) rfl, good_of_word rfl⟩ (gj_sub gd_wgU_works (fun w h => List.mem_cons_of_mem _ h)))
set_option maxHeartbeats 4000000 in
set_option maxRecDepth 100000 in
theorem m_worksItem (l : Launch) (dC : Nat → ClassId) (dI : Nat → Nat → Nat) (d : Nat) (hrec : ∀ e, d = e + 1 → k_m_worksOutP l dC dI e) : k_m_worksItem l dC dI d := by
  intro ad kc x0 x1 x2 x3 x4 x5 x6 x7 x8 x9 x10 x11 x12 x13 x14 x15 x16 x17 x18 x19 x20 x21 f0 f1 f2 f3 f4 f5 f6 f7 f8 f9 f10 f11 f12 f13 f14 f15 f16 f17 f18 f19 f20 f21 fL fN fP fM fO sz i1 i2 i3 hi m9 q0 q1 q2 q3 q4 q5 q6 q7 q8
  refine Met.ofW (cc := cX10_worksItem) (maxL := 5) (ret := (some .boolean)) (by decide +kernel) rfl ?_
  intro p e s m args below meth c s₁ B hml hv
  obtain ⟨rfl, hsz, hP, hK, hD0⟩ := hv
  have hx := B.exec
  have hb := B.bytes
  have hr := B.returns
  have hts := atoms_spec (ws := mwg_X10_worksItem) B.pre
  have hown : s.vm.findClass RX10 = some m.cls := findClass_of_methodNamed B.named
  have hlocks := B.notSynchronized
  subst hsz
  have hD := hD0.self (sz := s.heap.size)
  generalize hAe : va_A (mW ad kc x0 x1 x2 x3 x4 x5 x6 x7 x8 x9 x10 x11 x12 x13 x14 x15 x16 x17 x18 x19 x20 x21 f0 f1 f2 f3 f4 f5 f6 f7 f8 f9 f10 f11 f12 f13 f14 f15 f16 f17 f18 f19 f20 f21 fL fN fP fM fO) s.heap.size = A at hD ⊢
  have hA : ∀ q : Nat, s.heap.size ≤ q → A q := fun q h => by rw [← hAe]; exact Or.inr h
  have hP : va_P (dC, dI) vwCl (mW ad kc x0 x1 x2 x3 x4 x5 x6 x7 x8 x9 x10 x11 x12 x13 x14 x15 x16 x17 x18 x19 x20 x21 f0 f1 f2 f3 f4 f5 f6 f7 f8 f9 f10 f11 f12 f13 f14 f15 f16 f17 f18 f19 f20 f21 fL fN fP fM fO) s.heap := hP
  have hD : va_D A (mW ad kc x0 x1 x2 x3 x4 x5 x6 x7 x8 x9 x10 x11 x12 x13 x14 x15 x16 x17 x18 x19 x20 x21 f0 f1 f2 f3 f4 f5 f6 f7 f8 f9 f10 f11 f12 f13 f14 f15 f16 f17 f18 f19 f20 f21 fL fN fP fM fO) := hD
  have hK : va_K (dC, dI) vwCl (mT kc) s := hK
  generalize hH : s.heap = H at hP ⊢
  have hS : va_S A s.heap H [] := by rw [← hH]; exact va_S.rf
  have hl := lv_entry ([.ref (ad 0), .int i1, .int i2, .int i3]) (n := 5) (Nat.le_of_ble_eq_true rfl)
  rw [lg_entry_eq]
  generalize (lg_sl ([.ref (ad 0), .int i1, .int i2, .int i3]) ++ List.replicate (5 - (lg_sl ([.ref (ad 0), .int i1, .int i2, .int i3])).length) Slot.unset).toArray = ls at hl ⊢
  have hl : lv_has ls 5 [(0, .ref (ad 0)), (1, .int i1), (2, .int i2), (3, .int i3)] := hl
  have rg_i1 := i_rng i1
  have rg_i2 := i_rng i2
  have rg_i3 := i_rng i3
  have hfi : vI f4 i1.toInt = i1.toInt + 1 := q6.2.1
  have htm := tm_item (tm_sub d) q6
  have hps := tpos_item (tpos_sub d) q6
  rcases q6.2.2.2 with hsb | hsb
  · have hm1 : m9 = 1 := hsb.2.2.2.2
    have hsb : tSpot (mV f3 f4 f5 f7) (i1.toInt + 1) hi 1 := hm1 ▸ hsb
    refine lv_aload_n hx hb dX10_worksItem_0 rfl (lv_at hl 0 rfl) ?_
    refine lv_aload_n hx hb dX10_worksItem_1 rfl (lv_at hl 0 rfl) ?_
    refine va_get (D := (dC, dI)) (ci := 10) (v := .ref (ad 5)) (C := RX10) (T := TX10) (N := 48) hx hb hts fin_X10_worksItemg_X10 hown hK hP 0 rfl rfl 16 (by decide) (hts (.fieldLink RX10 31 "PatternGateModel" "first" "[I") (List.mem_of_getElem? (i := 8) (by decide +kernel))) (fun _ h9 => h9) rfl dX10_worksItem_2 ?_
    refine lv_iload_n hx hb dX10_worksItem_5 rfl (lv_at hl 1 rfl) ?_
    refine va_iald hx hb hK hP 5 4 rfl rfl (i := i1) (vp_of (a := i1.toInt) rfl (by omega) (by omega)) dX10_worksItem_6 ?_
    refine lv_topi (fun y_1 ey_1 => ?_)
    have rg_y_1 := i_rng y_1
    have vy_1 := vI_lda (f := f4) (i := i1) (a := i1.toInt) ey_1 (by first | omega | decide)
    have rg_y_1 := i_rng y_1
    refine lv_iload_n hx hb dX10_worksItem_7 rfl (lv_at hl 2 rfl) ?_
    refine lv_iload_n hx hb dX10_worksItem_8 rfl (lv_at hl 3 rfl) ?_
    have hFc := m_free hD hS hA
    refine va_calli (va_runV (As := [.int y_1, .int i2, .int i3]) (rest := []) ⟨hx, hb, hml, hown, hts⟩ (m_worksOutS l dC dI ad kc x0 x1 x2 x3 x4 x5 x6 x7 x8 x9 x10 x11 x12 x13 x14 x15 x16 x17 x18 x19 x20 x21 f0 f1 f2 f3 f4 f5 f6 f7 f8 f9 f10 f11 f12 f13 f14 f15 f16 f17 f18 f19 f20 f21 fL fN fP fM fO H.size y_1 i2 i3 hi (by first | omega | assumption | decide | (have l0 := Int32.toInt_zero; omega)) (by first | omega | assumption | decide | (have l0 := Int32.toInt_zero; omega)) (by first | omega | assumption | decide | (have l0 := Int32.toInt_zero; omega)) (by first | omega | assumption | decide | (have l0 := Int32.toInt_zero; omega)) (by first | omega | assumption | decide | (have l0 := Int32.toInt_zero; omega)) (by first | omega | assumption | decide | (have l0 := Int32.toInt_zero; omega)) (by rw [show y_1.toInt = i1.toInt + 1 by omega]; exact hsb)) (cwV 3 hts mg_X10_worksItemg_X10_worksOut_331 rfl rfl rfl (by decide +kernel) ⟨(show 3 + 1 ≤ 6 * d + 4 by omega), (show 8 + (4 + 11) + 180 ≤ 60 * (6 * d + 4) by omega)⟩) ⟨fun a U g mk q => by obtain ⟨q0, q1, qP, qK, qD⟩ := q; exact ⟨q0, q1, qP, va_K.moved (u := U) (U := U.calling g mk a) (Vm.Alike.refl U.vm) qK, qD⟩, va_recv hK hP (ci := 10) (q0 := 0) rfl rfl, fun U hU hW => ⟨rfl, by rw [hU], by rw [hU]; exact hP, va_K.moved hW.alike hK, hD.weaken (fun _ _ _ _ => trivial)⟩⟩ rfl rfl hl.1 rfl (lv_room (Nat.le_of_ble_eq_true rfl)) dX10_worksItem_9 ⟨Nat.le_of_ble_eq_true rfl, Nat.le_of_ble_eq_true rfl⟩) hS (fun q _ h => hFc q h) hFc (fun r_2 u t H1 locs ht hvm hw hB hz1 hk1 hS => ?_)
    subst hw
    obtain ⟨x_3, x_4, x_5, f_6, f_7, f_8, L_9, Nn_10, M_11, O_12, hr_2_0, hr_2_1, hr_2_2, hr_2_3, hr_2_4, hr_2_5, hP, hK1, hD1⟩ := hB
    rw [ht] at hP
    have hD := hD1.weaken (fun k q _ h => hFc q.1 h)
    clear hz1 hk1 hFc hD1 hK1 hvm
    generalize H1 = H at hP hS ⊢
    have rg_x_3 := i_rng x_3
    have rg_x_4 := i_rng x_4
    have rg_x_5 := i_rng x_5
    have rg_r_2 := i_rng r_2
    have hP : va_P (dC, dI) vwCl (mW ad kc x0 x1 x2 x3 x4 x5 x6 x7 x8 x9 x10 x11 x12 x13 x14 x15 x_3 x_4 x_5 x19 x20 x21 f0 f1 f2 f3 f4 f5 f6 f7 f8 f_6 f_7 f_8 f12 f13 f14 f15 f16 f17 f18 f19 f20 f21 L_9 Nn_10 fP M_11 O_12) H := hP
    have hD : va_D A (mW ad kc x0 x1 x2 x3 x4 x5 x6 x7 x8 x9 x10 x11 x12 x13 x14 x15 x_3 x_4 x_5 x19 x20 x21 f0 f1 f2 f3 f4 f5 f6 f7 f8 f_6 f_7 f_8 f12 f13 f14 f15 f16 f17 f18 f19 f20 f21 L_9 Nn_10 fP M_11 O_12) := hD
    refine lv_istore (lv' := [(4, .int r_2), (0, .ref (ad 0)), (1, .int i1), (2, .int i2), (3, .int i3)]) hx hb dX10_worksItem_12 hl (by decide) rfl (fun ls hl => ?_)
    refine lv_aload_n hx hb dX10_worksItem_14 rfl (lv_at hl 1 rfl) ?_
    refine va_get (D := (dC, dI)) (ci := 10) (v := .ref (ad 9)) (C := RX10) (T := TX10) (N := 48) hx hb hts fin_X10_worksItemg_X10 hown hK hP 0 rfl rfl 20 (by decide) (hts (.fieldLink RX10 43 "PatternGateModel" "sign" "[I") (List.mem_of_getElem? (i := 10) (by decide +kernel))) (fun _ h9 => h9) rfl dX10_worksItem_15 ?_
    refine lv_iload_n hx hb dX10_worksItem_18 rfl (lv_at hl 2 rfl) ?_
    refine va_iald hx hb hK hP 9 8 rfl rfl (i := i1) (vp_of (a := i1.toInt) rfl (by omega) (by omega)) dX10_worksItem_19 ?_
    refine lv_topi (fun y_13 ey_13 => ?_)
    have rg_y_13 := i_rng y_13
    refine lv_iconst (v := (-1)) hx hb dX10_worksItem_20 (by decide) ?_
    refine lv_icmp_ne (tgt := 27) hx hb dX10_worksItem_21 (by decide) (fun k_14 => ?_) (fun k_14 => ?_)
    · have tk_14 := c_ne (a := y_13.toInt) (b := (-1)) rfl (by decide) k_14
      refine lv_aload_n hx hb dX10_worksItem_27 rfl (lv_at hl 1 rfl) ?_
      refine va_get (D := (dC, dI)) (ci := 10) (v := .ref (ad 9)) (C := RX10) (T := TX10) (N := 48) hx hb hts fin_X10_worksItemg_X10 hown hK hP 0 rfl rfl 20 (by decide) (hts (.fieldLink RX10 43 "PatternGateModel" "sign" "[I") (List.mem_of_getElem? (i := 10) (by decide +kernel))) (fun _ h9 => h9) rfl dX10_worksItem_28 ?_
      refine lv_iload_n hx hb dX10_worksItem_31 rfl (lv_at hl 2 rfl) ?_
      refine va_iald hx hb hK hP 9 8 rfl rfl (i := i1) (vp_of (a := i1.toInt) rfl (by omega) (by omega)) dX10_worksItem_32 ?_
      refine lv_topi (fun y_15 ey_15 => ?_)
      have rg_y_15 := i_rng y_15
      refine lv_bipush (v := 43) hx hb dX10_worksItem_33 (by decide) ?_
      refine lv_icmp_eq (tgt := 43) hx hb dX10_worksItem_35 (by decide) (fun k_16 => ?_) (fun k_16 => ?_)
      · have tk_16 := c_eq (a := y_15.toInt) (b := 43) rfl (by decide) k_16
        refine lv_aload_n hx hb dX10_worksItem_43 rfl (lv_at hl 1 rfl) ?_
        refine va_get (D := (dC, dI)) (ci := 10) (v := .ref (ad 9)) (C := RX10) (T := TX10) (N := 48) hx hb hts fin_X10_worksItemg_X10 hown hK hP 0 rfl rfl 20 (by decide) (hts (.fieldLink RX10 43 "PatternGateModel" "sign" "[I") (List.mem_of_getElem? (i := 10) (by decide +kernel))) (fun _ h9 => h9) rfl dX10_worksItem_44 ?_
        refine lv_iload_n hx hb dX10_worksItem_47 rfl (lv_at hl 2 rfl) ?_
        refine va_iald hx hb hK hP 9 8 rfl rfl (i := i1) (vp_of (a := i1.toInt) rfl (by omega) (by omega)) dX10_worksItem_48 ?_
        refine lv_topi (fun y_17 ey_17 => ?_)
        have rg_y_17 := i_rng y_17
        refine lv_bipush (v := 63) hx hb dX10_worksItem_49 (by decide) ?_
        refine lv_icmp_ne (tgt := 59) hx hb dX10_worksItem_51 (by decide) (fun k_18 => ?_) (fun k_18 => ?_)
        · have tk_18 := c_ne (a := y_17.toInt) (b := 63) rfl (by decide) k_18
          refine lv_iconst (v := 0) hx hb dX10_worksItem_59 (by decide) ?_
          have lit_18 : (0 : Int32).toInt = 0 := by decide
          exact W.zret hx hb hr (z_nar (by first | assumption | decide | exact z_of (by omega))) (fun t ht hW => ⟨⟨_, _, rfl, rfl, x_3, x_4, x_5, f_6, f_7, f_8, L_9, Nn_10, M_11, O_12, (by first | omega | assumption | rfl | decide), (by first | omega | assumption | rfl | decide), (by first | omega | assumption | rfl | decide), hr_2_3, (hr_2_4.mono (by omega)), (fun h9 => by omega), by rw [ht]; exact hP, va_K.moved hW.alike hK, hD⟩, hS.F ht⟩) hS.2.2 dX10_worksItem_60
        · have tk_18 := c_eq (a := y_17.toInt) (b := 63) rfl (by decide) k_18
          refine lv_iload hx hb dX10_worksItem_54 (lv_at hl 0 rfl) ?_
          refine lv_if_ne (tgt := 61) hx hb dX10_worksItem_56 (by decide) (fun k_20 => ?_) (fun k_20 => ?_)
          · have tk_20 := c_ne (a := r_2.toInt) (b := 0) rfl (by decide) k_20
            refine lv_aload_n hx hb dX10_worksItem_61 rfl (lv_at hl 1 rfl) ?_
            refine lv_iload_n hx hb dX10_worksItem_62 rfl (lv_at hl 3 rfl) ?_
            refine lv_lconst (v := 0) hx hb dX10_worksItem_63 (by decide) ?_
            have hs6 := hr_2_5 (by omega)
            have hs6a := hs6.1
            have hs6b := hs6.2.1
            have hFc := m_free hD hS hA
            refine va_callv (va_runV (As := [.int i2, .long 0]) (rest := []) ⟨hx, hb, hml, hown, hts⟩ (m_addsRow l dC dI ad kc x0 x1 x2 x3 x4 x5 x6 x7 x8 x9 x10 x11 x12 x13 x14 x15 x_3 x_4 x_5 x19 x20 x21 f0 f1 f2 f3 f4 f5 f6 f7 f8 f_6 f_7 f_8 f12 f13 f14 f15 f16 f17 f18 f19 f20 f21 L_9 Nn_10 fP M_11 O_12 H.size i2 0 (by first | omega | assumption | decide | (have l0 := Int32.toInt_zero; omega)) (by first | omega | assumption | decide | (have l0 := Int32.toInt_zero; omega)) (by first | omega | assumption | decide | (have l0 := Int32.toInt_zero; omega)) (by first | omega | assumption | decide | (have l0 := Int32.toInt_zero; omega))) (cwV 2 hts mg_X10_worksItemg_X10_addsRow_285 rfl rfl rfl (by decide +kernel) ⟨(show 0 + 1 ≤ 6 * d + 4 by omega), (show 8 + (5 + 11) + 0 ≤ 60 * (6 * d + 4) by omega)⟩) ⟨fun a U g mk q => by obtain ⟨q0, q1, qP, qK, qD⟩ := q; exact ⟨q0, q1, qP, va_K.moved (u := U) (U := U.calling g mk a) (Vm.Alike.refl U.vm) qK, qD⟩, va_recv hK hP (ci := 10) (q0 := 0) rfl rfl, fun U hU hW => ⟨rfl, by rw [hU], by rw [hU]; exact hP, va_K.moved hW.alike hK, hD.weaken (fun _ _ _ _ => trivial)⟩⟩ rfl rfl hl.1 rfl (lv_room (Nat.le_of_ble_eq_true rfl)) dX10_worksItem_64 ⟨Nat.le_of_ble_eq_true rfl, Nat.le_of_ble_eq_true rfl⟩) hS (fun q _ h => hFc q h) hFc (fun u t H1 locs ht hvm hw hB hz1 hk1 hS => ?_)
            obtain ⟨f_22, L_23, hr_21_0, hP, hK1, hD1⟩ := hB
            rw [ht] at hP
            have hD := hD1.weaken (fun k q _ h => hFc q.1 h)
            clear hz1 hk1 hFc hD1 hK1 hvm
            generalize H1 = H at hP hS ⊢
            have hP : va_P (dC, dI) vwCl (mW ad kc x0 x1 x2 x3 x4 x5 x6 x7 x8 x9 x10 x11 x12 x13 x14 x15 x_3 x_4 x_5 x19 x20 x21 f0 f1 f2 f3 f4 f5 f6 f7 f8 f_22 f_7 f_8 f12 f13 f14 f15 f16 f17 f18 f19 f20 f21 L_23 Nn_10 fP M_11 O_12) H := hP
            have hD : va_D A (mW ad kc x0 x1 x2 x3 x4 x5 x6 x7 x8 x9 x10 x11 x12 x13 x14 x15 x_3 x_4 x_5 x19 x20 x21 f0 f1 f2 f3 f4 f5 f6 f7 f8 f_22 f_7 f_8 f12 f13 f14 f15 f16 f17 f18 f19 f20 f21 L_23 Nn_10 fP M_11 O_12) := hD
            refine lv_aload_n hx hb dX10_worksItem_67 rfl (lv_at hl 1 rfl) ?_
            refine va_get (D := (dC, dI)) (ci := 10) (v := .ref (ad 10)) (C := RX10) (T := TX10) (N := 48) hx hb hts fin_X10_worksItemg_X10 hown hK hP 0 rfl rfl 26 (by decide) (hts (.fieldLink RX10 51 "PatternGateModel" "rowMany" "[I") (List.mem_of_getElem? (i := 12) (by decide +kernel))) (fun _ h9 => h9) rfl dX10_worksItem_68 ?_
            refine lv_iload_n hx hb dX10_worksItem_71 rfl (lv_at hl 3 rfl) ?_
            refine va_iald hx hb hK hP 10 9 rfl rfl (i := i2) (vp_of (a := i2.toInt) rfl (by omega) (by omega)) dX10_worksItem_72 ?_
            refine lv_topi (fun y_24 ey_24 => ?_)
            have rg_y_24 := i_rng y_24
            have vy_24 := vI_lda (f := f_22) (i := i2) (a := i2.toInt) ey_24 (by first | omega | decide)
            have rg_y_24 := i_rng y_24
            have hs7 := hs6.add hr_21_0 rLen_0 (by omega) (by omega)
            refine lv_bipush (v := 6) hx hb dX10_worksItem_73 (by decide) ?_
            refine lv_icmp_gt (tgt := 82) hx hb dX10_worksItem_75 (by decide) (fun k_25 => ?_) (fun k_25 => ?_)
            · have tk_25 := c_gt (a := y_24.toInt) (b := 6) rfl (by decide) k_25
              refine lv_iconst (v := 0) hx hb dX10_worksItem_82 (by decide) ?_
              have lit_25 : (0 : Int32).toInt = 0 := by decide
              exact W.zret hx hb hr (z_nar (by first | assumption | decide | exact z_of (by omega))) (fun t ht hW => ⟨⟨_, _, rfl, rfl, x_3, x_4, x_5, f_22, f_7, f_8, L_23, Nn_10, M_11, O_12, (by first | omega | assumption | rfl | decide), (by first | omega | assumption | rfl | decide), (by first | omega | assumption | rfl | decide), (hr_2_3.tr (wF.row hr_21_0.fr (Or.inr rfl) (by omega))), (hr_2_4.mono (by omega)), (fun h9 => by omega), by rw [ht]; exact hP, va_K.moved hW.alike hK, hD⟩, hS.F ht⟩) hS.2.2 dX10_worksItem_83
            · have tk_25 := c_ngt (a := y_24.toInt) (b := 6) rfl (by decide) k_25
              refine lv_iconst (v := 1) hx hb dX10_worksItem_78 (by decide) ?_
              refine lv_goto (tgt := 83) hx hb dX10_worksItem_79 (by decide) ?_
              have lit_26 : (1 : Int32).toInt = 1 := by decide
              exact W.zret hx hb hr (z_nar (by first | assumption | decide | exact z_of (by omega))) (fun t ht hW => ⟨⟨_, _, rfl, rfl, x_3, x_4, x_5, f_22, f_7, f_8, L_23, Nn_10, M_11, O_12, (by first | omega | assumption | rfl | decide), (by first | omega | assumption | rfl | decide), (by first | omega | assumption | rfl | decide), (hr_2_3.tr (wF.row hr_21_0.fr (Or.inr rfl) (by omega))), (hr_2_4.mono (by omega)), (fun _ => ⟨hs7.1, by omega, fun i hi9 => by obtain ⟨n7, z1, z2, z3⟩ := hs7.2.2 i hi9; exact ⟨n7, by omega, z2, z3⟩⟩), by rw [ht]; exact hP, va_K.moved hW.alike hK, hD⟩, hS.F ht⟩) hS.2.2 dX10_worksItem_83
          · have tk_20 := c_eq (a := r_2.toInt) (b := 0) rfl (by decide) k_20
            refine lv_iconst (v := 0) hx hb dX10_worksItem_59 (by decide) ?_
            have lit_27 : (0 : Int32).toInt = 0 := by decide
            exact W.zret hx hb hr (z_nar (by first | assumption | decide | exact z_of (by omega))) (fun t ht hW => ⟨⟨_, _, rfl, rfl, x_3, x_4, x_5, f_6, f_7, f_8, L_9, Nn_10, M_11, O_12, (by first | omega | assumption | rfl | decide), (by first | omega | assumption | rfl | decide), (by first | omega | assumption | rfl | decide), hr_2_3, (hr_2_4.mono (by omega)), (fun h9 => by omega), by rw [ht]; exact hP, va_K.moved hW.alike hK, hD⟩, hS.F ht⟩) hS.2.2 dX10_worksItem_60
      · have tk_16 := c_ne (a := y_15.toInt) (b := 43) rfl (by decide) k_16
        refine lv_aload_n hx hb dX10_worksItem_38 rfl (lv_at hl 1 rfl) ?_
        refine lv_iload_n hx hb dX10_worksItem_39 rfl (lv_at hl 4 rfl) ?_
        have hFc := m_free hD hS hA
        refine va_callv (va_runV (As := [.int i3]) (rest := []) ⟨hx, hb, hml, hown, hts⟩ (m_oneEmpty l dC dI ad kc x0 x1 x2 x3 x4 x5 x6 x7 x8 x9 x10 x11 x12 x13 x14 x15 x_3 x_4 x_5 x19 x20 x21 f0 f1 f2 f3 f4 f5 f6 f7 f8 f_6 f_7 f_8 f12 f13 f14 f15 f16 f17 f18 f19 f20 f21 L_9 Nn_10 fP M_11 O_12 H.size i3 (by first | omega | assumption | decide | (have l0 := Int32.toInt_zero; omega)) (by first | omega | assumption | decide | (have l0 := Int32.toInt_zero; omega))) (cwV 1 hts mg_X10_worksItemg_X10_oneEmpty_303 rfl rfl rfl (by decide +kernel) ⟨(show 0 + 1 ≤ 6 * d + 4 by omega), (show 8 + (2 + 11) + 0 ≤ 60 * (6 * d + 4) by omega)⟩) ⟨fun a U g mk q => by obtain ⟨q0, q1, qP, qK, qD⟩ := q; exact ⟨q0, q1, qP, va_K.moved (u := U) (U := U.calling g mk a) (Vm.Alike.refl U.vm) qK, qD⟩, va_recv hK hP (ci := 10) (q0 := 0) rfl rfl, fun U hU hW => ⟨rfl, by rw [hU], by rw [hU]; exact hP, va_K.moved hW.alike hK, hD.weaken (fun _ _ _ _ => trivial)⟩⟩ rfl rfl hl.1 rfl (lv_room (Nat.le_of_ble_eq_true rfl)) dX10_worksItem_40 ⟨Nat.le_of_ble_eq_true rfl, Nat.le_of_ble_eq_true rfl⟩) hS (fun q _ h => hFc q h) hFc (fun u t H1 locs ht hvm hw hB hz1 hk1 hS => ?_)
        obtain ⟨f_30, Nn_31, M_32, O_33, hr_29_0, hr_29_1, hr_29_2, hP, hK1, hD1⟩ := hB
        rw [ht] at hP
        have hD := hD1.weaken (fun k q _ h => hFc q.1 h)
        clear hz1 hk1 hFc hD1 hK1 hvm
        generalize H1 = H at hP hS ⊢
        have hP : va_P (dC, dI) vwCl (mW ad kc x0 x1 x2 x3 x4 x5 x6 x7 x8 x9 x10 x11 x12 x13 x14 x15 x_3 x_4 x_5 x19 x20 x21 f0 f1 f2 f3 f4 f5 f6 f7 f8 f_6 f_30 f_8 f12 f13 f14 f15 f16 f17 f18 f19 f20 f21 L_9 Nn_31 fP M_32 O_33) H := hP
        have hD : va_D A (mW ad kc x0 x1 x2 x3 x4 x5 x6 x7 x8 x9 x10 x11 x12 x13 x14 x15 x_3 x_4 x_5 x19 x20 x21 f0 f1 f2 f3 f4 f5 f6 f7 f8 f_6 f_30 f_8 f12 f13 f14 f15 f16 f17 f18 f19 f20 f21 L_9 Nn_31 fP M_32 O_33) := hD
        refine lv_aload_n hx hb dX10_worksItem_43 rfl (lv_at hl 1 rfl) ?_
        refine va_get (D := (dC, dI)) (ci := 10) (v := .ref (ad 9)) (C := RX10) (T := TX10) (N := 48) hx hb hts fin_X10_worksItemg_X10 hown hK hP 0 rfl rfl 20 (by decide) (hts (.fieldLink RX10 43 "PatternGateModel" "sign" "[I") (List.mem_of_getElem? (i := 10) (by decide +kernel))) (fun _ h9 => h9) rfl dX10_worksItem_44 ?_
        refine lv_iload_n hx hb dX10_worksItem_47 rfl (lv_at hl 2 rfl) ?_
        refine va_iald hx hb hK hP 9 8 rfl rfl (i := i1) (vp_of (a := i1.toInt) rfl (by omega) (by omega)) dX10_worksItem_48 ?_
        refine lv_topi (fun y_34 ey_34 => ?_)
        have rg_y_34 := i_rng y_34
        refine lv_bipush (v := 63) hx hb dX10_worksItem_49 (by decide) ?_
        refine lv_icmp_ne (tgt := 59) hx hb dX10_worksItem_51 (by decide) (fun k_35 => ?_) (fun k_35 => ?_)
        · have tk_35 := c_ne (a := y_34.toInt) (b := 63) rfl (by decide) k_35
          refine lv_iconst (v := 0) hx hb dX10_worksItem_59 (by decide) ?_
          have lit_35 : (0 : Int32).toInt = 0 := by decide
          exact W.zret hx hb hr (z_nar (by first | assumption | decide | exact z_of (by omega))) (fun t ht hW => ⟨⟨_, _, rfl, rfl, x_3, x_4, x_5, f_6, f_30, f_8, L_9, Nn_31, M_32, O_33, (by first | omega | assumption | rfl | decide), (by first | omega | assumption | rfl | decide), (by first | omega | assumption | rfl | decide), (hr_2_3.tr (wF.need hr_29_1 hr_29_2 (Or.inr rfl) (by omega) (by omega))), (hr_29_0.mono (by omega)), (fun h9 => by omega), by rw [ht]; exact hP, va_K.moved hW.alike hK, hD⟩, hS.F ht⟩) hS.2.2 dX10_worksItem_60
        · have tk_35 := c_eq (a := y_34.toInt) (b := 63) rfl (by decide) k_35
          refine lv_iload hx hb dX10_worksItem_54 (lv_at hl 0 rfl) ?_
          refine lv_if_ne (tgt := 61) hx hb dX10_worksItem_56 (by decide) (fun k_37 => ?_) (fun k_37 => ?_)
          · have tk_37 := c_ne (a := r_2.toInt) (b := 0) rfl (by decide) k_37
            refine lv_aload_n hx hb dX10_worksItem_61 rfl (lv_at hl 1 rfl) ?_
            refine lv_iload_n hx hb dX10_worksItem_62 rfl (lv_at hl 3 rfl) ?_
            refine lv_lconst (v := 0) hx hb dX10_worksItem_63 (by decide) ?_
            have hs6 := hr_2_5 (by omega)
            have hs6a := hs6.1
            have hs6b := hs6.2.1
            have hFc := m_free hD hS hA
            refine va_callv (va_runV (As := [.int i2, .long 0]) (rest := []) ⟨hx, hb, hml, hown, hts⟩ (m_addsRow l dC dI ad kc x0 x1 x2 x3 x4 x5 x6 x7 x8 x9 x10 x11 x12 x13 x14 x15 x_3 x_4 x_5 x19 x20 x21 f0 f1 f2 f3 f4 f5 f6 f7 f8 f_6 f_30 f_8 f12 f13 f14 f15 f16 f17 f18 f19 f20 f21 L_9 Nn_31 fP M_32 O_33 H.size i2 0 (by first | omega | assumption | decide | (have l0 := Int32.toInt_zero; omega)) (by first | omega | assumption | decide | (have l0 := Int32.toInt_zero; omega)) (by first | omega | assumption | decide | (have l0 := Int32.toInt_zero; omega)) (by first | omega | assumption | decide | (have l0 := Int32.toInt_zero; omega))) (cwV 2 hts mg_X10_worksItemg_X10_addsRow_285 rfl rfl rfl (by decide +kernel) ⟨(show 0 + 1 ≤ 6 * d + 4 by omega), (show 8 + (5 + 11) + 0 ≤ 60 * (6 * d + 4) by omega)⟩) ⟨fun a U g mk q => by obtain ⟨q0, q1, qP, qK, qD⟩ := q; exact ⟨q0, q1, qP, va_K.moved (u := U) (U := U.calling g mk a) (Vm.Alike.refl U.vm) qK, qD⟩, va_recv hK hP (ci := 10) (q0 := 0) rfl rfl, fun U hU hW => ⟨rfl, by rw [hU], by rw [hU]; exact hP, va_K.moved hW.alike hK, hD.weaken (fun _ _ _ _ => trivial)⟩⟩ rfl rfl hl.1 rfl (lv_room (Nat.le_of_ble_eq_true rfl)) dX10_worksItem_64 ⟨Nat.le_of_ble_eq_true rfl, Nat.le_of_ble_eq_true rfl⟩) hS (fun q _ h => hFc q h) hFc (fun u t H1 locs ht hvm hw hB hz1 hk1 hS => ?_)
            obtain ⟨f_39, L_40, hr_38_0, hP, hK1, hD1⟩ := hB
            rw [ht] at hP
            have hD := hD1.weaken (fun k q _ h => hFc q.1 h)
            clear hz1 hk1 hFc hD1 hK1 hvm
            generalize H1 = H at hP hS ⊢
            have hP : va_P (dC, dI) vwCl (mW ad kc x0 x1 x2 x3 x4 x5 x6 x7 x8 x9 x10 x11 x12 x13 x14 x15 x_3 x_4 x_5 x19 x20 x21 f0 f1 f2 f3 f4 f5 f6 f7 f8 f_39 f_30 f_8 f12 f13 f14 f15 f16 f17 f18 f19 f20 f21 L_40 Nn_31 fP M_32 O_33) H := hP
            have hD : va_D A (mW ad kc x0 x1 x2 x3 x4 x5 x6 x7 x8 x9 x10 x11 x12 x13 x14 x15 x_3 x_4 x_5 x19 x20 x21 f0 f1 f2 f3 f4 f5 f6 f7 f8 f_39 f_30 f_8 f12 f13 f14 f15 f16 f17 f18 f19 f20 f21 L_40 Nn_31 fP M_32 O_33) := hD
            refine lv_aload_n hx hb dX10_worksItem_67 rfl (lv_at hl 1 rfl) ?_
            refine va_get (D := (dC, dI)) (ci := 10) (v := .ref (ad 10)) (C := RX10) (T := TX10) (N := 48) hx hb hts fin_X10_worksItemg_X10 hown hK hP 0 rfl rfl 26 (by decide) (hts (.fieldLink RX10 51 "PatternGateModel" "rowMany" "[I") (List.mem_of_getElem? (i := 12) (by decide +kernel))) (fun _ h9 => h9) rfl dX10_worksItem_68 ?_
            refine lv_iload_n hx hb dX10_worksItem_71 rfl (lv_at hl 3 rfl) ?_
            refine va_iald hx hb hK hP 10 9 rfl rfl (i := i2) (vp_of (a := i2.toInt) rfl (by omega) (by omega)) dX10_worksItem_72 ?_
            refine lv_topi (fun y_41 ey_41 => ?_)
            have rg_y_41 := i_rng y_41
            have vy_41 := vI_lda (f := f_39) (i := i2) (a := i2.toInt) ey_41 (by first | omega | decide)
            have rg_y_41 := i_rng y_41
            have hs7 := hs6.add hr_38_0 rLen_0 (by omega) (by omega)
            refine lv_bipush (v := 6) hx hb dX10_worksItem_73 (by decide) ?_
            refine lv_icmp_gt (tgt := 82) hx hb dX10_worksItem_75 (by decide) (fun k_42 => ?_) (fun k_42 => ?_)
            · have tk_42 := c_gt (a := y_41.toInt) (b := 6) rfl (by decide) k_42
              refine lv_iconst (v := 0) hx hb dX10_worksItem_82 (by decide) ?_
              have lit_42 : (0 : Int32).toInt = 0 := by decide
              exact W.zret hx hb hr (z_nar (by first | assumption | decide | exact z_of (by omega))) (fun t ht hW => ⟨⟨_, _, rfl, rfl, x_3, x_4, x_5, f_39, f_30, f_8, L_40, Nn_31, M_32, O_33, (by first | omega | assumption | rfl | decide), (by first | omega | assumption | rfl | decide), (by first | omega | assumption | rfl | decide), ((hr_2_3.tr (wF.need hr_29_1 hr_29_2 (Or.inr rfl) (by omega) (by omega))).tr (wF.row hr_38_0.fr (Or.inr rfl) (by omega))), (hr_29_0.mono (by omega)), (fun h9 => by omega), by rw [ht]; exact hP, va_K.moved hW.alike hK, hD⟩, hS.F ht⟩) hS.2.2 dX10_worksItem_83
            · have tk_42 := c_ngt (a := y_41.toInt) (b := 6) rfl (by decide) k_42
              refine lv_iconst (v := 1) hx hb dX10_worksItem_78 (by decide) ?_
              refine lv_goto (tgt := 83) hx hb dX10_worksItem_79 (by decide) ?_
              have lit_43 : (1 : Int32).toInt = 1 := by decide
              exact W.zret hx hb hr (z_nar (by first | assumption | decide | exact z_of (by omega))) (fun t ht hW => ⟨⟨_, _, rfl, rfl, x_3, x_4, x_5, f_39, f_30, f_8, L_40, Nn_31, M_32, O_33, (by first | omega | assumption | rfl | decide), (by first | omega | assumption | rfl | decide), (by first | omega | assumption | rfl | decide), ((hr_2_3.tr (wF.need hr_29_1 hr_29_2 (Or.inr rfl) (by omega) (by omega))).tr (wF.row hr_38_0.fr (Or.inr rfl) (by omega))), (hr_29_0.mono (by omega)), (fun _ => ⟨hs7.1, by omega, fun i hi9 => by obtain ⟨n7, z1, z2, z3⟩ := hs7.2.2 i hi9; exact ⟨n7, by omega, z2, z3⟩⟩), by rw [ht]; exact hP, va_K.moved hW.alike hK, hD⟩, hS.F ht⟩) hS.2.2 dX10_worksItem_83
          · have tk_37 := c_eq (a := r_2.toInt) (b := 0) rfl (by decide) k_37
            refine lv_iconst (v := 0) hx hb dX10_worksItem_59 (by decide) ?_
            have lit_44 : (0 : Int32).toInt = 0 := by decide
            exact W.zret hx hb hr (z_nar (by first | assumption | decide | exact z_of (by omega))) (fun t ht hW => ⟨⟨_, _, rfl, rfl, x_3, x_4, x_5, f_6, f_30, f_8, L_9, Nn_31, M_32, O_33, (by first | omega | assumption | rfl | decide), (by first | omega | assumption | rfl | decide), (by first | omega | assumption | rfl | decide), (hr_2_3.tr (wF.need hr_29_1 hr_29_2 (Or.inr rfl) (by omega) (by omega))), (hr_29_0.mono (by omega)), (fun h9 => by omega), by rw [ht]; exact hP, va_K.moved hW.alike hK, hD⟩, hS.F ht⟩) hS.2.2 dX10_worksItem_60
    · have tk_14 := c_eq (a := y_13.toInt) (b := (-1)) rfl (by decide) k_14
      refine lv_iload hx hb dX10_worksItem_24 (lv_at hl 0 rfl) ?_
      exact W.zret hx hb hr (z_nar (by first | assumption | decide | exact z_of (by omega))) (fun t ht hW => ⟨⟨_, _, rfl, rfl, x_3, x_4, x_5, f_6, f_7, f_8, L_9, Nn_10, M_11, O_12, (by first | omega | assumption | rfl | decide), (by first | omega | assumption | rfl | decide), (by first | omega | assumption | rfl | decide), hr_2_3, (hr_2_4.mono (by omega)), (fun h9 => (hr_2_5 h9).mono (by omega) (by omega)), by rw [ht]; exact hP, va_K.moved hW.alike hK, hD⟩, hS.F ht⟩) hS.2.2 dX10_worksItem_26
  · rcases d with _ | e
    · exact absurd hsb id
    have hsb : tPat (mV f3 f4 f5 f7) e (i1.toInt + 1) hi m9 := hsb
    refine lv_aload_n hx hb dX10_worksItem_0 rfl (lv_at hl 0 rfl) ?_
    refine lv_aload_n hx hb dX10_worksItem_1 rfl (lv_at hl 0 rfl) ?_
    refine va_get (D := (dC, dI)) (ci := 10) (v := .ref (ad 5)) (C := RX10) (T := TX10) (N := 48) hx hb hts fin_X10_worksItemg_X10 hown hK hP 0 rfl rfl 16 (by decide) (hts (.fieldLink RX10 31 "PatternGateModel" "first" "[I") (List.mem_of_getElem? (i := 8) (by decide +kernel))) (fun _ h9 => h9) rfl dX10_worksItem_2 ?_
    refine lv_iload_n hx hb dX10_worksItem_5 rfl (lv_at hl 1 rfl) ?_
    refine va_iald hx hb hK hP 5 4 rfl rfl (i := i1) (vp_of (a := i1.toInt) rfl (by omega) (by omega)) dX10_worksItem_6 ?_
    refine lv_topi (fun y_46 ey_46 => ?_)
    have rg_y_46 := i_rng y_46
    have vy_46 := vI_lda (f := f4) (i := i1) (a := i1.toInt) ey_46 (by first | omega | decide)
    have rg_y_46 := i_rng y_46
    refine lv_iload_n hx hb dX10_worksItem_7 rfl (lv_at hl 2 rfl) ?_
    refine lv_iload_n hx hb dX10_worksItem_8 rfl (lv_at hl 3 rfl) ?_
    have hFc := m_free hD hS hA
    refine va_calli (va_runV (As := [.int y_46, .int i2, .int i3]) (rest := []) ⟨hx, hb, hml, hown, hts⟩ ((hrec e rfl) ad kc x0 x1 x2 x3 x4 x5 x6 x7 x8 x9 x10 x11 x12 x13 x14 x15 x16 x17 x18 x19 x20 x21 f0 f1 f2 f3 f4 f5 f6 f7 f8 f9 f10 f11 f12 f13 f14 f15 f16 f17 f18 f19 f20 f21 fL fN fP fM fO H.size y_46 i2 i3 hi m9 (by first | omega | assumption | decide | (have l0 := Int32.toInt_zero; omega)) (by first | omega | assumption | decide | (have l0 := Int32.toInt_zero; omega)) (by first | omega | assumption | decide | (have l0 := Int32.toInt_zero; omega)) (by first | omega | assumption | decide | (have l0 := Int32.toInt_zero; omega)) (by first | omega | assumption | decide | (have l0 := Int32.toInt_zero; omega)) (by first | omega | assumption | decide | (have l0 := Int32.toInt_zero; omega)) (by rw [show y_46.toInt = i1.toInt + 1 by omega]; exact hsb) (by first | omega | assumption | decide | (have l0 := Int32.toInt_zero; omega)) (by first | omega | assumption | decide | (have l0 := Int32.toInt_zero; omega))) (cwV 3 hts mg_X10_worksItemg_X10_worksOut_331_mwg_X10_worksOutP rfl rfl rfl (by decide +kernel) ⟨(show (6 * e + 9) + 1 ≤ 6 * (e + 1) + 4 by omega), (show 8 + (4 + 11) + 60 * (6 * e + 9) ≤ 60 * (6 * (e + 1) + 4) by omega)⟩) ⟨fun a U g mk q => by obtain ⟨q0, q1, qP, qK, qD⟩ := q; exact ⟨q0, q1, qP, va_K.moved (u := U) (U := U.calling g mk a) (Vm.Alike.refl U.vm) qK, qD⟩, va_recv hK hP (ci := 10) (q0 := 0) rfl rfl, fun U hU hW => ⟨rfl, by rw [hU], by rw [hU]; exact hP, va_K.moved hW.alike hK, hD.weaken (fun _ _ _ _ => trivial)⟩⟩ rfl rfl hl.1 rfl (lv_room (Nat.le_of_ble_eq_true rfl)) dX10_worksItem_9 ⟨Nat.le_of_ble_eq_true rfl, Nat.le_of_ble_eq_true rfl⟩) hS (fun q _ h => hFc q h) hFc (fun r_47 u t H1 locs ht hvm hw hB hz1 hk1 hS => ?_)
    subst hw
    obtain ⟨x_48, x_49, x_50, f_51, f_52, f_53, L_54, Nn_55, M_56, O_57, hr_47_0, hr_47_1, hr_47_2, hr_47_3, hr_47_4, hr_47_5, hP, hK1, hD1⟩ := hB
    rw [ht] at hP
    have hD := hD1.weaken (fun k q _ h => hFc q.1 h)
    clear hz1 hk1 hFc hD1 hK1 hvm
    generalize H1 = H at hP hS ⊢
    have rg_x_48 := i_rng x_48
    have rg_x_49 := i_rng x_49
    have rg_x_50 := i_rng x_50
    have rg_r_47 := i_rng r_47
    have hP : va_P (dC, dI) vwCl (mW ad kc x0 x1 x2 x3 x4 x5 x6 x7 x8 x9 x10 x11 x12 x13 x14 x15 x_48 x_49 x_50 x19 x20 x21 f0 f1 f2 f3 f4 f5 f6 f7 f8 f_51 f_52 f_53 f12 f13 f14 f15 f16 f17 f18 f19 f20 f21 L_54 Nn_55 fP M_56 O_57) H := hP
    have hD : va_D A (mW ad kc x0 x1 x2 x3 x4 x5 x6 x7 x8 x9 x10 x11 x12 x13 x14 x15 x_48 x_49 x_50 x19 x20 x21 f0 f1 f2 f3 f4 f5 f6 f7 f8 f_51 f_52 f_53 f12 f13 f14 f15 f16 f17 f18 f19 f20 f21 L_54 Nn_55 fP M_56 O_57) := hD
    refine lv_istore (lv' := [(4, .int r_47), (0, .ref (ad 0)), (1, .int i1), (2, .int i2), (3, .int i3)]) hx hb dX10_worksItem_12 hl (by decide) rfl (fun ls hl => ?_)
    refine lv_aload_n hx hb dX10_worksItem_14 rfl (lv_at hl 1 rfl) ?_
    refine va_get (D := (dC, dI)) (ci := 10) (v := .ref (ad 9)) (C := RX10) (T := TX10) (N := 48) hx hb hts fin_X10_worksItemg_X10 hown hK hP 0 rfl rfl 20 (by decide) (hts (.fieldLink RX10 43 "PatternGateModel" "sign" "[I") (List.mem_of_getElem? (i := 10) (by decide +kernel))) (fun _ h9 => h9) rfl dX10_worksItem_15 ?_
    refine lv_iload_n hx hb dX10_worksItem_18 rfl (lv_at hl 2 rfl) ?_
    refine va_iald hx hb hK hP 9 8 rfl rfl (i := i1) (vp_of (a := i1.toInt) rfl (by omega) (by omega)) dX10_worksItem_19 ?_
    refine lv_topi (fun y_58 ey_58 => ?_)
    have rg_y_58 := i_rng y_58
    refine lv_iconst (v := (-1)) hx hb dX10_worksItem_20 (by decide) ?_
    refine lv_icmp_ne (tgt := 27) hx hb dX10_worksItem_21 (by decide) (fun k_59 => ?_) (fun k_59 => ?_)
    · have tk_59 := c_ne (a := y_58.toInt) (b := (-1)) rfl (by decide) k_59
      refine lv_aload_n hx hb dX10_worksItem_27 rfl (lv_at hl 1 rfl) ?_
      refine va_get (D := (dC, dI)) (ci := 10) (v := .ref (ad 9)) (C := RX10) (T := TX10) (N := 48) hx hb hts fin_X10_worksItemg_X10 hown hK hP 0 rfl rfl 20 (by decide) (hts (.fieldLink RX10 43 "PatternGateModel" "sign" "[I") (List.mem_of_getElem? (i := 10) (by decide +kernel))) (fun _ h9 => h9) rfl dX10_worksItem_28 ?_
      refine lv_iload_n hx hb dX10_worksItem_31 rfl (lv_at hl 2 rfl) ?_
      refine va_iald hx hb hK hP 9 8 rfl rfl (i := i1) (vp_of (a := i1.toInt) rfl (by omega) (by omega)) dX10_worksItem_32 ?_
      refine lv_topi (fun y_60 ey_60 => ?_)
      have rg_y_60 := i_rng y_60
      refine lv_bipush (v := 43) hx hb dX10_worksItem_33 (by decide) ?_
      refine lv_icmp_eq (tgt := 43) hx hb dX10_worksItem_35 (by decide) (fun k_61 => ?_) (fun k_61 => ?_)
      · have tk_61 := c_eq (a := y_60.toInt) (b := 43) rfl (by decide) k_61
        refine lv_aload_n hx hb dX10_worksItem_43 rfl (lv_at hl 1 rfl) ?_
        refine va_get (D := (dC, dI)) (ci := 10) (v := .ref (ad 9)) (C := RX10) (T := TX10) (N := 48) hx hb hts fin_X10_worksItemg_X10 hown hK hP 0 rfl rfl 20 (by decide) (hts (.fieldLink RX10 43 "PatternGateModel" "sign" "[I") (List.mem_of_getElem? (i := 10) (by decide +kernel))) (fun _ h9 => h9) rfl dX10_worksItem_44 ?_
        refine lv_iload_n hx hb dX10_worksItem_47 rfl (lv_at hl 2 rfl) ?_
        refine va_iald hx hb hK hP 9 8 rfl rfl (i := i1) (vp_of (a := i1.toInt) rfl (by omega) (by omega)) dX10_worksItem_48 ?_
        refine lv_topi (fun y_62 ey_62 => ?_)
        have rg_y_62 := i_rng y_62
        refine lv_bipush (v := 63) hx hb dX10_worksItem_49 (by decide) ?_
        refine lv_icmp_ne (tgt := 59) hx hb dX10_worksItem_51 (by decide) (fun k_63 => ?_) (fun k_63 => ?_)
        · have tk_63 := c_ne (a := y_62.toInt) (b := 63) rfl (by decide) k_63
          refine lv_iconst (v := 0) hx hb dX10_worksItem_59 (by decide) ?_
          have lit_63 : (0 : Int32).toInt = 0 := by decide
          exact W.zret hx hb hr (z_nar (by first | assumption | decide | exact z_of (by omega))) (fun t ht hW => ⟨⟨_, _, rfl, rfl, x_48, x_49, x_50, f_51, f_52, f_53, L_54, Nn_55, M_56, O_57, (by first | omega | assumption | rfl | decide), (by first | omega | assumption | rfl | decide), (by first | omega | assumption | rfl | decide), hr_47_3, (hr_47_4.mono (by omega)), (fun h9 => by omega), by rw [ht]; exact hP, va_K.moved hW.alike hK, hD⟩, hS.F ht⟩) hS.2.2 dX10_worksItem_60
        · have tk_63 := c_eq (a := y_62.toInt) (b := 63) rfl (by decide) k_63
          refine lv_iload hx hb dX10_worksItem_54 (lv_at hl 0 rfl) ?_
          refine lv_if_ne (tgt := 61) hx hb dX10_worksItem_56 (by decide) (fun k_65 => ?_) (fun k_65 => ?_)
          · have tk_65 := c_ne (a := r_47.toInt) (b := 0) rfl (by decide) k_65
            refine lv_aload_n hx hb dX10_worksItem_61 rfl (lv_at hl 1 rfl) ?_
            refine lv_iload_n hx hb dX10_worksItem_62 rfl (lv_at hl 3 rfl) ?_
            refine lv_lconst (v := 0) hx hb dX10_worksItem_63 (by decide) ?_
            have hs6 := hr_47_5 (by omega)
            have hs6a := hs6.1
            have hs6b := hs6.2.1
            have hFc := m_free hD hS hA
            refine va_callv (va_runV (As := [.int i2, .long 0]) (rest := []) ⟨hx, hb, hml, hown, hts⟩ (m_addsRow l dC dI ad kc x0 x1 x2 x3 x4 x5 x6 x7 x8 x9 x10 x11 x12 x13 x14 x15 x_48 x_49 x_50 x19 x20 x21 f0 f1 f2 f3 f4 f5 f6 f7 f8 f_51 f_52 f_53 f12 f13 f14 f15 f16 f17 f18 f19 f20 f21 L_54 Nn_55 fP M_56 O_57 H.size i2 0 (by first | omega | assumption | decide | (have l0 := Int32.toInt_zero; omega)) (by first | omega | assumption | decide | (have l0 := Int32.toInt_zero; omega)) (by first | omega | assumption | decide | (have l0 := Int32.toInt_zero; omega)) (by first | omega | assumption | decide | (have l0 := Int32.toInt_zero; omega))) (cwV 2 hts mg_X10_worksItemg_X10_addsRow_285 rfl rfl rfl (by decide +kernel) ⟨(show 0 + 1 ≤ 6 * (e + 1) + 4 by omega), (show 8 + (5 + 11) + 0 ≤ 60 * (6 * (e + 1) + 4) by omega)⟩) ⟨fun a U g mk q => by obtain ⟨q0, q1, qP, qK, qD⟩ := q; exact ⟨q0, q1, qP, va_K.moved (u := U) (U := U.calling g mk a) (Vm.Alike.refl U.vm) qK, qD⟩, va_recv hK hP (ci := 10) (q0 := 0) rfl rfl, fun U hU hW => ⟨rfl, by rw [hU], by rw [hU]; exact hP, va_K.moved hW.alike hK, hD.weaken (fun _ _ _ _ => trivial)⟩⟩ rfl rfl hl.1 rfl (lv_room (Nat.le_of_ble_eq_true rfl)) dX10_worksItem_64 ⟨Nat.le_of_ble_eq_true rfl, Nat.le_of_ble_eq_true rfl⟩) hS (fun q _ h => hFc q h) hFc (fun u t H1 locs ht hvm hw hB hz1 hk1 hS => ?_)
            obtain ⟨f_67, L_68, hr_66_0, hP, hK1, hD1⟩ := hB
            rw [ht] at hP
            have hD := hD1.weaken (fun k q _ h => hFc q.1 h)
            clear hz1 hk1 hFc hD1 hK1 hvm
            generalize H1 = H at hP hS ⊢
            have hP : va_P (dC, dI) vwCl (mW ad kc x0 x1 x2 x3 x4 x5 x6 x7 x8 x9 x10 x11 x12 x13 x14 x15 x_48 x_49 x_50 x19 x20 x21 f0 f1 f2 f3 f4 f5 f6 f7 f8 f_67 f_52 f_53 f12 f13 f14 f15 f16 f17 f18 f19 f20 f21 L_68 Nn_55 fP M_56 O_57) H := hP
            have hD : va_D A (mW ad kc x0 x1 x2 x3 x4 x5 x6 x7 x8 x9 x10 x11 x12 x13 x14 x15 x_48 x_49 x_50 x19 x20 x21 f0 f1 f2 f3 f4 f5 f6 f7 f8 f_67 f_52 f_53 f12 f13 f14 f15 f16 f17 f18 f19 f20 f21 L_68 Nn_55 fP M_56 O_57) := hD
            refine lv_aload_n hx hb dX10_worksItem_67 rfl (lv_at hl 1 rfl) ?_
            refine va_get (D := (dC, dI)) (ci := 10) (v := .ref (ad 10)) (C := RX10) (T := TX10) (N := 48) hx hb hts fin_X10_worksItemg_X10 hown hK hP 0 rfl rfl 26 (by decide) (hts (.fieldLink RX10 51 "PatternGateModel" "rowMany" "[I") (List.mem_of_getElem? (i := 12) (by decide +kernel))) (fun _ h9 => h9) rfl dX10_worksItem_68 ?_
            refine lv_iload_n hx hb dX10_worksItem_71 rfl (lv_at hl 3 rfl) ?_
            refine va_iald hx hb hK hP 10 9 rfl rfl (i := i2) (vp_of (a := i2.toInt) rfl (by omega) (by omega)) dX10_worksItem_72 ?_
            refine lv_topi (fun y_69 ey_69 => ?_)
            have rg_y_69 := i_rng y_69
            have vy_69 := vI_lda (f := f_67) (i := i2) (a := i2.toInt) ey_69 (by first | omega | decide)
            have rg_y_69 := i_rng y_69
            have hs7 := hs6.add hr_66_0 rLen_0 (by omega) (by omega)
            refine lv_bipush (v := 6) hx hb dX10_worksItem_73 (by decide) ?_
            refine lv_icmp_gt (tgt := 82) hx hb dX10_worksItem_75 (by decide) (fun k_70 => ?_) (fun k_70 => ?_)
            · have tk_70 := c_gt (a := y_69.toInt) (b := 6) rfl (by decide) k_70
              refine lv_iconst (v := 0) hx hb dX10_worksItem_82 (by decide) ?_
              have lit_70 : (0 : Int32).toInt = 0 := by decide
              exact W.zret hx hb hr (z_nar (by first | assumption | decide | exact z_of (by omega))) (fun t ht hW => ⟨⟨_, _, rfl, rfl, x_48, x_49, x_50, f_67, f_52, f_53, L_68, Nn_55, M_56, O_57, (by first | omega | assumption | rfl | decide), (by first | omega | assumption | rfl | decide), (by first | omega | assumption | rfl | decide), (hr_47_3.tr (wF.row hr_66_0.fr (Or.inr rfl) (by omega))), (hr_47_4.mono (by omega)), (fun h9 => by omega), by rw [ht]; exact hP, va_K.moved hW.alike hK, hD⟩, hS.F ht⟩) hS.2.2 dX10_worksItem_83
            · have tk_70 := c_ngt (a := y_69.toInt) (b := 6) rfl (by decide) k_70
              refine lv_iconst (v := 1) hx hb dX10_worksItem_78 (by decide) ?_
              refine lv_goto (tgt := 83) hx hb dX10_worksItem_79 (by decide) ?_
              have lit_71 : (1 : Int32).toInt = 1 := by decide
              exact W.zret hx hb hr (z_nar (by first | assumption | decide | exact z_of (by omega))) (fun t ht hW => ⟨⟨_, _, rfl, rfl, x_48, x_49, x_50, f_67, f_52, f_53, L_68, Nn_55, M_56, O_57, (by first | omega | assumption | rfl | decide), (by first | omega | assumption | rfl | decide), (by first | omega | assumption | rfl | decide), (hr_47_3.tr (wF.row hr_66_0.fr (Or.inr rfl) (by omega))), (hr_47_4.mono (by omega)), (fun _ => ⟨hs7.1, by omega, fun i hi9 => by obtain ⟨n7, z1, z2, z3⟩ := hs7.2.2 i hi9; exact ⟨n7, by omega, z2, z3⟩⟩), by rw [ht]; exact hP, va_K.moved hW.alike hK, hD⟩, hS.F ht⟩) hS.2.2 dX10_worksItem_83
          · have tk_65 := c_eq (a := r_47.toInt) (b := 0) rfl (by decide) k_65
            refine lv_iconst (v := 0) hx hb dX10_worksItem_59 (by decide) ?_
            have lit_72 : (0 : Int32).toInt = 0 := by decide
            exact W.zret hx hb hr (z_nar (by first | assumption | decide | exact z_of (by omega))) (fun t ht hW => ⟨⟨_, _, rfl, rfl, x_48, x_49, x_50, f_51, f_52, f_53, L_54, Nn_55, M_56, O_57, (by first | omega | assumption | rfl | decide), (by first | omega | assumption | rfl | decide), (by first | omega | assumption | rfl | decide), hr_47_3, (hr_47_4.mono (by omega)), (fun h9 => by omega), by rw [ht]; exact hP, va_K.moved hW.alike hK, hD⟩, hS.F ht⟩) hS.2.2 dX10_worksItem_60
      · have tk_61 := c_ne (a := y_60.toInt) (b := 43) rfl (by decide) k_61
        refine lv_aload_n hx hb dX10_worksItem_38 rfl (lv_at hl 1 rfl) ?_
        refine lv_iload_n hx hb dX10_worksItem_39 rfl (lv_at hl 4 rfl) ?_
        have hFc := m_free hD hS hA
        refine va_callv (va_runV (As := [.int i3]) (rest := []) ⟨hx, hb, hml, hown, hts⟩ (m_oneEmpty l dC dI ad kc x0 x1 x2 x3 x4 x5 x6 x7 x8 x9 x10 x11 x12 x13 x14 x15 x_48 x_49 x_50 x19 x20 x21 f0 f1 f2 f3 f4 f5 f6 f7 f8 f_51 f_52 f_53 f12 f13 f14 f15 f16 f17 f18 f19 f20 f21 L_54 Nn_55 fP M_56 O_57 H.size i3 (by first | omega | assumption | decide | (have l0 := Int32.toInt_zero; omega)) (by first | omega | assumption | decide | (have l0 := Int32.toInt_zero; omega))) (cwV 1 hts mg_X10_worksItemg_X10_oneEmpty_303 rfl rfl rfl (by decide +kernel) ⟨(show 0 + 1 ≤ 6 * (e + 1) + 4 by omega), (show 8 + (2 + 11) + 0 ≤ 60 * (6 * (e + 1) + 4) by omega)⟩) ⟨fun a U g mk q => by obtain ⟨q0, q1, qP, qK, qD⟩ := q; exact ⟨q0, q1, qP, va_K.moved (u := U) (U := U.calling g mk a) (Vm.Alike.refl U.vm) qK, qD⟩, va_recv hK hP (ci := 10) (q0 := 0) rfl rfl, fun U hU hW => ⟨rfl, by rw [hU], by rw [hU]; exact hP, va_K.moved hW.alike hK, hD.weaken (fun _ _ _ _ => trivial)⟩⟩ rfl rfl hl.1 rfl (lv_room (Nat.le_of_ble_eq_true rfl)) dX10_worksItem_40 ⟨Nat.le_of_ble_eq_true rfl, Nat.le_of_ble_eq_true rfl⟩) hS (fun q _ h => hFc q h) hFc (fun u t H1 locs ht hvm hw hB hz1 hk1 hS => ?_)
        obtain ⟨f_75, Nn_76, M_77, O_78, hr_74_0, hr_74_1, hr_74_2, hP, hK1, hD1⟩ := hB
        rw [ht] at hP
        have hD := hD1.weaken (fun k q _ h => hFc q.1 h)
        clear hz1 hk1 hFc hD1 hK1 hvm
        generalize H1 = H at hP hS ⊢
        have hP : va_P (dC, dI) vwCl (mW ad kc x0 x1 x2 x3 x4 x5 x6 x7 x8 x9 x10 x11 x12 x13 x14 x15 x_48 x_49 x_50 x19 x20 x21 f0 f1 f2 f3 f4 f5 f6 f7 f8 f_51 f_75 f_53 f12 f13 f14 f15 f16 f17 f18 f19 f20 f21 L_54 Nn_76 fP M_77 O_78) H := hP
        have hD : va_D A (mW ad kc x0 x1 x2 x3 x4 x5 x6 x7 x8 x9 x10 x11 x12 x13 x14 x15 x_48 x_49 x_50 x19 x20 x21 f0 f1 f2 f3 f4 f5 f6 f7 f8 f_51 f_75 f_53 f12 f13 f14 f15 f16 f17 f18 f19 f20 f21 L_54 Nn_76 fP M_77 O_78) := hD
        refine lv_aload_n hx hb dX10_worksItem_43 rfl (lv_at hl 1 rfl) ?_
        refine va_get (D := (dC, dI)) (ci := 10) (v := .ref (ad 9)) (C := RX10) (T := TX10) (N := 48) hx hb hts fin_X10_worksItemg_X10 hown hK hP 0 rfl rfl 20 (by decide) (hts (.fieldLink RX10 43 "PatternGateModel" "sign" "[I") (List.mem_of_getElem? (i := 10) (by decide +kernel))) (fun _ h9 => h9) rfl dX10_worksItem_44 ?_
        refine lv_iload_n hx hb dX10_worksItem_47 rfl (lv_at hl 2 rfl) ?_
        refine va_iald hx hb hK hP 9 8 rfl rfl (i := i1) (vp_of (a := i1.toInt) rfl (by omega) (by omega)) dX10_worksItem_48 ?_
        refine lv_topi (fun y_79 ey_79 => ?_)
        have rg_y_79 := i_rng y_79
        refine lv_bipush (v := 63) hx hb dX10_worksItem_49 (by decide) ?_
        refine lv_icmp_ne (tgt := 59) hx hb dX10_worksItem_51 (by decide) (fun k_80 => ?_) (fun k_80 => ?_)
        · have tk_80 := c_ne (a := y_79.toInt) (b := 63) rfl (by decide) k_80
          refine lv_iconst (v := 0) hx hb dX10_worksItem_59 (by decide) ?_
          have lit_80 : (0 : Int32).toInt = 0 := by decide
          exact W.zret hx hb hr (z_nar (by first | assumption | decide | exact z_of (by omega))) (fun t ht hW => ⟨⟨_, _, rfl, rfl, x_48, x_49, x_50, f_51, f_75, f_53, L_54, Nn_76, M_77, O_78, (by first | omega | assumption | rfl | decide), (by first | omega | assumption | rfl | decide), (by first | omega | assumption | rfl | decide), (hr_47_3.tr (wF.need hr_74_1 hr_74_2 (Or.inr rfl) (by omega) (by omega))), (hr_74_0.mono (by omega)), (fun h9 => by omega), by rw [ht]; exact hP, va_K.moved hW.alike hK, hD⟩, hS.F ht⟩) hS.2.2 dX10_worksItem_60
        · have tk_80 := c_eq (a := y_79.toInt) (b := 63) rfl (by decide) k_80
          refine lv_iload hx hb dX10_worksItem_54 (lv_at hl 0 rfl) ?_
          refine lv_if_ne (tgt := 61) hx hb dX10_worksItem_56 (by decide) (fun k_82 => ?_) (fun k_82 => ?_)
          · have tk_82 := c_ne (a := r_47.toInt) (b := 0) rfl (by decide) k_82
            refine lv_aload_n hx hb dX10_worksItem_61 rfl (lv_at hl 1 rfl) ?_
            refine lv_iload_n hx hb dX10_worksItem_62 rfl (lv_at hl 3 rfl) ?_
            refine lv_lconst (v := 0) hx hb dX10_worksItem_63 (by decide) ?_
            have hs6 := hr_47_5 (by omega)
            have hs6a := hs6.1
            have hs6b := hs6.2.1
            have hFc := m_free hD hS hA
            refine va_callv (va_runV (As := [.int i2, .long 0]) (rest := []) ⟨hx, hb, hml, hown, hts⟩ (m_addsRow l dC dI ad kc x0 x1 x2 x3 x4 x5 x6 x7 x8 x9 x10 x11 x12 x13 x14 x15 x_48 x_49 x_50 x19 x20 x21 f0 f1 f2 f3 f4 f5 f6 f7 f8 f_51 f_75 f_53 f12 f13 f14 f15 f16 f17 f18 f19 f20 f21 L_54 Nn_76 fP M_77 O_78 H.size i2 0 (by first | omega | assumption | decide | (have l0 := Int32.toInt_zero; omega)) (by first | omega | assumption | decide | (have l0 := Int32.toInt_zero; omega)) (by first | omega | assumption | decide | (have l0 := Int32.toInt_zero; omega)) (by first | omega | assumption | decide | (have l0 := Int32.toInt_zero; omega))) (cwV 2 hts mg_X10_worksItemg_X10_addsRow_285 rfl rfl rfl (by decide +kernel) ⟨(show 0 + 1 ≤ 6 * (e + 1) + 4 by omega), (show 8 + (5 + 11) + 0 ≤ 60 * (6 * (e + 1) + 4) by omega)⟩) ⟨fun a U g mk q => by obtain ⟨q0, q1, qP, qK, qD⟩ := q; exact ⟨q0, q1, qP, va_K.moved (u := U) (U := U.calling g mk a) (Vm.Alike.refl U.vm) qK, qD⟩, va_recv hK hP (ci := 10) (q0 := 0) rfl rfl, fun U hU hW => ⟨rfl, by rw [hU], by rw [hU]; exact hP, va_K.moved hW.alike hK, hD.weaken (fun _ _ _ _ => trivial)⟩⟩ rfl rfl hl.1 rfl (lv_room (Nat.le_of_ble_eq_true rfl)) dX10_worksItem_64 ⟨Nat.le_of_ble_eq_true rfl, Nat.le_of_ble_eq_true rfl⟩) hS (fun q _ h => hFc q h) hFc (fun u t H1 locs ht hvm hw hB hz1 hk1 hS => ?_)
            obtain ⟨f_84, L_85, hr_83_0, hP, hK1, hD1⟩ := hB
            rw [ht] at hP
            have hD := hD1.weaken (fun k q _ h => hFc q.1 h)
            clear hz1 hk1 hFc hD1 hK1 hvm
            generalize H1 = H at hP hS ⊢
            have hP : va_P (dC, dI) vwCl (mW ad kc x0 x1 x2 x3 x4 x5 x6 x7 x8 x9 x10 x11 x12 x13 x14 x15 x_48 x_49 x_50 x19 x20 x21 f0 f1 f2 f3 f4 f5 f6 f7 f8 f_84 f_75 f_53 f12 f13 f14 f15 f16 f17 f18 f19 f20 f21 L_85 Nn_76 fP M_77 O_78) H := hP
            have hD : va_D A (mW ad kc x0 x1 x2 x3 x4 x5 x6 x7 x8 x9 x10 x11 x12 x13 x14 x15 x_48 x_49 x_50 x19 x20 x21 f0 f1 f2 f3 f4 f5 f6 f7 f8 f_84 f_75 f_53 f12 f13 f14 f15 f16 f17 f18 f19 f20 f21 L_85 Nn_76 fP M_77 O_78) := hD
            refine lv_aload_n hx hb dX10_worksItem_67 rfl (lv_at hl 1 rfl) ?_
            refine va_get (D := (dC, dI)) (ci := 10) (v := .ref (ad 10)) (C := RX10) (T := TX10) (N := 48) hx hb hts fin_X10_worksItemg_X10 hown hK hP 0 rfl rfl 26 (by decide) (hts (.fieldLink RX10 51 "PatternGateModel" "rowMany" "[I") (List.mem_of_getElem? (i := 12) (by decide +kernel))) (fun _ h9 => h9) rfl dX10_worksItem_68 ?_
            refine lv_iload_n hx hb dX10_worksItem_71 rfl (lv_at hl 3 rfl) ?_
            refine va_iald hx hb hK hP 10 9 rfl rfl (i := i2) (vp_of (a := i2.toInt) rfl (by omega) (by omega)) dX10_worksItem_72 ?_
            refine lv_topi (fun y_86 ey_86 => ?_)
            have rg_y_86 := i_rng y_86
            have vy_86 := vI_lda (f := f_84) (i := i2) (a := i2.toInt) ey_86 (by first | omega | decide)
            have rg_y_86 := i_rng y_86
            have hs7 := hs6.add hr_83_0 rLen_0 (by omega) (by omega)
            refine lv_bipush (v := 6) hx hb dX10_worksItem_73 (by decide) ?_
            refine lv_icmp_gt (tgt := 82) hx hb dX10_worksItem_75 (by decide) (fun k_87 => ?_) (fun k_87 => ?_)
            · have tk_87 := c_gt (a := y_86.toInt) (b := 6) rfl (by decide) k_87
              refine lv_iconst (v := 0) hx hb dX10_worksItem_82 (by decide) ?_
              have lit_87 : (0 : Int32).toInt = 0 := by decide
              exact W.zret hx hb hr (z_nar (by first | assumption | decide | exact z_of (by omega))) (fun t ht hW => ⟨⟨_, _, rfl, rfl, x_48, x_49, x_50, f_84, f_75, f_53, L_85, Nn_76, M_77, O_78, (by first | omega | assumption | rfl | decide), (by first | omega | assumption | rfl | decide), (by first | omega | assumption | rfl | decide), ((hr_47_3.tr (wF.need hr_74_1 hr_74_2 (Or.inr rfl) (by omega) (by omega))).tr (wF.row hr_83_0.fr (Or.inr rfl) (by omega))), (hr_74_0.mono (by omega)), (fun h9 => by omega), by rw [ht]; exact hP, va_K.moved hW.alike hK, hD⟩, hS.F ht⟩) hS.2.2 dX10_worksItem_83
            · have tk_87 := c_ngt (a := y_86.toInt) (b := 6) rfl (by decide) k_87
              refine lv_iconst (v := 1) hx hb dX10_worksItem_78 (by decide) ?_
              refine lv_goto (tgt := 83) hx hb dX10_worksItem_79 (by decide) ?_
              have lit_88 : (1 : Int32).toInt = 1 := by decide
              exact W.zret hx hb hr (z_nar (by first | assumption | decide | exact z_of (by omega))) (fun t ht hW => ⟨⟨_, _, rfl, rfl, x_48, x_49, x_50, f_84, f_75, f_53, L_85, Nn_76, M_77, O_78, (by first | omega | assumption | rfl | decide), (by first | omega | assumption | rfl | decide), (by first | omega | assumption | rfl | decide), ((hr_47_3.tr (wF.need hr_74_1 hr_74_2 (Or.inr rfl) (by omega) (by omega))).tr (wF.row hr_83_0.fr (Or.inr rfl) (by omega))), (hr_74_0.mono (by omega)), (fun _ => ⟨hs7.1, by omega, fun i hi9 => by obtain ⟨n7, z1, z2, z3⟩ := hs7.2.2 i hi9; exact ⟨n7, by omega, z2, z3⟩⟩), by rw [ht]; exact hP, va_K.moved hW.alike hK, hD⟩, hS.F ht⟩) hS.2.2 dX10_worksItem_83
          · have tk_82 := c_eq (a := r_47.toInt) (b := 0) rfl (by decide) k_82
            refine lv_iconst (v := 0) hx hb dX10_worksItem_59 (by decide) ?_
            have lit_89 : (0 : Int32).toInt = 0 := by decide
            exact W.zret hx hb hr (z_nar (by first | assumption | decide | exact z_of (by omega))) (fun t ht hW => ⟨⟨_, _, rfl, rfl, x_48, x_49, x_50, f_51, f_75, f_53, L_54, Nn_76, M_77, O_78, (by first | omega | assumption | rfl | decide), (by first | omega | assumption | rfl | decide), (by first | omega | assumption | rfl | decide), (hr_47_3.tr (wF.need hr_74_1 hr_74_2 (Or.inr rfl) (by omega) (by omega))), (hr_74_0.mono (by omega)), (fun h9 => by omega), by rw [ht]; exact hP, va_K.moved hW.alike hK, hD⟩, hS.F ht⟩) hS.2.2 dX10_worksItem_60
    · have tk_59 := c_eq (a := y_58.toInt) (b := (-1)) rfl (by decide) k_59
      refine lv_iload hx hb dX10_worksItem_24 (lv_at hl 0 rfl) ?_
      exact W.zret hx hb hr (z_nar (by first | assumption | decide | exact z_of (by omega))) (fun t ht hW => ⟨⟨_, _, rfl, rfl, x_48, x_49, x_50, f_51, f_52, f_53, L_54, Nn_55, M_56, O_57, (by first | omega | assumption | rfl | decide), (by first | omega | assumption | rfl | decide), (by first | omega | assumption | rfl | decide), hr_47_3, (hr_47_4.mono (by omega)), (fun h9 => (hr_47_5 h9).mono (by omega) (by omega)), by rw [ht]; exact hP, va_K.moved hW.alike hK, hD⟩, hS.F ht⟩) hS.2.2 dX10_worksItem_26
theorem dX10_worksOut_17 : decode cX10_worksOut 17 = .ok (.aload_n 0, 1) := by decide +kernel
theorem dX10_worksOut_18 : decode cX10_worksOut 18 = .ok (.getfield 28, 3) := by decide +kernel
theorem dX10_worksOut_21 : decode cX10_worksOut 21 = .ok (.iload_n 1, 1) := by decide +kernel
theorem dX10_worksOut_22 : decode cX10_worksOut 22 = .ok (.iaload, 1) := by decide +kernel
theorem dX10_worksOut_23 : decode cX10_worksOut 23 = .ok (.iconst 1, 1) := by decide +kernel
theorem dX10_worksOut_24 : decode cX10_worksOut 24 = .ok (.if_icmp .ne 11, 3) := by decide +kernel
theorem dX10_worksOut_27 : decode cX10_worksOut 27 = .ok (.aload_n 0, 1) := by decide +kernel
theorem dX10_worksOut_28 : decode cX10_worksOut 28 = .ok (.iload_n 1, 1) := by decide +kernel
theorem dX10_worksOut_29 : decode cX10_worksOut 29 = .ok (.iload_n 2, 1) := by decide +kernel
theorem dX10_worksOut_30 : decode cX10_worksOut 30 = .ok (.iload_n 3, 1) := by decide +kernel
theorem dX10_worksOut_31 : decode cX10_worksOut 31 = .ok (.invokevirtual 322, 3) := by decide +kernel
theorem dX10_worksOut_34 : decode cX10_worksOut 34 = .ok (.ireturn, 1) := by decide +kernel
theorem fin_X10_worksOutgI_X10 : ∀ w ∈ wsX100, w ∈ mwg_X10_worksOutI := fun w h => List.mem_cons_of_mem _ (List.mem_append_right _ (List.mem_append_left _ h))
set_option maxRecDepth 100000 in
theorem mg_X10_worksOutgI_X10_worksItem_322 : GoodIn mwg_X10_worksOutI (wsV RX10 322 RX10 yX10_worksItem mwg_X10_worksItem) := gj_app (A := [.methodLink RX10 322 yX10_worksItem, .instanceMethod yX10_worksItem, .selects RX10 yX10_worksItem yX10_worksItem, .initialized RX10]) (goodIn_r _ [30, 25, 53, 13] (by decide +kernel) (by decide +kernel)) (gj_cons ⟨List.mem_of_getElem? (i := 2) rfl, good_of_word rfl⟩ (gj_sub gd_wgU_works (fun w h => List.mem_cons_of_mem _ h)))
set_option maxHeartbeats 4000000 in
set_option maxRecDepth 100000 in
theorem m_worksOutI (l : Launch) (dC : Nat → ClassId) (dI : Nat → Nat → Nat) (d : Nat) (hrec : k_m_worksItem l dC dI d) : k_m_worksOutI l dC dI d := by
  intro ad kc x0 x1 x2 x3 x4 x5 x6 x7 x8 x9 x10 x11 x12 x13 x14 x15 x16 x17 x18 x19 x20 x21 f0 f1 f2 f3 f4 f5 f6 f7 f8 f9 f10 f11 f12 f13 f14 f15 f16 f17 f18 f19 f20 f21 fL fN fP fM fO sz i1 i2 i3 hi m9 q0 q1 q2 q3 q4 q5 q6 q7 q8
  refine Met.ofW (cc := cX10_worksOut) (maxL := 4) (ret := (some .boolean)) (by decide +kernel) rfl ?_
  intro p e s m args below meth c s₁ B hml hv
  obtain ⟨rfl, hsz, hP, hK, hD0⟩ := hv
  have hx := B.exec
  have hb := B.bytes
  have hr := B.returns
  have hts := atoms_spec (ws := mwg_X10_worksOutI) B.pre
  have hown : s.vm.findClass RX10 = some m.cls := findClass_of_methodNamed B.named
  have hlocks := B.notSynchronized
  subst hsz
  have hD := hD0.self (sz := s.heap.size)
  generalize hAe : va_A (mW ad kc x0 x1 x2 x3 x4 x5 x6 x7 x8 x9 x10 x11 x12 x13 x14 x15 x16 x17 x18 x19 x20 x21 f0 f1 f2 f3 f4 f5 f6 f7 f8 f9 f10 f11 f12 f13 f14 f15 f16 f17 f18 f19 f20 f21 fL fN fP fM fO) s.heap.size = A at hD ⊢
  have hA : ∀ q : Nat, s.heap.size ≤ q → A q := fun q h => by rw [← hAe]; exact Or.inr h
  have hP : va_P (dC, dI) vwCl (mW ad kc x0 x1 x2 x3 x4 x5 x6 x7 x8 x9 x10 x11 x12 x13 x14 x15 x16 x17 x18 x19 x20 x21 f0 f1 f2 f3 f4 f5 f6 f7 f8 f9 f10 f11 f12 f13 f14 f15 f16 f17 f18 f19 f20 f21 fL fN fP fM fO) s.heap := hP
  have hD : va_D A (mW ad kc x0 x1 x2 x3 x4 x5 x6 x7 x8 x9 x10 x11 x12 x13 x14 x15 x16 x17 x18 x19 x20 x21 f0 f1 f2 f3 f4 f5 f6 f7 f8 f9 f10 f11 f12 f13 f14 f15 f16 f17 f18 f19 f20 f21 fL fN fP fM fO) := hD
  have hK : va_K (dC, dI) vwCl (mT kc) s := hK
  generalize hH : s.heap = H at hP ⊢
  have hS : va_S A s.heap H [] := by rw [← hH]; exact va_S.rf
  have hl := lv_entry ([.ref (ad 0), .int i1, .int i2, .int i3]) (n := 4) (Nat.le_of_ble_eq_true rfl)
  rw [lg_entry_eq]
  generalize (lg_sl ([.ref (ad 0), .int i1, .int i2, .int i3]) ++ List.replicate (4 - (lg_sl ([.ref (ad 0), .int i1, .int i2, .int i3])).length) Slot.unset).toArray = ls at hl ⊢
  have hl : lv_has ls 4 [(0, .ref (ad 0)), (1, .int i1), (2, .int i2), (3, .int i3)] := hl
  have rg_i1 := i_rng i1
  have rg_i2 := i_rng i2
  have rg_i3 := i_rng i3
  have hkd : vI f3 i1.toInt = 1 := q6.1
  refine lv_aload_n hx hb dX10_worksOut_0 rfl (lv_at hl 0 rfl) ?_
  refine va_get (D := (dC, dI)) (ci := 10) (v := .ref (ad 4)) (C := RX10) (T := TX10) (N := 48) hx hb hts fin_X10_worksOutgI_X10 hown hK hP 0 rfl rfl 15 (by decide) (hts (.fieldLink RX10 28 "PatternGateModel" "kind" "[I") (List.mem_of_getElem? (i := 6) (by decide +kernel))) (fun _ h9 => h9) rfl dX10_worksOut_1 ?_
  refine lv_iload_n hx hb dX10_worksOut_4 rfl (lv_at hl 1 rfl) ?_
  refine va_iald hx hb hK hP 4 3 rfl rfl (i := i1) (vp_of (a := i1.toInt) rfl (by omega) (by omega)) dX10_worksOut_5 ?_
  refine lv_topi (fun y_1 ey_1 => ?_)
  have rg_y_1 := i_rng y_1
  have vy_1 := vI_lda (f := f3) (i := i1) (a := i1.toInt) ey_1 (by first | omega | decide)
  have rg_y_1 := i_rng y_1
  refine lv_if_ne (tgt := 17) hx hb dX10_worksOut_6 (by decide) (fun k_2 => ?_) (fun k_2 => absurd k_2 (fun e9 => by have h9 := congrArg Int32.toInt e9; have h8 : (0 : Int32).toInt = 0 := (by decide); omega))
  have tk_2 := c_ne (a := y_1.toInt) (b := 0) rfl (by decide) k_2
  refine lv_aload_n hx hb dX10_worksOut_17 rfl (lv_at hl 0 rfl) ?_
  refine va_get (D := (dC, dI)) (ci := 10) (v := .ref (ad 4)) (C := RX10) (T := TX10) (N := 48) hx hb hts fin_X10_worksOutgI_X10 hown hK hP 0 rfl rfl 15 (by decide) (hts (.fieldLink RX10 28 "PatternGateModel" "kind" "[I") (List.mem_of_getElem? (i := 6) (by decide +kernel))) (fun _ h9 => h9) rfl dX10_worksOut_18 ?_
  refine lv_iload_n hx hb dX10_worksOut_21 rfl (lv_at hl 1 rfl) ?_
  refine va_iald hx hb hK hP 4 3 rfl rfl (i := i1) (vp_of (a := i1.toInt) rfl (by omega) (by omega)) dX10_worksOut_22 ?_
  refine lv_topi (fun y_3 ey_3 => ?_)
  have rg_y_3 := i_rng y_3
  have vy_3 := vI_lda (f := f3) (i := i1) (a := i1.toInt) ey_3 (by first | omega | decide)
  have rg_y_3 := i_rng y_3
  refine lv_iconst (v := 1) hx hb dX10_worksOut_23 (by decide) ?_
  refine lv_icmp_ne (tgt := 35) hx hb dX10_worksOut_24 (by decide) (fun k_4 => absurd (Int32.toInt_inj.mp (by have h8 : (1 : Int32).toInt = 1 := (by decide); omega)) k_4) (fun k_4 => ?_)
  have tk_4 := c_eq (a := y_3.toInt) (b := 1) rfl (by decide) k_4
  refine lv_aload_n hx hb dX10_worksOut_27 rfl (lv_at hl 0 rfl) ?_
  refine lv_iload_n hx hb dX10_worksOut_28 rfl (lv_at hl 1 rfl) ?_
  refine lv_iload_n hx hb dX10_worksOut_29 rfl (lv_at hl 2 rfl) ?_
  refine lv_iload_n hx hb dX10_worksOut_30 rfl (lv_at hl 3 rfl) ?_
  have hFc := m_free hD hS hA
  refine va_calli (va_runV (As := [.int i1, .int i2, .int i3]) (rest := []) ⟨hx, hb, hml, hown, hts⟩ (hrec ad kc x0 x1 x2 x3 x4 x5 x6 x7 x8 x9 x10 x11 x12 x13 x14 x15 x16 x17 x18 x19 x20 x21 f0 f1 f2 f3 f4 f5 f6 f7 f8 f9 f10 f11 f12 f13 f14 f15 f16 f17 f18 f19 f20 f21 fL fN fP fM fO H.size i1 i2 i3 hi m9 (by first | omega | assumption | decide | (have l0 := Int32.toInt_zero; omega)) (by first | omega | assumption | decide | (have l0 := Int32.toInt_zero; omega)) (by first | omega | assumption | decide | (have l0 := Int32.toInt_zero; omega)) (by first | omega | assumption | decide | (have l0 := Int32.toInt_zero; omega)) (by first | omega | assumption | decide | (have l0 := Int32.toInt_zero; omega)) (by first | omega | assumption | decide | (have l0 := Int32.toInt_zero; omega)) (by first | omega | assumption | decide | (have l0 := Int32.toInt_zero; omega)) (by first | omega | assumption | decide | (have l0 := Int32.toInt_zero; omega)) (by first | omega | assumption | decide | (have l0 := Int32.toInt_zero; omega))) (cwV 3 hts mg_X10_worksOutgI_X10_worksItem_322 rfl rfl rfl (by decide +kernel) ⟨(show (6 * d + 4) + 1 ≤ 6 * d + 5 by omega), (show 8 + (5 + 11) + 60 * (6 * d + 4) ≤ 60 * (6 * d + 5) by omega)⟩) ⟨fun a U g mk q => by obtain ⟨q0, q1, qP, qK, qD⟩ := q; exact ⟨q0, q1, qP, va_K.moved (u := U) (U := U.calling g mk a) (Vm.Alike.refl U.vm) qK, qD⟩, va_recv hK hP (ci := 10) (q0 := 0) rfl rfl, fun U hU hW => ⟨rfl, by rw [hU], by rw [hU]; exact hP, va_K.moved hW.alike hK, hD.weaken (fun _ _ _ _ => trivial)⟩⟩ rfl rfl hl.1 rfl (lv_room (Nat.le_of_ble_eq_true rfl)) dX10_worksOut_31 ⟨Nat.le_of_ble_eq_true rfl, Nat.le_of_ble_eq_true rfl⟩) hS (fun q _ h => hFc q h) hFc (fun r_5 u t H1 locs ht hvm hw hB hz1 hk1 hS => ?_)
  subst hw
  obtain ⟨x_6, x_7, x_8, f_9, f_10, f_11, L_12, Nn_13, M_14, O_15, hr_5_0, hr_5_1, hr_5_2, hr_5_3, hr_5_4, hr_5_5, hP, hK1, hD1⟩ := hB
  rw [ht] at hP
  have hD := hD1.weaken (fun k q _ h => hFc q.1 h)
  clear hz1 hk1 hFc hD1 hK1 hvm
  generalize H1 = H at hP hS ⊢
  have rg_x_6 := i_rng x_6
  have rg_x_7 := i_rng x_7
  have rg_x_8 := i_rng x_8
  have rg_r_5 := i_rng r_5
  have hP : va_P (dC, dI) vwCl (mW ad kc x0 x1 x2 x3 x4 x5 x6 x7 x8 x9 x10 x11 x12 x13 x14 x15 x_6 x_7 x_8 x19 x20 x21 f0 f1 f2 f3 f4 f5 f6 f7 f8 f_9 f_10 f_11 f12 f13 f14 f15 f16 f17 f18 f19 f20 f21 L_12 Nn_13 fP M_14 O_15) H := hP
  have hD : va_D A (mW ad kc x0 x1 x2 x3 x4 x5 x6 x7 x8 x9 x10 x11 x12 x13 x14 x15 x_6 x_7 x_8 x19 x20 x21 f0 f1 f2 f3 f4 f5 f6 f7 f8 f_9 f_10 f_11 f12 f13 f14 f15 f16 f17 f18 f19 f20 f21 L_12 Nn_13 fP M_14 O_15) := hD
  exact W.zret hx hb hr (z_nar (by first | assumption | decide | exact z_of (by omega))) (fun t ht hW => ⟨⟨_, _, rfl, rfl, x_6, x_7, x_8, f_9, f_10, f_11, L_12, Nn_13, M_14, O_15, (by first | omega | assumption | rfl | decide), (by first | omega | assumption | rfl | decide), (by first | omega | assumption | rfl | decide), hr_5_3, hr_5_4, hr_5_5, by rw [ht]; exact hP, va_K.moved hW.alike hK, hD⟩, hS.F ht⟩) hS.2.2 dX10_worksOut_34
theorem dX10_worksBranch_0 : decode cX10_worksBranch 0 = .ok (.iconst 1, 1) := by decide +kernel
theorem dX10_worksBranch_1 : decode cX10_worksBranch 1 = .ok (.istore 4, 2) := by decide +kernel
theorem dX10_worksBranch_3 : decode cX10_worksBranch 3 = .ok (.aload_n 0, 1) := by decide +kernel
theorem dX10_worksBranch_4 : decode cX10_worksBranch 4 = .ok (.invokevirtual 334, 3) := by decide +kernel
theorem dX10_worksBranch_7 : decode cX10_worksBranch 7 = .ok (.istore 5, 2) := by decide +kernel
theorem dX10_worksBranch_9 : decode cX10_worksBranch 9 = .ok (.aload_n 0, 1) := by decide +kernel
theorem dX10_worksBranch_10 : decode cX10_worksBranch 10 = .ok (.invokevirtual 334, 3) := by decide +kernel
theorem dX10_worksBranch_13 : decode cX10_worksBranch 13 = .ok (.istore 6, 2) := by decide +kernel
theorem dX10_worksBranch_15 : decode cX10_worksBranch 15 = .ok (.aload_n 0, 1) := by decide +kernel
theorem dX10_worksBranch_16 : decode cX10_worksBranch 16 = .ok (.invokevirtual 337, 3) := by decide +kernel
theorem dX10_worksBranch_19 : decode cX10_worksBranch 19 = .ok (.istore 7, 2) := by decide +kernel
theorem dX10_worksBranch_21 : decode cX10_worksBranch 21 = .ok (.aload_n 0, 1) := by decide +kernel
theorem dX10_worksBranch_22 : decode cX10_worksBranch 22 = .ok (.iload_n 3, 1) := by decide +kernel
theorem dX10_worksBranch_23 : decode cX10_worksBranch 23 = .ok (.invokevirtual 303, 3) := by decide +kernel
theorem dX10_worksBranch_26 : decode cX10_worksBranch 26 = .ok (.aload_n 0, 1) := by decide +kernel
theorem dX10_worksBranch_27 : decode cX10_worksBranch 27 = .ok (.getfield 51, 3) := by decide +kernel
theorem dX10_worksBranch_30 : decode cX10_worksBranch 30 = .ok (.iload_n 2, 1) := by decide +kernel
theorem dX10_worksBranch_31 : decode cX10_worksBranch 31 = .ok (.iconst 0, 1) := by decide +kernel
theorem dX10_worksBranch_32 : decode cX10_worksBranch 32 = .ok (.iastore, 1) := by decide +kernel
theorem dX10_worksBranch_33 : decode cX10_worksBranch 33 = .ok (.aload_n 0, 1) := by decide +kernel
theorem dX10_worksBranch_34 : decode cX10_worksBranch 34 = .ok (.iload_n 2, 1) := by decide +kernel
theorem dX10_worksBranch_35 : decode cX10_worksBranch 35 = .ok (.lconst 0, 1) := by decide +kernel
theorem dX10_worksBranch_36 : decode cX10_worksBranch 36 = .ok (.invokevirtual 285, 3) := by decide +kernel
theorem dX10_worksBranch_39 : decode cX10_worksBranch 39 = .ok (.aload_n 0, 1) := by decide +kernel
theorem dX10_worksBranch_40 : decode cX10_worksBranch 40 = .ok (.getfield 31, 3) := by decide +kernel
theorem dX10_worksBranch_43 : decode cX10_worksBranch 43 = .ok (.iload_n 1, 1) := by decide +kernel
theorem dX10_worksBranch_44 : decode cX10_worksBranch 44 = .ok (.iaload, 1) := by decide +kernel
theorem dX10_worksBranch_45 : decode cX10_worksBranch 45 = .ok (.istore 8, 2) := by decide +kernel
theorem dX10_worksBranch_47 : decode cX10_worksBranch 47 = .ok (.iload 8, 2) := by decide +kernel
theorem dX10_worksBranch_49 : decode cX10_worksBranch 49 = .ok (.iconst (-1), 1) := by decide +kernel
theorem dX10_worksBranch_50 : decode cX10_worksBranch 50 = .ok (.if_icmp .eq 149, 3) := by decide +kernel
theorem dX10_worksBranch_53 : decode cX10_worksBranch 53 = .ok (.aload_n 0, 1) := by decide +kernel
theorem dX10_worksBranch_54 : decode cX10_worksBranch 54 = .ok (.invokevirtual 337, 3) := by decide +kernel
theorem dX10_worksBranch_57 : decode cX10_worksBranch 57 = .ok (.istore 9, 2) := by decide +kernel
theorem dX10_worksBranch_59 : decode cX10_worksBranch 59 = .ok (.aload_n 0, 1) := by decide +kernel
theorem dX10_worksBranch_60 : decode cX10_worksBranch 60 = .ok (.iload 8, 2) := by decide +kernel
theorem dX10_worksBranch_62 : decode cX10_worksBranch 62 = .ok (.iload 5, 2) := by decide +kernel
theorem dX10_worksBranch_64 : decode cX10_worksBranch 64 = .ok (.iload 9, 2) := by decide +kernel
theorem dX10_worksBranch_66 : decode cX10_worksBranch 66 = .ok (.invokevirtual 331, 3) := by decide +kernel
theorem dX10_worksBranch_69 : decode cX10_worksBranch 69 = .ok (.ifCond .ne 43, 3) := by decide +kernel
theorem dX10_worksBranch_72 : decode cX10_worksBranch 72 = .ok (.iconst 0, 1) := by decide +kernel
theorem dX10_worksBranch_73 : decode cX10_worksBranch 73 = .ok (.istore 4, 2) := by decide +kernel
theorem dX10_worksBranch_75 : decode cX10_worksBranch 75 = .ok (.aload_n 0, 1) := by decide +kernel
theorem dX10_worksBranch_76 : decode cX10_worksBranch 76 = .ok (.iload_n 2, 1) := by decide +kernel
theorem dX10_worksBranch_77 : decode cX10_worksBranch 77 = .ok (.iload 7, 2) := by decide +kernel
theorem dX10_worksBranch_79 : decode cX10_worksBranch 79 = .ok (.invokevirtual 340, 3) := by decide +kernel
theorem dX10_worksBranch_82 : decode cX10_worksBranch 82 = .ok (.aload_n 0, 1) := by decide +kernel
theorem dX10_worksBranch_83 : decode cX10_worksBranch 83 = .ok (.iload_n 3, 1) := by decide +kernel
theorem dX10_worksBranch_84 : decode cX10_worksBranch 84 = .ok (.iload 7, 2) := by decide +kernel
theorem dX10_worksBranch_86 : decode cX10_worksBranch 86 = .ok (.invokevirtual 343, 3) := by decide +kernel
theorem dX10_worksBranch_89 : decode cX10_worksBranch 89 = .ok (.aload_n 0, 1) := by decide +kernel
theorem dX10_worksBranch_90 : decode cX10_worksBranch 90 = .ok (.iload_n 3, 1) := by decide +kernel
theorem dX10_worksBranch_91 : decode cX10_worksBranch 91 = .ok (.iload 9, 2) := by decide +kernel
theorem dX10_worksBranch_93 : decode cX10_worksBranch 93 = .ok (.invokevirtual 343, 3) := by decide +kernel
theorem dX10_worksBranch_96 : decode cX10_worksBranch 96 = .ok (.aload_n 0, 1) := by decide +kernel
theorem dX10_worksBranch_97 : decode cX10_worksBranch 97 = .ok (.getfield 51, 3) := by decide +kernel
theorem dX10_worksBranch_100 : decode cX10_worksBranch 100 = .ok (.iload_n 2, 1) := by decide +kernel
theorem dX10_worksBranch_101 : decode cX10_worksBranch 101 = .ok (.iconst 0, 1) := by decide +kernel
theorem dX10_worksBranch_102 : decode cX10_worksBranch 102 = .ok (.iastore, 1) := by decide +kernel
theorem dX10_worksBranch_103 : decode cX10_worksBranch 103 = .ok (.aload_n 0, 1) := by decide +kernel
theorem dX10_worksBranch_104 : decode cX10_worksBranch 104 = .ok (.iload_n 2, 1) := by decide +kernel
theorem dX10_worksBranch_105 : decode cX10_worksBranch 105 = .ok (.lconst 0, 1) := by decide +kernel
theorem dX10_worksBranch_106 : decode cX10_worksBranch 106 = .ok (.invokevirtual 285, 3) := by decide +kernel
theorem dX10_worksBranch_109 : decode cX10_worksBranch 109 = .ok (.goto 68, 3) := by decide +kernel
theorem dX10_worksBranch_112 : decode cX10_worksBranch 112 = .ok (.aload_n 0, 1) := by decide +kernel
theorem dX10_worksBranch_113 : decode cX10_worksBranch 113 = .ok (.iload_n 2, 1) := by decide +kernel
theorem dX10_worksBranch_114 : decode cX10_worksBranch 114 = .ok (.iload 5, 2) := by decide +kernel
theorem dX10_worksBranch_116 : decode cX10_worksBranch 116 = .ok (.iload 6, 2) := by decide +kernel
theorem dX10_worksBranch_118 : decode cX10_worksBranch 118 = .ok (.iconst 0, 1) := by decide +kernel
theorem dX10_worksBranch_119 : decode cX10_worksBranch 119 = .ok (.invokevirtual 346, 3) := by decide +kernel
theorem dX10_worksBranch_122 : decode cX10_worksBranch 122 = .ok (.ifCond .eq 13, 3) := by decide +kernel
theorem dX10_worksBranch_125 : decode cX10_worksBranch 125 = .ok (.aload_n 0, 1) := by decide +kernel
theorem dX10_worksBranch_126 : decode cX10_worksBranch 126 = .ok (.iload 6, 2) := by decide +kernel
theorem dX10_worksBranch_128 : decode cX10_worksBranch 128 = .ok (.iload_n 2, 1) := by decide +kernel
theorem dX10_worksBranch_129 : decode cX10_worksBranch 129 = .ok (.invokevirtual 350, 3) := by decide +kernel
theorem dX10_worksBranch_132 : decode cX10_worksBranch 132 = .ok (.goto 45, 3) := by decide +kernel
theorem dX10_worksBranch_135 : decode cX10_worksBranch 135 = .ok (.iconst 0, 1) := by decide +kernel
theorem dX10_worksBranch_136 : decode cX10_worksBranch 136 = .ok (.istore 4, 2) := by decide +kernel
theorem dX10_worksBranch_138 : decode cX10_worksBranch 138 = .ok (.aload_n 0, 1) := by decide +kernel
theorem dX10_worksBranch_139 : decode cX10_worksBranch 139 = .ok (.iload_n 2, 1) := by decide +kernel
theorem dX10_worksBranch_140 : decode cX10_worksBranch 140 = .ok (.iload 7, 2) := by decide +kernel
theorem dX10_worksBranch_142 : decode cX10_worksBranch 142 = .ok (.invokevirtual 340, 3) := by decide +kernel
theorem dX10_worksBranch_145 : decode cX10_worksBranch 145 = .ok (.aload_n 0, 1) := by decide +kernel
theorem dX10_worksBranch_146 : decode cX10_worksBranch 146 = .ok (.iload_n 3, 1) := by decide +kernel
theorem dX10_worksBranch_147 : decode cX10_worksBranch 147 = .ok (.iload 7, 2) := by decide +kernel
theorem dX10_worksBranch_149 : decode cX10_worksBranch 149 = .ok (.invokevirtual 343, 3) := by decide +kernel
theorem dX10_worksBranch_152 : decode cX10_worksBranch 152 = .ok (.aload_n 0, 1) := by decide +kernel
theorem dX10_worksBranch_153 : decode cX10_worksBranch 153 = .ok (.aload_n 0, 1) := by decide +kernel
theorem dX10_worksBranch_154 : decode cX10_worksBranch 154 = .ok (.iload_n 2, 1) := by decide +kernel
theorem dX10_worksBranch_155 : decode cX10_worksBranch 155 = .ok (.iload 5, 2) := by decide +kernel
theorem dX10_worksBranch_157 : decode cX10_worksBranch 157 = .ok (.iload 6, 2) := by decide +kernel
theorem dX10_worksBranch_159 : decode cX10_worksBranch 159 = .ok (.iconst 1, 1) := by decide +kernel
theorem dX10_worksBranch_160 : decode cX10_worksBranch 160 = .ok (.invokevirtual 346, 3) := by decide +kernel
theorem dX10_worksBranch_163 : decode cX10_worksBranch 163 = .ok (.ifCond .eq 8, 3) := by decide +kernel
theorem dX10_worksBranch_166 : decode cX10_worksBranch 166 = .ok (.iload 6, 2) := by decide +kernel
theorem dX10_worksBranch_168 : decode cX10_worksBranch 168 = .ok (.goto 5, 3) := by decide +kernel
theorem dX10_worksBranch_171 : decode cX10_worksBranch 171 = .ok (.iload 5, 2) := by decide +kernel
theorem dX10_worksBranch_173 : decode cX10_worksBranch 173 = .ok (.iload_n 2, 1) := by decide +kernel
theorem dX10_worksBranch_174 : decode cX10_worksBranch 174 = .ok (.invokevirtual 350, 3) := by decide +kernel
theorem dX10_worksBranch_177 : decode cX10_worksBranch 177 = .ok (.aload_n 0, 1) := by decide +kernel
theorem dX10_worksBranch_178 : decode cX10_worksBranch 178 = .ok (.dup, 1) := by decide +kernel
theorem dX10_worksBranch_179 : decode cX10_worksBranch 179 = .ok (.getfield 300, 3) := by decide +kernel
theorem dX10_worksBranch_182 : decode cX10_worksBranch 182 = .ok (.iconst 1, 1) := by decide +kernel
theorem dX10_worksBranch_183 : decode cX10_worksBranch 183 = .ok (.isub, 1) := by decide +kernel
theorem dX10_worksBranch_184 : decode cX10_worksBranch 184 = .ok (.putfield 300, 3) := by decide +kernel
theorem dX10_worksBranch_187 : decode cX10_worksBranch 187 = .ok (.aload_n 0, 1) := by decide +kernel
theorem dX10_worksBranch_188 : decode cX10_worksBranch 188 = .ok (.getfield 34, 3) := by decide +kernel
theorem dX10_worksBranch_191 : decode cX10_worksBranch 191 = .ok (.iload 8, 2) := by decide +kernel
theorem dX10_worksBranch_193 : decode cX10_worksBranch 193 = .ok (.iaload, 1) := by decide +kernel
theorem dX10_worksBranch_194 : decode cX10_worksBranch 194 = .ok (.istore 8, 2) := by decide +kernel
theorem dX10_worksBranch_196 : decode cX10_worksBranch 196 = .ok (.goto (-149), 3) := by decide +kernel
theorem dX10_worksBranch_199 : decode cX10_worksBranch 199 = .ok (.aload_n 0, 1) := by decide +kernel
theorem dX10_worksBranch_200 : decode cX10_worksBranch 200 = .ok (.iload_n 2, 1) := by decide +kernel
theorem dX10_worksBranch_201 : decode cX10_worksBranch 201 = .ok (.iload 7, 2) := by decide +kernel
theorem dX10_worksBranch_203 : decode cX10_worksBranch 203 = .ok (.invokevirtual 340, 3) := by decide +kernel
theorem dX10_worksBranch_206 : decode cX10_worksBranch 206 = .ok (.aload_n 0, 1) := by decide +kernel
theorem dX10_worksBranch_207 : decode cX10_worksBranch 207 = .ok (.iload_n 3, 1) := by decide +kernel
theorem dX10_worksBranch_208 : decode cX10_worksBranch 208 = .ok (.iload 7, 2) := by decide +kernel
theorem dX10_worksBranch_210 : decode cX10_worksBranch 210 = .ok (.invokevirtual 343, 3) := by decide +kernel
theorem dX10_worksBranch_213 : decode cX10_worksBranch 213 = .ok (.aload_n 0, 1) := by decide +kernel
theorem dX10_worksBranch_214 : decode cX10_worksBranch 214 = .ok (.dup, 1) := by decide +kernel
theorem dX10_worksBranch_215 : decode cX10_worksBranch 215 = .ok (.getfield 300, 3) := by decide +kernel
theorem dX10_worksBranch_218 : decode cX10_worksBranch 218 = .ok (.iconst 1, 1) := by decide +kernel
theorem dX10_worksBranch_219 : decode cX10_worksBranch 219 = .ok (.isub, 1) := by decide +kernel
theorem dX10_worksBranch_220 : decode cX10_worksBranch 220 = .ok (.putfield 300, 3) := by decide +kernel
theorem dX10_worksBranch_223 : decode cX10_worksBranch 223 = .ok (.aload_n 0, 1) := by decide +kernel
theorem dX10_worksBranch_224 : decode cX10_worksBranch 224 = .ok (.dup, 1) := by decide +kernel
theorem dX10_worksBranch_225 : decode cX10_worksBranch 225 = .ok (.getfield 274, 3) := by decide +kernel
theorem dX10_worksBranch_228 : decode cX10_worksBranch 228 = .ok (.iconst 2, 1) := by decide +kernel
theorem dX10_worksBranch_229 : decode cX10_worksBranch 229 = .ok (.isub, 1) := by decide +kernel
theorem dX10_worksBranch_230 : decode cX10_worksBranch 230 = .ok (.putfield 274, 3) := by decide +kernel
theorem dX10_worksBranch_233 : decode cX10_worksBranch 233 = .ok (.iload 4, 2) := by decide +kernel
theorem dX10_worksBranch_235 : decode cX10_worksBranch 235 = .ok (.ireturn, 1) := by decide +kernel
theorem fin_X10_worksBranchg_X10 : ∀ w ∈ wsX100, w ∈ mwg_X10_worksBranch := fun w h => List.mem_cons_of_mem _ (List.mem_append_right _ (List.mem_append_left _ h))
set_option maxRecDepth 100000 in
theorem mg_X10_worksBranchg_X10_newSet_334 : GoodIn mwg_X10_worksBranch (wsV RX10 334 RX10 yX10_newSet mwX10_newSetm) := gj_app (A := [.methodLink RX10 334 yX10_newSet, .instanceMethod yX10_newSet, .selects RX10 yX10_newSet yX10_newSet, .initialized RX10]) (goodIn_r _ [34, 21, 49, 13] (by decide +kernel) (by decide +kernel)) (gj_sub gd_mwX10_newSetm (fun w h => List.mem_cons_of_mem _ (List.mem_append_right _ (List.mem_append_right _ (List.mem_append_right _ (List.mem_append_right _ (List.mem_append_right _ (List.mem_append_right _ (List.mem_append_right _ (List.mem_append_right _ (List.mem_append_right _ (List.mem_append_left _ h))))))))))))
set_option maxRecDepth 100000 in
theorem mg_X10_worksBranchg_X10_newNeed_337 : GoodIn mwg_X10_worksBranch (wsV RX10 337 RX10 yX10_newNeed mwX10_newNeedm) := gj_app (A := [.methodLink RX10 337 yX10_newNeed, .instanceMethod yX10_newNeed, .selects RX10 yX10_newNeed yX10_newNeed, .initialized RX10]) (goodIn_r _ [35, 20, 48, 13] (by decide +kernel) (by decide +kernel)) (gj_sub gd_mwX10_newNeedm (fun w h => List.mem_cons_of_mem _ (List.mem_append_right _ (List.mem_append_right _ (List.mem_append_right _ (List.mem_append_right _ (List.mem_append_right _ (List.mem_append_right _ (List.mem_append_right _ (List.mem_append_right _ (List.mem_append_left _ h)))))))))))
set_option maxRecDepth 100000 in
theorem mg_X10_worksBranchg_X10_oneEmpty_303 : GoodIn mwg_X10_worksBranch (wsV RX10 303 RX10 yX10_oneEmpty mwX10_oneEmptym) := gj_app (A := [.methodLink RX10 303 yX10_oneEmpty, .instanceMethod yX10_oneEmpty, .selects RX10 yX10_oneEmpty yX10_oneEmpty, .initialized RX10]) (goodIn_r _ [29, 23, 51, 13] (by decide +kernel) (by decide +kernel)) (gj_sub gd_mwX10_oneEmptym (fun w h => List.mem_cons_of_mem _ (List.mem_append_right _ (List.mem_append_right _ (List.mem_append_right _ (List.mem_append_right _ (List.mem_append_right _ (List.mem_append_right _ (List.mem_append_right _ (List.mem_append_right _ (List.mem_append_right _ (List.mem_append_right _ (List.mem_append_right _ (List.mem_append_left _ h))))))))))))))
set_option maxRecDepth 100000 in
theorem mg_X10_worksBranchg_X10_addsRow_285 : GoodIn mwg_X10_worksBranch (wsV RX10 285 RX10 yX10_addsRow mwX10_addsRowm) := gj_app (A := [.methodLink RX10 285 yX10_addsRow, .instanceMethod yX10_addsRow, .selects RX10 yX10_addsRow yX10_addsRow, .initialized RX10]) (goodIn_r _ [28, 14, 42, 13] (by decide +kernel) (by decide +kernel)) (gj_sub gd_mwX10_addsRowm (fun w h => List.mem_cons_of_mem _ (List.mem_append_right _ (List.mem_append_right _ (List.mem_append_left _ h)))))
set_option maxRecDepth 100000 in
theorem mg_X10_worksBranchg_X10_ofRows_340 : GoodIn mwg_X10_worksBranch (wsV RX10 340 RX10 yX10_ofRows mwX10_ofRowsm) := gj_app (A := [.methodLink RX10 340 yX10_ofRows, .instanceMethod yX10_ofRows, .selects RX10 yX10_ofRows yX10_ofRows, .initialized RX10]) (goodIn_r _ [36, 22, 50, 13] (by decide +kernel) (by decide +kernel)) (gj_sub gd_mwX10_ofRowsm (fun w h => List.mem_cons_of_mem _ (List.mem_append_right _ (List.mem_append_right _ (List.mem_append_right _ (List.mem_append_right _ (List.mem_append_right _ (List.mem_append_right _ (List.mem_append_right _ (List.mem_append_right _ (List.mem_append_right _ (List.mem_append_right _ (List.mem_append_left _ h)))))))))))))
set_option maxRecDepth 100000 in
theorem mg_X10_worksBranchg_X10_both_343 : GoodIn mwg_X10_worksBranch (wsV RX10 343 RX10 yX10_both mwX10_bothm) := gj_app (A := [.methodLink RX10 343 yX10_both, .instanceMethod yX10_both, .selects RX10 yX10_both yX10_both, .initialized RX10]) (goodIn_r _ [37, 15, 43, 13] (by decide +kernel) (by decide +kernel)) (gj_sub gd_mwX10_bothm (fun w h => List.mem_cons_of_mem _ (List.mem_append_right _ (List.mem_append_right _ (List.mem_append_right _ (List.mem_append_left _ h))))))
set_option maxRecDepth 100000 in
theorem mg_X10_worksBranchg_X10_worksOut_331 : GoodIn mwg_X10_worksBranch (wsV RX10 331 RX10 yX10_worksOut mwg_X10_worksOutI) := gj_app (A := [.methodLink RX10 331 yX10_worksOut, .instanceMethod yX10_worksOut, .selects RX10 yX10_worksOut yX10_worksOut, .initialized RX10]) (goodIn_r _ [33, 26, 54, 13] (by decide +kernel) (by decide +kernel)) (gj_cons ⟨List.mem_of_getElem? (i := 3) rfl, good_of_word rfl⟩ (gj_sub gd_wgU_works (fun w h => List.mem_cons_of_mem _ h)))
set_option maxRecDepth 100000 in
theorem mg_X10_worksBranchg_X10_crosses_346 : GoodIn mwg_X10_worksBranch (wsV RX10 346 RX10 yX10_crosses mwX10_crossesm) := gj_app (A := [.methodLink RX10 346 yX10_crosses, .instanceMethod yX10_crosses, .selects RX10 yX10_crosses yX10_crosses, .initialized RX10]) (goodIn_r _ [38, 18, 46, 13] (by decide +kernel) (by decide +kernel)) (gj_sub gd_mwX10_crossesm (fun w h => List.mem_cons_of_mem _ (List.mem_append_right _ (List.mem_append_right _ (List.mem_append_right _ (List.mem_append_right _ (List.mem_append_right _ (List.mem_append_right _ (List.mem_append_left _ h)))))))))
set_option maxRecDepth 100000 in
theorem mg_X10_worksBranchg_X10_copiesSet_350 : GoodIn mwg_X10_worksBranch (wsV RX10 350 RX10 yX10_copiesSet mwX10_copiesSetm) := gj_app (A := [.methodLink RX10 350 yX10_copiesSet, .instanceMethod yX10_copiesSet, .selects RX10 yX10_copiesSet yX10_copiesSet, .initialized RX10]) (goodIn_r _ [39, 17, 45, 13] (by decide +kernel) (by decide +kernel)) (gj_sub gd_mwX10_copiesSetm (fun w h => List.mem_cons_of_mem _ (List.mem_append_right _ (List.mem_append_right _ (List.mem_append_right _ (List.mem_append_right _ (List.mem_append_right _ (List.mem_append_left _ h))))))))
set_option maxHeartbeats 4000000 in
set_option maxRecDepth 100000 in
theorem m_worksBranch (l : Launch) (dC : Nat → ClassId) (dI : Nat → Nat → Nat) (d : Nat) (hrec : k_m_worksOutI l dC dI d) : k_m_worksBranch l dC dI d := by
  intro ad kc x0 x1 x2 x3 x4 x5 x6 x7 x8 x9 x10 x11 x12 x13 x14 x15 x16 x17 x18 x19 x20 x21 f0 f1 f2 f3 f4 f5 f6 f7 f8 f9 f10 f11 f12 f13 f14 f15 f16 f17 f18 f19 f20 f21 fL fN fP fM fO sz i1 i2 i3 hi m9 q0 q1 q2 q3 q4 q5 q6 q7 q8
  refine Met.ofW (cc := cX10_worksBranch) (maxL := 10) (ret := (some .boolean)) (by decide +kernel) rfl ?_
  intro p e s m args below meth c s₁ B hml hv
  obtain ⟨rfl, hsz, hP, hK, hD0⟩ := hv
  have hx := B.exec
  have hb := B.bytes
  have hr := B.returns
  have hts := atoms_spec (ws := mwg_X10_worksBranch) B.pre
  have hown : s.vm.findClass RX10 = some m.cls := findClass_of_methodNamed B.named
  have hlocks := B.notSynchronized
  subst hsz
  have hD := hD0.self (sz := s.heap.size)
  generalize hAe : va_A (mW ad kc x0 x1 x2 x3 x4 x5 x6 x7 x8 x9 x10 x11 x12 x13 x14 x15 x16 x17 x18 x19 x20 x21 f0 f1 f2 f3 f4 f5 f6 f7 f8 f9 f10 f11 f12 f13 f14 f15 f16 f17 f18 f19 f20 f21 fL fN fP fM fO) s.heap.size = A at hD ⊢
  have hA : ∀ q : Nat, s.heap.size ≤ q → A q := fun q h => by rw [← hAe]; exact Or.inr h
  have hP : va_P (dC, dI) vwCl (mW ad kc x0 x1 x2 x3 x4 x5 x6 x7 x8 x9 x10 x11 x12 x13 x14 x15 x16 x17 x18 x19 x20 x21 f0 f1 f2 f3 f4 f5 f6 f7 f8 f9 f10 f11 f12 f13 f14 f15 f16 f17 f18 f19 f20 f21 fL fN fP fM fO) s.heap := hP
  have hD : va_D A (mW ad kc x0 x1 x2 x3 x4 x5 x6 x7 x8 x9 x10 x11 x12 x13 x14 x15 x16 x17 x18 x19 x20 x21 f0 f1 f2 f3 f4 f5 f6 f7 f8 f9 f10 f11 f12 f13 f14 f15 f16 f17 f18 f19 f20 f21 fL fN fP fM fO) := hD
  have hK : va_K (dC, dI) vwCl (mT kc) s := hK
  generalize hH : s.heap = H at hP ⊢
  have hS : va_S A s.heap H [] := by rw [← hH]; exact va_S.rf
  have hl := lv_entry ([.ref (ad 0), .int i1, .int i2, .int i3]) (n := 10) (Nat.le_of_ble_eq_true rfl)
  rw [lg_entry_eq]
  generalize (lg_sl ([.ref (ad 0), .int i1, .int i2, .int i3]) ++ List.replicate (10 - (lg_sl ([.ref (ad 0), .int i1, .int i2, .int i3])).length) Slot.unset).toArray = ls at hl ⊢
  have hl : lv_has ls 10 [(0, .ref (ad 0)), (1, .int i1), (2, .int i2), (3, .int i3)] := hl
  have rg_i1 := i_rng i1
  have rg_i2 := i_rng i2
  have rg_i3 := i_rng i3
  have htm := tm_branch (tm_sub d) q6
  have hps := tpos_branch (tpos_sub d) q6
  refine lv_iconst (v := 1) hx hb dX10_worksBranch_0 (by decide) ?_
  refine lv_istore (lv' := [(4, .int 1), (0, .ref (ad 0)), (1, .int i1), (2, .int i2), (3, .int i3)]) hx hb dX10_worksBranch_1 hl (by decide) rfl (fun ls hl => ?_)
  refine lv_aload_n hx hb dX10_worksBranch_3 rfl (lv_at hl 1 rfl) ?_
  have hFc := m_free hD hS hA
  refine va_calli (va_runV (As := []) (rest := []) ⟨hx, hb, hml, hown, hts⟩ (m_newSet l dC dI ad kc x0 x1 x2 x3 x4 x5 x6 x7 x8 x9 x10 x11 x12 x13 x14 x15 x16 x17 x18 x19 x20 x21 f0 f1 f2 f3 f4 f5 f6 f7 f8 f9 f10 f11 f12 f13 f14 f15 f16 f17 f18 f19 f20 f21 fL fN fP fM fO H.size (by first | omega | assumption | decide | (have l0 := Int32.toInt_zero; omega)) (by first | omega | assumption | decide | (have l0 := Int32.toInt_zero; omega))) (cwV 0 hts mg_X10_worksBranchg_X10_newSet_334 rfl rfl rfl (by decide +kernel) ⟨(show 0 + 1 ≤ 6 * d + 6 by omega), (show 8 + (1 + 11) + 0 ≤ 60 * (6 * d + 6) by omega)⟩) ⟨fun a U g mk q => by obtain ⟨q0, q1, qP, qK, qD⟩ := q; exact ⟨q0, q1, qP, va_K.moved (u := U) (U := U.calling g mk a) (Vm.Alike.refl U.vm) qK, qD⟩, va_recv hK hP (ci := 10) (q0 := 0) rfl rfl, fun U hU hW => ⟨rfl, by rw [hU], by rw [hU]; exact hP, va_K.moved hW.alike hK, hD.weaken (fun _ _ _ _ => trivial)⟩⟩ rfl rfl hl.1 rfl (lv_room (Nat.le_of_ble_eq_true rfl)) dX10_worksBranch_4 ⟨Nat.le_of_ble_eq_true rfl, Nat.le_of_ble_eq_true rfl⟩) hS (fun q _ h => hFc q h) hFc (fun r_1 u t H1 locs ht hvm hw hB hz1 hk1 hS => ?_)
  subst hw
  obtain ⟨x_2, f_3, hr_1_0, hr_1_1, hr_1_2, hP, hK1, hD1⟩ := hB
  rw [ht] at hP
  have hD := hD1.weaken (fun k q _ h => hFc q.1 h)
  clear hz1 hk1 hFc hD1 hK1 hvm
  generalize H1 = H at hP hS ⊢
  have rg_x_2 := i_rng x_2
  have rg_r_1 := i_rng r_1
  have hP : va_P (dC, dI) vwCl (mW ad kc x0 x1 x2 x3 x4 x5 x6 x7 x8 x9 x10 x11 x12 x13 x14 x15 x_2 x17 x18 x19 x20 x21 f0 f1 f2 f3 f4 f5 f6 f7 f8 f_3 f10 f11 f12 f13 f14 f15 f16 f17 f18 f19 f20 f21 fL fN fP fM fO) H := hP
  have hD : va_D A (mW ad kc x0 x1 x2 x3 x4 x5 x6 x7 x8 x9 x10 x11 x12 x13 x14 x15 x_2 x17 x18 x19 x20 x21 f0 f1 f2 f3 f4 f5 f6 f7 f8 f_3 f10 f11 f12 f13 f14 f15 f16 f17 f18 f19 f20 f21 fL fN fP fM fO) := hD
  refine lv_istore (lv' := [(5, .int r_1), (4, .int 1), (0, .ref (ad 0)), (1, .int i1), (2, .int i2), (3, .int i3)]) hx hb dX10_worksBranch_7 hl (by decide) rfl (fun ls hl => ?_)
  refine lv_aload_n hx hb dX10_worksBranch_9 rfl (lv_at hl 2 rfl) ?_
  have hFc := m_free hD hS hA
  refine va_calli (va_runV (As := []) (rest := []) ⟨hx, hb, hml, hown, hts⟩ (m_newSet l dC dI ad kc x0 x1 x2 x3 x4 x5 x6 x7 x8 x9 x10 x11 x12 x13 x14 x15 x_2 x17 x18 x19 x20 x21 f0 f1 f2 f3 f4 f5 f6 f7 f8 f_3 f10 f11 f12 f13 f14 f15 f16 f17 f18 f19 f20 f21 fL fN fP fM fO H.size (by first | omega | assumption | decide | (have l0 := Int32.toInt_zero; omega)) (by first | omega | assumption | decide | (have l0 := Int32.toInt_zero; omega))) (cwV 0 hts mg_X10_worksBranchg_X10_newSet_334 rfl rfl rfl (by decide +kernel) ⟨(show 0 + 1 ≤ 6 * d + 6 by omega), (show 8 + (1 + 11) + 0 ≤ 60 * (6 * d + 6) by omega)⟩) ⟨fun a U g mk q => by obtain ⟨q0, q1, qP, qK, qD⟩ := q; exact ⟨q0, q1, qP, va_K.moved (u := U) (U := U.calling g mk a) (Vm.Alike.refl U.vm) qK, qD⟩, va_recv hK hP (ci := 10) (q0 := 0) rfl rfl, fun U hU hW => ⟨rfl, by rw [hU], by rw [hU]; exact hP, va_K.moved hW.alike hK, hD.weaken (fun _ _ _ _ => trivial)⟩⟩ rfl rfl hl.1 rfl (lv_room (Nat.le_of_ble_eq_true rfl)) dX10_worksBranch_10 ⟨Nat.le_of_ble_eq_true rfl, Nat.le_of_ble_eq_true rfl⟩) hS (fun q _ h => hFc q h) hFc (fun r_4 u t H1 locs ht hvm hw hB hz1 hk1 hS => ?_)
  subst hw
  obtain ⟨x_5, f_6, hr_4_0, hr_4_1, hr_4_2, hP, hK1, hD1⟩ := hB
  rw [ht] at hP
  have hD := hD1.weaken (fun k q _ h => hFc q.1 h)
  clear hz1 hk1 hFc hD1 hK1 hvm
  generalize H1 = H at hP hS ⊢
  have rg_x_5 := i_rng x_5
  have rg_r_4 := i_rng r_4
  have hP : va_P (dC, dI) vwCl (mW ad kc x0 x1 x2 x3 x4 x5 x6 x7 x8 x9 x10 x11 x12 x13 x14 x15 x_5 x17 x18 x19 x20 x21 f0 f1 f2 f3 f4 f5 f6 f7 f8 f_6 f10 f11 f12 f13 f14 f15 f16 f17 f18 f19 f20 f21 fL fN fP fM fO) H := hP
  have hD : va_D A (mW ad kc x0 x1 x2 x3 x4 x5 x6 x7 x8 x9 x10 x11 x12 x13 x14 x15 x_5 x17 x18 x19 x20 x21 f0 f1 f2 f3 f4 f5 f6 f7 f8 f_6 f10 f11 f12 f13 f14 f15 f16 f17 f18 f19 f20 f21 fL fN fP fM fO) := hD
  refine lv_istore (lv' := [(6, .int r_4), (5, .int r_1), (4, .int 1), (0, .ref (ad 0)), (1, .int i1), (2, .int i2), (3, .int i3)]) hx hb dX10_worksBranch_13 hl (by decide) rfl (fun ls hl => ?_)
  refine lv_aload_n hx hb dX10_worksBranch_15 rfl (lv_at hl 3 rfl) ?_
  have hFc := m_free hD hS hA
  refine va_calli (va_runV (As := []) (rest := []) ⟨hx, hb, hml, hown, hts⟩ (m_newNeed l dC dI ad kc x0 x1 x2 x3 x4 x5 x6 x7 x8 x9 x10 x11 x12 x13 x14 x15 x_5 x17 x18 x19 x20 x21 f0 f1 f2 f3 f4 f5 f6 f7 f8 f_6 f10 f11 f12 f13 f14 f15 f16 f17 f18 f19 f20 f21 fL fN fP fM fO H.size (by first | omega | assumption | decide | (have l0 := Int32.toInt_zero; omega)) (by first | omega | assumption | decide | (have l0 := Int32.toInt_zero; omega))) (cwV 0 hts mg_X10_worksBranchg_X10_newNeed_337 rfl rfl rfl (by decide +kernel) ⟨(show 1 + 1 ≤ 6 * d + 6 by omega), (show 8 + (1 + 11) + 60 ≤ 60 * (6 * d + 6) by omega)⟩) ⟨fun a U g mk q => by obtain ⟨q0, q1, qP, qK, qD⟩ := q; exact ⟨q0, q1, qP, va_K.moved (u := U) (U := U.calling g mk a) (Vm.Alike.refl U.vm) qK, qD⟩, va_recv hK hP (ci := 10) (q0 := 0) rfl rfl, fun U hU hW => ⟨rfl, by rw [hU], by rw [hU]; exact hP, va_K.moved hW.alike hK, hD.weaken (fun _ _ _ _ => trivial)⟩⟩ rfl rfl hl.1 rfl (lv_room (Nat.le_of_ble_eq_true rfl)) dX10_worksBranch_16 ⟨Nat.le_of_ble_eq_true rfl, Nat.le_of_ble_eq_true rfl⟩) hS (fun q _ h => hFc q h) hFc (fun r_7 u t H1 locs ht hvm hw hB hz1 hk1 hS => ?_)
  subst hw
  obtain ⟨x_8, f_9, Nn_10, M_11, O_12, hr_7_0, hr_7_1, hr_7_2, hr_7_3, hr_7_4, hP, hK1, hD1⟩ := hB
  rw [ht] at hP
  have hD := hD1.weaken (fun k q _ h => hFc q.1 h)
  clear hz1 hk1 hFc hD1 hK1 hvm
  generalize H1 = H at hP hS ⊢
  have rg_x_8 := i_rng x_8
  have rg_r_7 := i_rng r_7
  have hP : va_P (dC, dI) vwCl (mW ad kc x0 x1 x2 x3 x4 x5 x6 x7 x8 x9 x10 x11 x12 x13 x14 x15 x_5 x_8 x18 x19 x20 x21 f0 f1 f2 f3 f4 f5 f6 f7 f8 f_6 f_9 f11 f12 f13 f14 f15 f16 f17 f18 f19 f20 f21 fL Nn_10 fP M_11 O_12) H := hP
  have hD : va_D A (mW ad kc x0 x1 x2 x3 x4 x5 x6 x7 x8 x9 x10 x11 x12 x13 x14 x15 x_5 x_8 x18 x19 x20 x21 f0 f1 f2 f3 f4 f5 f6 f7 f8 f_6 f_9 f11 f12 f13 f14 f15 f16 f17 f18 f19 f20 f21 fL Nn_10 fP M_11 O_12) := hD
  refine lv_istore (lv' := [(7, .int r_7), (6, .int r_4), (5, .int r_1), (4, .int 1), (0, .ref (ad 0)), (1, .int i1), (2, .int i2), (3, .int i3)]) hx hb dX10_worksBranch_19 hl (by decide) rfl (fun ls hl => ?_)
  refine lv_aload_n hx hb dX10_worksBranch_21 rfl (lv_at hl 4 rfl) ?_
  refine lv_iload_n hx hb dX10_worksBranch_22 rfl (lv_at hl 7 rfl) ?_
  have hFc := m_free hD hS hA
  refine va_callv (va_runV (As := [.int i3]) (rest := []) ⟨hx, hb, hml, hown, hts⟩ (m_oneEmpty l dC dI ad kc x0 x1 x2 x3 x4 x5 x6 x7 x8 x9 x10 x11 x12 x13 x14 x15 x_5 x_8 x18 x19 x20 x21 f0 f1 f2 f3 f4 f5 f6 f7 f8 f_6 f_9 f11 f12 f13 f14 f15 f16 f17 f18 f19 f20 f21 fL Nn_10 fP M_11 O_12 H.size i3 (by first | omega | assumption | decide | (have l0 := Int32.toInt_zero; omega)) (by first | omega | assumption | decide | (have l0 := Int32.toInt_zero; omega))) (cwV 1 hts mg_X10_worksBranchg_X10_oneEmpty_303 rfl rfl rfl (by decide +kernel) ⟨(show 0 + 1 ≤ 6 * d + 6 by omega), (show 8 + (2 + 11) + 0 ≤ 60 * (6 * d + 6) by omega)⟩) ⟨fun a U g mk q => by obtain ⟨q0, q1, qP, qK, qD⟩ := q; exact ⟨q0, q1, qP, va_K.moved (u := U) (U := U.calling g mk a) (Vm.Alike.refl U.vm) qK, qD⟩, va_recv hK hP (ci := 10) (q0 := 0) rfl rfl, fun U hU hW => ⟨rfl, by rw [hU], by rw [hU]; exact hP, va_K.moved hW.alike hK, hD.weaken (fun _ _ _ _ => trivial)⟩⟩ rfl rfl hl.1 rfl (lv_room (Nat.le_of_ble_eq_true rfl)) dX10_worksBranch_23 ⟨Nat.le_of_ble_eq_true rfl, Nat.le_of_ble_eq_true rfl⟩) hS (fun q _ h => hFc q h) hFc (fun u t H1 locs ht hvm hw hB hz1 hk1 hS => ?_)
  obtain ⟨f_14, Nn_15, M_16, O_17, hr_13_0, hr_13_1, hr_13_2, hP, hK1, hD1⟩ := hB
  rw [ht] at hP
  have hD := hD1.weaken (fun k q _ h => hFc q.1 h)
  clear hz1 hk1 hFc hD1 hK1 hvm
  generalize H1 = H at hP hS ⊢
  have hP : va_P (dC, dI) vwCl (mW ad kc x0 x1 x2 x3 x4 x5 x6 x7 x8 x9 x10 x11 x12 x13 x14 x15 x_5 x_8 x18 x19 x20 x21 f0 f1 f2 f3 f4 f5 f6 f7 f8 f_6 f_14 f11 f12 f13 f14 f15 f16 f17 f18 f19 f20 f21 fL Nn_15 fP M_16 O_17) H := hP
  have hD : va_D A (mW ad kc x0 x1 x2 x3 x4 x5 x6 x7 x8 x9 x10 x11 x12 x13 x14 x15 x_5 x_8 x18 x19 x20 x21 f0 f1 f2 f3 f4 f5 f6 f7 f8 f_6 f_14 f11 f12 f13 f14 f15 f16 f17 f18 f19 f20 f21 fL Nn_15 fP M_16 O_17) := hD
  refine lv_aload_n hx hb dX10_worksBranch_26 rfl (lv_at hl 4 rfl) ?_
  refine va_get (D := (dC, dI)) (ci := 10) (v := .ref (ad 10)) (C := RX10) (T := TX10) (N := 48) hx hb hts fin_X10_worksBranchg_X10 hown hK hP 0 rfl rfl 26 (by decide) (hts (.fieldLink RX10 51 "PatternGateModel" "rowMany" "[I") (List.mem_of_getElem? (i := 12) (by decide +kernel))) (fun _ h9 => h9) rfl dX10_worksBranch_27 ?_
  refine lv_iload_n hx hb dX10_worksBranch_30 rfl (lv_at hl 6 rfl) ?_
  refine lv_iconst (v := 0) hx hb dX10_worksBranch_31 (by decide) ?_
  refine va_iast hx hb hK hP hD hS 10 9 rfl rfl (i := i2) (vp_of (a := i2.toInt) rfl (by omega) (by omega)) dX10_worksBranch_32 (fun H locs hP hD hS => ?_)
  generalize hf_f_18 : upd f_6 _ _ = f_18 at hP hD
  have uf_18 := vI_up (a := i2.toInt) (b := 0) hf_f_18 (by first | omega | decide) (by omega) (by decide)
  have hP : va_P (dC, dI) vwCl (mW ad kc x0 x1 x2 x3 x4 x5 x6 x7 x8 x9 x10 x11 x12 x13 x14 x15 x_5 x_8 x18 x19 x20 x21 f0 f1 f2 f3 f4 f5 f6 f7 f8 f_18 f_14 f11 f12 f13 f14 f15 f16 f17 f18 f19 f20 f21 fL Nn_15 fP M_16 O_17) H := hP
  have hD : va_D A (mW ad kc x0 x1 x2 x3 x4 x5 x6 x7 x8 x9 x10 x11 x12 x13 x14 x15 x_5 x_8 x18 x19 x20 x21 f0 f1 f2 f3 f4 f5 f6 f7 f8 f_18 f_14 f11 f12 f13 f14 f15 f16 f17 f18 f19 f20 f21 fL Nn_15 fP M_16 O_17) := hD
  refine lv_aload_n hx hb dX10_worksBranch_33 rfl (lv_at hl 4 rfl) ?_
  refine lv_iload_n hx hb dX10_worksBranch_34 rfl (lv_at hl 6 rfl) ?_
  refine lv_lconst (v := 0) hx hb dX10_worksBranch_35 (by decide) ?_
  have hFc := m_free hD hS hA
  refine va_callv (va_runV (As := [.int i2, .long 0]) (rest := []) ⟨hx, hb, hml, hown, hts⟩ (m_addsRow l dC dI ad kc x0 x1 x2 x3 x4 x5 x6 x7 x8 x9 x10 x11 x12 x13 x14 x15 x_5 x_8 x18 x19 x20 x21 f0 f1 f2 f3 f4 f5 f6 f7 f8 f_18 f_14 f11 f12 f13 f14 f15 f16 f17 f18 f19 f20 f21 fL Nn_15 fP M_16 O_17 H.size i2 0 (by first | omega | assumption | decide | (have l0 := Int32.toInt_zero; omega)) (by first | omega | assumption | decide | (have l0 := Int32.toInt_zero; omega)) (by have h9 := uf_18.1; omega) (by have h9 := uf_18.1; omega)) (cwV 2 hts mg_X10_worksBranchg_X10_addsRow_285 rfl rfl rfl (by decide +kernel) ⟨(show 0 + 1 ≤ 6 * d + 6 by omega), (show 8 + (5 + 11) + 0 ≤ 60 * (6 * d + 6) by omega)⟩) ⟨fun a U g mk q => by obtain ⟨q0, q1, qP, qK, qD⟩ := q; exact ⟨q0, q1, qP, va_K.moved (u := U) (U := U.calling g mk a) (Vm.Alike.refl U.vm) qK, qD⟩, va_recv hK hP (ci := 10) (q0 := 0) rfl rfl, fun U hU hW => ⟨rfl, by rw [hU], by rw [hU]; exact hP, va_K.moved hW.alike hK, hD.weaken (fun _ _ _ _ => trivial)⟩⟩ rfl rfl hl.1 rfl (lv_room (Nat.le_of_ble_eq_true rfl)) dX10_worksBranch_36 ⟨Nat.le_of_ble_eq_true rfl, Nat.le_of_ble_eq_true rfl⟩) hS (fun q _ h => hFc q h) hFc (fun u t H1 locs ht hvm hw hB hz1 hk1 hS => ?_)
  obtain ⟨f_20, L_21, hr_19_0, hP, hK1, hD1⟩ := hB
  rw [ht] at hP
  have hD := hD1.weaken (fun k q _ h => hFc q.1 h)
  clear hz1 hk1 hFc hD1 hK1 hvm
  generalize H1 = H at hP hS ⊢
  have hP : va_P (dC, dI) vwCl (mW ad kc x0 x1 x2 x3 x4 x5 x6 x7 x8 x9 x10 x11 x12 x13 x14 x15 x_5 x_8 x18 x19 x20 x21 f0 f1 f2 f3 f4 f5 f6 f7 f8 f_20 f_14 f11 f12 f13 f14 f15 f16 f17 f18 f19 f20 f21 L_21 Nn_15 fP M_16 O_17) H := hP
  have hD : va_D A (mW ad kc x0 x1 x2 x3 x4 x5 x6 x7 x8 x9 x10 x11 x12 x13 x14 x15 x_5 x_8 x18 x19 x20 x21 f0 f1 f2 f3 f4 f5 f6 f7 f8 f_20 f_14 f11 f12 f13 f14 f15 f16 f17 f18 f19 f20 f21 L_21 Nn_15 fP M_16 O_17) := hD
  have hF0 : wF fL f9 f10 (rO fN fM fO) L_21 f_20 f_14 (rO Nn_15 M_16 O_17) i2.toInt i3.toInt x16.toInt x17.toInt := ((((wF.row (sFr.up hr_1_2) (Or.inl (by omega)) (by omega)).tr (wF.row (sFr.up hr_4_2) (Or.inl (by omega)) (by omega))).tr (wF.need hr_7_3 hr_7_4 (Or.inl (by omega)) (by omega) (by omega))).tr (wF.need hr_13_1 hr_13_2 (Or.inr rfl) (by omega) (by omega))).tr ((wF.row (sFr.up uf_18) (Or.inr rfl) (by omega)).tr (wF.row hr_19_0.fr (Or.inr rfl) (by omega)))
  have hH0 : brH L_21 f_20 f_14 (rO Nn_15 M_16 O_17) fP i2.toInt i3.toInt (1 : Int32).toInt 0 := ⟨0, 0, by omega, by omega, by omega, by omega, fun _ => by omega, ((sOK.zero (b := 0) uf_18.1 (Int.le_refl 0)).add hr_19_0 rLen_0 (by omega) (by omega)).mono (by omega) (by omega), hr_13_0⟩
  refine lv_aload_n hx hb dX10_worksBranch_39 rfl (lv_at hl 4 rfl) ?_
  refine va_get (D := (dC, dI)) (ci := 10) (v := .ref (ad 5)) (C := RX10) (T := TX10) (N := 48) hx hb hts fin_X10_worksBranchg_X10 hown hK hP 0 rfl rfl 16 (by decide) (hts (.fieldLink RX10 31 "PatternGateModel" "first" "[I") (List.mem_of_getElem? (i := 8) (by decide +kernel))) (fun _ h9 => h9) rfl dX10_worksBranch_40 ?_
  refine lv_iload_n hx hb dX10_worksBranch_43 rfl (lv_at hl 5 rfl) ?_
  refine va_iald hx hb hK hP 5 4 rfl rfl (i := i1) (vp_of (a := i1.toInt) rfl (by omega) (by omega)) dX10_worksBranch_44 ?_
  refine lv_topi (fun y_22 ey_22 => ?_)
  have rg_y_22 := i_rng y_22
  have vy_22 := vI_lda (f := f4) (i := i1) (a := i1.toInt) ey_22 (by first | omega | decide)
  have rg_y_22 := i_rng y_22
  have hT0 := ts_init (fun a b m => hm_item d (mV f3 f4 f5 f7) a b m) (hp_item (mV f3 f4 f5 f7) d) (by omega) ⟨q6.2.1, q6.2.2⟩
  refine lv_istore (lv' := [(8, .int y_22), (7, .int r_7), (6, .int r_4), (5, .int r_1), (4, .int 1), (0, .ref (ad 0)), (1, .int i1), (2, .int i2), (3, .int i3)]) hx hb dX10_worksBranch_45 hl (by decide) rfl (fun ls hl => ?_)
  have loop47 : ∀ (lm47 : Nat) (ex kk se nt mt : Int32) (le9 : Int) (ga gb gc : Nat → Int32) (la : Nat → Nat → Int64) (hn : Nat → Nat → Int32) (hm : Nat → Nat → Int32) (ho : Nat → Nat → Int32), (se.toInt = x16.toInt + 2) → (nt.toInt = x17.toInt + 1) → (ex.toInt = 0 ∨ ex.toInt = 1) → True → (wF fL f9 f10 (rO fN fM fO) la ga gb (rO hn hm ho) i2.toInt i3.toInt x16.toInt x17.toInt) → (brH la ga gb (rO hn hm ho) fP i2.toInt i3.toInt ex.toInt (m9 - le9)) → (tsI (mV f3 f4 f5 f7) (tItem (mV f3 f4 f5 f7) (tSub (mV f3 f4 f5 f7) d)) kk.toInt hi le9) → (0 ≤ le9 ∧ le9 ≤ m9) → le9.toNat < lm47 → ∀ (H : Heap) (locs : List Loc) (ls : Array Slot), va_P (dC, dI) vwCl (mW ad kc x0 x1 x2 x3 x4 x5 x6 x7 x8 x9 x10 x11 x12 x13 x14 x15 se nt mt x19 x20 x21 f0 f1 f2 f3 f4 f5 f6 f7 f8 ga gb gc f12 f13 f14 f15 f16 f17 f18 f19 f20 f21 la hn fP hm ho) H → va_D A (mW ad kc x0 x1 x2 x3 x4 x5 x6 x7 x8 x9 x10 x11 x12 x13 x14 x15 se nt mt x19 x20 x21 f0 f1 f2 f3 f4 f5 f6 f7 f8 ga gb gc f12 f13 f14 f15 f16 f17 f18 f19 f20 f21 la hn fP hm ho) → va_S A s.heap H locs → lv_has ls 10 [(8, .int kk), (7, .int r_7), (6, .int r_4), (5, .int r_1), (4, .int ex), (0, .ref (ad 0)), (1, .int i1), (2, .int i2), (3, .int i3)] → W p l e (headSpec mwg_X10_worksBranch ({ frames := (6 * d + 6), cells := 0, slots := 0, locals := 60 * (6 * d + 6) })).room s m ([.ref (ad 0), .int i1, .int i2, .int i3]).toArray below meth c H locs 0 0 (MQ below (va_Qi (fun (o9 u9 : Int32) => o9 = u9) (fun (o9 : Int32) t => ∃ (y16 y17 y18 : Int32) (g9 g10 g11 : Nat → Int32) (L9 : Nat → Nat → Int64) (Nn9 : Nat → Nat → Int32) (M9 : Nat → Nat → Int32) (O9 : Nat → Nat → Int32), (o9.toInt = 0 ∨ o9.toInt = 1) ∧ (y16.toInt = x16.toInt) ∧ (y17.toInt = x17.toInt) ∧ (wF fL f9 f10 (rO fN fM fO) L9 g9 g10 (rO Nn9 M9 O9) i2.toInt i3.toInt x16.toInt x17.toInt) ∧ (nOK (rO Nn9 M9 O9) fP g10 i3.toInt m9) ∧ (o9.toInt = 1 → sOK L9 g9 i2.toInt 6 m9) ∧ va_P (dC, dI) vwCl (mW ad kc x0 x1 x2 x3 x4 x5 x6 x7 x8 x9 x10 x11 x12 x13 x14 x15 y16 y17 y18 x19 x20 x21 f0 f1 f2 f3 f4 f5 f6 f7 f8 g9 g10 g11 f12 f13 f14 f15 f16 f17 f18 f19 f20 f21 L9 Nn9 fP M9 O9) t.heap ∧ va_K (dC, dI) vwCl (mT kc) t ∧ va_D A (mW ad kc x0 x1 x2 x3 x4 x5 x6 x7 x8 x9 x10 x11 x12 x13 x14 x15 y16 y17 y18 x19 x20 x21 f0 f1 f2 f3 f4 f5 f6 f7 f8 g9 g10 g11 f12 f13 f14 f15 f16 f17 f18 f19 f20 f21 L9 Nn9 fP M9 O9)) A) ([.ref (ad 0), .int i1, .int i2, .int i3]).toArray s 0 0 A) (F0 m 47 ls []) := by
    intro lm47
    induction lm47 with
    | zero => intro ex kk se nt mt le9 ga gb gc la hn hm ho v47_0 v47_1 v47_2 v47_3 v47_4 v47_5 v47_6 v47_7 hm47; exact absurd hm47 (Nat.not_lt_zero _)
    | succ lm47 ih47 =>
      intro ex kk se nt mt le9 ga gb gc la hn hm ho v47_0 v47_1 v47_2 v47_3 v47_4 v47_5 v47_6 v47_7 hm47 H locs ls hP hD hS hl
      have rg_ex := i_rng ex
      have rg_kk := i_rng kk
      have rg_se := i_rng se
      have rg_nt := i_rng nt
      have rg_mt := i_rng mt
      refine lv_iload hx hb dX10_worksBranch_47 (lv_at hl 0 rfl) ?_
      refine lv_iconst (v := (-1)) hx hb dX10_worksBranch_49 (by decide) ?_
      refine lv_icmp_eq (tgt := 199) hx hb dX10_worksBranch_50 (by decide) (fun k_23 => ?_) (fun k_23 => ?_)
      · have tk_23 := c_eq (a := kk.toInt) (b := (-1)) rfl (by decide) k_23
        have hX := ts_exit v47_6 tk_23
        obtain ⟨bR, bN, c1, c2, c3, c4, c5, c6, c7⟩ := v47_5
        refine lv_aload_n hx hb dX10_worksBranch_199 rfl (lv_at hl 5 rfl) ?_
        refine lv_iload_n hx hb dX10_worksBranch_200 rfl (lv_at hl 7 rfl) ?_
        refine lv_iload hx hb dX10_worksBranch_201 (lv_at hl 1 rfl) ?_
        obtain ⟨dd9, hd1, hd2, hd3⟩ : ∃ dd9 : Int, 0 ≤ dd9 ∧ bR ≤ dd9 + 2 ∧ bN + dd9 ≤ bN + bR - 2 + 2 ∧ (bR ≤ 2 → dd9 = 0) ∧ (2 ≤ bR → dd9 = bR - 2) := ⟨if bR ≤ 2 then 0 else bR - 2, by split <;> omega, by split <;> omega, by split <;> omega, by intro _; split <;> omega, by intro _; split <;> omega⟩
        have hFc := m_free hD hS hA
        refine va_callv (va_runV (As := [.int i2, .int r_7]) (rest := []) ⟨hx, hb, hml, hown, hts⟩ (m_ofRows l dC dI ad kc x0 x1 x2 x3 x4 x5 x6 x7 x8 x9 x10 x11 x12 x13 x14 x15 se nt mt x19 x20 x21 f0 f1 f2 f3 f4 f5 f6 f7 f8 ga gb gc f12 f13 f14 f15 f16 f17 f18 f19 f20 f21 la hn fP hm ho H.size i2 r_7 bR dd9 (by first | omega | assumption | decide | (have l0 := Int32.toInt_zero; omega)) (by first | omega | assumption | decide | (have l0 := Int32.toInt_zero; omega)) c6 (by first | omega | assumption | decide | (have l0 := Int32.toInt_zero; omega)) (by first | omega | assumption | decide | (have l0 := Int32.toInt_zero; omega))) (cwV 2 hts mg_X10_worksBranchg_X10_ofRows_340 rfl rfl rfl (by decide +kernel) ⟨(show 2 + 1 ≤ 6 * d + 6 by omega), (show 8 + (7 + 11) + 120 ≤ 60 * (6 * d + 6) by omega)⟩) ⟨fun a U g mk q => by obtain ⟨q0, q1, qP, qK, qD⟩ := q; exact ⟨q0, q1, qP, va_K.moved (u := U) (U := U.calling g mk a) (Vm.Alike.refl U.vm) qK, qD⟩, va_recv hK hP (ci := 10) (q0 := 0) rfl rfl, fun U hU hW => ⟨rfl, by rw [hU], by rw [hU]; exact hP, va_K.moved hW.alike hK, hD.weaken (fun _ _ _ _ => trivial)⟩⟩ rfl rfl hl.1 rfl (lv_room (Nat.le_of_ble_eq_true rfl)) dX10_worksBranch_203 ⟨Nat.le_of_ble_eq_true rfl, Nat.le_of_ble_eq_true rfl⟩) hS (fun q _ h => hFc q h) hFc (fun u t H1 locs ht hvm hw hB hz1 hk1 hS => ?_)
        obtain ⟨x_25, f_26, f_27, Nn_28, M_29, O_30, hr_24_0, hr_24_1, hr_24_2, hP, hK1, hD1⟩ := hB
        rw [ht] at hP
        have hD := hD1.weaken (fun k q _ h => hFc q.1 h)
        clear hz1 hk1 hFc hD1 hK1 hvm
        generalize H1 = H at hP hS ⊢
        have rg_x_25 := i_rng x_25
        have hP : va_P (dC, dI) vwCl (mW ad kc x0 x1 x2 x3 x4 x5 x6 x7 x8 x9 x10 x11 x12 x13 x14 x15 se nt x_25 x19 x20 x21 f0 f1 f2 f3 f4 f5 f6 f7 f8 ga f_27 f_26 f12 f13 f14 f15 f16 f17 f18 f19 f20 f21 la Nn_28 fP M_29 O_30) H := hP
        have hD : va_D A (mW ad kc x0 x1 x2 x3 x4 x5 x6 x7 x8 x9 x10 x11 x12 x13 x14 x15 se nt x_25 x19 x20 x21 f0 f1 f2 f3 f4 f5 f6 f7 f8 ga f_27 f_26 f12 f13 f14 f15 f16 f17 f18 f19 f20 f21 la Nn_28 fP M_29 O_30) := hD
        have c7 := c7.fr q5 hr_24_1 (hr_24_2 _ (by omega) (by omega)) (by omega) (by omega) (by omega) (by omega)
        refine lv_aload_n hx hb dX10_worksBranch_206 rfl (lv_at hl 5 rfl) ?_
        refine lv_iload_n hx hb dX10_worksBranch_207 rfl (lv_at hl 8 rfl) ?_
        refine lv_iload hx hb dX10_worksBranch_208 (lv_at hl 1 rfl) ?_
        have hFc := m_free hD hS hA
        refine va_callv (va_runV (As := [.int i3, .int r_7]) (rest := []) ⟨hx, hb, hml, hown, hts⟩ (m_both l dC dI ad kc x0 x1 x2 x3 x4 x5 x6 x7 x8 x9 x10 x11 x12 x13 x14 x15 se nt x_25 x19 x20 x21 f0 f1 f2 f3 f4 f5 f6 f7 f8 ga f_27 f_26 f12 f13 f14 f15 f16 f17 f18 f19 f20 f21 la Nn_28 fP M_29 O_30 H.size i3 r_7 bN dd9 (bN + dd9) (by first | omega | assumption | decide | (have l0 := Int32.toInt_zero; omega)) (by first | omega | assumption | decide | (have l0 := Int32.toInt_zero; omega)) (by first | omega | assumption | decide | (have l0 := Int32.toInt_zero; omega)) c7 hr_24_0 (by first | omega | assumption | decide | (have l0 := Int32.toInt_zero; omega)) (by first | omega | assumption | decide | (have l0 := Int32.toInt_zero; omega))) (cwV 2 hts mg_X10_worksBranchg_X10_both_343 rfl rfl rfl (by decide +kernel) ⟨(show 2 + 1 ≤ 6 * d + 6 by omega), (show 8 + (5 + 11) + 120 ≤ 60 * (6 * d + 6) by omega)⟩) ⟨fun a U g mk q => by obtain ⟨q0, q1, qP, qK, qD⟩ := q; exact ⟨q0, q1, qP, va_K.moved (u := U) (U := U.calling g mk a) (Vm.Alike.refl U.vm) qK, qD⟩, va_recv hK hP (ci := 10) (q0 := 0) rfl rfl, fun U hU hW => ⟨rfl, by rw [hU], by rw [hU]; exact hP, va_K.moved hW.alike hK, hD.weaken (fun _ _ _ _ => trivial)⟩⟩ rfl rfl hl.1 rfl (lv_room (Nat.le_of_ble_eq_true rfl)) dX10_worksBranch_210 ⟨Nat.le_of_ble_eq_true rfl, Nat.le_of_ble_eq_true rfl⟩) hS (fun q _ h => hFc q h) hFc (fun u t H1 locs ht hvm hw hB hz1 hk1 hS => ?_)
        obtain ⟨x_32, f_33, f_34, Nn_35, M_36, O_37, hr_31_0, hr_31_1, hr_31_2, hP, hK1, hD1⟩ := hB
        rw [ht] at hP
        have hD := hD1.weaken (fun k q _ h => hFc q.1 h)
        clear hz1 hk1 hFc hD1 hK1 hvm
        generalize H1 = H at hP hS ⊢
        have rg_x_32 := i_rng x_32
        have hP : va_P (dC, dI) vwCl (mW ad kc x0 x1 x2 x3 x4 x5 x6 x7 x8 x9 x10 x11 x12 x13 x14 x15 se nt x_32 x19 x20 x21 f0 f1 f2 f3 f4 f5 f6 f7 f8 ga f_34 f_33 f12 f13 f14 f15 f16 f17 f18 f19 f20 f21 la Nn_35 fP M_36 O_37) H := hP
        have hD : va_D A (mW ad kc x0 x1 x2 x3 x4 x5 x6 x7 x8 x9 x10 x11 x12 x13 x14 x15 se nt x_32 x19 x20 x21 f0 f1 f2 f3 f4 f5 f6 f7 f8 ga f_34 f_33 f12 f13 f14 f15 f16 f17 f18 f19 f20 f21 la Nn_35 fP M_36 O_37) := hD
        have c7 := hr_31_0
        have hF9 := (v47_4.tr (wF.need hr_24_1 hr_24_2 (Or.inl (by omega)) (by omega) (by omega))).tr (wF.need hr_31_1 hr_31_2 (Or.inr rfl) (by omega) (by omega))
        refine lv_aload_n hx hb dX10_worksBranch_213 rfl (lv_at hl 5 rfl) ?_
        refine lv_dup hx hb dX10_worksBranch_214 rfl ?_
        refine va_get (D := (dC, dI)) (ci := 10) (v := .int nt) (C := RX10) (T := TX10) (N := 48) hx hb hts fin_X10_worksBranchg_X10 hown hK hP 0 rfl rfl 31 (by decide) (hts (.fieldLink RX10 300 "PatternGateModel" "needTop" "I") (List.mem_of_getElem? (i := 7) (by decide +kernel))) (fun _ h9 => h9) rfl dX10_worksBranch_215 ?_
        refine lv_iconst (v := 1) hx hb dX10_worksBranch_218 (by decide) ?_
        refine lv_isub hx hb dX10_worksBranch_219 ?_
        refine lv_topi (fun y_38 ey_38 => ?_)
        first | have ty_38 := i_sub (a := nt.toInt) (b := 1) rfl (by decide) ey_38 (by omega) (by omega) | skip
        refine va_put (D := (dC, dI)) (ci := 10) (v := .int y_38) (ty := .int) (C := RX10) (T := TX10) (N := 48) hx hb hts fin_X10_worksBranchg_X10 tyX10 tyX10_ok nmX10 hown hK hP hD hS 0 rfl rfl 31 (by decide) (hts (.fieldLink RX10 300 "PatternGateModel" "needTop" "I") (List.mem_of_getElem? (i := 7) (by decide +kernel))) (fun _ h9 => h9) rfl (by decide +kernel) rfl rfl (Nat.le_of_ble_eq_true rfl) dX10_worksBranch_220 (fun H locs hP hD hS => ?_)
        have hP : va_P (dC, dI) vwCl (mW ad kc x0 x1 x2 x3 x4 x5 x6 x7 x8 x9 x10 x11 x12 x13 x14 x15 se y_38 x_32 x19 x20 x21 f0 f1 f2 f3 f4 f5 f6 f7 f8 ga f_34 f_33 f12 f13 f14 f15 f16 f17 f18 f19 f20 f21 la Nn_35 fP M_36 O_37) H := hP
        have hD : va_D A (mW ad kc x0 x1 x2 x3 x4 x5 x6 x7 x8 x9 x10 x11 x12 x13 x14 x15 se y_38 x_32 x19 x20 x21 f0 f1 f2 f3 f4 f5 f6 f7 f8 ga f_34 f_33 f12 f13 f14 f15 f16 f17 f18 f19 f20 f21 la Nn_35 fP M_36 O_37) := hD
        refine lv_aload_n hx hb dX10_worksBranch_223 rfl (lv_at hl 5 rfl) ?_
        refine lv_dup hx hb dX10_worksBranch_224 rfl ?_
        refine va_get (D := (dC, dI)) (ci := 10) (v := .int se) (C := RX10) (T := TX10) (N := 48) hx hb hts fin_X10_worksBranchg_X10 hown hK hP 0 rfl rfl 27 (by decide) (hts (.fieldLink RX10 274 "PatternGateModel" "sets" "I") (List.mem_of_getElem? (i := 5) (by decide +kernel))) (fun _ h9 => h9) rfl dX10_worksBranch_225 ?_
        refine lv_iconst (v := 2) hx hb dX10_worksBranch_228 (by decide) ?_
        refine lv_isub hx hb dX10_worksBranch_229 ?_
        refine lv_topi (fun y_39 ey_39 => ?_)
        first | have ty_39 := i_sub (a := se.toInt) (b := 2) rfl (by decide) ey_39 (by omega) (by omega) | skip
        refine va_put (D := (dC, dI)) (ci := 10) (v := .int y_39) (ty := .int) (C := RX10) (T := TX10) (N := 48) hx hb hts fin_X10_worksBranchg_X10 tyX10 tyX10_ok nmX10 hown hK hP hD hS 0 rfl rfl 27 (by decide) (hts (.fieldLink RX10 274 "PatternGateModel" "sets" "I") (List.mem_of_getElem? (i := 5) (by decide +kernel))) (fun _ h9 => h9) rfl (by decide +kernel) rfl rfl (Nat.le_of_ble_eq_true rfl) dX10_worksBranch_230 (fun H locs hP hD hS => ?_)
        have hP : va_P (dC, dI) vwCl (mW ad kc x0 x1 x2 x3 x4 x5 x6 x7 x8 x9 x10 x11 x12 x13 x14 x15 y_39 y_38 x_32 x19 x20 x21 f0 f1 f2 f3 f4 f5 f6 f7 f8 ga f_34 f_33 f12 f13 f14 f15 f16 f17 f18 f19 f20 f21 la Nn_35 fP M_36 O_37) H := hP
        have hD : va_D A (mW ad kc x0 x1 x2 x3 x4 x5 x6 x7 x8 x9 x10 x11 x12 x13 x14 x15 y_39 y_38 x_32 x19 x20 x21 f0 f1 f2 f3 f4 f5 f6 f7 f8 ga f_34 f_33 f12 f13 f14 f15 f16 f17 f18 f19 f20 f21 la Nn_35 fP M_36 O_37) := hD
        refine lv_iload hx hb dX10_worksBranch_233 (lv_at hl 4 rfl) ?_
        exact W.zret hx hb hr (z_nar (by first | assumption | decide | exact z_of (by omega))) (fun t ht hW => ⟨⟨_, _, rfl, rfl, y_39, y_38, x_32, ga, f_34, f_33, la, Nn_35, M_36, O_37, (by first | omega | assumption | rfl | decide), (by first | omega | assumption | rfl | decide), (by first | omega | assumption | rfl | decide), hF9, (c7.mono (by omega)), (fun h9 => c6.mono (by omega) (by have h8 := c5 h9; omega)), by rw [ht]; exact hP, va_K.moved hW.alike hK, hD⟩, hS.F ht⟩) hS.2.2 dX10_worksBranch_235
      · have tk_23 := c_ne (a := kk.toInt) (b := (-1)) rfl (by decide) k_23
        obtain ⟨h8, m8, hI8, hk0, hk1, hk2, hk3, hk4, hN8⟩ := ts_cont (fun a b m => hm_item d (mV f3 f4 f5 f7) a b m) (hp_item (mV f3 f4 f5 f7) d) v47_6 tk_23
        obtain ⟨bR, bN, c1, c2, c3, c4, c5, c6, c7⟩ := v47_5
        refine lv_aload_n hx hb dX10_worksBranch_53 rfl (lv_at hl 5 rfl) ?_
        have hFc := m_free hD hS hA
        refine va_calli (va_runV (As := []) (rest := []) ⟨hx, hb, hml, hown, hts⟩ (m_newNeed l dC dI ad kc x0 x1 x2 x3 x4 x5 x6 x7 x8 x9 x10 x11 x12 x13 x14 x15 se nt mt x19 x20 x21 f0 f1 f2 f3 f4 f5 f6 f7 f8 ga gb gc f12 f13 f14 f15 f16 f17 f18 f19 f20 f21 la hn fP hm ho H.size (by first | omega | assumption | decide | (have l0 := Int32.toInt_zero; omega)) (by first | omega | assumption | decide | (have l0 := Int32.toInt_zero; omega))) (cwV 0 hts mg_X10_worksBranchg_X10_newNeed_337 rfl rfl rfl (by decide +kernel) ⟨(show 1 + 1 ≤ 6 * d + 6 by omega), (show 8 + (1 + 11) + 60 ≤ 60 * (6 * d + 6) by omega)⟩) ⟨fun a U g mk q => by obtain ⟨q0, q1, qP, qK, qD⟩ := q; exact ⟨q0, q1, qP, va_K.moved (u := U) (U := U.calling g mk a) (Vm.Alike.refl U.vm) qK, qD⟩, va_recv hK hP (ci := 10) (q0 := 0) rfl rfl, fun U hU hW => ⟨rfl, by rw [hU], by rw [hU]; exact hP, va_K.moved hW.alike hK, hD.weaken (fun _ _ _ _ => trivial)⟩⟩ rfl rfl hl.1 rfl (lv_room (Nat.le_of_ble_eq_true rfl)) dX10_worksBranch_54 ⟨Nat.le_of_ble_eq_true rfl, Nat.le_of_ble_eq_true rfl⟩) hS (fun q _ h => hFc q h) hFc (fun r_40 u t H1 locs ht hvm hw hB hz1 hk1 hS => ?_)
        subst hw
        obtain ⟨x_41, f_42, Nn_43, M_44, O_45, hr_40_0, hr_40_1, hr_40_2, hr_40_3, hr_40_4, hP, hK1, hD1⟩ := hB
        rw [ht] at hP
        have hD := hD1.weaken (fun k q _ h => hFc q.1 h)
        clear hz1 hk1 hFc hD1 hK1 hvm
        generalize H1 = H at hP hS ⊢
        have rg_x_41 := i_rng x_41
        have rg_r_40 := i_rng r_40
        have hP : va_P (dC, dI) vwCl (mW ad kc x0 x1 x2 x3 x4 x5 x6 x7 x8 x9 x10 x11 x12 x13 x14 x15 se x_41 mt x19 x20 x21 f0 f1 f2 f3 f4 f5 f6 f7 f8 ga f_42 gc f12 f13 f14 f15 f16 f17 f18 f19 f20 f21 la Nn_43 fP M_44 O_45) H := hP
        have hD : va_D A (mW ad kc x0 x1 x2 x3 x4 x5 x6 x7 x8 x9 x10 x11 x12 x13 x14 x15 se x_41 mt x19 x20 x21 f0 f1 f2 f3 f4 f5 f6 f7 f8 ga f_42 gc f12 f13 f14 f15 f16 f17 f18 f19 f20 f21 la Nn_43 fP M_44 O_45) := hD
        have c7 := c7.fr q5 hr_40_3 (hr_40_4 _ (by omega) (by omega)) (by omega) (by omega) (by omega) (by omega)
        refine lv_istore (lv' := [(9, .int r_40), (8, .int kk), (7, .int r_7), (6, .int r_4), (5, .int r_1), (4, .int ex), (0, .ref (ad 0)), (1, .int i1), (2, .int i2), (3, .int i3)]) hx hb dX10_worksBranch_57 hl (by decide) rfl (fun ls hl => ?_)
        refine lv_aload_n hx hb dX10_worksBranch_59 rfl (lv_at hl 6 rfl) ?_
        refine lv_iload hx hb dX10_worksBranch_60 (lv_at hl 1 rfl) ?_
        refine lv_iload hx hb dX10_worksBranch_62 (lv_at hl 4 rfl) ?_
        refine lv_iload hx hb dX10_worksBranch_64 (lv_at hl 0 rfl) ?_
        have hFc := m_free hD hS hA
        refine va_calli (va_runV (As := [.int kk, .int r_1, .int r_40]) (rest := []) ⟨hx, hb, hml, hown, hts⟩ (hrec ad kc x0 x1 x2 x3 x4 x5 x6 x7 x8 x9 x10 x11 x12 x13 x14 x15 se x_41 mt x19 x20 x21 f0 f1 f2 f3 f4 f5 f6 f7 f8 ga f_42 gc f12 f13 f14 f15 f16 f17 f18 f19 f20 f21 la Nn_43 fP M_44 O_45 H.size kk r_1 r_40 h8 m8 (by first | omega | assumption | decide | (have l0 := Int32.toInt_zero; omega)) (by first | omega | assumption | decide | (have l0 := Int32.toInt_zero; omega)) (by first | omega | assumption | decide | (have l0 := Int32.toInt_zero; omega)) (by first | omega | assumption | decide | (have l0 := Int32.toInt_zero; omega)) (by first | omega | assumption | decide | (have l0 := Int32.toInt_zero; omega)) (by first | omega | assumption | decide | (have l0 := Int32.toInt_zero; omega)) (by first | omega | assumption | decide | (have l0 := Int32.toInt_zero; omega)) (by first | omega | assumption | decide | (have l0 := Int32.toInt_zero; omega)) (by first | omega | assumption | decide | (have l0 := Int32.toInt_zero; omega))) (cwV 3 hts mg_X10_worksBranchg_X10_worksOut_331 rfl rfl rfl (by decide +kernel) ⟨(show (6 * d + 5) + 1 ≤ 6 * d + 6 by omega), (show 8 + (4 + 11) + 60 * (6 * d + 5) ≤ 60 * (6 * d + 6) by omega)⟩) ⟨fun a U g mk q => by obtain ⟨q0, q1, qP, qK, qD⟩ := q; exact ⟨q0, q1, qP, va_K.moved (u := U) (U := U.calling g mk a) (Vm.Alike.refl U.vm) qK, qD⟩, va_recv hK hP (ci := 10) (q0 := 0) rfl rfl, fun U hU hW => ⟨rfl, by rw [hU], by rw [hU]; exact hP, va_K.moved hW.alike hK, hD.weaken (fun _ _ _ _ => trivial)⟩⟩ rfl rfl hl.1 rfl (lv_room (Nat.le_of_ble_eq_true rfl)) dX10_worksBranch_66 ⟨Nat.le_of_ble_eq_true rfl, Nat.le_of_ble_eq_true rfl⟩) hS (fun q _ h => hFc q h) hFc (fun r_46 u t H1 locs ht hvm hw hB hz1 hk1 hS => ?_)
        subst hw
        obtain ⟨x_47, x_48, x_49, f_50, f_51, f_52, L_53, Nn_54, M_55, O_56, hr_46_0, hr_46_1, hr_46_2, hr_46_3, hr_46_4, hr_46_5, hP, hK1, hD1⟩ := hB
        rw [ht] at hP
        have hD := hD1.weaken (fun k q _ h => hFc q.1 h)
        clear hz1 hk1 hFc hD1 hK1 hvm
        generalize H1 = H at hP hS ⊢
        have rg_x_47 := i_rng x_47
        have rg_x_48 := i_rng x_48
        have rg_x_49 := i_rng x_49
        have rg_r_46 := i_rng r_46
        have hP : va_P (dC, dI) vwCl (mW ad kc x0 x1 x2 x3 x4 x5 x6 x7 x8 x9 x10 x11 x12 x13 x14 x15 x_47 x_48 x_49 x19 x20 x21 f0 f1 f2 f3 f4 f5 f6 f7 f8 f_50 f_51 f_52 f12 f13 f14 f15 f16 f17 f18 f19 f20 f21 L_53 Nn_54 fP M_55 O_56) H := hP
        have hD : va_D A (mW ad kc x0 x1 x2 x3 x4 x5 x6 x7 x8 x9 x10 x11 x12 x13 x14 x15 x_47 x_48 x_49 x19 x20 x21 f0 f1 f2 f3 f4 f5 f6 f7 f8 f_50 f_51 f_52 f12 f13 f14 f15 f16 f17 f18 f19 f20 f21 L_53 Nn_54 fP M_55 O_56) := hD
        have c6 := c6.wf hr_46_3 (by omega) (by omega) (by omega)
        have c7 := c7.wf q5 hr_46_3 (by omega) (by omega) (by omega) (by omega) (by omega)
        have hF1 := (v47_4.tr (wF.need hr_40_3 hr_40_4 (Or.inl (by omega)) (by omega) (by omega))).tr (hr_46_3.out (s := i2.toInt) (n := i3.toInt) (S := x16.toInt) (N := x17.toInt) (Or.inl (by omega)) (Or.inl (by omega)) (by omega) (by omega) (by omega))
        have hI4 := hr_46_4
        refine lv_if_ne (tgt := 112) hx hb dX10_worksBranch_69 (by decide) (fun k_57 => ?_) (fun k_57 => ?_)
        · have tk_57 := c_ne (a := r_46.toInt) (b := 0) rfl (by decide) k_57
          refine lv_aload_n hx hb dX10_worksBranch_112 rfl (lv_at hl 6 rfl) ?_
          refine lv_iload_n hx hb dX10_worksBranch_113 rfl (lv_at hl 8 rfl) ?_
          refine lv_iload hx hb dX10_worksBranch_114 (lv_at hl 4 rfl) ?_
          refine lv_iload hx hb dX10_worksBranch_116 (lv_at hl 3 rfl) ?_
          refine lv_iconst (v := 0) hx hb dX10_worksBranch_118 (by decide) ?_
          have lit_57 : (0 : Int32).toInt = 0 := by decide
          have hOw := hr_46_5 (by omega)
          have hFc := m_free hD hS hA
          refine va_calli (va_runV (As := [.int i2, .int r_1, .int r_4, .int 0]) (rest := []) ⟨hx, hb, hml, hown, hts⟩ (m_crosses l dC dI ad kc x0 x1 x2 x3 x4 x5 x6 x7 x8 x9 x10 x11 x12 x13 x14 x15 x_47 x_48 x_49 x19 x20 x21 f0 f1 f2 f3 f4 f5 f6 f7 f8 f_50 f_51 f_52 f12 f13 f14 f15 f16 f17 f18 f19 f20 f21 L_53 Nn_54 fP M_55 O_56 H.size i2 r_1 r_4 0 bR m8 (bR + m8) (by first | omega | assumption | decide | (have l0 := Int32.toInt_zero; omega)) (by first | omega | assumption | decide | (have l0 := Int32.toInt_zero; omega)) (by first | omega | assumption | decide | (have l0 := Int32.toInt_zero; omega)) (by first | omega | assumption | decide | (have l0 := Int32.toInt_zero; omega)) (by first | omega | assumption | decide | (have l0 := Int32.toInt_zero; omega)) (Or.inl (by decide)) c6 hOw (fun _ => by omega) (fun h9 => absurd h9 (by decide))) (cwV 4 hts mg_X10_worksBranchg_X10_crosses_346 rfl rfl rfl (by decide +kernel) ⟨(show 3 + 1 ≤ 6 * d + 6 by omega), (show 8 + (10 + 11) + 180 ≤ 60 * (6 * d + 6) by omega)⟩) ⟨fun a U g mk q => by obtain ⟨q0, q1, qP, qK, qD⟩ := q; exact ⟨q0, q1, qP, va_K.moved (u := U) (U := U.calling g mk a) (Vm.Alike.refl U.vm) qK, qD⟩, va_recv hK hP (ci := 10) (q0 := 0) rfl rfl, fun U hU hW => ⟨rfl, by rw [hU], by rw [hU]; exact hP, va_K.moved hW.alike hK, hD.weaken (fun _ _ _ _ => trivial)⟩⟩ rfl rfl hl.1 rfl (lv_room (Nat.le_of_ble_eq_true rfl)) dX10_worksBranch_119 ⟨Nat.le_of_ble_eq_true rfl, Nat.le_of_ble_eq_true rfl⟩) hS (fun q _ h => hFc q h) hFc (fun r_59 u t H1 locs ht hvm hw hB hz1 hk1 hS => ?_)
          subst hw
          obtain ⟨f_60, L_61, hr_59_0, hr_59_1, hr_59_2, hr_59_3, hP, hK1, hD1⟩ := hB
          rw [ht] at hP
          have hD := hD1.weaken (fun k q _ h => hFc q.1 h)
          clear hz1 hk1 hFc hD1 hK1 hvm
          generalize H1 = H at hP hS ⊢
          have rg_r_59 := i_rng r_59
          have hP : va_P (dC, dI) vwCl (mW ad kc x0 x1 x2 x3 x4 x5 x6 x7 x8 x9 x10 x11 x12 x13 x14 x15 x_47 x_48 x_49 x19 x20 x21 f0 f1 f2 f3 f4 f5 f6 f7 f8 f_60 f_51 f_52 f12 f13 f14 f15 f16 f17 f18 f19 f20 f21 L_61 Nn_54 fP M_55 O_56) H := hP
          have hD : va_D A (mW ad kc x0 x1 x2 x3 x4 x5 x6 x7 x8 x9 x10 x11 x12 x13 x14 x15 x_47 x_48 x_49 x19 x20 x21 f0 f1 f2 f3 f4 f5 f6 f7 f8 f_60 f_51 f_52 f12 f13 f14 f15 f16 f17 f18 f19 f20 f21 L_61 Nn_54 fP M_55 O_56) := hD
          have c6 := hr_59_1.ok (by omega) (by omega) (by omega) c6
          have hOw := hr_59_1.ok (by omega) (by omega) (by omega) hOw
          have hF3 := hF1.tr (wF.row hr_59_1 (Or.inl (by omega)) (by omega))
          refine lv_if_eq (tgt := 135) hx hb dX10_worksBranch_122 (by decide) (fun k_62 => ?_) (fun k_62 => ?_)
          · have tk_62 := c_eq (a := r_59.toInt) (b := 0) rfl (by decide) k_62
            refine lv_iconst (v := 0) hx hb dX10_worksBranch_135 (by decide) ?_
            refine lv_istore (lv' := [(4, .int 0), (9, .int r_40), (8, .int kk), (7, .int r_7), (6, .int r_4), (5, .int r_1), (0, .ref (ad 0)), (1, .int i1), (2, .int i2), (3, .int i3)]) hx hb dX10_worksBranch_136 hl (by decide) rfl (fun ls hl => ?_)
            refine lv_aload_n hx hb dX10_worksBranch_138 rfl (lv_at hl 6 rfl) ?_
            refine lv_iload_n hx hb dX10_worksBranch_139 rfl (lv_at hl 8 rfl) ?_
            refine lv_iload hx hb dX10_worksBranch_140 (lv_at hl 3 rfl) ?_
            obtain ⟨dd9, hd1, hd2, hd3⟩ : ∃ dd9 : Int, 0 ≤ dd9 ∧ bR ≤ dd9 + 2 ∧ bN + dd9 ≤ bN + bR - 2 + 2 ∧ (bR ≤ 2 → dd9 = 0) ∧ (2 ≤ bR → dd9 = bR - 2) := ⟨if bR ≤ 2 then 0 else bR - 2, by split <;> omega, by split <;> omega, by split <;> omega, by intro _; split <;> omega, by intro _; split <;> omega⟩
            have hFc := m_free hD hS hA
            refine va_callv (va_runV (As := [.int i2, .int r_7]) (rest := []) ⟨hx, hb, hml, hown, hts⟩ (m_ofRows l dC dI ad kc x0 x1 x2 x3 x4 x5 x6 x7 x8 x9 x10 x11 x12 x13 x14 x15 x_47 x_48 x_49 x19 x20 x21 f0 f1 f2 f3 f4 f5 f6 f7 f8 f_60 f_51 f_52 f12 f13 f14 f15 f16 f17 f18 f19 f20 f21 L_61 Nn_54 fP M_55 O_56 H.size i2 r_7 bR dd9 (by first | omega | assumption | decide | (have l0 := Int32.toInt_zero; omega)) (by first | omega | assumption | decide | (have l0 := Int32.toInt_zero; omega)) c6 (by first | omega | assumption | decide | (have l0 := Int32.toInt_zero; omega)) (by first | omega | assumption | decide | (have l0 := Int32.toInt_zero; omega))) (cwV 2 hts mg_X10_worksBranchg_X10_ofRows_340 rfl rfl rfl (by decide +kernel) ⟨(show 2 + 1 ≤ 6 * d + 6 by omega), (show 8 + (7 + 11) + 120 ≤ 60 * (6 * d + 6) by omega)⟩) ⟨fun a U g mk q => by obtain ⟨q0, q1, qP, qK, qD⟩ := q; exact ⟨q0, q1, qP, va_K.moved (u := U) (U := U.calling g mk a) (Vm.Alike.refl U.vm) qK, qD⟩, va_recv hK hP (ci := 10) (q0 := 0) rfl rfl, fun U hU hW => ⟨rfl, by rw [hU], by rw [hU]; exact hP, va_K.moved hW.alike hK, hD.weaken (fun _ _ _ _ => trivial)⟩⟩ rfl rfl hl.1 rfl (lv_room (Nat.le_of_ble_eq_true rfl)) dX10_worksBranch_142 ⟨Nat.le_of_ble_eq_true rfl, Nat.le_of_ble_eq_true rfl⟩) hS (fun q _ h => hFc q h) hFc (fun u t H1 locs ht hvm hw hB hz1 hk1 hS => ?_)
            obtain ⟨x_64, f_65, f_66, Nn_67, M_68, O_69, hr_63_0, hr_63_1, hr_63_2, hP, hK1, hD1⟩ := hB
            rw [ht] at hP
            have hD := hD1.weaken (fun k q _ h => hFc q.1 h)
            clear hz1 hk1 hFc hD1 hK1 hvm
            generalize H1 = H at hP hS ⊢
            have rg_x_64 := i_rng x_64
            have hP : va_P (dC, dI) vwCl (mW ad kc x0 x1 x2 x3 x4 x5 x6 x7 x8 x9 x10 x11 x12 x13 x14 x15 x_47 x_48 x_64 x19 x20 x21 f0 f1 f2 f3 f4 f5 f6 f7 f8 f_60 f_66 f_65 f12 f13 f14 f15 f16 f17 f18 f19 f20 f21 L_61 Nn_67 fP M_68 O_69) H := hP
            have hD : va_D A (mW ad kc x0 x1 x2 x3 x4 x5 x6 x7 x8 x9 x10 x11 x12 x13 x14 x15 x_47 x_48 x_64 x19 x20 x21 f0 f1 f2 f3 f4 f5 f6 f7 f8 f_60 f_66 f_65 f12 f13 f14 f15 f16 f17 f18 f19 f20 f21 L_61 Nn_67 fP M_68 O_69) := hD
            have c7 := c7.fr q5 hr_63_1 (hr_63_2 _ (by omega) (by omega)) (by omega) (by omega) (by omega) (by omega)
            refine lv_aload_n hx hb dX10_worksBranch_145 rfl (lv_at hl 6 rfl) ?_
            refine lv_iload_n hx hb dX10_worksBranch_146 rfl (lv_at hl 9 rfl) ?_
            refine lv_iload hx hb dX10_worksBranch_147 (lv_at hl 3 rfl) ?_
            have hFc := m_free hD hS hA
            refine va_callv (va_runV (As := [.int i3, .int r_7]) (rest := []) ⟨hx, hb, hml, hown, hts⟩ (m_both l dC dI ad kc x0 x1 x2 x3 x4 x5 x6 x7 x8 x9 x10 x11 x12 x13 x14 x15 x_47 x_48 x_64 x19 x20 x21 f0 f1 f2 f3 f4 f5 f6 f7 f8 f_60 f_66 f_65 f12 f13 f14 f15 f16 f17 f18 f19 f20 f21 L_61 Nn_67 fP M_68 O_69 H.size i3 r_7 bN dd9 (bN + dd9) (by first | omega | assumption | decide | (have l0 := Int32.toInt_zero; omega)) (by first | omega | assumption | decide | (have l0 := Int32.toInt_zero; omega)) (by first | omega | assumption | decide | (have l0 := Int32.toInt_zero; omega)) c7 hr_63_0 (by first | omega | assumption | decide | (have l0 := Int32.toInt_zero; omega)) (by first | omega | assumption | decide | (have l0 := Int32.toInt_zero; omega))) (cwV 2 hts mg_X10_worksBranchg_X10_both_343 rfl rfl rfl (by decide +kernel) ⟨(show 2 + 1 ≤ 6 * d + 6 by omega), (show 8 + (5 + 11) + 120 ≤ 60 * (6 * d + 6) by omega)⟩) ⟨fun a U g mk q => by obtain ⟨q0, q1, qP, qK, qD⟩ := q; exact ⟨q0, q1, qP, va_K.moved (u := U) (U := U.calling g mk a) (Vm.Alike.refl U.vm) qK, qD⟩, va_recv hK hP (ci := 10) (q0 := 0) rfl rfl, fun U hU hW => ⟨rfl, by rw [hU], by rw [hU]; exact hP, va_K.moved hW.alike hK, hD.weaken (fun _ _ _ _ => trivial)⟩⟩ rfl rfl hl.1 rfl (lv_room (Nat.le_of_ble_eq_true rfl)) dX10_worksBranch_149 ⟨Nat.le_of_ble_eq_true rfl, Nat.le_of_ble_eq_true rfl⟩) hS (fun q _ h => hFc q h) hFc (fun u t H1 locs ht hvm hw hB hz1 hk1 hS => ?_)
            obtain ⟨x_71, f_72, f_73, Nn_74, M_75, O_76, hr_70_0, hr_70_1, hr_70_2, hP, hK1, hD1⟩ := hB
            rw [ht] at hP
            have hD := hD1.weaken (fun k q _ h => hFc q.1 h)
            clear hz1 hk1 hFc hD1 hK1 hvm
            generalize H1 = H at hP hS ⊢
            have rg_x_71 := i_rng x_71
            have hP : va_P (dC, dI) vwCl (mW ad kc x0 x1 x2 x3 x4 x5 x6 x7 x8 x9 x10 x11 x12 x13 x14 x15 x_47 x_48 x_71 x19 x20 x21 f0 f1 f2 f3 f4 f5 f6 f7 f8 f_60 f_73 f_72 f12 f13 f14 f15 f16 f17 f18 f19 f20 f21 L_61 Nn_74 fP M_75 O_76) H := hP
            have hD : va_D A (mW ad kc x0 x1 x2 x3 x4 x5 x6 x7 x8 x9 x10 x11 x12 x13 x14 x15 x_47 x_48 x_71 x19 x20 x21 f0 f1 f2 f3 f4 f5 f6 f7 f8 f_60 f_73 f_72 f12 f13 f14 f15 f16 f17 f18 f19 f20 f21 L_61 Nn_74 fP M_75 O_76) := hD
            have c7 := hr_70_0
            have hF4 := (hF3.tr (wF.need hr_63_1 hr_63_2 (Or.inl (by omega)) (by omega) (by omega))).tr (wF.need hr_70_1 hr_70_2 (Or.inr rfl) (by omega) (by omega))
            refine lv_aload_n hx hb dX10_worksBranch_152 rfl (lv_at hl 6 rfl) ?_
            refine lv_aload_n hx hb dX10_worksBranch_153 rfl (lv_at hl 6 rfl) ?_
            refine lv_iload_n hx hb dX10_worksBranch_154 rfl (lv_at hl 8 rfl) ?_
            refine lv_iload hx hb dX10_worksBranch_155 (lv_at hl 5 rfl) ?_
            refine lv_iload hx hb dX10_worksBranch_157 (lv_at hl 4 rfl) ?_
            refine lv_iconst (v := 1) hx hb dX10_worksBranch_159 (by decide) ?_
            have lit_76 : (1 : Int32).toInt = 1 := by decide
            have hFc := m_free hD hS hA
            refine va_calli (va_runV (As := [.int i2, .int r_1, .int r_4, .int 1]) (rest := [.ref (ad 0)]) ⟨hx, hb, hml, hown, hts⟩ (m_crosses l dC dI ad kc x0 x1 x2 x3 x4 x5 x6 x7 x8 x9 x10 x11 x12 x13 x14 x15 x_47 x_48 x_71 x19 x20 x21 f0 f1 f2 f3 f4 f5 f6 f7 f8 f_60 f_73 f_72 f12 f13 f14 f15 f16 f17 f18 f19 f20 f21 L_61 Nn_74 fP M_75 O_76 H.size i2 r_1 r_4 1 bR m8 (2 + m8) (by first | omega | assumption | decide | (have l0 := Int32.toInt_zero; omega)) (by first | omega | assumption | decide | (have l0 := Int32.toInt_zero; omega)) (by first | omega | assumption | decide | (have l0 := Int32.toInt_zero; omega)) (by first | omega | assumption | decide | (have l0 := Int32.toInt_zero; omega)) (by first | omega | assumption | decide | (have l0 := Int32.toInt_zero; omega)) (Or.inr (by decide)) c6 hOw (fun h9 => absurd h9 (by decide)) (fun _ => by omega)) (cwV 4 hts mg_X10_worksBranchg_X10_crosses_346 rfl rfl rfl (by decide +kernel) ⟨(show 3 + 1 ≤ 6 * d + 6 by omega), (show 8 + (10 + 11) + 180 ≤ 60 * (6 * d + 6) by omega)⟩) ⟨fun a U g mk q => by obtain ⟨q0, q1, qP, qK, qD⟩ := q; exact ⟨q0, q1, qP, va_K.moved (u := U) (U := U.calling g mk a) (Vm.Alike.refl U.vm) qK, qD⟩, va_recv hK hP (ci := 10) (q0 := 0) rfl rfl, fun U hU hW => ⟨rfl, by rw [hU], by rw [hU]; exact hP, va_K.moved hW.alike hK, hD.weaken (fun _ _ _ _ => trivial)⟩⟩ rfl rfl hl.1 rfl (lv_room (Nat.le_of_ble_eq_true rfl)) dX10_worksBranch_160 ⟨Nat.le_of_ble_eq_true rfl, Nat.le_of_ble_eq_true rfl⟩) hS (fun q _ h => hFc q h) hFc (fun r_78 u t H1 locs ht hvm hw hB hz1 hk1 hS => ?_)
            subst hw
            obtain ⟨f_79, L_80, hr_78_0, hr_78_1, hr_78_2, hr_78_3, hP, hK1, hD1⟩ := hB
            rw [ht] at hP
            have hD := hD1.weaken (fun k q _ h => hFc q.1 h)
            clear hz1 hk1 hFc hD1 hK1 hvm
            generalize H1 = H at hP hS ⊢
            have rg_r_78 := i_rng r_78
            have hP : va_P (dC, dI) vwCl (mW ad kc x0 x1 x2 x3 x4 x5 x6 x7 x8 x9 x10 x11 x12 x13 x14 x15 x_47 x_48 x_71 x19 x20 x21 f0 f1 f2 f3 f4 f5 f6 f7 f8 f_79 f_73 f_72 f12 f13 f14 f15 f16 f17 f18 f19 f20 f21 L_80 Nn_74 fP M_75 O_76) H := hP
            have hD : va_D A (mW ad kc x0 x1 x2 x3 x4 x5 x6 x7 x8 x9 x10 x11 x12 x13 x14 x15 x_47 x_48 x_71 x19 x20 x21 f0 f1 f2 f3 f4 f5 f6 f7 f8 f_79 f_73 f_72 f12 f13 f14 f15 f16 f17 f18 f19 f20 f21 L_80 Nn_74 fP M_75 O_76) := hD
            have hOw := hr_78_1.ok (by omega) (by omega) (by omega) hOw
            have hF5 := hF4.tr (wF.row hr_78_1 (Or.inl (by omega)) (by omega))
            refine lv_if_eq (tgt := 171) hx hb dX10_worksBranch_163 (by decide) (fun k_81 => ?_) (fun k_81 => ?_)
            · have tk_81 := c_eq (a := r_78.toInt) (b := 0) rfl (by decide) k_81
              refine lv_iload hx hb dX10_worksBranch_171 (lv_at hl 5 rfl) ?_
              refine lv_iload_n hx hb dX10_worksBranch_173 rfl (lv_at hl 8 rfl) ?_
              have hC4 := hOw.mono (Int.le_refl 6) (show m8 ≤ 2 + m8 by omega)
              have hC5 := hC4.1
              have hC6 := hC4.2.1
              have hFc := m_free hD hS hA
              refine va_callv (va_runV (As := [.int r_1, .int i2]) (rest := []) ⟨hx, hb, hml, hown, hts⟩ (m_copiesSet l dC dI ad kc x0 x1 x2 x3 x4 x5 x6 x7 x8 x9 x10 x11 x12 x13 x14 x15 x_47 x_48 x_71 x19 x20 x21 f0 f1 f2 f3 f4 f5 f6 f7 f8 f_79 f_73 f_72 f12 f13 f14 f15 f16 f17 f18 f19 f20 f21 L_80 Nn_74 fP M_75 O_76 H.size r_1 i2 (by first | omega | assumption | decide | (have l0 := Int32.toInt_zero; omega)) (by first | omega | assumption | decide | (have l0 := Int32.toInt_zero; omega)) (by first | omega | assumption | decide | (have l0 := Int32.toInt_zero; omega)) (by first | omega | assumption | decide | (have l0 := Int32.toInt_zero; omega)) (by first | omega | assumption | decide | (have l0 := Int32.toInt_zero; omega)) (by first | omega | assumption | decide | (have l0 := Int32.toInt_zero; omega)) (by first | omega | assumption | decide | (have l0 := Int32.toInt_zero; omega))) (cwV 2 hts mg_X10_worksBranchg_X10_copiesSet_350 rfl rfl rfl (by decide +kernel) ⟨(show 0 + 1 ≤ 6 * d + 6 by omega), (show 8 + (4 + 11) + 0 ≤ 60 * (6 * d + 6) by omega)⟩) ⟨fun a U g mk q => by obtain ⟨q0, q1, qP, qK, qD⟩ := q; exact ⟨q0, q1, qP, va_K.moved (u := U) (U := U.calling g mk a) (Vm.Alike.refl U.vm) qK, qD⟩, va_recv hK hP (ci := 10) (q0 := 0) rfl rfl, fun U hU hW => ⟨rfl, by rw [hU], by rw [hU]; exact hP, va_K.moved hW.alike hK, hD.weaken (fun _ _ _ _ => trivial)⟩⟩ rfl rfl hl.1 rfl (lv_room (Nat.le_of_ble_eq_true rfl)) dX10_worksBranch_174 ⟨Nat.le_of_ble_eq_true rfl, Nat.le_of_ble_eq_true rfl⟩) hS (fun q _ h => hFc q h) hFc (fun u t H1 locs ht hvm hw hB hz1 hk1 hS => ?_)
              obtain ⟨f_83, L_84, hr_82_0, hP, hK1, hD1⟩ := hB
              rw [ht] at hP
              have hD := hD1.weaken (fun k q _ h => hFc q.1 h)
              clear hz1 hk1 hFc hD1 hK1 hvm
              generalize H1 = H at hP hS ⊢
              have hP : va_P (dC, dI) vwCl (mW ad kc x0 x1 x2 x3 x4 x5 x6 x7 x8 x9 x10 x11 x12 x13 x14 x15 x_47 x_48 x_71 x19 x20 x21 f0 f1 f2 f3 f4 f5 f6 f7 f8 f_83 f_73 f_72 f12 f13 f14 f15 f16 f17 f18 f19 f20 f21 L_84 Nn_74 fP M_75 O_76) H := hP
              have hD : va_D A (mW ad kc x0 x1 x2 x3 x4 x5 x6 x7 x8 x9 x10 x11 x12 x13 x14 x15 x_47 x_48 x_71 x19 x20 x21 f0 f1 f2 f3 f4 f5 f6 f7 f8 f_83 f_73 f_72 f12 f13 f14 f15 f16 f17 f18 f19 f20 f21 L_84 Nn_74 fP M_75 O_76) := hD
              have hF2 := hF5.tr (wF.row hr_82_0.fr (Or.inr rfl) (by omega))
              have hH2 : brH L_84 f_83 f_73 (rO Nn_74 M_75 O_76) fP i2.toInt i3.toInt (0 : Int32).toInt (m9 - le9 + m8) := ⟨2 + m8, bN + dd9, by omega, by omega, by omega, by omega, fun h9 => absurd h9 (by decide), hC4.copy hr_82_0, c7⟩
              refine lv_aload_n hx hb dX10_worksBranch_177 rfl (lv_at hl 6 rfl) ?_
              refine lv_dup hx hb dX10_worksBranch_178 rfl ?_
              refine va_get (D := (dC, dI)) (ci := 10) (v := .int x_48) (C := RX10) (T := TX10) (N := 48) hx hb hts fin_X10_worksBranchg_X10 hown hK hP 0 rfl rfl 31 (by decide) (hts (.fieldLink RX10 300 "PatternGateModel" "needTop" "I") (List.mem_of_getElem? (i := 7) (by decide +kernel))) (fun _ h9 => h9) rfl dX10_worksBranch_179 ?_
              refine lv_iconst (v := 1) hx hb dX10_worksBranch_182 (by decide) ?_
              refine lv_isub hx hb dX10_worksBranch_183 ?_
              refine lv_topi (fun y_85 ey_85 => ?_)
              first | have ty_85 := i_sub (a := x_48.toInt) (b := 1) rfl (by decide) ey_85 (by omega) (by omega) | skip
              refine va_put (D := (dC, dI)) (ci := 10) (v := .int y_85) (ty := .int) (C := RX10) (T := TX10) (N := 48) hx hb hts fin_X10_worksBranchg_X10 tyX10 tyX10_ok nmX10 hown hK hP hD hS 0 rfl rfl 31 (by decide) (hts (.fieldLink RX10 300 "PatternGateModel" "needTop" "I") (List.mem_of_getElem? (i := 7) (by decide +kernel))) (fun _ h9 => h9) rfl (by decide +kernel) rfl rfl (Nat.le_of_ble_eq_true rfl) dX10_worksBranch_184 (fun H locs hP hD hS => ?_)
              have hP : va_P (dC, dI) vwCl (mW ad kc x0 x1 x2 x3 x4 x5 x6 x7 x8 x9 x10 x11 x12 x13 x14 x15 x_47 y_85 x_71 x19 x20 x21 f0 f1 f2 f3 f4 f5 f6 f7 f8 f_83 f_73 f_72 f12 f13 f14 f15 f16 f17 f18 f19 f20 f21 L_84 Nn_74 fP M_75 O_76) H := hP
              have hD : va_D A (mW ad kc x0 x1 x2 x3 x4 x5 x6 x7 x8 x9 x10 x11 x12 x13 x14 x15 x_47 y_85 x_71 x19 x20 x21 f0 f1 f2 f3 f4 f5 f6 f7 f8 f_83 f_73 f_72 f12 f13 f14 f15 f16 f17 f18 f19 f20 f21 L_84 Nn_74 fP M_75 O_76) := hD
              refine lv_aload_n hx hb dX10_worksBranch_187 rfl (lv_at hl 6 rfl) ?_
              refine va_get (D := (dC, dI)) (ci := 10) (v := .ref (ad 6)) (C := RX10) (T := TX10) (N := 48) hx hb hts fin_X10_worksBranchg_X10 hown hK hP 0 rfl rfl 17 (by decide) (hts (.fieldLink RX10 34 "PatternGateModel" "next" "[I") (List.mem_of_getElem? (i := 9) (by decide +kernel))) (fun _ h9 => h9) rfl dX10_worksBranch_188 ?_
              refine lv_iload hx hb dX10_worksBranch_191 (lv_at hl 2 rfl) ?_
              refine va_iald hx hb hK hP 6 5 rfl rfl (i := kk) (vp_of (a := kk.toInt) rfl (by omega) (by omega)) dX10_worksBranch_193 ?_
              refine lv_topi (fun y_86 ey_86 => ?_)
              have rg_y_86 := i_rng y_86
              have vy_86 := vI_lda (f := f5) (i := kk) (a := kk.toInt) ey_86 (by first | omega | decide)
              have rg_y_86 := i_rng y_86
              refine lv_istore (lv' := [(8, .int y_86), (4, .int 0), (9, .int r_40), (7, .int r_7), (6, .int r_4), (5, .int r_1), (0, .ref (ad 0)), (1, .int i1), (2, .int i2), (3, .int i3)]) hx hb dX10_worksBranch_194 hl (by decide) rfl (fun ls hl => ?_)
              refine lv_goto (tgt := 47) hx hb dX10_worksBranch_196 (by decide) ?_
              have lit_86 : (0 : Int32).toInt = 0 := by decide
              exact ih47 0 y_86 x_47 y_85 x_71 (le9 - m8) f_83 f_73 f_72 L_84 Nn_74 M_75 O_76 (by first | omega | assumption | decide) (by first | omega | assumption | decide) (by first | omega | assumption | decide) (by first | omega | assumption | decide) hF2 (by rw [show m9 - (le9 - m8) = m9 - le9 + m8 by omega]; exact hH2) (by rw [show y_86.toInt = mV f3 f4 f5 f7 2 kk.toInt from vy_86]; exact hN8) (by first | omega | assumption | decide) (by omega) _ _ ls hP hD hS (lv_sub hl [0, 3, 4, 5, 1, 6, 7, 8, 9] rfl)
            · have tk_81 := c_ne (a := r_78.toInt) (b := 0) rfl (by decide) k_81
              refine lv_iload hx hb dX10_worksBranch_166 (lv_at hl 4 rfl) ?_
              refine lv_goto (tgt := 173) hx hb dX10_worksBranch_168 (by decide) ?_
              refine lv_iload_n hx hb dX10_worksBranch_173 rfl (lv_at hl 8 rfl) ?_
              have hC4 : sOK L_80 f_79 r_4.toInt 6 (2 + m8) := ⟨hr_78_2.1, hr_78_3 (by omega), hr_78_2.2.2⟩
              have hC5 := hC4.1
              have hC6 := hC4.2.1
              have hFc := m_free hD hS hA
              refine va_callv (va_runV (As := [.int r_4, .int i2]) (rest := []) ⟨hx, hb, hml, hown, hts⟩ (m_copiesSet l dC dI ad kc x0 x1 x2 x3 x4 x5 x6 x7 x8 x9 x10 x11 x12 x13 x14 x15 x_47 x_48 x_71 x19 x20 x21 f0 f1 f2 f3 f4 f5 f6 f7 f8 f_79 f_73 f_72 f12 f13 f14 f15 f16 f17 f18 f19 f20 f21 L_80 Nn_74 fP M_75 O_76 H.size r_4 i2 (by first | omega | assumption | decide | (have l0 := Int32.toInt_zero; omega)) (by first | omega | assumption | decide | (have l0 := Int32.toInt_zero; omega)) (by first | omega | assumption | decide | (have l0 := Int32.toInt_zero; omega)) (by first | omega | assumption | decide | (have l0 := Int32.toInt_zero; omega)) (by first | omega | assumption | decide | (have l0 := Int32.toInt_zero; omega)) (by first | omega | assumption | decide | (have l0 := Int32.toInt_zero; omega)) (by first | omega | assumption | decide | (have l0 := Int32.toInt_zero; omega))) (cwV 2 hts mg_X10_worksBranchg_X10_copiesSet_350 rfl rfl rfl (by decide +kernel) ⟨(show 0 + 1 ≤ 6 * d + 6 by omega), (show 8 + (4 + 11) + 0 ≤ 60 * (6 * d + 6) by omega)⟩) ⟨fun a U g mk q => by obtain ⟨q0, q1, qP, qK, qD⟩ := q; exact ⟨q0, q1, qP, va_K.moved (u := U) (U := U.calling g mk a) (Vm.Alike.refl U.vm) qK, qD⟩, va_recv hK hP (ci := 10) (q0 := 0) rfl rfl, fun U hU hW => ⟨rfl, by rw [hU], by rw [hU]; exact hP, va_K.moved hW.alike hK, hD.weaken (fun _ _ _ _ => trivial)⟩⟩ rfl rfl hl.1 rfl (lv_room (Nat.le_of_ble_eq_true rfl)) dX10_worksBranch_174 ⟨Nat.le_of_ble_eq_true rfl, Nat.le_of_ble_eq_true rfl⟩) hS (fun q _ h => hFc q h) hFc (fun u t H1 locs ht hvm hw hB hz1 hk1 hS => ?_)
              obtain ⟨f_89, L_90, hr_88_0, hP, hK1, hD1⟩ := hB
              rw [ht] at hP
              have hD := hD1.weaken (fun k q _ h => hFc q.1 h)
              clear hz1 hk1 hFc hD1 hK1 hvm
              generalize H1 = H at hP hS ⊢
              have hP : va_P (dC, dI) vwCl (mW ad kc x0 x1 x2 x3 x4 x5 x6 x7 x8 x9 x10 x11 x12 x13 x14 x15 x_47 x_48 x_71 x19 x20 x21 f0 f1 f2 f3 f4 f5 f6 f7 f8 f_89 f_73 f_72 f12 f13 f14 f15 f16 f17 f18 f19 f20 f21 L_90 Nn_74 fP M_75 O_76) H := hP
              have hD : va_D A (mW ad kc x0 x1 x2 x3 x4 x5 x6 x7 x8 x9 x10 x11 x12 x13 x14 x15 x_47 x_48 x_71 x19 x20 x21 f0 f1 f2 f3 f4 f5 f6 f7 f8 f_89 f_73 f_72 f12 f13 f14 f15 f16 f17 f18 f19 f20 f21 L_90 Nn_74 fP M_75 O_76) := hD
              have hF2 := hF5.tr (wF.row hr_88_0.fr (Or.inr rfl) (by omega))
              have hH2 : brH L_90 f_89 f_73 (rO Nn_74 M_75 O_76) fP i2.toInt i3.toInt (0 : Int32).toInt (m9 - le9 + m8) := ⟨2 + m8, bN + dd9, by omega, by omega, by omega, by omega, fun h9 => absurd h9 (by decide), hC4.copy hr_88_0, c7⟩
              refine lv_aload_n hx hb dX10_worksBranch_177 rfl (lv_at hl 6 rfl) ?_
              refine lv_dup hx hb dX10_worksBranch_178 rfl ?_
              refine va_get (D := (dC, dI)) (ci := 10) (v := .int x_48) (C := RX10) (T := TX10) (N := 48) hx hb hts fin_X10_worksBranchg_X10 hown hK hP 0 rfl rfl 31 (by decide) (hts (.fieldLink RX10 300 "PatternGateModel" "needTop" "I") (List.mem_of_getElem? (i := 7) (by decide +kernel))) (fun _ h9 => h9) rfl dX10_worksBranch_179 ?_
              refine lv_iconst (v := 1) hx hb dX10_worksBranch_182 (by decide) ?_
              refine lv_isub hx hb dX10_worksBranch_183 ?_
              refine lv_topi (fun y_91 ey_91 => ?_)
              first | have ty_91 := i_sub (a := x_48.toInt) (b := 1) rfl (by decide) ey_91 (by omega) (by omega) | skip
              refine va_put (D := (dC, dI)) (ci := 10) (v := .int y_91) (ty := .int) (C := RX10) (T := TX10) (N := 48) hx hb hts fin_X10_worksBranchg_X10 tyX10 tyX10_ok nmX10 hown hK hP hD hS 0 rfl rfl 31 (by decide) (hts (.fieldLink RX10 300 "PatternGateModel" "needTop" "I") (List.mem_of_getElem? (i := 7) (by decide +kernel))) (fun _ h9 => h9) rfl (by decide +kernel) rfl rfl (Nat.le_of_ble_eq_true rfl) dX10_worksBranch_184 (fun H locs hP hD hS => ?_)
              have hP : va_P (dC, dI) vwCl (mW ad kc x0 x1 x2 x3 x4 x5 x6 x7 x8 x9 x10 x11 x12 x13 x14 x15 x_47 y_91 x_71 x19 x20 x21 f0 f1 f2 f3 f4 f5 f6 f7 f8 f_89 f_73 f_72 f12 f13 f14 f15 f16 f17 f18 f19 f20 f21 L_90 Nn_74 fP M_75 O_76) H := hP
              have hD : va_D A (mW ad kc x0 x1 x2 x3 x4 x5 x6 x7 x8 x9 x10 x11 x12 x13 x14 x15 x_47 y_91 x_71 x19 x20 x21 f0 f1 f2 f3 f4 f5 f6 f7 f8 f_89 f_73 f_72 f12 f13 f14 f15 f16 f17 f18 f19 f20 f21 L_90 Nn_74 fP M_75 O_76) := hD
              refine lv_aload_n hx hb dX10_worksBranch_187 rfl (lv_at hl 6 rfl) ?_
              refine va_get (D := (dC, dI)) (ci := 10) (v := .ref (ad 6)) (C := RX10) (T := TX10) (N := 48) hx hb hts fin_X10_worksBranchg_X10 hown hK hP 0 rfl rfl 17 (by decide) (hts (.fieldLink RX10 34 "PatternGateModel" "next" "[I") (List.mem_of_getElem? (i := 9) (by decide +kernel))) (fun _ h9 => h9) rfl dX10_worksBranch_188 ?_
              refine lv_iload hx hb dX10_worksBranch_191 (lv_at hl 2 rfl) ?_
              refine va_iald hx hb hK hP 6 5 rfl rfl (i := kk) (vp_of (a := kk.toInt) rfl (by omega) (by omega)) dX10_worksBranch_193 ?_
              refine lv_topi (fun y_92 ey_92 => ?_)
              have rg_y_92 := i_rng y_92
              have vy_92 := vI_lda (f := f5) (i := kk) (a := kk.toInt) ey_92 (by first | omega | decide)
              have rg_y_92 := i_rng y_92
              refine lv_istore (lv' := [(8, .int y_92), (4, .int 0), (9, .int r_40), (7, .int r_7), (6, .int r_4), (5, .int r_1), (0, .ref (ad 0)), (1, .int i1), (2, .int i2), (3, .int i3)]) hx hb dX10_worksBranch_194 hl (by decide) rfl (fun ls hl => ?_)
              refine lv_goto (tgt := 47) hx hb dX10_worksBranch_196 (by decide) ?_
              have lit_92 : (0 : Int32).toInt = 0 := by decide
              exact ih47 0 y_92 x_47 y_91 x_71 (le9 - m8) f_89 f_73 f_72 L_90 Nn_74 M_75 O_76 (by first | omega | assumption | decide) (by first | omega | assumption | decide) (by first | omega | assumption | decide) (by first | omega | assumption | decide) hF2 (by rw [show m9 - (le9 - m8) = m9 - le9 + m8 by omega]; exact hH2) (by rw [show y_92.toInt = mV f3 f4 f5 f7 2 kk.toInt from vy_92]; exact hN8) (by first | omega | assumption | decide) (by omega) _ _ ls hP hD hS (lv_sub hl [0, 3, 4, 5, 1, 6, 7, 8, 9] rfl)
          · have tk_62 := c_ne (a := r_59.toInt) (b := 0) rfl (by decide) k_62
            refine lv_aload_n hx hb dX10_worksBranch_125 rfl (lv_at hl 6 rfl) ?_
            refine lv_iload hx hb dX10_worksBranch_126 (lv_at hl 3 rfl) ?_
            refine lv_iload_n hx hb dX10_worksBranch_128 rfl (lv_at hl 8 rfl) ?_
            have hC6 := hr_59_3 (by omega)
            have hC5 := hr_59_2.1
            have hFc := m_free hD hS hA
            refine va_callv (va_runV (As := [.int r_4, .int i2]) (rest := []) ⟨hx, hb, hml, hown, hts⟩ (m_copiesSet l dC dI ad kc x0 x1 x2 x3 x4 x5 x6 x7 x8 x9 x10 x11 x12 x13 x14 x15 x_47 x_48 x_49 x19 x20 x21 f0 f1 f2 f3 f4 f5 f6 f7 f8 f_60 f_51 f_52 f12 f13 f14 f15 f16 f17 f18 f19 f20 f21 L_61 Nn_54 fP M_55 O_56 H.size r_4 i2 (by first | omega | assumption | decide | (have l0 := Int32.toInt_zero; omega)) (by first | omega | assumption | decide | (have l0 := Int32.toInt_zero; omega)) (by first | omega | assumption | decide | (have l0 := Int32.toInt_zero; omega)) (by first | omega | assumption | decide | (have l0 := Int32.toInt_zero; omega)) (by first | omega | assumption | decide | (have l0 := Int32.toInt_zero; omega)) (by first | omega | assumption | decide | (have l0 := Int32.toInt_zero; omega)) (by first | omega | assumption | decide | (have l0 := Int32.toInt_zero; omega))) (cwV 2 hts mg_X10_worksBranchg_X10_copiesSet_350 rfl rfl rfl (by decide +kernel) ⟨(show 0 + 1 ≤ 6 * d + 6 by omega), (show 8 + (4 + 11) + 0 ≤ 60 * (6 * d + 6) by omega)⟩) ⟨fun a U g mk q => by obtain ⟨q0, q1, qP, qK, qD⟩ := q; exact ⟨q0, q1, qP, va_K.moved (u := U) (U := U.calling g mk a) (Vm.Alike.refl U.vm) qK, qD⟩, va_recv hK hP (ci := 10) (q0 := 0) rfl rfl, fun U hU hW => ⟨rfl, by rw [hU], by rw [hU]; exact hP, va_K.moved hW.alike hK, hD.weaken (fun _ _ _ _ => trivial)⟩⟩ rfl rfl hl.1 rfl (lv_room (Nat.le_of_ble_eq_true rfl)) dX10_worksBranch_129 ⟨Nat.le_of_ble_eq_true rfl, Nat.le_of_ble_eq_true rfl⟩) hS (fun q _ h => hFc q h) hFc (fun u t H1 locs ht hvm hw hB hz1 hk1 hS => ?_)
            obtain ⟨f_95, L_96, hr_94_0, hP, hK1, hD1⟩ := hB
            rw [ht] at hP
            have hD := hD1.weaken (fun k q _ h => hFc q.1 h)
            clear hz1 hk1 hFc hD1 hK1 hvm
            generalize H1 = H at hP hS ⊢
            have hP : va_P (dC, dI) vwCl (mW ad kc x0 x1 x2 x3 x4 x5 x6 x7 x8 x9 x10 x11 x12 x13 x14 x15 x_47 x_48 x_49 x19 x20 x21 f0 f1 f2 f3 f4 f5 f6 f7 f8 f_95 f_51 f_52 f12 f13 f14 f15 f16 f17 f18 f19 f20 f21 L_96 Nn_54 fP M_55 O_56) H := hP
            have hD : va_D A (mW ad kc x0 x1 x2 x3 x4 x5 x6 x7 x8 x9 x10 x11 x12 x13 x14 x15 x_47 x_48 x_49 x19 x20 x21 f0 f1 f2 f3 f4 f5 f6 f7 f8 f_95 f_51 f_52 f12 f13 f14 f15 f16 f17 f18 f19 f20 f21 L_96 Nn_54 fP M_55 O_56) := hD
            have hF2 := hF3.tr (wF.row hr_94_0.fr (Or.inr rfl) (by omega))
            have hC4 : sOK L_61 f_60 r_4.toInt 6 (bR + m8) := ⟨hr_59_2.1, hC6, hr_59_2.2.2⟩
            have hH2 : brH L_96 f_95 f_51 (rO Nn_54 M_55 O_56) fP i2.toInt i3.toInt ex.toInt (m9 - le9 + m8) := ⟨bR + m8, bN, by omega, by omega, by omega, by omega, fun h9 => by have h7 := c5 h9; omega, hC4.copy hr_94_0, c7⟩
            refine lv_goto (tgt := 177) hx hb dX10_worksBranch_132 (by decide) ?_
            refine lv_aload_n hx hb dX10_worksBranch_177 rfl (lv_at hl 6 rfl) ?_
            refine lv_dup hx hb dX10_worksBranch_178 rfl ?_
            refine va_get (D := (dC, dI)) (ci := 10) (v := .int x_48) (C := RX10) (T := TX10) (N := 48) hx hb hts fin_X10_worksBranchg_X10 hown hK hP 0 rfl rfl 31 (by decide) (hts (.fieldLink RX10 300 "PatternGateModel" "needTop" "I") (List.mem_of_getElem? (i := 7) (by decide +kernel))) (fun _ h9 => h9) rfl dX10_worksBranch_179 ?_
            refine lv_iconst (v := 1) hx hb dX10_worksBranch_182 (by decide) ?_
            refine lv_isub hx hb dX10_worksBranch_183 ?_
            refine lv_topi (fun y_97 ey_97 => ?_)
            first | have ty_97 := i_sub (a := x_48.toInt) (b := 1) rfl (by decide) ey_97 (by omega) (by omega) | skip
            refine va_put (D := (dC, dI)) (ci := 10) (v := .int y_97) (ty := .int) (C := RX10) (T := TX10) (N := 48) hx hb hts fin_X10_worksBranchg_X10 tyX10 tyX10_ok nmX10 hown hK hP hD hS 0 rfl rfl 31 (by decide) (hts (.fieldLink RX10 300 "PatternGateModel" "needTop" "I") (List.mem_of_getElem? (i := 7) (by decide +kernel))) (fun _ h9 => h9) rfl (by decide +kernel) rfl rfl (Nat.le_of_ble_eq_true rfl) dX10_worksBranch_184 (fun H locs hP hD hS => ?_)
            have hP : va_P (dC, dI) vwCl (mW ad kc x0 x1 x2 x3 x4 x5 x6 x7 x8 x9 x10 x11 x12 x13 x14 x15 x_47 y_97 x_49 x19 x20 x21 f0 f1 f2 f3 f4 f5 f6 f7 f8 f_95 f_51 f_52 f12 f13 f14 f15 f16 f17 f18 f19 f20 f21 L_96 Nn_54 fP M_55 O_56) H := hP
            have hD : va_D A (mW ad kc x0 x1 x2 x3 x4 x5 x6 x7 x8 x9 x10 x11 x12 x13 x14 x15 x_47 y_97 x_49 x19 x20 x21 f0 f1 f2 f3 f4 f5 f6 f7 f8 f_95 f_51 f_52 f12 f13 f14 f15 f16 f17 f18 f19 f20 f21 L_96 Nn_54 fP M_55 O_56) := hD
            refine lv_aload_n hx hb dX10_worksBranch_187 rfl (lv_at hl 6 rfl) ?_
            refine va_get (D := (dC, dI)) (ci := 10) (v := .ref (ad 6)) (C := RX10) (T := TX10) (N := 48) hx hb hts fin_X10_worksBranchg_X10 hown hK hP 0 rfl rfl 17 (by decide) (hts (.fieldLink RX10 34 "PatternGateModel" "next" "[I") (List.mem_of_getElem? (i := 9) (by decide +kernel))) (fun _ h9 => h9) rfl dX10_worksBranch_188 ?_
            refine lv_iload hx hb dX10_worksBranch_191 (lv_at hl 1 rfl) ?_
            refine va_iald hx hb hK hP 6 5 rfl rfl (i := kk) (vp_of (a := kk.toInt) rfl (by omega) (by omega)) dX10_worksBranch_193 ?_
            refine lv_topi (fun y_98 ey_98 => ?_)
            have rg_y_98 := i_rng y_98
            have vy_98 := vI_lda (f := f5) (i := kk) (a := kk.toInt) ey_98 (by first | omega | decide)
            have rg_y_98 := i_rng y_98
            refine lv_istore (lv' := [(8, .int y_98), (9, .int r_40), (7, .int r_7), (6, .int r_4), (5, .int r_1), (4, .int ex), (0, .ref (ad 0)), (1, .int i1), (2, .int i2), (3, .int i3)]) hx hb dX10_worksBranch_194 hl (by decide) rfl (fun ls hl => ?_)
            refine lv_goto (tgt := 47) hx hb dX10_worksBranch_196 (by decide) ?_
            exact ih47 ex y_98 x_47 y_97 x_49 (le9 - m8) f_95 f_51 f_52 L_96 Nn_54 M_55 O_56 (by first | omega | assumption | decide) (by first | omega | assumption | decide) (by first | omega | assumption | decide) (by first | omega | assumption | decide) hF2 (by rw [show m9 - (le9 - m8) = m9 - le9 + m8 by omega]; exact hH2) (by rw [show y_98.toInt = mV f3 f4 f5 f7 2 kk.toInt from vy_98]; exact hN8) (by first | omega | assumption | decide) (by omega) _ _ ls hP hD hS (lv_sub hl [0, 2, 3, 4, 5, 6, 7, 8, 9] rfl)
        · have tk_57 := c_eq (a := r_46.toInt) (b := 0) rfl (by decide) k_57
          refine lv_iconst (v := 0) hx hb dX10_worksBranch_72 (by decide) ?_
          refine lv_istore (lv' := [(4, .int 0), (9, .int r_40), (8, .int kk), (7, .int r_7), (6, .int r_4), (5, .int r_1), (0, .ref (ad 0)), (1, .int i1), (2, .int i2), (3, .int i3)]) hx hb dX10_worksBranch_73 hl (by decide) rfl (fun ls hl => ?_)
          refine lv_aload_n hx hb dX10_worksBranch_75 rfl (lv_at hl 6 rfl) ?_
          refine lv_iload_n hx hb dX10_worksBranch_76 rfl (lv_at hl 8 rfl) ?_
          refine lv_iload hx hb dX10_worksBranch_77 (lv_at hl 3 rfl) ?_
          obtain ⟨dd9, hd1, hd2, hd3⟩ : ∃ dd9 : Int, 0 ≤ dd9 ∧ bR ≤ dd9 + 2 ∧ bN + dd9 ≤ bN + bR - 2 + 2 ∧ (bR ≤ 2 → dd9 = 0) ∧ (2 ≤ bR → dd9 = bR - 2) := ⟨if bR ≤ 2 then 0 else bR - 2, by split <;> omega, by split <;> omega, by split <;> omega, by intro _; split <;> omega, by intro _; split <;> omega⟩
          have hFc := m_free hD hS hA
          refine va_callv (va_runV (As := [.int i2, .int r_7]) (rest := []) ⟨hx, hb, hml, hown, hts⟩ (m_ofRows l dC dI ad kc x0 x1 x2 x3 x4 x5 x6 x7 x8 x9 x10 x11 x12 x13 x14 x15 x_47 x_48 x_49 x19 x20 x21 f0 f1 f2 f3 f4 f5 f6 f7 f8 f_50 f_51 f_52 f12 f13 f14 f15 f16 f17 f18 f19 f20 f21 L_53 Nn_54 fP M_55 O_56 H.size i2 r_7 bR dd9 (by first | omega | assumption | decide | (have l0 := Int32.toInt_zero; omega)) (by first | omega | assumption | decide | (have l0 := Int32.toInt_zero; omega)) c6 (by first | omega | assumption | decide | (have l0 := Int32.toInt_zero; omega)) (by first | omega | assumption | decide | (have l0 := Int32.toInt_zero; omega))) (cwV 2 hts mg_X10_worksBranchg_X10_ofRows_340 rfl rfl rfl (by decide +kernel) ⟨(show 2 + 1 ≤ 6 * d + 6 by omega), (show 8 + (7 + 11) + 120 ≤ 60 * (6 * d + 6) by omega)⟩) ⟨fun a U g mk q => by obtain ⟨q0, q1, qP, qK, qD⟩ := q; exact ⟨q0, q1, qP, va_K.moved (u := U) (U := U.calling g mk a) (Vm.Alike.refl U.vm) qK, qD⟩, va_recv hK hP (ci := 10) (q0 := 0) rfl rfl, fun U hU hW => ⟨rfl, by rw [hU], by rw [hU]; exact hP, va_K.moved hW.alike hK, hD.weaken (fun _ _ _ _ => trivial)⟩⟩ rfl rfl hl.1 rfl (lv_room (Nat.le_of_ble_eq_true rfl)) dX10_worksBranch_79 ⟨Nat.le_of_ble_eq_true rfl, Nat.le_of_ble_eq_true rfl⟩) hS (fun q _ h => hFc q h) hFc (fun u t H1 locs ht hvm hw hB hz1 hk1 hS => ?_)
          obtain ⟨x_100, f_101, f_102, Nn_103, M_104, O_105, hr_99_0, hr_99_1, hr_99_2, hP, hK1, hD1⟩ := hB
          rw [ht] at hP
          have hD := hD1.weaken (fun k q _ h => hFc q.1 h)
          clear hz1 hk1 hFc hD1 hK1 hvm
          generalize H1 = H at hP hS ⊢
          have rg_x_100 := i_rng x_100
          have hP : va_P (dC, dI) vwCl (mW ad kc x0 x1 x2 x3 x4 x5 x6 x7 x8 x9 x10 x11 x12 x13 x14 x15 x_47 x_48 x_100 x19 x20 x21 f0 f1 f2 f3 f4 f5 f6 f7 f8 f_50 f_102 f_101 f12 f13 f14 f15 f16 f17 f18 f19 f20 f21 L_53 Nn_103 fP M_104 O_105) H := hP
          have hD : va_D A (mW ad kc x0 x1 x2 x3 x4 x5 x6 x7 x8 x9 x10 x11 x12 x13 x14 x15 x_47 x_48 x_100 x19 x20 x21 f0 f1 f2 f3 f4 f5 f6 f7 f8 f_50 f_102 f_101 f12 f13 f14 f15 f16 f17 f18 f19 f20 f21 L_53 Nn_103 fP M_104 O_105) := hD
          have c7 := c7.fr q5 hr_99_1 (hr_99_2 _ (by omega) (by omega)) (by omega) (by omega) (by omega) (by omega)
          have hI4 := hI4.fr q5 hr_99_1 (hr_99_2 _ (by omega) (by omega)) (by omega) (by omega) (by omega) (by omega)
          refine lv_aload_n hx hb dX10_worksBranch_82 rfl (lv_at hl 6 rfl) ?_
          refine lv_iload_n hx hb dX10_worksBranch_83 rfl (lv_at hl 9 rfl) ?_
          refine lv_iload hx hb dX10_worksBranch_84 (lv_at hl 3 rfl) ?_
          have hFc := m_free hD hS hA
          refine va_callv (va_runV (As := [.int i3, .int r_7]) (rest := []) ⟨hx, hb, hml, hown, hts⟩ (m_both l dC dI ad kc x0 x1 x2 x3 x4 x5 x6 x7 x8 x9 x10 x11 x12 x13 x14 x15 x_47 x_48 x_100 x19 x20 x21 f0 f1 f2 f3 f4 f5 f6 f7 f8 f_50 f_102 f_101 f12 f13 f14 f15 f16 f17 f18 f19 f20 f21 L_53 Nn_103 fP M_104 O_105 H.size i3 r_7 bN dd9 (bN + dd9) (by first | omega | assumption | decide | (have l0 := Int32.toInt_zero; omega)) (by first | omega | assumption | decide | (have l0 := Int32.toInt_zero; omega)) (by first | omega | assumption | decide | (have l0 := Int32.toInt_zero; omega)) c7 hr_99_0 (by first | omega | assumption | decide | (have l0 := Int32.toInt_zero; omega)) (by first | omega | assumption | decide | (have l0 := Int32.toInt_zero; omega))) (cwV 2 hts mg_X10_worksBranchg_X10_both_343 rfl rfl rfl (by decide +kernel) ⟨(show 2 + 1 ≤ 6 * d + 6 by omega), (show 8 + (5 + 11) + 120 ≤ 60 * (6 * d + 6) by omega)⟩) ⟨fun a U g mk q => by obtain ⟨q0, q1, qP, qK, qD⟩ := q; exact ⟨q0, q1, qP, va_K.moved (u := U) (U := U.calling g mk a) (Vm.Alike.refl U.vm) qK, qD⟩, va_recv hK hP (ci := 10) (q0 := 0) rfl rfl, fun U hU hW => ⟨rfl, by rw [hU], by rw [hU]; exact hP, va_K.moved hW.alike hK, hD.weaken (fun _ _ _ _ => trivial)⟩⟩ rfl rfl hl.1 rfl (lv_room (Nat.le_of_ble_eq_true rfl)) dX10_worksBranch_86 ⟨Nat.le_of_ble_eq_true rfl, Nat.le_of_ble_eq_true rfl⟩) hS (fun q _ h => hFc q h) hFc (fun u t H1 locs ht hvm hw hB hz1 hk1 hS => ?_)
          obtain ⟨x_107, f_108, f_109, Nn_110, M_111, O_112, hr_106_0, hr_106_1, hr_106_2, hP, hK1, hD1⟩ := hB
          rw [ht] at hP
          have hD := hD1.weaken (fun k q _ h => hFc q.1 h)
          clear hz1 hk1 hFc hD1 hK1 hvm
          generalize H1 = H at hP hS ⊢
          have rg_x_107 := i_rng x_107
          have hP : va_P (dC, dI) vwCl (mW ad kc x0 x1 x2 x3 x4 x5 x6 x7 x8 x9 x10 x11 x12 x13 x14 x15 x_47 x_48 x_107 x19 x20 x21 f0 f1 f2 f3 f4 f5 f6 f7 f8 f_50 f_109 f_108 f12 f13 f14 f15 f16 f17 f18 f19 f20 f21 L_53 Nn_110 fP M_111 O_112) H := hP
          have hD : va_D A (mW ad kc x0 x1 x2 x3 x4 x5 x6 x7 x8 x9 x10 x11 x12 x13 x14 x15 x_47 x_48 x_107 x19 x20 x21 f0 f1 f2 f3 f4 f5 f6 f7 f8 f_50 f_109 f_108 f12 f13 f14 f15 f16 f17 f18 f19 f20 f21 L_53 Nn_110 fP M_111 O_112) := hD
          have c7 := hr_106_0
          have hI4 := hI4.fr q5 hr_106_1 (hr_106_2 _ (by omega) (by omega)) (by omega) (by omega) (by omega) (by omega)
          refine lv_aload_n hx hb dX10_worksBranch_89 rfl (lv_at hl 6 rfl) ?_
          refine lv_iload_n hx hb dX10_worksBranch_90 rfl (lv_at hl 9 rfl) ?_
          refine lv_iload hx hb dX10_worksBranch_91 (lv_at hl 1 rfl) ?_
          have hFc := m_free hD hS hA
          refine va_callv (va_runV (As := [.int i3, .int r_40]) (rest := []) ⟨hx, hb, hml, hown, hts⟩ (m_both l dC dI ad kc x0 x1 x2 x3 x4 x5 x6 x7 x8 x9 x10 x11 x12 x13 x14 x15 x_47 x_48 x_107 x19 x20 x21 f0 f1 f2 f3 f4 f5 f6 f7 f8 f_50 f_109 f_108 f12 f13 f14 f15 f16 f17 f18 f19 f20 f21 L_53 Nn_110 fP M_111 O_112 H.size i3 r_40 (bN + dd9) m8 (bN + dd9 + m8) (by first | omega | assumption | decide | (have l0 := Int32.toInt_zero; omega)) (by first | omega | assumption | decide | (have l0 := Int32.toInt_zero; omega)) (by first | omega | assumption | decide | (have l0 := Int32.toInt_zero; omega)) c7 hI4 (by first | omega | assumption | decide | (have l0 := Int32.toInt_zero; omega)) (by first | omega | assumption | decide | (have l0 := Int32.toInt_zero; omega))) (cwV 2 hts mg_X10_worksBranchg_X10_both_343 rfl rfl rfl (by decide +kernel) ⟨(show 2 + 1 ≤ 6 * d + 6 by omega), (show 8 + (5 + 11) + 120 ≤ 60 * (6 * d + 6) by omega)⟩) ⟨fun a U g mk q => by obtain ⟨q0, q1, qP, qK, qD⟩ := q; exact ⟨q0, q1, qP, va_K.moved (u := U) (U := U.calling g mk a) (Vm.Alike.refl U.vm) qK, qD⟩, va_recv hK hP (ci := 10) (q0 := 0) rfl rfl, fun U hU hW => ⟨rfl, by rw [hU], by rw [hU]; exact hP, va_K.moved hW.alike hK, hD.weaken (fun _ _ _ _ => trivial)⟩⟩ rfl rfl hl.1 rfl (lv_room (Nat.le_of_ble_eq_true rfl)) dX10_worksBranch_93 ⟨Nat.le_of_ble_eq_true rfl, Nat.le_of_ble_eq_true rfl⟩) hS (fun q _ h => hFc q h) hFc (fun u t H1 locs ht hvm hw hB hz1 hk1 hS => ?_)
          obtain ⟨x_114, f_115, f_116, Nn_117, M_118, O_119, hr_113_0, hr_113_1, hr_113_2, hP, hK1, hD1⟩ := hB
          rw [ht] at hP
          have hD := hD1.weaken (fun k q _ h => hFc q.1 h)
          clear hz1 hk1 hFc hD1 hK1 hvm
          generalize H1 = H at hP hS ⊢
          have rg_x_114 := i_rng x_114
          have hP : va_P (dC, dI) vwCl (mW ad kc x0 x1 x2 x3 x4 x5 x6 x7 x8 x9 x10 x11 x12 x13 x14 x15 x_47 x_48 x_114 x19 x20 x21 f0 f1 f2 f3 f4 f5 f6 f7 f8 f_50 f_116 f_115 f12 f13 f14 f15 f16 f17 f18 f19 f20 f21 L_53 Nn_117 fP M_118 O_119) H := hP
          have hD : va_D A (mW ad kc x0 x1 x2 x3 x4 x5 x6 x7 x8 x9 x10 x11 x12 x13 x14 x15 x_47 x_48 x_114 x19 x20 x21 f0 f1 f2 f3 f4 f5 f6 f7 f8 f_50 f_116 f_115 f12 f13 f14 f15 f16 f17 f18 f19 f20 f21 L_53 Nn_117 fP M_118 O_119) := hD
          have c7 := hr_113_0
          refine lv_aload_n hx hb dX10_worksBranch_96 rfl (lv_at hl 6 rfl) ?_
          refine va_get (D := (dC, dI)) (ci := 10) (v := .ref (ad 10)) (C := RX10) (T := TX10) (N := 48) hx hb hts fin_X10_worksBranchg_X10 hown hK hP 0 rfl rfl 26 (by decide) (hts (.fieldLink RX10 51 "PatternGateModel" "rowMany" "[I") (List.mem_of_getElem? (i := 12) (by decide +kernel))) (fun _ h9 => h9) rfl dX10_worksBranch_97 ?_
          refine lv_iload_n hx hb dX10_worksBranch_100 rfl (lv_at hl 8 rfl) ?_
          refine lv_iconst (v := 0) hx hb dX10_worksBranch_101 (by decide) ?_
          refine va_iast hx hb hK hP hD hS 10 9 rfl rfl (i := i2) (vp_of (a := i2.toInt) rfl (by omega) (by omega)) dX10_worksBranch_102 (fun H locs hP hD hS => ?_)
          generalize hf_f_120 : upd f_50 _ _ = f_120 at hP hD
          have uf_120 := vI_up (a := i2.toInt) (b := 0) hf_f_120 (by first | omega | decide) (by omega) (by decide)
          have hP : va_P (dC, dI) vwCl (mW ad kc x0 x1 x2 x3 x4 x5 x6 x7 x8 x9 x10 x11 x12 x13 x14 x15 x_47 x_48 x_114 x19 x20 x21 f0 f1 f2 f3 f4 f5 f6 f7 f8 f_120 f_116 f_115 f12 f13 f14 f15 f16 f17 f18 f19 f20 f21 L_53 Nn_117 fP M_118 O_119) H := hP
          have hD : va_D A (mW ad kc x0 x1 x2 x3 x4 x5 x6 x7 x8 x9 x10 x11 x12 x13 x14 x15 x_47 x_48 x_114 x19 x20 x21 f0 f1 f2 f3 f4 f5 f6 f7 f8 f_120 f_116 f_115 f12 f13 f14 f15 f16 f17 f18 f19 f20 f21 L_53 Nn_117 fP M_118 O_119) := hD
          refine lv_aload_n hx hb dX10_worksBranch_103 rfl (lv_at hl 6 rfl) ?_
          refine lv_iload_n hx hb dX10_worksBranch_104 rfl (lv_at hl 8 rfl) ?_
          refine lv_lconst (v := 0) hx hb dX10_worksBranch_105 (by decide) ?_
          have hFc := m_free hD hS hA
          refine va_callv (va_runV (As := [.int i2, .long 0]) (rest := []) ⟨hx, hb, hml, hown, hts⟩ (m_addsRow l dC dI ad kc x0 x1 x2 x3 x4 x5 x6 x7 x8 x9 x10 x11 x12 x13 x14 x15 x_47 x_48 x_114 x19 x20 x21 f0 f1 f2 f3 f4 f5 f6 f7 f8 f_120 f_116 f_115 f12 f13 f14 f15 f16 f17 f18 f19 f20 f21 L_53 Nn_117 fP M_118 O_119 H.size i2 0 (by first | omega | assumption | decide | (have l0 := Int32.toInt_zero; omega)) (by first | omega | assumption | decide | (have l0 := Int32.toInt_zero; omega)) (by have h9 := uf_120.1; omega) (by have h9 := uf_120.1; omega)) (cwV 2 hts mg_X10_worksBranchg_X10_addsRow_285 rfl rfl rfl (by decide +kernel) ⟨(show 0 + 1 ≤ 6 * d + 6 by omega), (show 8 + (5 + 11) + 0 ≤ 60 * (6 * d + 6) by omega)⟩) ⟨fun a U g mk q => by obtain ⟨q0, q1, qP, qK, qD⟩ := q; exact ⟨q0, q1, qP, va_K.moved (u := U) (U := U.calling g mk a) (Vm.Alike.refl U.vm) qK, qD⟩, va_recv hK hP (ci := 10) (q0 := 0) rfl rfl, fun U hU hW => ⟨rfl, by rw [hU], by rw [hU]; exact hP, va_K.moved hW.alike hK, hD.weaken (fun _ _ _ _ => trivial)⟩⟩ rfl rfl hl.1 rfl (lv_room (Nat.le_of_ble_eq_true rfl)) dX10_worksBranch_106 ⟨Nat.le_of_ble_eq_true rfl, Nat.le_of_ble_eq_true rfl⟩) hS (fun q _ h => hFc q h) hFc (fun u t H1 locs ht hvm hw hB hz1 hk1 hS => ?_)
          obtain ⟨f_122, L_123, hr_121_0, hP, hK1, hD1⟩ := hB
          rw [ht] at hP
          have hD := hD1.weaken (fun k q _ h => hFc q.1 h)
          clear hz1 hk1 hFc hD1 hK1 hvm
          generalize H1 = H at hP hS ⊢
          have hP : va_P (dC, dI) vwCl (mW ad kc x0 x1 x2 x3 x4 x5 x6 x7 x8 x9 x10 x11 x12 x13 x14 x15 x_47 x_48 x_114 x19 x20 x21 f0 f1 f2 f3 f4 f5 f6 f7 f8 f_122 f_116 f_115 f12 f13 f14 f15 f16 f17 f18 f19 f20 f21 L_123 Nn_117 fP M_118 O_119) H := hP
          have hD : va_D A (mW ad kc x0 x1 x2 x3 x4 x5 x6 x7 x8 x9 x10 x11 x12 x13 x14 x15 x_47 x_48 x_114 x19 x20 x21 f0 f1 f2 f3 f4 f5 f6 f7 f8 f_122 f_116 f_115 f12 f13 f14 f15 f16 f17 f18 f19 f20 f21 L_123 Nn_117 fP M_118 O_119) := hD
          have hF2 := (((hF1.tr (wF.need hr_99_1 hr_99_2 (Or.inl (by omega)) (by omega) (by omega))).tr (wF.need hr_106_1 hr_106_2 (Or.inr rfl) (by omega) (by omega))).tr (wF.need hr_113_1 hr_113_2 (Or.inr rfl) (by omega) (by omega))).tr ((wF.row (sFr.up uf_120) (Or.inr rfl) (by omega)).tr (wF.row hr_121_0.fr (Or.inr rfl) (by omega)))
          have hH2 : brH L_123 f_122 f_116 (rO Nn_117 M_118 O_119) fP i2.toInt i3.toInt (0 : Int32).toInt (m9 - le9 + m8) := ⟨0, bN + dd9 + m8, by omega, by omega, by omega, by omega, fun h9 => absurd h9 (by decide), ((sOK.zero (b := 0) uf_120.1 (Int.le_refl 0)).add hr_121_0 rLen_0 (by omega) (by omega)).mono (by omega) (by omega), c7⟩
          refine lv_goto (tgt := 177) hx hb dX10_worksBranch_109 (by decide) ?_
          refine lv_aload_n hx hb dX10_worksBranch_177 rfl (lv_at hl 6 rfl) ?_
          refine lv_dup hx hb dX10_worksBranch_178 rfl ?_
          refine va_get (D := (dC, dI)) (ci := 10) (v := .int x_48) (C := RX10) (T := TX10) (N := 48) hx hb hts fin_X10_worksBranchg_X10 hown hK hP 0 rfl rfl 31 (by decide) (hts (.fieldLink RX10 300 "PatternGateModel" "needTop" "I") (List.mem_of_getElem? (i := 7) (by decide +kernel))) (fun _ h9 => h9) rfl dX10_worksBranch_179 ?_
          refine lv_iconst (v := 1) hx hb dX10_worksBranch_182 (by decide) ?_
          refine lv_isub hx hb dX10_worksBranch_183 ?_
          refine lv_topi (fun y_124 ey_124 => ?_)
          first | have ty_124 := i_sub (a := x_48.toInt) (b := 1) rfl (by decide) ey_124 (by omega) (by omega) | skip
          refine va_put (D := (dC, dI)) (ci := 10) (v := .int y_124) (ty := .int) (C := RX10) (T := TX10) (N := 48) hx hb hts fin_X10_worksBranchg_X10 tyX10 tyX10_ok nmX10 hown hK hP hD hS 0 rfl rfl 31 (by decide) (hts (.fieldLink RX10 300 "PatternGateModel" "needTop" "I") (List.mem_of_getElem? (i := 7) (by decide +kernel))) (fun _ h9 => h9) rfl (by decide +kernel) rfl rfl (Nat.le_of_ble_eq_true rfl) dX10_worksBranch_184 (fun H locs hP hD hS => ?_)
          have hP : va_P (dC, dI) vwCl (mW ad kc x0 x1 x2 x3 x4 x5 x6 x7 x8 x9 x10 x11 x12 x13 x14 x15 x_47 y_124 x_114 x19 x20 x21 f0 f1 f2 f3 f4 f5 f6 f7 f8 f_122 f_116 f_115 f12 f13 f14 f15 f16 f17 f18 f19 f20 f21 L_123 Nn_117 fP M_118 O_119) H := hP
          have hD : va_D A (mW ad kc x0 x1 x2 x3 x4 x5 x6 x7 x8 x9 x10 x11 x12 x13 x14 x15 x_47 y_124 x_114 x19 x20 x21 f0 f1 f2 f3 f4 f5 f6 f7 f8 f_122 f_116 f_115 f12 f13 f14 f15 f16 f17 f18 f19 f20 f21 L_123 Nn_117 fP M_118 O_119) := hD
          refine lv_aload_n hx hb dX10_worksBranch_187 rfl (lv_at hl 6 rfl) ?_
          refine va_get (D := (dC, dI)) (ci := 10) (v := .ref (ad 6)) (C := RX10) (T := TX10) (N := 48) hx hb hts fin_X10_worksBranchg_X10 hown hK hP 0 rfl rfl 17 (by decide) (hts (.fieldLink RX10 34 "PatternGateModel" "next" "[I") (List.mem_of_getElem? (i := 9) (by decide +kernel))) (fun _ h9 => h9) rfl dX10_worksBranch_188 ?_
          refine lv_iload hx hb dX10_worksBranch_191 (lv_at hl 2 rfl) ?_
          refine va_iald hx hb hK hP 6 5 rfl rfl (i := kk) (vp_of (a := kk.toInt) rfl (by omega) (by omega)) dX10_worksBranch_193 ?_
          refine lv_topi (fun y_125 ey_125 => ?_)
          have rg_y_125 := i_rng y_125
          have vy_125 := vI_lda (f := f5) (i := kk) (a := kk.toInt) ey_125 (by first | omega | decide)
          have rg_y_125 := i_rng y_125
          refine lv_istore (lv' := [(8, .int y_125), (4, .int 0), (9, .int r_40), (7, .int r_7), (6, .int r_4), (5, .int r_1), (0, .ref (ad 0)), (1, .int i1), (2, .int i2), (3, .int i3)]) hx hb dX10_worksBranch_194 hl (by decide) rfl (fun ls hl => ?_)
          refine lv_goto (tgt := 47) hx hb dX10_worksBranch_196 (by decide) ?_
          have lit_125 : (0 : Int32).toInt = 0 := by decide
          exact ih47 0 y_125 x_47 y_124 x_114 (le9 - m8) f_122 f_116 f_115 L_123 Nn_117 M_118 O_119 (by first | omega | assumption | decide) (by first | omega | assumption | decide) (by first | omega | assumption | decide) (by first | omega | assumption | decide) hF2 (by rw [show m9 - (le9 - m8) = m9 - le9 + m8 by omega]; exact hH2) (by rw [show y_125.toInt = mV f3 f4 f5 f7 2 kk.toInt from vy_125]; exact hN8) (by first | omega | assumption | decide) (by omega) _ _ ls hP hD hS (lv_sub hl [0, 3, 4, 5, 1, 6, 7, 8, 9] rfl)
  have lit_126 : (1 : Int32).toInt = 1 := by decide
  exact loop47 _ 1 y_22 x_5 x_8 x18 m9 f_20 f_14 f11 L_21 Nn_15 M_16 O_17 (by first | omega | assumption | decide) (by first | omega | assumption | decide) (by first | omega | assumption | decide) (by first | omega | assumption | decide) hF0 (by rw [show m9 - m9 = 0 by omega]; exact hH0) (by rw [show y_22.toInt = mV f3 f4 f5 f7 1 i1.toInt from vy_22]; exact hT0) (by first | omega | assumption | decide) (Nat.lt_succ_self _) _ _ ls hP hD hS (lv_sub hl [0, 1, 2, 3, 4, 5, 6, 7, 8] rfl)
theorem dX10_worksOut_35 : decode cX10_worksOut 35 = .ok (.aload_n 0, 1) := by decide +kernel
theorem dX10_worksOut_36 : decode cX10_worksOut 36 = .ok (.getfield 28, 3) := by decide +kernel
theorem dX10_worksOut_39 : decode cX10_worksOut 39 = .ok (.iload_n 1, 1) := by decide +kernel
theorem dX10_worksOut_40 : decode cX10_worksOut 40 = .ok (.iaload, 1) := by decide +kernel
theorem dX10_worksOut_41 : decode cX10_worksOut 41 = .ok (.iconst 2, 1) := by decide +kernel
theorem dX10_worksOut_42 : decode cX10_worksOut 42 = .ok (.if_icmp .ne 13, 3) := by decide +kernel
theorem dX10_worksOut_45 : decode cX10_worksOut 45 = .ok (.aload_n 0, 1) := by decide +kernel
theorem dX10_worksOut_46 : decode cX10_worksOut 46 = .ok (.iload_n 1, 1) := by decide +kernel
theorem dX10_worksOut_47 : decode cX10_worksOut 47 = .ok (.iload_n 2, 1) := by decide +kernel
theorem dX10_worksOut_48 : decode cX10_worksOut 48 = .ok (.iload_n 3, 1) := by decide +kernel
theorem dX10_worksOut_49 : decode cX10_worksOut 49 = .ok (.invokevirtual 325, 3) := by decide +kernel
theorem dX10_worksOut_52 : decode cX10_worksOut 52 = .ok (.goto 10, 3) := by decide +kernel
theorem dX10_worksOut_62 : decode cX10_worksOut 62 = .ok (.ireturn, 1) := by decide +kernel
theorem fin_X10_worksOutgB_X10 : ∀ w ∈ wsX100, w ∈ mwg_X10_worksOutB := fun w h => List.mem_cons_of_mem _ (List.mem_append_right _ (List.mem_append_left _ h))
set_option maxRecDepth 100000 in
theorem mg_X10_worksOutgB_X10_worksBranch_325 : GoodIn mwg_X10_worksOutB (wsV RX10 325 RX10 yX10_worksBranch mwg_X10_worksBranch) := gj_app (A := [.methodLink RX10 325 yX10_worksBranch, .instanceMethod yX10_worksBranch, .selects RX10 yX10_worksBranch yX10_worksBranch, .initialized RX10]) (goodIn_r _ [31, 24, 52, 13] (by decide +kernel) (by decide +kernel)) (gj_cons ⟨List.mem_of_getElem? (i := 1) rfl, good_of_word rfl⟩ (gj_sub gd_wgU_works (fun w h => List.mem_cons_of_mem _ h)))
set_option maxHeartbeats 4000000 in
set_option maxRecDepth 100000 in
theorem m_worksOutB (l : Launch) (dC : Nat → ClassId) (dI : Nat → Nat → Nat) (d : Nat) (hrec : k_m_worksBranch l dC dI d) : k_m_worksOutB l dC dI d := by
  intro ad kc x0 x1 x2 x3 x4 x5 x6 x7 x8 x9 x10 x11 x12 x13 x14 x15 x16 x17 x18 x19 x20 x21 f0 f1 f2 f3 f4 f5 f6 f7 f8 f9 f10 f11 f12 f13 f14 f15 f16 f17 f18 f19 f20 f21 fL fN fP fM fO sz i1 i2 i3 hi m9 q0 q1 q2 q3 q4 q5 q6 q7 q8
  refine Met.ofW (cc := cX10_worksOut) (maxL := 4) (ret := (some .boolean)) (by decide +kernel) rfl ?_
  intro p e s m args below meth c s₁ B hml hv
  obtain ⟨rfl, hsz, hP, hK, hD0⟩ := hv
  have hx := B.exec
  have hb := B.bytes
  have hr := B.returns
  have hts := atoms_spec (ws := mwg_X10_worksOutB) B.pre
  have hown : s.vm.findClass RX10 = some m.cls := findClass_of_methodNamed B.named
  have hlocks := B.notSynchronized
  subst hsz
  have hD := hD0.self (sz := s.heap.size)
  generalize hAe : va_A (mW ad kc x0 x1 x2 x3 x4 x5 x6 x7 x8 x9 x10 x11 x12 x13 x14 x15 x16 x17 x18 x19 x20 x21 f0 f1 f2 f3 f4 f5 f6 f7 f8 f9 f10 f11 f12 f13 f14 f15 f16 f17 f18 f19 f20 f21 fL fN fP fM fO) s.heap.size = A at hD ⊢
  have hA : ∀ q : Nat, s.heap.size ≤ q → A q := fun q h => by rw [← hAe]; exact Or.inr h
  have hP : va_P (dC, dI) vwCl (mW ad kc x0 x1 x2 x3 x4 x5 x6 x7 x8 x9 x10 x11 x12 x13 x14 x15 x16 x17 x18 x19 x20 x21 f0 f1 f2 f3 f4 f5 f6 f7 f8 f9 f10 f11 f12 f13 f14 f15 f16 f17 f18 f19 f20 f21 fL fN fP fM fO) s.heap := hP
  have hD : va_D A (mW ad kc x0 x1 x2 x3 x4 x5 x6 x7 x8 x9 x10 x11 x12 x13 x14 x15 x16 x17 x18 x19 x20 x21 f0 f1 f2 f3 f4 f5 f6 f7 f8 f9 f10 f11 f12 f13 f14 f15 f16 f17 f18 f19 f20 f21 fL fN fP fM fO) := hD
  have hK : va_K (dC, dI) vwCl (mT kc) s := hK
  generalize hH : s.heap = H at hP ⊢
  have hS : va_S A s.heap H [] := by rw [← hH]; exact va_S.rf
  have hl := lv_entry ([.ref (ad 0), .int i1, .int i2, .int i3]) (n := 4) (Nat.le_of_ble_eq_true rfl)
  rw [lg_entry_eq]
  generalize (lg_sl ([.ref (ad 0), .int i1, .int i2, .int i3]) ++ List.replicate (4 - (lg_sl ([.ref (ad 0), .int i1, .int i2, .int i3])).length) Slot.unset).toArray = ls at hl ⊢
  have hl : lv_has ls 4 [(0, .ref (ad 0)), (1, .int i1), (2, .int i2), (3, .int i3)] := hl
  have rg_i1 := i_rng i1
  have rg_i2 := i_rng i2
  have rg_i3 := i_rng i3
  have hkd : vI f3 i1.toInt = 2 := q6.1
  refine lv_aload_n hx hb dX10_worksOut_0 rfl (lv_at hl 0 rfl) ?_
  refine va_get (D := (dC, dI)) (ci := 10) (v := .ref (ad 4)) (C := RX10) (T := TX10) (N := 48) hx hb hts fin_X10_worksOutgB_X10 hown hK hP 0 rfl rfl 15 (by decide) (hts (.fieldLink RX10 28 "PatternGateModel" "kind" "[I") (List.mem_of_getElem? (i := 6) (by decide +kernel))) (fun _ h9 => h9) rfl dX10_worksOut_1 ?_
  refine lv_iload_n hx hb dX10_worksOut_4 rfl (lv_at hl 1 rfl) ?_
  refine va_iald hx hb hK hP 4 3 rfl rfl (i := i1) (vp_of (a := i1.toInt) rfl (by omega) (by omega)) dX10_worksOut_5 ?_
  refine lv_topi (fun y_1 ey_1 => ?_)
  have rg_y_1 := i_rng y_1
  have vy_1 := vI_lda (f := f3) (i := i1) (a := i1.toInt) ey_1 (by first | omega | decide)
  have rg_y_1 := i_rng y_1
  refine lv_if_ne (tgt := 17) hx hb dX10_worksOut_6 (by decide) (fun k_2 => ?_) (fun k_2 => absurd k_2 (fun e9 => by have h9 := congrArg Int32.toInt e9; have h8 : (0 : Int32).toInt = 0 := (by decide); omega))
  have tk_2 := c_ne (a := y_1.toInt) (b := 0) rfl (by decide) k_2
  refine lv_aload_n hx hb dX10_worksOut_17 rfl (lv_at hl 0 rfl) ?_
  refine va_get (D := (dC, dI)) (ci := 10) (v := .ref (ad 4)) (C := RX10) (T := TX10) (N := 48) hx hb hts fin_X10_worksOutgB_X10 hown hK hP 0 rfl rfl 15 (by decide) (hts (.fieldLink RX10 28 "PatternGateModel" "kind" "[I") (List.mem_of_getElem? (i := 6) (by decide +kernel))) (fun _ h9 => h9) rfl dX10_worksOut_18 ?_
  refine lv_iload_n hx hb dX10_worksOut_21 rfl (lv_at hl 1 rfl) ?_
  refine va_iald hx hb hK hP 4 3 rfl rfl (i := i1) (vp_of (a := i1.toInt) rfl (by omega) (by omega)) dX10_worksOut_22 ?_
  refine lv_topi (fun y_3 ey_3 => ?_)
  have rg_y_3 := i_rng y_3
  have vy_3 := vI_lda (f := f3) (i := i1) (a := i1.toInt) ey_3 (by first | omega | decide)
  have rg_y_3 := i_rng y_3
  refine lv_iconst (v := 1) hx hb dX10_worksOut_23 (by decide) ?_
  refine lv_icmp_ne (tgt := 35) hx hb dX10_worksOut_24 (by decide) (fun k_4 => ?_) (fun k_4 => absurd k_4 (fun e9 => by have h9 := congrArg Int32.toInt e9; have h8 : (1 : Int32).toInt = 1 := (by decide); omega))
  have tk_4 := c_ne (a := y_3.toInt) (b := 1) rfl (by decide) k_4
  refine lv_aload_n hx hb dX10_worksOut_35 rfl (lv_at hl 0 rfl) ?_
  refine va_get (D := (dC, dI)) (ci := 10) (v := .ref (ad 4)) (C := RX10) (T := TX10) (N := 48) hx hb hts fin_X10_worksOutgB_X10 hown hK hP 0 rfl rfl 15 (by decide) (hts (.fieldLink RX10 28 "PatternGateModel" "kind" "[I") (List.mem_of_getElem? (i := 6) (by decide +kernel))) (fun _ h9 => h9) rfl dX10_worksOut_36 ?_
  refine lv_iload_n hx hb dX10_worksOut_39 rfl (lv_at hl 1 rfl) ?_
  refine va_iald hx hb hK hP 4 3 rfl rfl (i := i1) (vp_of (a := i1.toInt) rfl (by omega) (by omega)) dX10_worksOut_40 ?_
  refine lv_topi (fun y_5 ey_5 => ?_)
  have rg_y_5 := i_rng y_5
  have vy_5 := vI_lda (f := f3) (i := i1) (a := i1.toInt) ey_5 (by first | omega | decide)
  have rg_y_5 := i_rng y_5
  refine lv_iconst (v := 2) hx hb dX10_worksOut_41 (by decide) ?_
  refine lv_icmp_ne (tgt := 55) hx hb dX10_worksOut_42 (by decide) (fun k_6 => absurd (Int32.toInt_inj.mp (by have h8 : (2 : Int32).toInt = 2 := (by decide); omega)) k_6) (fun k_6 => ?_)
  have tk_6 := c_eq (a := y_5.toInt) (b := 2) rfl (by decide) k_6
  refine lv_aload_n hx hb dX10_worksOut_45 rfl (lv_at hl 0 rfl) ?_
  refine lv_iload_n hx hb dX10_worksOut_46 rfl (lv_at hl 1 rfl) ?_
  refine lv_iload_n hx hb dX10_worksOut_47 rfl (lv_at hl 2 rfl) ?_
  refine lv_iload_n hx hb dX10_worksOut_48 rfl (lv_at hl 3 rfl) ?_
  have hFc := m_free hD hS hA
  refine va_calli (va_runV (As := [.int i1, .int i2, .int i3]) (rest := []) ⟨hx, hb, hml, hown, hts⟩ (hrec ad kc x0 x1 x2 x3 x4 x5 x6 x7 x8 x9 x10 x11 x12 x13 x14 x15 x16 x17 x18 x19 x20 x21 f0 f1 f2 f3 f4 f5 f6 f7 f8 f9 f10 f11 f12 f13 f14 f15 f16 f17 f18 f19 f20 f21 fL fN fP fM fO H.size i1 i2 i3 hi m9 (by first | omega | assumption | decide | (have l0 := Int32.toInt_zero; omega)) (by first | omega | assumption | decide | (have l0 := Int32.toInt_zero; omega)) (by first | omega | assumption | decide | (have l0 := Int32.toInt_zero; omega)) (by first | omega | assumption | decide | (have l0 := Int32.toInt_zero; omega)) (by first | omega | assumption | decide | (have l0 := Int32.toInt_zero; omega)) (by first | omega | assumption | decide | (have l0 := Int32.toInt_zero; omega)) (by first | omega | assumption | decide | (have l0 := Int32.toInt_zero; omega)) (by first | omega | assumption | decide | (have l0 := Int32.toInt_zero; omega)) (by first | omega | assumption | decide | (have l0 := Int32.toInt_zero; omega))) (cwV 3 hts mg_X10_worksOutgB_X10_worksBranch_325 rfl rfl rfl (by decide +kernel) ⟨(show (6 * d + 6) + 1 ≤ 6 * d + 7 by omega), (show 8 + (10 + 11) + 60 * (6 * d + 6) ≤ 60 * (6 * d + 7) by omega)⟩) ⟨fun a U g mk q => by obtain ⟨q0, q1, qP, qK, qD⟩ := q; exact ⟨q0, q1, qP, va_K.moved (u := U) (U := U.calling g mk a) (Vm.Alike.refl U.vm) qK, qD⟩, va_recv hK hP (ci := 10) (q0 := 0) rfl rfl, fun U hU hW => ⟨rfl, by rw [hU], by rw [hU]; exact hP, va_K.moved hW.alike hK, hD.weaken (fun _ _ _ _ => trivial)⟩⟩ rfl rfl hl.1 rfl (lv_room (Nat.le_of_ble_eq_true rfl)) dX10_worksOut_49 ⟨Nat.le_of_ble_eq_true rfl, Nat.le_of_ble_eq_true rfl⟩) hS (fun q _ h => hFc q h) hFc (fun r_7 u t H1 locs ht hvm hw hB hz1 hk1 hS => ?_)
  subst hw
  obtain ⟨x_8, x_9, x_10, f_11, f_12, f_13, L_14, Nn_15, M_16, O_17, hr_7_0, hr_7_1, hr_7_2, hr_7_3, hr_7_4, hr_7_5, hP, hK1, hD1⟩ := hB
  rw [ht] at hP
  have hD := hD1.weaken (fun k q _ h => hFc q.1 h)
  clear hz1 hk1 hFc hD1 hK1 hvm
  generalize H1 = H at hP hS ⊢
  have rg_x_8 := i_rng x_8
  have rg_x_9 := i_rng x_9
  have rg_x_10 := i_rng x_10
  have rg_r_7 := i_rng r_7
  have hP : va_P (dC, dI) vwCl (mW ad kc x0 x1 x2 x3 x4 x5 x6 x7 x8 x9 x10 x11 x12 x13 x14 x15 x_8 x_9 x_10 x19 x20 x21 f0 f1 f2 f3 f4 f5 f6 f7 f8 f_11 f_12 f_13 f12 f13 f14 f15 f16 f17 f18 f19 f20 f21 L_14 Nn_15 fP M_16 O_17) H := hP
  have hD : va_D A (mW ad kc x0 x1 x2 x3 x4 x5 x6 x7 x8 x9 x10 x11 x12 x13 x14 x15 x_8 x_9 x_10 x19 x20 x21 f0 f1 f2 f3 f4 f5 f6 f7 f8 f_11 f_12 f_13 f12 f13 f14 f15 f16 f17 f18 f19 f20 f21 L_14 Nn_15 fP M_16 O_17) := hD
  refine lv_goto (tgt := 62) hx hb dX10_worksOut_52 (by decide) ?_
  exact W.zret hx hb hr (z_nar (by first | assumption | decide | exact z_of (by omega))) (fun t ht hW => ⟨⟨_, _, rfl, rfl, x_8, x_9, x_10, f_11, f_12, f_13, L_14, Nn_15, M_16, O_17, (by first | omega | assumption | rfl | decide), (by first | omega | assumption | rfl | decide), (by first | omega | assumption | rfl | decide), hr_7_3, hr_7_4, hr_7_5, by rw [ht]; exact hP, va_K.moved hW.alike hK, hD⟩, hS.F ht⟩) hS.2.2 dX10_worksOut_62
theorem dX10_worksPattern_0 : decode cX10_worksPattern 0 = .ok (.iconst 1, 1) := by decide +kernel
theorem dX10_worksPattern_1 : decode cX10_worksPattern 1 = .ok (.istore 4, 2) := by decide +kernel
theorem dX10_worksPattern_3 : decode cX10_worksPattern 3 = .ok (.aload_n 0, 1) := by decide +kernel
theorem dX10_worksPattern_4 : decode cX10_worksPattern 4 = .ok (.invokevirtual 334, 3) := by decide +kernel
theorem dX10_worksPattern_7 : decode cX10_worksPattern 7 = .ok (.istore 5, 2) := by decide +kernel
theorem dX10_worksPattern_9 : decode cX10_worksPattern 9 = .ok (.aload_n 0, 1) := by decide +kernel
theorem dX10_worksPattern_10 : decode cX10_worksPattern 10 = .ok (.invokevirtual 337, 3) := by decide +kernel
theorem dX10_worksPattern_13 : decode cX10_worksPattern 13 = .ok (.istore 6, 2) := by decide +kernel
theorem dX10_worksPattern_15 : decode cX10_worksPattern 15 = .ok (.aload_n 0, 1) := by decide +kernel
theorem dX10_worksPattern_16 : decode cX10_worksPattern 16 = .ok (.invokevirtual 334, 3) := by decide +kernel
theorem dX10_worksPattern_19 : decode cX10_worksPattern 19 = .ok (.istore 7, 2) := by decide +kernel
theorem dX10_worksPattern_21 : decode cX10_worksPattern 21 = .ok (.aload_n 0, 1) := by decide +kernel
theorem dX10_worksPattern_22 : decode cX10_worksPattern 22 = .ok (.getfield 31, 3) := by decide +kernel
theorem dX10_worksPattern_25 : decode cX10_worksPattern 25 = .ok (.iload_n 1, 1) := by decide +kernel
theorem dX10_worksPattern_26 : decode cX10_worksPattern 26 = .ok (.iaload, 1) := by decide +kernel
theorem dX10_worksPattern_27 : decode cX10_worksPattern 27 = .ok (.istore 8, 2) := by decide +kernel
theorem dX10_worksPattern_29 : decode cX10_worksPattern 29 = .ok (.iload 8, 2) := by decide +kernel
theorem dX10_worksPattern_31 : decode cX10_worksPattern 31 = .ok (.iconst (-1), 1) := by decide +kernel
theorem dX10_worksPattern_32 : decode cX10_worksPattern 32 = .ok (.if_icmp .eq 125, 3) := by decide +kernel
theorem dX10_worksPattern_35 : decode cX10_worksPattern 35 = .ok (.aload_n 0, 1) := by decide +kernel
theorem dX10_worksPattern_36 : decode cX10_worksPattern 36 = .ok (.iload 8, 2) := by decide +kernel
theorem dX10_worksPattern_38 : decode cX10_worksPattern 38 = .ok (.iload 5, 2) := by decide +kernel
theorem dX10_worksPattern_40 : decode cX10_worksPattern 40 = .ok (.iload 6, 2) := by decide +kernel
theorem dX10_worksPattern_42 : decode cX10_worksPattern 42 = .ok (.invokevirtual 331, 3) := by decide +kernel
theorem dX10_worksPattern_45 : decode cX10_worksPattern 45 = .ok (.ifCond .eq 12, 3) := by decide +kernel
theorem dX10_worksPattern_48 : decode cX10_worksPattern 48 = .ok (.iload 4, 2) := by decide +kernel
theorem dX10_worksPattern_50 : decode cX10_worksPattern 50 = .ok (.ifCond .eq 7, 3) := by decide +kernel
theorem dX10_worksPattern_53 : decode cX10_worksPattern 53 = .ok (.iconst 1, 1) := by decide +kernel
theorem dX10_worksPattern_54 : decode cX10_worksPattern 54 = .ok (.goto 4, 3) := by decide +kernel
theorem dX10_worksPattern_57 : decode cX10_worksPattern 57 = .ok (.iconst 0, 1) := by decide +kernel
theorem dX10_worksPattern_58 : decode cX10_worksPattern 58 = .ok (.istore 4, 2) := by decide +kernel
theorem dX10_worksPattern_60 : decode cX10_worksPattern 60 = .ok (.iload 4, 2) := by decide +kernel
theorem dX10_worksPattern_62 : decode cX10_worksPattern 62 = .ok (.ifCond .eq 40, 3) := by decide +kernel
theorem dX10_worksPattern_65 : decode cX10_worksPattern 65 = .ok (.iconst 0, 1) := by decide +kernel
theorem dX10_worksPattern_66 : decode cX10_worksPattern 66 = .ok (.istore 9, 2) := by decide +kernel
theorem dX10_worksPattern_68 : decode cX10_worksPattern 68 = .ok (.iload 9, 2) := by decide +kernel
theorem dX10_worksPattern_70 : decode cX10_worksPattern 70 = .ok (.aload_n 0, 1) := by decide +kernel
theorem dX10_worksPattern_71 : decode cX10_worksPattern 71 = .ok (.getfield 51, 3) := by decide +kernel
theorem dX10_worksPattern_74 : decode cX10_worksPattern 74 = .ok (.iload 5, 2) := by decide +kernel
theorem dX10_worksPattern_76 : decode cX10_worksPattern 76 = .ok (.iaload, 1) := by decide +kernel
theorem dX10_worksPattern_77 : decode cX10_worksPattern 77 = .ok (.if_icmp .ge 25, 3) := by decide +kernel
theorem dX10_worksPattern_80 : decode cX10_worksPattern 80 = .ok (.aload_n 0, 1) := by decide +kernel
theorem dX10_worksPattern_81 : decode cX10_worksPattern 81 = .ok (.iload 7, 2) := by decide +kernel
theorem dX10_worksPattern_83 : decode cX10_worksPattern 83 = .ok (.aload_n 0, 1) := by decide +kernel
theorem dX10_worksPattern_84 : decode cX10_worksPattern 84 = .ok (.getfield 48, 3) := by decide +kernel
theorem dX10_worksPattern_87 : decode cX10_worksPattern 87 = .ok (.iload 5, 2) := by decide +kernel
theorem dX10_worksPattern_89 : decode cX10_worksPattern 89 = .ok (.aaload, 1) := by decide +kernel
theorem dX10_worksPattern_90 : decode cX10_worksPattern 90 = .ok (.iload 9, 2) := by decide +kernel
theorem dX10_worksPattern_92 : decode cX10_worksPattern 92 = .ok (.laload, 1) := by decide +kernel
theorem dX10_worksPattern_93 : decode cX10_worksPattern 93 = .ok (.invokevirtual 285, 3) := by decide +kernel
theorem dX10_worksPattern_96 : decode cX10_worksPattern 96 = .ok (.iinc 9 1, 3) := by decide +kernel
theorem dX10_worksPattern_99 : decode cX10_worksPattern 99 = .ok (.goto (-31), 3) := by decide +kernel
theorem dX10_worksPattern_102 : decode cX10_worksPattern 102 = .ok (.aload_n 0, 1) := by decide +kernel
theorem dX10_worksPattern_103 : decode cX10_worksPattern 103 = .ok (.getfield 51, 3) := by decide +kernel
theorem dX10_worksPattern_106 : decode cX10_worksPattern 106 = .ok (.iload 7, 2) := by decide +kernel
theorem dX10_worksPattern_108 : decode cX10_worksPattern 108 = .ok (.iaload, 1) := by decide +kernel
theorem dX10_worksPattern_109 : decode cX10_worksPattern 109 = .ok (.bipush 6, 2) := by decide +kernel
theorem dX10_worksPattern_111 : decode cX10_worksPattern 111 = .ok (.if_icmp .le 6, 3) := by decide +kernel
theorem dX10_worksPattern_114 : decode cX10_worksPattern 114 = .ok (.iconst 0, 1) := by decide +kernel
theorem dX10_worksPattern_115 : decode cX10_worksPattern 115 = .ok (.istore 4, 2) := by decide +kernel
theorem dX10_worksPattern_117 : decode cX10_worksPattern 117 = .ok (.iload 8, 2) := by decide +kernel
theorem dX10_worksPattern_119 : decode cX10_worksPattern 119 = .ok (.aload_n 0, 1) := by decide +kernel
theorem dX10_worksPattern_120 : decode cX10_worksPattern 120 = .ok (.getfield 31, 3) := by decide +kernel
theorem dX10_worksPattern_123 : decode cX10_worksPattern 123 = .ok (.iload_n 1, 1) := by decide +kernel
theorem dX10_worksPattern_124 : decode cX10_worksPattern 124 = .ok (.iaload, 1) := by decide +kernel
theorem dX10_worksPattern_125 : decode cX10_worksPattern 125 = .ok (.if_icmp .ne 13, 3) := by decide +kernel
theorem dX10_worksPattern_128 : decode cX10_worksPattern 128 = .ok (.aload_n 0, 1) := by decide +kernel
theorem dX10_worksPattern_129 : decode cX10_worksPattern 129 = .ok (.iload 6, 2) := by decide +kernel
theorem dX10_worksPattern_131 : decode cX10_worksPattern 131 = .ok (.iload_n 3, 1) := by decide +kernel
theorem dX10_worksPattern_132 : decode cX10_worksPattern 132 = .ok (.invokevirtual 353, 3) := by decide +kernel
theorem dX10_worksPattern_135 : decode cX10_worksPattern 135 = .ok (.goto 10, 3) := by decide +kernel
theorem dX10_worksPattern_138 : decode cX10_worksPattern 138 = .ok (.aload_n 0, 1) := by decide +kernel
theorem dX10_worksPattern_139 : decode cX10_worksPattern 139 = .ok (.iload_n 3, 1) := by decide +kernel
theorem dX10_worksPattern_140 : decode cX10_worksPattern 140 = .ok (.iload 6, 2) := by decide +kernel
theorem dX10_worksPattern_142 : decode cX10_worksPattern 142 = .ok (.invokevirtual 356, 3) := by decide +kernel
theorem dX10_worksPattern_145 : decode cX10_worksPattern 145 = .ok (.aload_n 0, 1) := by decide +kernel
theorem dX10_worksPattern_146 : decode cX10_worksPattern 146 = .ok (.getfield 34, 3) := by decide +kernel
theorem dX10_worksPattern_149 : decode cX10_worksPattern 149 = .ok (.iload 8, 2) := by decide +kernel
theorem dX10_worksPattern_151 : decode cX10_worksPattern 151 = .ok (.iaload, 1) := by decide +kernel
theorem dX10_worksPattern_152 : decode cX10_worksPattern 152 = .ok (.istore 8, 2) := by decide +kernel
theorem dX10_worksPattern_154 : decode cX10_worksPattern 154 = .ok (.goto (-125), 3) := by decide +kernel
theorem dX10_worksPattern_157 : decode cX10_worksPattern 157 = .ok (.aload_n 0, 1) := by decide +kernel
theorem dX10_worksPattern_158 : decode cX10_worksPattern 158 = .ok (.iload 7, 2) := by decide +kernel
theorem dX10_worksPattern_160 : decode cX10_worksPattern 160 = .ok (.iload_n 2, 1) := by decide +kernel
theorem dX10_worksPattern_161 : decode cX10_worksPattern 161 = .ok (.invokevirtual 350, 3) := by decide +kernel
theorem dX10_worksPattern_164 : decode cX10_worksPattern 164 = .ok (.iload 4, 2) := by decide +kernel
theorem dX10_worksPattern_166 : decode cX10_worksPattern 166 = .ok (.ifCond .eq 9, 3) := by decide +kernel
theorem dX10_worksPattern_169 : decode cX10_worksPattern 169 = .ok (.aload_n 0, 1) := by decide +kernel
theorem dX10_worksPattern_170 : decode cX10_worksPattern 170 = .ok (.iload_n 2, 1) := by decide +kernel
theorem dX10_worksPattern_171 : decode cX10_worksPattern 171 = .ok (.iload_n 3, 1) := by decide +kernel
theorem dX10_worksPattern_172 : decode cX10_worksPattern 172 = .ok (.invokevirtual 340, 3) := by decide +kernel
theorem dX10_worksPattern_175 : decode cX10_worksPattern 175 = .ok (.aload_n 0, 1) := by decide +kernel
theorem dX10_worksPattern_176 : decode cX10_worksPattern 176 = .ok (.dup, 1) := by decide +kernel
theorem dX10_worksPattern_177 : decode cX10_worksPattern 177 = .ok (.getfield 300, 3) := by decide +kernel
theorem dX10_worksPattern_180 : decode cX10_worksPattern 180 = .ok (.iconst 1, 1) := by decide +kernel
theorem dX10_worksPattern_181 : decode cX10_worksPattern 181 = .ok (.isub, 1) := by decide +kernel
theorem dX10_worksPattern_182 : decode cX10_worksPattern 182 = .ok (.putfield 300, 3) := by decide +kernel
theorem dX10_worksPattern_185 : decode cX10_worksPattern 185 = .ok (.aload_n 0, 1) := by decide +kernel
theorem dX10_worksPattern_186 : decode cX10_worksPattern 186 = .ok (.dup, 1) := by decide +kernel
theorem dX10_worksPattern_187 : decode cX10_worksPattern 187 = .ok (.getfield 274, 3) := by decide +kernel
theorem dX10_worksPattern_190 : decode cX10_worksPattern 190 = .ok (.iconst 2, 1) := by decide +kernel
theorem dX10_worksPattern_191 : decode cX10_worksPattern 191 = .ok (.isub, 1) := by decide +kernel
theorem dX10_worksPattern_192 : decode cX10_worksPattern 192 = .ok (.putfield 274, 3) := by decide +kernel
theorem dX10_worksPattern_195 : decode cX10_worksPattern 195 = .ok (.iload 4, 2) := by decide +kernel
theorem dX10_worksPattern_197 : decode cX10_worksPattern 197 = .ok (.ireturn, 1) := by decide +kernel
theorem fin_X10_worksPatterng_X10 : ∀ w ∈ wsX100, w ∈ mwg_X10_worksPattern := fun w h => List.mem_cons_of_mem _ (List.mem_append_right _ (List.mem_append_left _ h))
set_option maxRecDepth 100000 in
theorem mg_X10_worksPatterng_X10_newSet_334 : GoodIn mwg_X10_worksPattern (wsV RX10 334 RX10 yX10_newSet mwX10_newSetm) := gj_app (A := [.methodLink RX10 334 yX10_newSet, .instanceMethod yX10_newSet, .selects RX10 yX10_newSet yX10_newSet, .initialized RX10]) (goodIn_r _ [34, 21, 49, 13] (by decide +kernel) (by decide +kernel)) (gj_sub gd_mwX10_newSetm (fun w h => List.mem_cons_of_mem _ (List.mem_append_right _ (List.mem_append_right _ (List.mem_append_right _ (List.mem_append_right _ (List.mem_append_right _ (List.mem_append_right _ (List.mem_append_right _ (List.mem_append_right _ (List.mem_append_right _ (List.mem_append_left _ h))))))))))))
set_option maxRecDepth 100000 in
theorem mg_X10_worksPatterng_X10_newNeed_337 : GoodIn mwg_X10_worksPattern (wsV RX10 337 RX10 yX10_newNeed mwX10_newNeedm) := gj_app (A := [.methodLink RX10 337 yX10_newNeed, .instanceMethod yX10_newNeed, .selects RX10 yX10_newNeed yX10_newNeed, .initialized RX10]) (goodIn_r _ [35, 20, 48, 13] (by decide +kernel) (by decide +kernel)) (gj_sub gd_mwX10_newNeedm (fun w h => List.mem_cons_of_mem _ (List.mem_append_right _ (List.mem_append_right _ (List.mem_append_right _ (List.mem_append_right _ (List.mem_append_right _ (List.mem_append_right _ (List.mem_append_right _ (List.mem_append_right _ (List.mem_append_left _ h)))))))))))
set_option maxRecDepth 100000 in
theorem mg_X10_worksPatterng_X10_copiesSet_350 : GoodIn mwg_X10_worksPattern (wsV RX10 350 RX10 yX10_copiesSet mwX10_copiesSetm) := gj_app (A := [.methodLink RX10 350 yX10_copiesSet, .instanceMethod yX10_copiesSet, .selects RX10 yX10_copiesSet yX10_copiesSet, .initialized RX10]) (goodIn_r _ [39, 17, 45, 13] (by decide +kernel) (by decide +kernel)) (gj_sub gd_mwX10_copiesSetm (fun w h => List.mem_cons_of_mem _ (List.mem_append_right _ (List.mem_append_right _ (List.mem_append_right _ (List.mem_append_right _ (List.mem_append_right _ (List.mem_append_left _ h))))))))
set_option maxRecDepth 100000 in
theorem mg_X10_worksPatterng_X10_ofRows_340 : GoodIn mwg_X10_worksPattern (wsV RX10 340 RX10 yX10_ofRows mwX10_ofRowsm) := gj_app (A := [.methodLink RX10 340 yX10_ofRows, .instanceMethod yX10_ofRows, .selects RX10 yX10_ofRows yX10_ofRows, .initialized RX10]) (goodIn_r _ [36, 22, 50, 13] (by decide +kernel) (by decide +kernel)) (gj_sub gd_mwX10_ofRowsm (fun w h => List.mem_cons_of_mem _ (List.mem_append_right _ (List.mem_append_right _ (List.mem_append_right _ (List.mem_append_right _ (List.mem_append_right _ (List.mem_append_right _ (List.mem_append_right _ (List.mem_append_right _ (List.mem_append_right _ (List.mem_append_right _ (List.mem_append_left _ h)))))))))))))
set_option maxRecDepth 100000 in
theorem mg_X10_worksPatterng_X10_worksOut_331 : GoodIn mwg_X10_worksPattern (wsV RX10 331 RX10 yX10_worksOut mwg_X10_worksOutB) := gj_app (A := [.methodLink RX10 331 yX10_worksOut, .instanceMethod yX10_worksOut, .selects RX10 yX10_worksOut yX10_worksOut, .initialized RX10]) (goodIn_r _ [33, 26, 54, 13] (by decide +kernel) (by decide +kernel)) (gj_cons ⟨List.mem_of_getElem? (i := 3) rfl, good_of_word rfl⟩ (gj_sub gd_wgU_works (fun w h => List.mem_cons_of_mem _ h)))
set_option maxRecDepth 100000 in
theorem mg_X10_worksPatterng_X10_either_356 : GoodIn mwg_X10_worksPattern (wsV RX10 356 RX10 yX10_either mwX10_eitherm) := gj_app (A := [.methodLink RX10 356 yX10_either, .instanceMethod yX10_either, .selects RX10 yX10_either yX10_either, .initialized RX10]) (goodIn_r _ [41, 19, 47, 13] (by decide +kernel) (by decide +kernel)) (gj_sub gd_mwX10_eitherm (fun w h => List.mem_cons_of_mem _ (List.mem_append_right _ (List.mem_append_right _ (List.mem_append_right _ (List.mem_append_right _ (List.mem_append_right _ (List.mem_append_right _ (List.mem_append_right _ (List.mem_append_left _ h))))))))))
set_option maxRecDepth 100000 in
theorem mg_X10_worksPatterng_X10_copiesNeed_353 : GoodIn mwg_X10_worksPattern (wsV RX10 353 RX10 yX10_copiesNeed mwX10_copiesNeedm) := gj_app (A := [.methodLink RX10 353 yX10_copiesNeed, .instanceMethod yX10_copiesNeed, .selects RX10 yX10_copiesNeed yX10_copiesNeed, .initialized RX10]) (goodIn_r _ [40, 16, 44, 13] (by decide +kernel) (by decide +kernel)) (gj_sub gd_mwX10_copiesNeedm (fun w h => List.mem_cons_of_mem _ (List.mem_append_right _ (List.mem_append_right _ (List.mem_append_right _ (List.mem_append_right _ (List.mem_append_left _ h)))))))
set_option maxRecDepth 100000 in
theorem mg_X10_worksPatterng_X10_addsRow_285 : GoodIn mwg_X10_worksPattern (wsV RX10 285 RX10 yX10_addsRow mwX10_addsRowm) := gj_app (A := [.methodLink RX10 285 yX10_addsRow, .instanceMethod yX10_addsRow, .selects RX10 yX10_addsRow yX10_addsRow, .initialized RX10]) (goodIn_r _ [28, 14, 42, 13] (by decide +kernel) (by decide +kernel)) (gj_sub gd_mwX10_addsRowm (fun w h => List.mem_cons_of_mem _ (List.mem_append_right _ (List.mem_append_right _ (List.mem_append_left _ h)))))
set_option maxHeartbeats 4000000 in
set_option maxRecDepth 100000 in
theorem m_worksPattern (l : Launch) (dC : Nat → ClassId) (dI : Nat → Nat → Nat) (d : Nat) (hrec : k_m_worksOutB l dC dI d) : k_m_worksPattern l dC dI d := by
  intro ad kc x0 x1 x2 x3 x4 x5 x6 x7 x8 x9 x10 x11 x12 x13 x14 x15 x16 x17 x18 x19 x20 x21 f0 f1 f2 f3 f4 f5 f6 f7 f8 f9 f10 f11 f12 f13 f14 f15 f16 f17 f18 f19 f20 f21 fL fN fP fM fO sz i1 i2 i3 hi m9 q0 q1 q2 q3 q4 q5 q6 q7 q8
  refine Met.ofW (cc := cX10_worksPattern) (maxL := 10) (ret := (some .boolean)) (by decide +kernel) rfl ?_
  intro p e s m args below meth c s₁ B hml hv
  obtain ⟨rfl, hsz, hP, hK, hD0⟩ := hv
  have hx := B.exec
  have hb := B.bytes
  have hr := B.returns
  have hts := atoms_spec (ws := mwg_X10_worksPattern) B.pre
  have hown : s.vm.findClass RX10 = some m.cls := findClass_of_methodNamed B.named
  have hlocks := B.notSynchronized
  subst hsz
  have hD := hD0.self (sz := s.heap.size)
  generalize hAe : va_A (mW ad kc x0 x1 x2 x3 x4 x5 x6 x7 x8 x9 x10 x11 x12 x13 x14 x15 x16 x17 x18 x19 x20 x21 f0 f1 f2 f3 f4 f5 f6 f7 f8 f9 f10 f11 f12 f13 f14 f15 f16 f17 f18 f19 f20 f21 fL fN fP fM fO) s.heap.size = A at hD ⊢
  have hA : ∀ q : Nat, s.heap.size ≤ q → A q := fun q h => by rw [← hAe]; exact Or.inr h
  have hP : va_P (dC, dI) vwCl (mW ad kc x0 x1 x2 x3 x4 x5 x6 x7 x8 x9 x10 x11 x12 x13 x14 x15 x16 x17 x18 x19 x20 x21 f0 f1 f2 f3 f4 f5 f6 f7 f8 f9 f10 f11 f12 f13 f14 f15 f16 f17 f18 f19 f20 f21 fL fN fP fM fO) s.heap := hP
  have hD : va_D A (mW ad kc x0 x1 x2 x3 x4 x5 x6 x7 x8 x9 x10 x11 x12 x13 x14 x15 x16 x17 x18 x19 x20 x21 f0 f1 f2 f3 f4 f5 f6 f7 f8 f9 f10 f11 f12 f13 f14 f15 f16 f17 f18 f19 f20 f21 fL fN fP fM fO) := hD
  have hK : va_K (dC, dI) vwCl (mT kc) s := hK
  generalize hH : s.heap = H at hP ⊢
  have hS : va_S A s.heap H [] := by rw [← hH]; exact va_S.rf
  have hl := lv_entry ([.ref (ad 0), .int i1, .int i2, .int i3]) (n := 10) (Nat.le_of_ble_eq_true rfl)
  rw [lg_entry_eq]
  generalize (lg_sl ([.ref (ad 0), .int i1, .int i2, .int i3]) ++ List.replicate (10 - (lg_sl ([.ref (ad 0), .int i1, .int i2, .int i3])).length) Slot.unset).toArray = ls at hl ⊢
  have hl : lv_has ls 10 [(0, .ref (ad 0)), (1, .int i1), (2, .int i2), (3, .int i3)] := hl
  have rg_i1 := i_rng i1
  have rg_i2 := i_rng i2
  have rg_i3 := i_rng i3
  have htm := tm_pat d _ _ _ q6
  have hps := tpos_pat d _ _ _ q6
  refine lv_iconst (v := 1) hx hb dX10_worksPattern_0 (by decide) ?_
  refine lv_istore (lv' := [(4, .int 1), (0, .ref (ad 0)), (1, .int i1), (2, .int i2), (3, .int i3)]) hx hb dX10_worksPattern_1 hl (by decide) rfl (fun ls hl => ?_)
  refine lv_aload_n hx hb dX10_worksPattern_3 rfl (lv_at hl 1 rfl) ?_
  have hFc := m_free hD hS hA
  refine va_calli (va_runV (As := []) (rest := []) ⟨hx, hb, hml, hown, hts⟩ (m_newSet l dC dI ad kc x0 x1 x2 x3 x4 x5 x6 x7 x8 x9 x10 x11 x12 x13 x14 x15 x16 x17 x18 x19 x20 x21 f0 f1 f2 f3 f4 f5 f6 f7 f8 f9 f10 f11 f12 f13 f14 f15 f16 f17 f18 f19 f20 f21 fL fN fP fM fO H.size (by first | omega | assumption | decide | (have l0 := Int32.toInt_zero; omega)) (by first | omega | assumption | decide | (have l0 := Int32.toInt_zero; omega))) (cwV 0 hts mg_X10_worksPatterng_X10_newSet_334 rfl rfl rfl (by decide +kernel) ⟨(show 0 + 1 ≤ 6 * d + 8 by omega), (show 8 + (1 + 11) + 0 ≤ 60 * (6 * d + 8) by omega)⟩) ⟨fun a U g mk q => by obtain ⟨q0, q1, qP, qK, qD⟩ := q; exact ⟨q0, q1, qP, va_K.moved (u := U) (U := U.calling g mk a) (Vm.Alike.refl U.vm) qK, qD⟩, va_recv hK hP (ci := 10) (q0 := 0) rfl rfl, fun U hU hW => ⟨rfl, by rw [hU], by rw [hU]; exact hP, va_K.moved hW.alike hK, hD.weaken (fun _ _ _ _ => trivial)⟩⟩ rfl rfl hl.1 rfl (lv_room (Nat.le_of_ble_eq_true rfl)) dX10_worksPattern_4 ⟨Nat.le_of_ble_eq_true rfl, Nat.le_of_ble_eq_true rfl⟩) hS (fun q _ h => hFc q h) hFc (fun r_1 u t H1 locs ht hvm hw hB hz1 hk1 hS => ?_)
  subst hw
  obtain ⟨x_2, f_3, hr_1_0, hr_1_1, hr_1_2, hP, hK1, hD1⟩ := hB
  rw [ht] at hP
  have hD := hD1.weaken (fun k q _ h => hFc q.1 h)
  clear hz1 hk1 hFc hD1 hK1 hvm
  generalize H1 = H at hP hS ⊢
  have rg_x_2 := i_rng x_2
  have rg_r_1 := i_rng r_1
  have hP : va_P (dC, dI) vwCl (mW ad kc x0 x1 x2 x3 x4 x5 x6 x7 x8 x9 x10 x11 x12 x13 x14 x15 x_2 x17 x18 x19 x20 x21 f0 f1 f2 f3 f4 f5 f6 f7 f8 f_3 f10 f11 f12 f13 f14 f15 f16 f17 f18 f19 f20 f21 fL fN fP fM fO) H := hP
  have hD : va_D A (mW ad kc x0 x1 x2 x3 x4 x5 x6 x7 x8 x9 x10 x11 x12 x13 x14 x15 x_2 x17 x18 x19 x20 x21 f0 f1 f2 f3 f4 f5 f6 f7 f8 f_3 f10 f11 f12 f13 f14 f15 f16 f17 f18 f19 f20 f21 fL fN fP fM fO) := hD
  refine lv_istore (lv' := [(5, .int r_1), (4, .int 1), (0, .ref (ad 0)), (1, .int i1), (2, .int i2), (3, .int i3)]) hx hb dX10_worksPattern_7 hl (by decide) rfl (fun ls hl => ?_)
  refine lv_aload_n hx hb dX10_worksPattern_9 rfl (lv_at hl 2 rfl) ?_
  have hFc := m_free hD hS hA
  refine va_calli (va_runV (As := []) (rest := []) ⟨hx, hb, hml, hown, hts⟩ (m_newNeed l dC dI ad kc x0 x1 x2 x3 x4 x5 x6 x7 x8 x9 x10 x11 x12 x13 x14 x15 x_2 x17 x18 x19 x20 x21 f0 f1 f2 f3 f4 f5 f6 f7 f8 f_3 f10 f11 f12 f13 f14 f15 f16 f17 f18 f19 f20 f21 fL fN fP fM fO H.size (by first | omega | assumption | decide | (have l0 := Int32.toInt_zero; omega)) (by first | omega | assumption | decide | (have l0 := Int32.toInt_zero; omega))) (cwV 0 hts mg_X10_worksPatterng_X10_newNeed_337 rfl rfl rfl (by decide +kernel) ⟨(show 1 + 1 ≤ 6 * d + 8 by omega), (show 8 + (1 + 11) + 60 ≤ 60 * (6 * d + 8) by omega)⟩) ⟨fun a U g mk q => by obtain ⟨q0, q1, qP, qK, qD⟩ := q; exact ⟨q0, q1, qP, va_K.moved (u := U) (U := U.calling g mk a) (Vm.Alike.refl U.vm) qK, qD⟩, va_recv hK hP (ci := 10) (q0 := 0) rfl rfl, fun U hU hW => ⟨rfl, by rw [hU], by rw [hU]; exact hP, va_K.moved hW.alike hK, hD.weaken (fun _ _ _ _ => trivial)⟩⟩ rfl rfl hl.1 rfl (lv_room (Nat.le_of_ble_eq_true rfl)) dX10_worksPattern_10 ⟨Nat.le_of_ble_eq_true rfl, Nat.le_of_ble_eq_true rfl⟩) hS (fun q _ h => hFc q h) hFc (fun r_4 u t H1 locs ht hvm hw hB hz1 hk1 hS => ?_)
  subst hw
  obtain ⟨x_5, f_6, Nn_7, M_8, O_9, hr_4_0, hr_4_1, hr_4_2, hr_4_3, hr_4_4, hP, hK1, hD1⟩ := hB
  rw [ht] at hP
  have hD := hD1.weaken (fun k q _ h => hFc q.1 h)
  clear hz1 hk1 hFc hD1 hK1 hvm
  generalize H1 = H at hP hS ⊢
  have rg_x_5 := i_rng x_5
  have rg_r_4 := i_rng r_4
  have hP : va_P (dC, dI) vwCl (mW ad kc x0 x1 x2 x3 x4 x5 x6 x7 x8 x9 x10 x11 x12 x13 x14 x15 x_2 x_5 x18 x19 x20 x21 f0 f1 f2 f3 f4 f5 f6 f7 f8 f_3 f_6 f11 f12 f13 f14 f15 f16 f17 f18 f19 f20 f21 fL Nn_7 fP M_8 O_9) H := hP
  have hD : va_D A (mW ad kc x0 x1 x2 x3 x4 x5 x6 x7 x8 x9 x10 x11 x12 x13 x14 x15 x_2 x_5 x18 x19 x20 x21 f0 f1 f2 f3 f4 f5 f6 f7 f8 f_3 f_6 f11 f12 f13 f14 f15 f16 f17 f18 f19 f20 f21 fL Nn_7 fP M_8 O_9) := hD
  refine lv_istore (lv' := [(6, .int r_4), (5, .int r_1), (4, .int 1), (0, .ref (ad 0)), (1, .int i1), (2, .int i2), (3, .int i3)]) hx hb dX10_worksPattern_13 hl (by decide) rfl (fun ls hl => ?_)
  refine lv_aload_n hx hb dX10_worksPattern_15 rfl (lv_at hl 3 rfl) ?_
  have hFc := m_free hD hS hA
  refine va_calli (va_runV (As := []) (rest := []) ⟨hx, hb, hml, hown, hts⟩ (m_newSet l dC dI ad kc x0 x1 x2 x3 x4 x5 x6 x7 x8 x9 x10 x11 x12 x13 x14 x15 x_2 x_5 x18 x19 x20 x21 f0 f1 f2 f3 f4 f5 f6 f7 f8 f_3 f_6 f11 f12 f13 f14 f15 f16 f17 f18 f19 f20 f21 fL Nn_7 fP M_8 O_9 H.size (by first | omega | assumption | decide | (have l0 := Int32.toInt_zero; omega)) (by first | omega | assumption | decide | (have l0 := Int32.toInt_zero; omega))) (cwV 0 hts mg_X10_worksPatterng_X10_newSet_334 rfl rfl rfl (by decide +kernel) ⟨(show 0 + 1 ≤ 6 * d + 8 by omega), (show 8 + (1 + 11) + 0 ≤ 60 * (6 * d + 8) by omega)⟩) ⟨fun a U g mk q => by obtain ⟨q0, q1, qP, qK, qD⟩ := q; exact ⟨q0, q1, qP, va_K.moved (u := U) (U := U.calling g mk a) (Vm.Alike.refl U.vm) qK, qD⟩, va_recv hK hP (ci := 10) (q0 := 0) rfl rfl, fun U hU hW => ⟨rfl, by rw [hU], by rw [hU]; exact hP, va_K.moved hW.alike hK, hD.weaken (fun _ _ _ _ => trivial)⟩⟩ rfl rfl hl.1 rfl (lv_room (Nat.le_of_ble_eq_true rfl)) dX10_worksPattern_16 ⟨Nat.le_of_ble_eq_true rfl, Nat.le_of_ble_eq_true rfl⟩) hS (fun q _ h => hFc q h) hFc (fun r_10 u t H1 locs ht hvm hw hB hz1 hk1 hS => ?_)
  subst hw
  obtain ⟨x_11, f_12, hr_10_0, hr_10_1, hr_10_2, hP, hK1, hD1⟩ := hB
  rw [ht] at hP
  have hD := hD1.weaken (fun k q _ h => hFc q.1 h)
  clear hz1 hk1 hFc hD1 hK1 hvm
  generalize H1 = H at hP hS ⊢
  have rg_x_11 := i_rng x_11
  have rg_r_10 := i_rng r_10
  have hP : va_P (dC, dI) vwCl (mW ad kc x0 x1 x2 x3 x4 x5 x6 x7 x8 x9 x10 x11 x12 x13 x14 x15 x_11 x_5 x18 x19 x20 x21 f0 f1 f2 f3 f4 f5 f6 f7 f8 f_12 f_6 f11 f12 f13 f14 f15 f16 f17 f18 f19 f20 f21 fL Nn_7 fP M_8 O_9) H := hP
  have hD : va_D A (mW ad kc x0 x1 x2 x3 x4 x5 x6 x7 x8 x9 x10 x11 x12 x13 x14 x15 x_11 x_5 x18 x19 x20 x21 f0 f1 f2 f3 f4 f5 f6 f7 f8 f_12 f_6 f11 f12 f13 f14 f15 f16 f17 f18 f19 f20 f21 fL Nn_7 fP M_8 O_9) := hD
  refine lv_istore (lv' := [(7, .int r_10), (6, .int r_4), (5, .int r_1), (4, .int 1), (0, .ref (ad 0)), (1, .int i1), (2, .int i2), (3, .int i3)]) hx hb dX10_worksPattern_19 hl (by decide) rfl (fun ls hl => ?_)
  refine lv_aload_n hx hb dX10_worksPattern_21 rfl (lv_at hl 4 rfl) ?_
  refine va_get (D := (dC, dI)) (ci := 10) (v := .ref (ad 5)) (C := RX10) (T := TX10) (N := 48) hx hb hts fin_X10_worksPatterng_X10 hown hK hP 0 rfl rfl 16 (by decide) (hts (.fieldLink RX10 31 "PatternGateModel" "first" "[I") (List.mem_of_getElem? (i := 8) (by decide +kernel))) (fun _ h9 => h9) rfl dX10_worksPattern_22 ?_
  refine lv_iload_n hx hb dX10_worksPattern_25 rfl (lv_at hl 5 rfl) ?_
  refine va_iald hx hb hK hP 5 4 rfl rfl (i := i1) (vp_of (a := i1.toInt) rfl (by omega) (by omega)) dX10_worksPattern_26 ?_
  refine lv_topi (fun y_13 ey_13 => ?_)
  have rg_y_13 := i_rng y_13
  have vy_13 := vI_lda (f := f4) (i := i1) (a := i1.toInt) ey_13 (by first | omega | decide)
  have rg_y_13 := i_rng y_13
  have q6b := q6
  rw [tPat_eq] at q6b
  have hT0 := ts_init (fun a b m => hm_branch d (mV f3 f4 f5 f7) a b m) (hp_branch (mV f3 f4 f5 f7) d) (by omega) ⟨q6b.2.1, q6b.2.2⟩
  have hF0 : wF fL f9 f10 (rO fN fM fO) fL f_12 f_6 (rO Nn_7 M_8 O_9) i2.toInt i3.toInt x16.toInt x17.toInt := ((wF.row (sFr.up hr_1_2) (Or.inl (by omega)) (by omega)).tr (wF.need hr_4_3 hr_4_4 (Or.inl (by omega)) (by omega) (by omega))).tr (wF.row (sFr.up hr_10_2) (Or.inl (by omega)) (by omega))
  refine lv_istore (lv' := [(8, .int y_13), (7, .int r_10), (6, .int r_4), (5, .int r_1), (4, .int 1), (0, .ref (ad 0)), (1, .int i1), (2, .int i2), (3, .int i3)]) hx hb dX10_worksPattern_27 hl (by decide) rfl (fun ls hl => ?_)
  have loop29 : ∀ (lm29 : Nat) (ex kk se nt mt : Int32) (le9 : Int) (ga gb gc : Nat → Int32) (la : Nat → Nat → Int64) (hn : Nat → Nat → Int32) (hm : Nat → Nat → Int32) (ho : Nat → Nat → Int32), (se.toInt = x16.toInt + 2) → (nt.toInt = x17.toInt + 1) → (ex.toInt = 0 ∨ ex.toInt = 1) → True → (wF fL f9 f10 (rO fN fM fO) la ga gb (rO hn hm ho) i2.toInt i3.toInt x16.toInt x17.toInt) → (sOK la ga r_10.toInt 12 m9 ∧ (kk.toInt ≠ mV f3 f4 f5 f7 1 i1.toInt → nOK (rO hn hm ho) fP gb i3.toInt m9)) → (tsI (mV f3 f4 f5 f7) (tBranch (mV f3 f4 f5 f7) (tSub (mV f3 f4 f5 f7) d)) kk.toInt hi le9) → (0 ≤ le9 ∧ le9 ≤ m9) → (ex.toInt = 1 → vI ga r_10.toInt ≤ 6) → le9.toNat < lm29 → ∀ (H : Heap) (locs : List Loc) (ls : Array Slot), va_P (dC, dI) vwCl (mW ad kc x0 x1 x2 x3 x4 x5 x6 x7 x8 x9 x10 x11 x12 x13 x14 x15 se nt mt x19 x20 x21 f0 f1 f2 f3 f4 f5 f6 f7 f8 ga gb gc f12 f13 f14 f15 f16 f17 f18 f19 f20 f21 la hn fP hm ho) H → va_D A (mW ad kc x0 x1 x2 x3 x4 x5 x6 x7 x8 x9 x10 x11 x12 x13 x14 x15 se nt mt x19 x20 x21 f0 f1 f2 f3 f4 f5 f6 f7 f8 ga gb gc f12 f13 f14 f15 f16 f17 f18 f19 f20 f21 la hn fP hm ho) → va_S A s.heap H locs → lv_has ls 10 [(8, .int kk), (7, .int r_10), (6, .int r_4), (5, .int r_1), (4, .int ex), (0, .ref (ad 0)), (1, .int i1), (2, .int i2), (3, .int i3)] → W p l e (headSpec mwg_X10_worksPattern ({ frames := (6 * d + 8), cells := 0, slots := 0, locals := 60 * (6 * d + 8) })).room s m ([.ref (ad 0), .int i1, .int i2, .int i3]).toArray below meth c H locs 0 0 (MQ below (va_Qi (fun (o9 u9 : Int32) => o9 = u9) (fun (o9 : Int32) t => ∃ (y16 y17 y18 : Int32) (g9 g10 g11 : Nat → Int32) (L9 : Nat → Nat → Int64) (Nn9 : Nat → Nat → Int32) (M9 : Nat → Nat → Int32) (O9 : Nat → Nat → Int32), (o9.toInt = 0 ∨ o9.toInt = 1) ∧ (y16.toInt = x16.toInt) ∧ (y17.toInt = x17.toInt) ∧ (wF fL f9 f10 (rO fN fM fO) L9 g9 g10 (rO Nn9 M9 O9) i2.toInt i3.toInt x16.toInt x17.toInt) ∧ (nOK (rO Nn9 M9 O9) fP g10 i3.toInt m9) ∧ (o9.toInt = 1 → sOK L9 g9 i2.toInt 6 m9) ∧ va_P (dC, dI) vwCl (mW ad kc x0 x1 x2 x3 x4 x5 x6 x7 x8 x9 x10 x11 x12 x13 x14 x15 y16 y17 y18 x19 x20 x21 f0 f1 f2 f3 f4 f5 f6 f7 f8 g9 g10 g11 f12 f13 f14 f15 f16 f17 f18 f19 f20 f21 L9 Nn9 fP M9 O9) t.heap ∧ va_K (dC, dI) vwCl (mT kc) t ∧ va_D A (mW ad kc x0 x1 x2 x3 x4 x5 x6 x7 x8 x9 x10 x11 x12 x13 x14 x15 y16 y17 y18 x19 x20 x21 f0 f1 f2 f3 f4 f5 f6 f7 f8 g9 g10 g11 f12 f13 f14 f15 f16 f17 f18 f19 f20 f21 L9 Nn9 fP M9 O9)) A) ([.ref (ad 0), .int i1, .int i2, .int i3]).toArray s 0 0 A) (F0 m 29 ls []) := by
    intro lm29
    induction lm29 with
    | zero => intro ex kk se nt mt le9 ga gb gc la hn hm ho v29_0 v29_1 v29_2 v29_3 v29_4 v29_5 v29_6 v29_7 v29_8 hm29; exact absurd hm29 (Nat.not_lt_zero _)
    | succ lm29 ih29 =>
      intro ex kk se nt mt le9 ga gb gc la hn hm ho v29_0 v29_1 v29_2 v29_3 v29_4 v29_5 v29_6 v29_7 v29_8 hm29 H locs ls hP hD hS hl
      have rg_ex := i_rng ex
      have rg_kk := i_rng kk
      have rg_se := i_rng se
      have rg_nt := i_rng nt
      have rg_mt := i_rng mt
      refine lv_iload hx hb dX10_worksPattern_29 (lv_at hl 0 rfl) ?_
      refine lv_iconst (v := (-1)) hx hb dX10_worksPattern_31 (by decide) ?_
      refine lv_icmp_eq (tgt := 157) hx hb dX10_worksPattern_32 (by decide) (fun k_14 => ?_) (fun k_14 => ?_)
      · have tk_14 := c_eq (a := kk.toInt) (b := (-1)) rfl (by decide) k_14
        have hX := ts_exit v29_6 tk_14
        have q6c : mV f3 f4 f5 f7 1 i1.toInt = i1.toInt + 1 := q6b.2.1
        have hS9 := v29_5.1
        have hS9a := hS9.1
        have hS9b := hS9.2.1
        have hN9 := v29_5.2 (by omega)
        refine lv_aload_n hx hb dX10_worksPattern_157 rfl (lv_at hl 5 rfl) ?_
        refine lv_iload hx hb dX10_worksPattern_158 (lv_at hl 1 rfl) ?_
        refine lv_iload_n hx hb dX10_worksPattern_160 rfl (lv_at hl 7 rfl) ?_
        have hFc := m_free hD hS hA
        refine va_callv (va_runV (As := [.int r_10, .int i2]) (rest := []) ⟨hx, hb, hml, hown, hts⟩ (m_copiesSet l dC dI ad kc x0 x1 x2 x3 x4 x5 x6 x7 x8 x9 x10 x11 x12 x13 x14 x15 se nt mt x19 x20 x21 f0 f1 f2 f3 f4 f5 f6 f7 f8 ga gb gc f12 f13 f14 f15 f16 f17 f18 f19 f20 f21 la hn fP hm ho H.size r_10 i2 (by first | omega | assumption | decide | (have l0 := Int32.toInt_zero; omega)) (by first | omega | assumption | decide | (have l0 := Int32.toInt_zero; omega)) (by first | omega | assumption | decide | (have l0 := Int32.toInt_zero; omega)) (by first | omega | assumption | decide | (have l0 := Int32.toInt_zero; omega)) (by first | omega | assumption | decide | (have l0 := Int32.toInt_zero; omega)) (by first | omega | assumption | decide | (have l0 := Int32.toInt_zero; omega)) (by first | omega | assumption | decide | (have l0 := Int32.toInt_zero; omega))) (cwV 2 hts mg_X10_worksPatterng_X10_copiesSet_350 rfl rfl rfl (by decide +kernel) ⟨(show 0 + 1 ≤ 6 * d + 8 by omega), (show 8 + (4 + 11) + 0 ≤ 60 * (6 * d + 8) by omega)⟩) ⟨fun a U g mk q => by obtain ⟨q0, q1, qP, qK, qD⟩ := q; exact ⟨q0, q1, qP, va_K.moved (u := U) (U := U.calling g mk a) (Vm.Alike.refl U.vm) qK, qD⟩, va_recv hK hP (ci := 10) (q0 := 0) rfl rfl, fun U hU hW => ⟨rfl, by rw [hU], by rw [hU]; exact hP, va_K.moved hW.alike hK, hD.weaken (fun _ _ _ _ => trivial)⟩⟩ rfl rfl hl.1 rfl (lv_room (Nat.le_of_ble_eq_true rfl)) dX10_worksPattern_161 ⟨Nat.le_of_ble_eq_true rfl, Nat.le_of_ble_eq_true rfl⟩) hS (fun q _ h => hFc q h) hFc (fun u t H1 locs ht hvm hw hB hz1 hk1 hS => ?_)
        obtain ⟨f_16, L_17, hr_15_0, hP, hK1, hD1⟩ := hB
        rw [ht] at hP
        have hD := hD1.weaken (fun k q _ h => hFc q.1 h)
        clear hz1 hk1 hFc hD1 hK1 hvm
        generalize H1 = H at hP hS ⊢
        have hP : va_P (dC, dI) vwCl (mW ad kc x0 x1 x2 x3 x4 x5 x6 x7 x8 x9 x10 x11 x12 x13 x14 x15 se nt mt x19 x20 x21 f0 f1 f2 f3 f4 f5 f6 f7 f8 f_16 gb gc f12 f13 f14 f15 f16 f17 f18 f19 f20 f21 L_17 hn fP hm ho) H := hP
        have hD : va_D A (mW ad kc x0 x1 x2 x3 x4 x5 x6 x7 x8 x9 x10 x11 x12 x13 x14 x15 se nt mt x19 x20 x21 f0 f1 f2 f3 f4 f5 f6 f7 f8 f_16 gb gc f12 f13 f14 f15 f16 f17 f18 f19 f20 f21 L_17 hn fP hm ho) := hD
        have hF9 := v29_4.tr (wF.row hr_15_0.fr (Or.inr rfl) (by omega))
        have hS8 := hS9.copy hr_15_0
        refine lv_iload hx hb dX10_worksPattern_164 (lv_at hl 4 rfl) ?_
        refine lv_if_eq (tgt := 175) hx hb dX10_worksPattern_166 (by decide) (fun k_18 => ?_) (fun k_18 => ?_)
        · have tk_18 := c_eq (a := ex.toInt) (b := 0) rfl (by decide) k_18
          refine lv_aload_n hx hb dX10_worksPattern_175 rfl (lv_at hl 5 rfl) ?_
          refine lv_dup hx hb dX10_worksPattern_176 rfl ?_
          refine va_get (D := (dC, dI)) (ci := 10) (v := .int nt) (C := RX10) (T := TX10) (N := 48) hx hb hts fin_X10_worksPatterng_X10 hown hK hP 0 rfl rfl 31 (by decide) (hts (.fieldLink RX10 300 "PatternGateModel" "needTop" "I") (List.mem_of_getElem? (i := 7) (by decide +kernel))) (fun _ h9 => h9) rfl dX10_worksPattern_177 ?_
          refine lv_iconst (v := 1) hx hb dX10_worksPattern_180 (by decide) ?_
          refine lv_isub hx hb dX10_worksPattern_181 ?_
          refine lv_topi (fun y_19 ey_19 => ?_)
          first | have ty_19 := i_sub (a := nt.toInt) (b := 1) rfl (by decide) ey_19 (by omega) (by omega) | skip
          refine va_put (D := (dC, dI)) (ci := 10) (v := .int y_19) (ty := .int) (C := RX10) (T := TX10) (N := 48) hx hb hts fin_X10_worksPatterng_X10 tyX10 tyX10_ok nmX10 hown hK hP hD hS 0 rfl rfl 31 (by decide) (hts (.fieldLink RX10 300 "PatternGateModel" "needTop" "I") (List.mem_of_getElem? (i := 7) (by decide +kernel))) (fun _ h9 => h9) rfl (by decide +kernel) rfl rfl (Nat.le_of_ble_eq_true rfl) dX10_worksPattern_182 (fun H locs hP hD hS => ?_)
          have hP : va_P (dC, dI) vwCl (mW ad kc x0 x1 x2 x3 x4 x5 x6 x7 x8 x9 x10 x11 x12 x13 x14 x15 se y_19 mt x19 x20 x21 f0 f1 f2 f3 f4 f5 f6 f7 f8 f_16 gb gc f12 f13 f14 f15 f16 f17 f18 f19 f20 f21 L_17 hn fP hm ho) H := hP
          have hD : va_D A (mW ad kc x0 x1 x2 x3 x4 x5 x6 x7 x8 x9 x10 x11 x12 x13 x14 x15 se y_19 mt x19 x20 x21 f0 f1 f2 f3 f4 f5 f6 f7 f8 f_16 gb gc f12 f13 f14 f15 f16 f17 f18 f19 f20 f21 L_17 hn fP hm ho) := hD
          refine lv_aload_n hx hb dX10_worksPattern_185 rfl (lv_at hl 5 rfl) ?_
          refine lv_dup hx hb dX10_worksPattern_186 rfl ?_
          refine va_get (D := (dC, dI)) (ci := 10) (v := .int se) (C := RX10) (T := TX10) (N := 48) hx hb hts fin_X10_worksPatterng_X10 hown hK hP 0 rfl rfl 27 (by decide) (hts (.fieldLink RX10 274 "PatternGateModel" "sets" "I") (List.mem_of_getElem? (i := 5) (by decide +kernel))) (fun _ h9 => h9) rfl dX10_worksPattern_187 ?_
          refine lv_iconst (v := 2) hx hb dX10_worksPattern_190 (by decide) ?_
          refine lv_isub hx hb dX10_worksPattern_191 ?_
          refine lv_topi (fun y_20 ey_20 => ?_)
          first | have ty_20 := i_sub (a := se.toInt) (b := 2) rfl (by decide) ey_20 (by omega) (by omega) | skip
          refine va_put (D := (dC, dI)) (ci := 10) (v := .int y_20) (ty := .int) (C := RX10) (T := TX10) (N := 48) hx hb hts fin_X10_worksPatterng_X10 tyX10 tyX10_ok nmX10 hown hK hP hD hS 0 rfl rfl 27 (by decide) (hts (.fieldLink RX10 274 "PatternGateModel" "sets" "I") (List.mem_of_getElem? (i := 5) (by decide +kernel))) (fun _ h9 => h9) rfl (by decide +kernel) rfl rfl (Nat.le_of_ble_eq_true rfl) dX10_worksPattern_192 (fun H locs hP hD hS => ?_)
          have hP : va_P (dC, dI) vwCl (mW ad kc x0 x1 x2 x3 x4 x5 x6 x7 x8 x9 x10 x11 x12 x13 x14 x15 y_20 y_19 mt x19 x20 x21 f0 f1 f2 f3 f4 f5 f6 f7 f8 f_16 gb gc f12 f13 f14 f15 f16 f17 f18 f19 f20 f21 L_17 hn fP hm ho) H := hP
          have hD : va_D A (mW ad kc x0 x1 x2 x3 x4 x5 x6 x7 x8 x9 x10 x11 x12 x13 x14 x15 y_20 y_19 mt x19 x20 x21 f0 f1 f2 f3 f4 f5 f6 f7 f8 f_16 gb gc f12 f13 f14 f15 f16 f17 f18 f19 f20 f21 L_17 hn fP hm ho) := hD
          refine lv_iload hx hb dX10_worksPattern_195 (lv_at hl 4 rfl) ?_
          exact W.zret hx hb hr (z_nar (by first | assumption | decide | exact z_of (by omega))) (fun t ht hW => ⟨⟨_, _, rfl, rfl, y_20, y_19, mt, f_16, gb, gc, L_17, hn, hm, ho, (by first | omega | assumption | rfl | decide), (by first | omega | assumption | rfl | decide), (by first | omega | assumption | rfl | decide), hF9, hN9, (fun h9 => by omega), by rw [ht]; exact hP, va_K.moved hW.alike hK, hD⟩, hS.F ht⟩) hS.2.2 dX10_worksPattern_197
        · have tk_18 := c_ne (a := ex.toInt) (b := 0) rfl (by decide) k_18
          refine lv_aload_n hx hb dX10_worksPattern_169 rfl (lv_at hl 5 rfl) ?_
          refine lv_iload_n hx hb dX10_worksPattern_170 rfl (lv_at hl 7 rfl) ?_
          refine lv_iload_n hx hb dX10_worksPattern_171 rfl (lv_at hl 8 rfl) ?_
          have hFc := m_free hD hS hA
          refine va_callv (va_runV (As := [.int i2, .int i3]) (rest := []) ⟨hx, hb, hml, hown, hts⟩ (m_ofRows l dC dI ad kc x0 x1 x2 x3 x4 x5 x6 x7 x8 x9 x10 x11 x12 x13 x14 x15 se nt mt x19 x20 x21 f0 f1 f2 f3 f4 f5 f6 f7 f8 f_16 gb gc f12 f13 f14 f15 f16 f17 f18 f19 f20 f21 L_17 hn fP hm ho H.size i2 i3 m9 m9 (by first | omega | assumption | decide | (have l0 := Int32.toInt_zero; omega)) (by first | omega | assumption | decide | (have l0 := Int32.toInt_zero; omega)) ⟨hS8.1, by have h9 := hr_15_0.2.2.1; have h8 := v29_8 (by omega); omega, hS8.2.2⟩ (by first | omega | assumption | decide | (have l0 := Int32.toInt_zero; omega)) (by first | omega | assumption | decide | (have l0 := Int32.toInt_zero; omega))) (cwV 2 hts mg_X10_worksPatterng_X10_ofRows_340 rfl rfl rfl (by decide +kernel) ⟨(show 2 + 1 ≤ 6 * d + 8 by omega), (show 8 + (7 + 11) + 120 ≤ 60 * (6 * d + 8) by omega)⟩) ⟨fun a U g mk q => by obtain ⟨q0, q1, qP, qK, qD⟩ := q; exact ⟨q0, q1, qP, va_K.moved (u := U) (U := U.calling g mk a) (Vm.Alike.refl U.vm) qK, qD⟩, va_recv hK hP (ci := 10) (q0 := 0) rfl rfl, fun U hU hW => ⟨rfl, by rw [hU], by rw [hU]; exact hP, va_K.moved hW.alike hK, hD.weaken (fun _ _ _ _ => trivial)⟩⟩ rfl rfl hl.1 rfl (lv_room (Nat.le_of_ble_eq_true rfl)) dX10_worksPattern_172 ⟨Nat.le_of_ble_eq_true rfl, Nat.le_of_ble_eq_true rfl⟩) hS (fun q _ h => hFc q h) hFc (fun u t H1 locs ht hvm hw hB hz1 hk1 hS => ?_)
          obtain ⟨x_22, f_23, f_24, Nn_25, M_26, O_27, hr_21_0, hr_21_1, hr_21_2, hP, hK1, hD1⟩ := hB
          rw [ht] at hP
          have hD := hD1.weaken (fun k q _ h => hFc q.1 h)
          clear hz1 hk1 hFc hD1 hK1 hvm
          generalize H1 = H at hP hS ⊢
          have rg_x_22 := i_rng x_22
          have hP : va_P (dC, dI) vwCl (mW ad kc x0 x1 x2 x3 x4 x5 x6 x7 x8 x9 x10 x11 x12 x13 x14 x15 se nt x_22 x19 x20 x21 f0 f1 f2 f3 f4 f5 f6 f7 f8 f_16 f_24 f_23 f12 f13 f14 f15 f16 f17 f18 f19 f20 f21 L_17 Nn_25 fP M_26 O_27) H := hP
          have hD : va_D A (mW ad kc x0 x1 x2 x3 x4 x5 x6 x7 x8 x9 x10 x11 x12 x13 x14 x15 se nt x_22 x19 x20 x21 f0 f1 f2 f3 f4 f5 f6 f7 f8 f_16 f_24 f_23 f12 f13 f14 f15 f16 f17 f18 f19 f20 f21 L_17 Nn_25 fP M_26 O_27) := hD
          have hF9 := hF9.tr (wF.need hr_21_1 hr_21_2 (Or.inr rfl) (by omega) (by omega))
          have hN9 := hr_21_0
          refine lv_aload_n hx hb dX10_worksPattern_175 rfl (lv_at hl 5 rfl) ?_
          refine lv_dup hx hb dX10_worksPattern_176 rfl ?_
          refine va_get (D := (dC, dI)) (ci := 10) (v := .int nt) (C := RX10) (T := TX10) (N := 48) hx hb hts fin_X10_worksPatterng_X10 hown hK hP 0 rfl rfl 31 (by decide) (hts (.fieldLink RX10 300 "PatternGateModel" "needTop" "I") (List.mem_of_getElem? (i := 7) (by decide +kernel))) (fun _ h9 => h9) rfl dX10_worksPattern_177 ?_
          refine lv_iconst (v := 1) hx hb dX10_worksPattern_180 (by decide) ?_
          refine lv_isub hx hb dX10_worksPattern_181 ?_
          refine lv_topi (fun y_28 ey_28 => ?_)
          first | have ty_28 := i_sub (a := nt.toInt) (b := 1) rfl (by decide) ey_28 (by omega) (by omega) | skip
          refine va_put (D := (dC, dI)) (ci := 10) (v := .int y_28) (ty := .int) (C := RX10) (T := TX10) (N := 48) hx hb hts fin_X10_worksPatterng_X10 tyX10 tyX10_ok nmX10 hown hK hP hD hS 0 rfl rfl 31 (by decide) (hts (.fieldLink RX10 300 "PatternGateModel" "needTop" "I") (List.mem_of_getElem? (i := 7) (by decide +kernel))) (fun _ h9 => h9) rfl (by decide +kernel) rfl rfl (Nat.le_of_ble_eq_true rfl) dX10_worksPattern_182 (fun H locs hP hD hS => ?_)
          have hP : va_P (dC, dI) vwCl (mW ad kc x0 x1 x2 x3 x4 x5 x6 x7 x8 x9 x10 x11 x12 x13 x14 x15 se y_28 x_22 x19 x20 x21 f0 f1 f2 f3 f4 f5 f6 f7 f8 f_16 f_24 f_23 f12 f13 f14 f15 f16 f17 f18 f19 f20 f21 L_17 Nn_25 fP M_26 O_27) H := hP
          have hD : va_D A (mW ad kc x0 x1 x2 x3 x4 x5 x6 x7 x8 x9 x10 x11 x12 x13 x14 x15 se y_28 x_22 x19 x20 x21 f0 f1 f2 f3 f4 f5 f6 f7 f8 f_16 f_24 f_23 f12 f13 f14 f15 f16 f17 f18 f19 f20 f21 L_17 Nn_25 fP M_26 O_27) := hD
          refine lv_aload_n hx hb dX10_worksPattern_185 rfl (lv_at hl 5 rfl) ?_
          refine lv_dup hx hb dX10_worksPattern_186 rfl ?_
          refine va_get (D := (dC, dI)) (ci := 10) (v := .int se) (C := RX10) (T := TX10) (N := 48) hx hb hts fin_X10_worksPatterng_X10 hown hK hP 0 rfl rfl 27 (by decide) (hts (.fieldLink RX10 274 "PatternGateModel" "sets" "I") (List.mem_of_getElem? (i := 5) (by decide +kernel))) (fun _ h9 => h9) rfl dX10_worksPattern_187 ?_
          refine lv_iconst (v := 2) hx hb dX10_worksPattern_190 (by decide) ?_
          refine lv_isub hx hb dX10_worksPattern_191 ?_
          refine lv_topi (fun y_29 ey_29 => ?_)
          first | have ty_29 := i_sub (a := se.toInt) (b := 2) rfl (by decide) ey_29 (by omega) (by omega) | skip
          refine va_put (D := (dC, dI)) (ci := 10) (v := .int y_29) (ty := .int) (C := RX10) (T := TX10) (N := 48) hx hb hts fin_X10_worksPatterng_X10 tyX10 tyX10_ok nmX10 hown hK hP hD hS 0 rfl rfl 27 (by decide) (hts (.fieldLink RX10 274 "PatternGateModel" "sets" "I") (List.mem_of_getElem? (i := 5) (by decide +kernel))) (fun _ h9 => h9) rfl (by decide +kernel) rfl rfl (Nat.le_of_ble_eq_true rfl) dX10_worksPattern_192 (fun H locs hP hD hS => ?_)
          have hP : va_P (dC, dI) vwCl (mW ad kc x0 x1 x2 x3 x4 x5 x6 x7 x8 x9 x10 x11 x12 x13 x14 x15 y_29 y_28 x_22 x19 x20 x21 f0 f1 f2 f3 f4 f5 f6 f7 f8 f_16 f_24 f_23 f12 f13 f14 f15 f16 f17 f18 f19 f20 f21 L_17 Nn_25 fP M_26 O_27) H := hP
          have hD : va_D A (mW ad kc x0 x1 x2 x3 x4 x5 x6 x7 x8 x9 x10 x11 x12 x13 x14 x15 y_29 y_28 x_22 x19 x20 x21 f0 f1 f2 f3 f4 f5 f6 f7 f8 f_16 f_24 f_23 f12 f13 f14 f15 f16 f17 f18 f19 f20 f21 L_17 Nn_25 fP M_26 O_27) := hD
          refine lv_iload hx hb dX10_worksPattern_195 (lv_at hl 4 rfl) ?_
          exact W.zret hx hb hr (z_nar (by first | assumption | decide | exact z_of (by omega))) (fun t ht hW => ⟨⟨_, _, rfl, rfl, y_29, y_28, x_22, f_16, f_24, f_23, L_17, Nn_25, M_26, O_27, (by first | omega | assumption | rfl | decide), (by first | omega | assumption | rfl | decide), (by first | omega | assumption | rfl | decide), hF9, hN9, (fun _ => ⟨hS8.1, by have h9 := hr_15_0.2.2.1; have h8 := v29_8 (by omega); omega, hS8.2.2⟩), by rw [ht]; exact hP, va_K.moved hW.alike hK, hD⟩, hS.F ht⟩) hS.2.2 dX10_worksPattern_197
      · have tk_14 := c_ne (a := kk.toInt) (b := (-1)) rfl (by decide) k_14
        obtain ⟨h8, m8, hI8, hk0, hk1, hk2, hk3, hk4, hN8⟩ := ts_cont (fun a b m => hm_branch d (mV f3 f4 f5 f7) a b m) (hp_branch (mV f3 f4 f5 f7) d) v29_6 tk_14
        refine lv_aload_n hx hb dX10_worksPattern_35 rfl (lv_at hl 5 rfl) ?_
        refine lv_iload hx hb dX10_worksPattern_36 (lv_at hl 0 rfl) ?_
        refine lv_iload hx hb dX10_worksPattern_38 (lv_at hl 3 rfl) ?_
        refine lv_iload hx hb dX10_worksPattern_40 (lv_at hl 2 rfl) ?_
        have hFc := m_free hD hS hA
        refine va_calli (va_runV (As := [.int kk, .int r_1, .int r_4]) (rest := []) ⟨hx, hb, hml, hown, hts⟩ (hrec ad kc x0 x1 x2 x3 x4 x5 x6 x7 x8 x9 x10 x11 x12 x13 x14 x15 se nt mt x19 x20 x21 f0 f1 f2 f3 f4 f5 f6 f7 f8 ga gb gc f12 f13 f14 f15 f16 f17 f18 f19 f20 f21 la hn fP hm ho H.size kk r_1 r_4 h8 m8 (by first | omega | assumption | decide | (have l0 := Int32.toInt_zero; omega)) (by first | omega | assumption | decide | (have l0 := Int32.toInt_zero; omega)) (by first | omega | assumption | decide | (have l0 := Int32.toInt_zero; omega)) (by first | omega | assumption | decide | (have l0 := Int32.toInt_zero; omega)) (by first | omega | assumption | decide | (have l0 := Int32.toInt_zero; omega)) (by first | omega | assumption | decide | (have l0 := Int32.toInt_zero; omega)) (by first | omega | assumption | decide | (have l0 := Int32.toInt_zero; omega)) (by first | omega | assumption | decide | (have l0 := Int32.toInt_zero; omega)) (by first | omega | assumption | decide | (have l0 := Int32.toInt_zero; omega))) (cwV 3 hts mg_X10_worksPatterng_X10_worksOut_331 rfl rfl rfl (by decide +kernel) ⟨(show (6 * d + 7) + 1 ≤ 6 * d + 8 by omega), (show 8 + (4 + 11) + 60 * (6 * d + 7) ≤ 60 * (6 * d + 8) by omega)⟩) ⟨fun a U g mk q => by obtain ⟨q0, q1, qP, qK, qD⟩ := q; exact ⟨q0, q1, qP, va_K.moved (u := U) (U := U.calling g mk a) (Vm.Alike.refl U.vm) qK, qD⟩, va_recv hK hP (ci := 10) (q0 := 0) rfl rfl, fun U hU hW => ⟨rfl, by rw [hU], by rw [hU]; exact hP, va_K.moved hW.alike hK, hD.weaken (fun _ _ _ _ => trivial)⟩⟩ rfl rfl hl.1 rfl (lv_room (Nat.le_of_ble_eq_true rfl)) dX10_worksPattern_42 ⟨Nat.le_of_ble_eq_true rfl, Nat.le_of_ble_eq_true rfl⟩) hS (fun q _ h => hFc q h) hFc (fun r_30 u t H1 locs ht hvm hw hB hz1 hk1 hS => ?_)
        subst hw
        obtain ⟨x_31, x_32, x_33, f_34, f_35, f_36, L_37, Nn_38, M_39, O_40, hr_30_0, hr_30_1, hr_30_2, hr_30_3, hr_30_4, hr_30_5, hP, hK1, hD1⟩ := hB
        rw [ht] at hP
        have hD := hD1.weaken (fun k q _ h => hFc q.1 h)
        clear hz1 hk1 hFc hD1 hK1 hvm
        generalize H1 = H at hP hS ⊢
        have rg_x_31 := i_rng x_31
        have rg_x_32 := i_rng x_32
        have rg_x_33 := i_rng x_33
        have rg_r_30 := i_rng r_30
        have hP : va_P (dC, dI) vwCl (mW ad kc x0 x1 x2 x3 x4 x5 x6 x7 x8 x9 x10 x11 x12 x13 x14 x15 x_31 x_32 x_33 x19 x20 x21 f0 f1 f2 f3 f4 f5 f6 f7 f8 f_34 f_35 f_36 f12 f13 f14 f15 f16 f17 f18 f19 f20 f21 L_37 Nn_38 fP M_39 O_40) H := hP
        have hD : va_D A (mW ad kc x0 x1 x2 x3 x4 x5 x6 x7 x8 x9 x10 x11 x12 x13 x14 x15 x_31 x_32 x_33 x19 x20 x21 f0 f1 f2 f3 f4 f5 f6 f7 f8 f_34 f_35 f_36 f12 f13 f14 f15 f16 f17 f18 f19 f20 f21 L_37 Nn_38 fP M_39 O_40) := hD
        have hF1 := v29_4.tr (hr_30_3.out (s := i2.toInt) (n := i3.toInt) (S := x16.toInt) (N := x17.toInt) (Or.inl (by omega)) (Or.inl (by omega)) (by omega) (by omega) (by omega))
        have hSu := v29_5.1.wf hr_30_3 (by omega) (by omega) (by omega)
        have hSu1 := hSu.1
        have hSu2 := hSu.2.1
        have hNe : kk.toInt ≠ mV f3 f4 f5 f7 1 i1.toInt → nOK (rO Nn_38 M_39 O_40) fP f_35 i3.toInt m9 := fun h9 => (v29_5.2 h9).wf q5 hr_30_3 (by omega) (by omega) (by omega) (by omega) (by omega)
        refine lv_if_eq (tgt := 57) hx hb dX10_worksPattern_45 (by decide) (fun k_41 => ?_) (fun k_41 => ?_)
        · have tk_41 := c_eq (a := r_30.toInt) (b := 0) rfl (by decide) k_41
          refine lv_iconst (v := 0) hx hb dX10_worksPattern_57 (by decide) ?_
          refine lv_istore (lv' := [(4, .int 0), (8, .int kk), (7, .int r_10), (6, .int r_4), (5, .int r_1), (0, .ref (ad 0)), (1, .int i1), (2, .int i2), (3, .int i3)]) hx hb dX10_worksPattern_58 hl (by decide) rfl (fun ls hl => ?_)
          refine lv_iload hx hb dX10_worksPattern_60 (lv_at hl 0 rfl) ?_
          refine lv_if_eq (tgt := 102) hx hb dX10_worksPattern_62 (by decide) (fun k_42 => ?_) (fun k_42 => absurd (by decide) k_42)
          have tk_42 := c_eq (a := 0) (b := 0) (by decide) (by decide) k_42
          refine lv_aload_n hx hb dX10_worksPattern_102 rfl (lv_at hl 5 rfl) ?_
          refine va_get (D := (dC, dI)) (ci := 10) (v := .ref (ad 10)) (C := RX10) (T := TX10) (N := 48) hx hb hts fin_X10_worksPatterng_X10 hown hK hP 0 rfl rfl 26 (by decide) (hts (.fieldLink RX10 51 "PatternGateModel" "rowMany" "[I") (List.mem_of_getElem? (i := 12) (by decide +kernel))) (fun _ h9 => h9) rfl dX10_worksPattern_103 ?_
          refine lv_iload hx hb dX10_worksPattern_106 (lv_at hl 2 rfl) ?_
          refine va_iald hx hb hK hP 10 9 rfl rfl (i := r_10) (vp_of (a := r_10.toInt) rfl (by omega) (by omega)) dX10_worksPattern_108 ?_
          refine lv_topi (fun y_43 ey_43 => ?_)
          have rg_y_43 := i_rng y_43
          have vy_43 := vI_lda (f := f_34) (i := r_10) (a := r_10.toInt) ey_43 (by first | omega | decide)
          have rg_y_43 := i_rng y_43
          have hS9 := hSu
          have hF2 := hF1
          have hS9a := hS9.1
          have hS9b := hS9.2.1
          refine lv_bipush (v := 6) hx hb dX10_worksPattern_109 (by decide) ?_
          refine lv_icmp_le (tgt := 117) hx hb dX10_worksPattern_111 (by decide) (fun k_44 => ?_) (fun k_44 => ?_)
          · have tk_44 := c_le (a := y_43.toInt) (b := 6) rfl (by decide) k_44
            refine lv_iload hx hb dX10_worksPattern_117 (lv_at hl 1 rfl) ?_
            refine lv_aload_n hx hb dX10_worksPattern_119 rfl (lv_at hl 5 rfl) ?_
            refine va_get (D := (dC, dI)) (ci := 10) (v := .ref (ad 5)) (C := RX10) (T := TX10) (N := 48) hx hb hts fin_X10_worksPatterng_X10 hown hK hP 0 rfl rfl 16 (by decide) (hts (.fieldLink RX10 31 "PatternGateModel" "first" "[I") (List.mem_of_getElem? (i := 8) (by decide +kernel))) (fun _ h9 => h9) rfl dX10_worksPattern_120 ?_
            refine lv_iload_n hx hb dX10_worksPattern_123 rfl (lv_at hl 6 rfl) ?_
            refine va_iald hx hb hK hP 5 4 rfl rfl (i := i1) (vp_of (a := i1.toInt) rfl (by omega) (by omega)) dX10_worksPattern_124 ?_
            refine lv_topi (fun y_45 ey_45 => ?_)
            have rg_y_45 := i_rng y_45
            have vy_45 := vI_lda (f := f4) (i := i1) (a := i1.toInt) ey_45 (by first | omega | decide)
            have rg_y_45 := i_rng y_45
            refine lv_icmp_ne (tgt := 138) hx hb dX10_worksPattern_125 (by decide) (fun k_46 => ?_) (fun k_46 => ?_)
            · have tk_46 := c_ne (a := kk.toInt) (b := y_45.toInt) rfl rfl k_46
              rw [show y_45.toInt = mV f3 f4 f5 f7 1 i1.toInt from vy_45] at tk_46
              refine lv_aload_n hx hb dX10_worksPattern_138 rfl (lv_at hl 5 rfl) ?_
              refine lv_iload_n hx hb dX10_worksPattern_139 rfl (lv_at hl 8 rfl) ?_
              refine lv_iload hx hb dX10_worksPattern_140 (lv_at hl 3 rfl) ?_
              have hFc := m_free hD hS hA
              refine va_callv (va_runV (As := [.int i3, .int r_4]) (rest := []) ⟨hx, hb, hml, hown, hts⟩ (m_either l dC dI ad kc x0 x1 x2 x3 x4 x5 x6 x7 x8 x9 x10 x11 x12 x13 x14 x15 x_31 x_32 x_33 x19 x20 x21 f0 f1 f2 f3 f4 f5 f6 f7 f8 f_34 f_35 f_36 f12 f13 f14 f15 f16 f17 f18 f19 f20 f21 L_37 Nn_38 fP M_39 O_40 H.size i3 r_4 m9 (by first | omega | assumption | decide | (have l0 := Int32.toInt_zero; omega)) (by first | omega | assumption | decide | (have l0 := Int32.toInt_zero; omega)) (by first | omega | assumption | decide | (have l0 := Int32.toInt_zero; omega)) (hNe tk_46) (hr_30_4.mono (by omega)) (by first | omega | assumption | decide | (have l0 := Int32.toInt_zero; omega)) (by first | omega | assumption | decide | (have l0 := Int32.toInt_zero; omega))) (cwV 2 hts mg_X10_worksPatterng_X10_either_356 rfl rfl rfl (by decide +kernel) ⟨(show 2 + 1 ≤ 6 * d + 8 by omega), (show 8 + (4 + 11) + 120 ≤ 60 * (6 * d + 8) by omega)⟩) ⟨fun a U g mk q => by obtain ⟨q0, q1, qP, qK, qD⟩ := q; exact ⟨q0, q1, qP, va_K.moved (u := U) (U := U.calling g mk a) (Vm.Alike.refl U.vm) qK, qD⟩, va_recv hK hP (ci := 10) (q0 := 0) rfl rfl, fun U hU hW => ⟨rfl, by rw [hU], by rw [hU]; exact hP, va_K.moved hW.alike hK, hD.weaken (fun _ _ _ _ => trivial)⟩⟩ rfl rfl hl.1 rfl (lv_room (Nat.le_of_ble_eq_true rfl)) dX10_worksPattern_142 ⟨Nat.le_of_ble_eq_true rfl, Nat.le_of_ble_eq_true rfl⟩) hS (fun q _ h => hFc q h) hFc (fun u t H1 locs ht hvm hw hB hz1 hk1 hS => ?_)
              obtain ⟨x_48, f_49, f_50, Nn_51, M_52, O_53, hr_47_0, hr_47_1, hr_47_2, hP, hK1, hD1⟩ := hB
              rw [ht] at hP
              have hD := hD1.weaken (fun k q _ h => hFc q.1 h)
              clear hz1 hk1 hFc hD1 hK1 hvm
              generalize H1 = H at hP hS ⊢
              have rg_x_48 := i_rng x_48
              have hP : va_P (dC, dI) vwCl (mW ad kc x0 x1 x2 x3 x4 x5 x6 x7 x8 x9 x10 x11 x12 x13 x14 x15 x_31 x_32 x_48 x19 x20 x21 f0 f1 f2 f3 f4 f5 f6 f7 f8 f_34 f_50 f_49 f12 f13 f14 f15 f16 f17 f18 f19 f20 f21 L_37 Nn_51 fP M_52 O_53) H := hP
              have hD : va_D A (mW ad kc x0 x1 x2 x3 x4 x5 x6 x7 x8 x9 x10 x11 x12 x13 x14 x15 x_31 x_32 x_48 x19 x20 x21 f0 f1 f2 f3 f4 f5 f6 f7 f8 f_34 f_50 f_49 f12 f13 f14 f15 f16 f17 f18 f19 f20 f21 L_37 Nn_51 fP M_52 O_53) := hD
              have hN9 := hr_47_0
              have hF3 := hF2.tr (wF.need hr_47_1 hr_47_2 (Or.inr rfl) (by omega) (by omega))
              refine lv_aload_n hx hb dX10_worksPattern_145 rfl (lv_at hl 5 rfl) ?_
              refine va_get (D := (dC, dI)) (ci := 10) (v := .ref (ad 6)) (C := RX10) (T := TX10) (N := 48) hx hb hts fin_X10_worksPatterng_X10 hown hK hP 0 rfl rfl 17 (by decide) (hts (.fieldLink RX10 34 "PatternGateModel" "next" "[I") (List.mem_of_getElem? (i := 9) (by decide +kernel))) (fun _ h9 => h9) rfl dX10_worksPattern_146 ?_
              refine lv_iload hx hb dX10_worksPattern_149 (lv_at hl 1 rfl) ?_
              refine va_iald hx hb hK hP 6 5 rfl rfl (i := kk) (vp_of (a := kk.toInt) rfl (by omega) (by omega)) dX10_worksPattern_151 ?_
              refine lv_topi (fun y_54 ey_54 => ?_)
              have rg_y_54 := i_rng y_54
              have vy_54 := vI_lda (f := f5) (i := kk) (a := kk.toInt) ey_54 (by first | omega | decide)
              have rg_y_54 := i_rng y_54
              refine lv_istore (lv' := [(8, .int y_54), (4, .int 0), (7, .int r_10), (6, .int r_4), (5, .int r_1), (0, .ref (ad 0)), (1, .int i1), (2, .int i2), (3, .int i3)]) hx hb dX10_worksPattern_152 hl (by decide) rfl (fun ls hl => ?_)
              refine lv_goto (tgt := 29) hx hb dX10_worksPattern_154 (by decide) ?_
              have lit_54 : (0 : Int32).toInt = 0 := by decide
              exact ih29 0 y_54 x_31 x_32 x_48 (le9 - m8) f_34 f_50 f_49 L_37 Nn_51 M_52 O_53 (by first | omega | assumption | decide) (by first | omega | assumption | decide) (by first | omega | assumption | decide) (by first | omega | assumption | decide) hF3 ⟨hS9, fun _ => hN9⟩ (by rw [show y_54.toInt = mV f3 f4 f5 f7 2 kk.toInt from vy_54]; exact hN8) (by first | omega | assumption | decide) (fun h9 => by omega) (by omega) _ _ ls hP hD hS (lv_sub hl [0, 2, 3, 4, 1, 5, 6, 7, 8] rfl)
            · have tk_46 := c_eq (a := kk.toInt) (b := y_45.toInt) rfl rfl k_46
              refine lv_aload_n hx hb dX10_worksPattern_128 rfl (lv_at hl 5 rfl) ?_
              refine lv_iload hx hb dX10_worksPattern_129 (lv_at hl 3 rfl) ?_
              refine lv_iload_n hx hb dX10_worksPattern_131 rfl (lv_at hl 8 rfl) ?_
              have hFc := m_free hD hS hA
              refine va_callv (va_runV (As := [.int r_4, .int i3]) (rest := []) ⟨hx, hb, hml, hown, hts⟩ (m_copiesNeed l dC dI ad kc x0 x1 x2 x3 x4 x5 x6 x7 x8 x9 x10 x11 x12 x13 x14 x15 x_31 x_32 x_33 x19 x20 x21 f0 f1 f2 f3 f4 f5 f6 f7 f8 f_34 f_35 f_36 f12 f13 f14 f15 f16 f17 f18 f19 f20 f21 L_37 Nn_38 fP M_39 O_40 H.size r_4 i3 m8 (by first | omega | assumption | decide | (have l0 := Int32.toInt_zero; omega)) (by first | omega | assumption | decide | (have l0 := Int32.toInt_zero; omega)) (by first | omega | assumption | decide | (have l0 := Int32.toInt_zero; omega)) hr_30_4 (by first | omega | assumption | decide | (have l0 := Int32.toInt_zero; omega)) (by first | omega | assumption | decide | (have l0 := Int32.toInt_zero; omega))) (cwV 2 hts mg_X10_worksPatterng_X10_copiesNeed_353 rfl rfl rfl (by decide +kernel) ⟨(show 1 + 1 ≤ 6 * d + 8 by omega), (show 8 + (4 + 11) + 60 ≤ 60 * (6 * d + 8) by omega)⟩) ⟨fun a U g mk q => by obtain ⟨q0, q1, qP, qK, qD⟩ := q; exact ⟨q0, q1, qP, va_K.moved (u := U) (U := U.calling g mk a) (Vm.Alike.refl U.vm) qK, qD⟩, va_recv hK hP (ci := 10) (q0 := 0) rfl rfl, fun U hU hW => ⟨rfl, by rw [hU], by rw [hU]; exact hP, va_K.moved hW.alike hK, hD.weaken (fun _ _ _ _ => trivial)⟩⟩ rfl rfl hl.1 rfl (lv_room (Nat.le_of_ble_eq_true rfl)) dX10_worksPattern_132 ⟨Nat.le_of_ble_eq_true rfl, Nat.le_of_ble_eq_true rfl⟩) hS (fun q _ h => hFc q h) hFc (fun u t H1 locs ht hvm hw hB hz1 hk1 hS => ?_)
              obtain ⟨f_57, Nn_58, M_59, O_60, hr_56_0, hr_56_1, hr_56_2, hP, hK1, hD1⟩ := hB
              rw [ht] at hP
              have hD := hD1.weaken (fun k q _ h => hFc q.1 h)
              clear hz1 hk1 hFc hD1 hK1 hvm
              generalize H1 = H at hP hS ⊢
              have hP : va_P (dC, dI) vwCl (mW ad kc x0 x1 x2 x3 x4 x5 x6 x7 x8 x9 x10 x11 x12 x13 x14 x15 x_31 x_32 x_33 x19 x20 x21 f0 f1 f2 f3 f4 f5 f6 f7 f8 f_34 f_57 f_36 f12 f13 f14 f15 f16 f17 f18 f19 f20 f21 L_37 Nn_58 fP M_59 O_60) H := hP
              have hD : va_D A (mW ad kc x0 x1 x2 x3 x4 x5 x6 x7 x8 x9 x10 x11 x12 x13 x14 x15 x_31 x_32 x_33 x19 x20 x21 f0 f1 f2 f3 f4 f5 f6 f7 f8 f_34 f_57 f_36 f12 f13 f14 f15 f16 f17 f18 f19 f20 f21 L_37 Nn_58 fP M_59 O_60) := hD
              have hN9 := hr_56_0.mono (show m8 ≤ m9 by omega)
              have hF3 := hF2.tr (wF.need hr_56_1 hr_56_2 (Or.inr rfl) (by omega) (by omega))
              refine lv_goto (tgt := 145) hx hb dX10_worksPattern_135 (by decide) ?_
              refine lv_aload_n hx hb dX10_worksPattern_145 rfl (lv_at hl 5 rfl) ?_
              refine va_get (D := (dC, dI)) (ci := 10) (v := .ref (ad 6)) (C := RX10) (T := TX10) (N := 48) hx hb hts fin_X10_worksPatterng_X10 hown hK hP 0 rfl rfl 17 (by decide) (hts (.fieldLink RX10 34 "PatternGateModel" "next" "[I") (List.mem_of_getElem? (i := 9) (by decide +kernel))) (fun _ h9 => h9) rfl dX10_worksPattern_146 ?_
              refine lv_iload hx hb dX10_worksPattern_149 (lv_at hl 1 rfl) ?_
              refine va_iald hx hb hK hP 6 5 rfl rfl (i := kk) (vp_of (a := kk.toInt) rfl (by omega) (by omega)) dX10_worksPattern_151 ?_
              refine lv_topi (fun y_61 ey_61 => ?_)
              have rg_y_61 := i_rng y_61
              have vy_61 := vI_lda (f := f5) (i := kk) (a := kk.toInt) ey_61 (by first | omega | decide)
              have rg_y_61 := i_rng y_61
              refine lv_istore (lv' := [(8, .int y_61), (4, .int 0), (7, .int r_10), (6, .int r_4), (5, .int r_1), (0, .ref (ad 0)), (1, .int i1), (2, .int i2), (3, .int i3)]) hx hb dX10_worksPattern_152 hl (by decide) rfl (fun ls hl => ?_)
              refine lv_goto (tgt := 29) hx hb dX10_worksPattern_154 (by decide) ?_
              have lit_61 : (0 : Int32).toInt = 0 := by decide
              exact ih29 0 y_61 x_31 x_32 x_33 (le9 - m8) f_34 f_57 f_36 L_37 Nn_58 M_59 O_60 (by first | omega | assumption | decide) (by first | omega | assumption | decide) (by first | omega | assumption | decide) (by first | omega | assumption | decide) hF3 ⟨hS9, fun _ => hN9⟩ (by rw [show y_61.toInt = mV f3 f4 f5 f7 2 kk.toInt from vy_61]; exact hN8) (by first | omega | assumption | decide) (fun h9 => by omega) (by omega) _ _ ls hP hD hS (lv_sub hl [0, 2, 3, 4, 1, 5, 6, 7, 8] rfl)
          · have tk_44 := c_nle (a := y_43.toInt) (b := 6) rfl (by decide) k_44
            refine lv_iconst (v := 0) hx hb dX10_worksPattern_114 (by decide) ?_
            refine lv_istore (lv' := [(4, .int 0), (8, .int kk), (7, .int r_10), (6, .int r_4), (5, .int r_1), (0, .ref (ad 0)), (1, .int i1), (2, .int i2), (3, .int i3)]) hx hb dX10_worksPattern_115 hl (by decide) rfl (fun ls hl => ?_)
            refine lv_iload hx hb dX10_worksPattern_117 (lv_at hl 1 rfl) ?_
            refine lv_aload_n hx hb dX10_worksPattern_119 rfl (lv_at hl 5 rfl) ?_
            refine va_get (D := (dC, dI)) (ci := 10) (v := .ref (ad 5)) (C := RX10) (T := TX10) (N := 48) hx hb hts fin_X10_worksPatterng_X10 hown hK hP 0 rfl rfl 16 (by decide) (hts (.fieldLink RX10 31 "PatternGateModel" "first" "[I") (List.mem_of_getElem? (i := 8) (by decide +kernel))) (fun _ h9 => h9) rfl dX10_worksPattern_120 ?_
            refine lv_iload_n hx hb dX10_worksPattern_123 rfl (lv_at hl 6 rfl) ?_
            refine va_iald hx hb hK hP 5 4 rfl rfl (i := i1) (vp_of (a := i1.toInt) rfl (by omega) (by omega)) dX10_worksPattern_124 ?_
            refine lv_topi (fun y_63 ey_63 => ?_)
            have rg_y_63 := i_rng y_63
            have vy_63 := vI_lda (f := f4) (i := i1) (a := i1.toInt) ey_63 (by first | omega | decide)
            have rg_y_63 := i_rng y_63
            refine lv_icmp_ne (tgt := 138) hx hb dX10_worksPattern_125 (by decide) (fun k_64 => ?_) (fun k_64 => ?_)
            · have tk_64 := c_ne (a := kk.toInt) (b := y_63.toInt) rfl rfl k_64
              rw [show y_63.toInt = mV f3 f4 f5 f7 1 i1.toInt from vy_63] at tk_64
              refine lv_aload_n hx hb dX10_worksPattern_138 rfl (lv_at hl 5 rfl) ?_
              refine lv_iload_n hx hb dX10_worksPattern_139 rfl (lv_at hl 8 rfl) ?_
              refine lv_iload hx hb dX10_worksPattern_140 (lv_at hl 3 rfl) ?_
              have hFc := m_free hD hS hA
              refine va_callv (va_runV (As := [.int i3, .int r_4]) (rest := []) ⟨hx, hb, hml, hown, hts⟩ (m_either l dC dI ad kc x0 x1 x2 x3 x4 x5 x6 x7 x8 x9 x10 x11 x12 x13 x14 x15 x_31 x_32 x_33 x19 x20 x21 f0 f1 f2 f3 f4 f5 f6 f7 f8 f_34 f_35 f_36 f12 f13 f14 f15 f16 f17 f18 f19 f20 f21 L_37 Nn_38 fP M_39 O_40 H.size i3 r_4 m9 (by first | omega | assumption | decide | (have l0 := Int32.toInt_zero; omega)) (by first | omega | assumption | decide | (have l0 := Int32.toInt_zero; omega)) (by first | omega | assumption | decide | (have l0 := Int32.toInt_zero; omega)) (hNe tk_64) (hr_30_4.mono (by omega)) (by first | omega | assumption | decide | (have l0 := Int32.toInt_zero; omega)) (by first | omega | assumption | decide | (have l0 := Int32.toInt_zero; omega))) (cwV 2 hts mg_X10_worksPatterng_X10_either_356 rfl rfl rfl (by decide +kernel) ⟨(show 2 + 1 ≤ 6 * d + 8 by omega), (show 8 + (4 + 11) + 120 ≤ 60 * (6 * d + 8) by omega)⟩) ⟨fun a U g mk q => by obtain ⟨q0, q1, qP, qK, qD⟩ := q; exact ⟨q0, q1, qP, va_K.moved (u := U) (U := U.calling g mk a) (Vm.Alike.refl U.vm) qK, qD⟩, va_recv hK hP (ci := 10) (q0 := 0) rfl rfl, fun U hU hW => ⟨rfl, by rw [hU], by rw [hU]; exact hP, va_K.moved hW.alike hK, hD.weaken (fun _ _ _ _ => trivial)⟩⟩ rfl rfl hl.1 rfl (lv_room (Nat.le_of_ble_eq_true rfl)) dX10_worksPattern_142 ⟨Nat.le_of_ble_eq_true rfl, Nat.le_of_ble_eq_true rfl⟩) hS (fun q _ h => hFc q h) hFc (fun u t H1 locs ht hvm hw hB hz1 hk1 hS => ?_)
              obtain ⟨x_66, f_67, f_68, Nn_69, M_70, O_71, hr_65_0, hr_65_1, hr_65_2, hP, hK1, hD1⟩ := hB
              rw [ht] at hP
              have hD := hD1.weaken (fun k q _ h => hFc q.1 h)
              clear hz1 hk1 hFc hD1 hK1 hvm
              generalize H1 = H at hP hS ⊢
              have rg_x_66 := i_rng x_66
              have hP : va_P (dC, dI) vwCl (mW ad kc x0 x1 x2 x3 x4 x5 x6 x7 x8 x9 x10 x11 x12 x13 x14 x15 x_31 x_32 x_66 x19 x20 x21 f0 f1 f2 f3 f4 f5 f6 f7 f8 f_34 f_68 f_67 f12 f13 f14 f15 f16 f17 f18 f19 f20 f21 L_37 Nn_69 fP M_70 O_71) H := hP
              have hD : va_D A (mW ad kc x0 x1 x2 x3 x4 x5 x6 x7 x8 x9 x10 x11 x12 x13 x14 x15 x_31 x_32 x_66 x19 x20 x21 f0 f1 f2 f3 f4 f5 f6 f7 f8 f_34 f_68 f_67 f12 f13 f14 f15 f16 f17 f18 f19 f20 f21 L_37 Nn_69 fP M_70 O_71) := hD
              have hN9 := hr_65_0
              have hF3 := hF2.tr (wF.need hr_65_1 hr_65_2 (Or.inr rfl) (by omega) (by omega))
              refine lv_aload_n hx hb dX10_worksPattern_145 rfl (lv_at hl 5 rfl) ?_
              refine va_get (D := (dC, dI)) (ci := 10) (v := .ref (ad 6)) (C := RX10) (T := TX10) (N := 48) hx hb hts fin_X10_worksPatterng_X10 hown hK hP 0 rfl rfl 17 (by decide) (hts (.fieldLink RX10 34 "PatternGateModel" "next" "[I") (List.mem_of_getElem? (i := 9) (by decide +kernel))) (fun _ h9 => h9) rfl dX10_worksPattern_146 ?_
              refine lv_iload hx hb dX10_worksPattern_149 (lv_at hl 1 rfl) ?_
              refine va_iald hx hb hK hP 6 5 rfl rfl (i := kk) (vp_of (a := kk.toInt) rfl (by omega) (by omega)) dX10_worksPattern_151 ?_
              refine lv_topi (fun y_72 ey_72 => ?_)
              have rg_y_72 := i_rng y_72
              have vy_72 := vI_lda (f := f5) (i := kk) (a := kk.toInt) ey_72 (by first | omega | decide)
              have rg_y_72 := i_rng y_72
              refine lv_istore (lv' := [(8, .int y_72), (4, .int 0), (7, .int r_10), (6, .int r_4), (5, .int r_1), (0, .ref (ad 0)), (1, .int i1), (2, .int i2), (3, .int i3)]) hx hb dX10_worksPattern_152 hl (by decide) rfl (fun ls hl => ?_)
              refine lv_goto (tgt := 29) hx hb dX10_worksPattern_154 (by decide) ?_
              have lit_72 : (0 : Int32).toInt = 0 := by decide
              exact ih29 0 y_72 x_31 x_32 x_66 (le9 - m8) f_34 f_68 f_67 L_37 Nn_69 M_70 O_71 (by first | omega | assumption | decide) (by first | omega | assumption | decide) (by first | omega | assumption | decide) (by first | omega | assumption | decide) hF3 ⟨hS9, fun _ => hN9⟩ (by rw [show y_72.toInt = mV f3 f4 f5 f7 2 kk.toInt from vy_72]; exact hN8) (by first | omega | assumption | decide) (fun h9 => by omega) (by omega) _ _ ls hP hD hS (lv_sub hl [0, 2, 3, 4, 1, 5, 6, 7, 8] rfl)
            · have tk_64 := c_eq (a := kk.toInt) (b := y_63.toInt) rfl rfl k_64
              refine lv_aload_n hx hb dX10_worksPattern_128 rfl (lv_at hl 5 rfl) ?_
              refine lv_iload hx hb dX10_worksPattern_129 (lv_at hl 3 rfl) ?_
              refine lv_iload_n hx hb dX10_worksPattern_131 rfl (lv_at hl 8 rfl) ?_
              have hFc := m_free hD hS hA
              refine va_callv (va_runV (As := [.int r_4, .int i3]) (rest := []) ⟨hx, hb, hml, hown, hts⟩ (m_copiesNeed l dC dI ad kc x0 x1 x2 x3 x4 x5 x6 x7 x8 x9 x10 x11 x12 x13 x14 x15 x_31 x_32 x_33 x19 x20 x21 f0 f1 f2 f3 f4 f5 f6 f7 f8 f_34 f_35 f_36 f12 f13 f14 f15 f16 f17 f18 f19 f20 f21 L_37 Nn_38 fP M_39 O_40 H.size r_4 i3 m8 (by first | omega | assumption | decide | (have l0 := Int32.toInt_zero; omega)) (by first | omega | assumption | decide | (have l0 := Int32.toInt_zero; omega)) (by first | omega | assumption | decide | (have l0 := Int32.toInt_zero; omega)) hr_30_4 (by first | omega | assumption | decide | (have l0 := Int32.toInt_zero; omega)) (by first | omega | assumption | decide | (have l0 := Int32.toInt_zero; omega))) (cwV 2 hts mg_X10_worksPatterng_X10_copiesNeed_353 rfl rfl rfl (by decide +kernel) ⟨(show 1 + 1 ≤ 6 * d + 8 by omega), (show 8 + (4 + 11) + 60 ≤ 60 * (6 * d + 8) by omega)⟩) ⟨fun a U g mk q => by obtain ⟨q0, q1, qP, qK, qD⟩ := q; exact ⟨q0, q1, qP, va_K.moved (u := U) (U := U.calling g mk a) (Vm.Alike.refl U.vm) qK, qD⟩, va_recv hK hP (ci := 10) (q0 := 0) rfl rfl, fun U hU hW => ⟨rfl, by rw [hU], by rw [hU]; exact hP, va_K.moved hW.alike hK, hD.weaken (fun _ _ _ _ => trivial)⟩⟩ rfl rfl hl.1 rfl (lv_room (Nat.le_of_ble_eq_true rfl)) dX10_worksPattern_132 ⟨Nat.le_of_ble_eq_true rfl, Nat.le_of_ble_eq_true rfl⟩) hS (fun q _ h => hFc q h) hFc (fun u t H1 locs ht hvm hw hB hz1 hk1 hS => ?_)
              obtain ⟨f_75, Nn_76, M_77, O_78, hr_74_0, hr_74_1, hr_74_2, hP, hK1, hD1⟩ := hB
              rw [ht] at hP
              have hD := hD1.weaken (fun k q _ h => hFc q.1 h)
              clear hz1 hk1 hFc hD1 hK1 hvm
              generalize H1 = H at hP hS ⊢
              have hP : va_P (dC, dI) vwCl (mW ad kc x0 x1 x2 x3 x4 x5 x6 x7 x8 x9 x10 x11 x12 x13 x14 x15 x_31 x_32 x_33 x19 x20 x21 f0 f1 f2 f3 f4 f5 f6 f7 f8 f_34 f_75 f_36 f12 f13 f14 f15 f16 f17 f18 f19 f20 f21 L_37 Nn_76 fP M_77 O_78) H := hP
              have hD : va_D A (mW ad kc x0 x1 x2 x3 x4 x5 x6 x7 x8 x9 x10 x11 x12 x13 x14 x15 x_31 x_32 x_33 x19 x20 x21 f0 f1 f2 f3 f4 f5 f6 f7 f8 f_34 f_75 f_36 f12 f13 f14 f15 f16 f17 f18 f19 f20 f21 L_37 Nn_76 fP M_77 O_78) := hD
              have hN9 := hr_74_0.mono (show m8 ≤ m9 by omega)
              have hF3 := hF2.tr (wF.need hr_74_1 hr_74_2 (Or.inr rfl) (by omega) (by omega))
              refine lv_goto (tgt := 145) hx hb dX10_worksPattern_135 (by decide) ?_
              refine lv_aload_n hx hb dX10_worksPattern_145 rfl (lv_at hl 5 rfl) ?_
              refine va_get (D := (dC, dI)) (ci := 10) (v := .ref (ad 6)) (C := RX10) (T := TX10) (N := 48) hx hb hts fin_X10_worksPatterng_X10 hown hK hP 0 rfl rfl 17 (by decide) (hts (.fieldLink RX10 34 "PatternGateModel" "next" "[I") (List.mem_of_getElem? (i := 9) (by decide +kernel))) (fun _ h9 => h9) rfl dX10_worksPattern_146 ?_
              refine lv_iload hx hb dX10_worksPattern_149 (lv_at hl 1 rfl) ?_
              refine va_iald hx hb hK hP 6 5 rfl rfl (i := kk) (vp_of (a := kk.toInt) rfl (by omega) (by omega)) dX10_worksPattern_151 ?_
              refine lv_topi (fun y_79 ey_79 => ?_)
              have rg_y_79 := i_rng y_79
              have vy_79 := vI_lda (f := f5) (i := kk) (a := kk.toInt) ey_79 (by first | omega | decide)
              have rg_y_79 := i_rng y_79
              refine lv_istore (lv' := [(8, .int y_79), (4, .int 0), (7, .int r_10), (6, .int r_4), (5, .int r_1), (0, .ref (ad 0)), (1, .int i1), (2, .int i2), (3, .int i3)]) hx hb dX10_worksPattern_152 hl (by decide) rfl (fun ls hl => ?_)
              refine lv_goto (tgt := 29) hx hb dX10_worksPattern_154 (by decide) ?_
              have lit_79 : (0 : Int32).toInt = 0 := by decide
              exact ih29 0 y_79 x_31 x_32 x_33 (le9 - m8) f_34 f_75 f_36 L_37 Nn_76 M_77 O_78 (by first | omega | assumption | decide) (by first | omega | assumption | decide) (by first | omega | assumption | decide) (by first | omega | assumption | decide) hF3 ⟨hS9, fun _ => hN9⟩ (by rw [show y_79.toInt = mV f3 f4 f5 f7 2 kk.toInt from vy_79]; exact hN8) (by first | omega | assumption | decide) (fun h9 => by omega) (by omega) _ _ ls hP hD hS (lv_sub hl [0, 2, 3, 4, 1, 5, 6, 7, 8] rfl)
        · have tk_41 := c_ne (a := r_30.toInt) (b := 0) rfl (by decide) k_41
          refine lv_iload hx hb dX10_worksPattern_48 (lv_at hl 4 rfl) ?_
          refine lv_if_eq (tgt := 57) hx hb dX10_worksPattern_50 (by decide) (fun k_81 => ?_) (fun k_81 => ?_)
          · have tk_81 := c_eq (a := ex.toInt) (b := 0) rfl (by decide) k_81
            refine lv_iconst (v := 0) hx hb dX10_worksPattern_57 (by decide) ?_
            refine lv_istore (lv' := [(4, .int 0), (8, .int kk), (7, .int r_10), (6, .int r_4), (5, .int r_1), (0, .ref (ad 0)), (1, .int i1), (2, .int i2), (3, .int i3)]) hx hb dX10_worksPattern_58 hl (by decide) rfl (fun ls hl => ?_)
            refine lv_iload hx hb dX10_worksPattern_60 (lv_at hl 0 rfl) ?_
            refine lv_if_eq (tgt := 102) hx hb dX10_worksPattern_62 (by decide) (fun k_82 => ?_) (fun k_82 => absurd (by decide) k_82)
            have tk_82 := c_eq (a := 0) (b := 0) (by decide) (by decide) k_82
            refine lv_aload_n hx hb dX10_worksPattern_102 rfl (lv_at hl 5 rfl) ?_
            refine va_get (D := (dC, dI)) (ci := 10) (v := .ref (ad 10)) (C := RX10) (T := TX10) (N := 48) hx hb hts fin_X10_worksPatterng_X10 hown hK hP 0 rfl rfl 26 (by decide) (hts (.fieldLink RX10 51 "PatternGateModel" "rowMany" "[I") (List.mem_of_getElem? (i := 12) (by decide +kernel))) (fun _ h9 => h9) rfl dX10_worksPattern_103 ?_
            refine lv_iload hx hb dX10_worksPattern_106 (lv_at hl 2 rfl) ?_
            refine va_iald hx hb hK hP 10 9 rfl rfl (i := r_10) (vp_of (a := r_10.toInt) rfl (by omega) (by omega)) dX10_worksPattern_108 ?_
            refine lv_topi (fun y_83 ey_83 => ?_)
            have rg_y_83 := i_rng y_83
            have vy_83 := vI_lda (f := f_34) (i := r_10) (a := r_10.toInt) ey_83 (by first | omega | decide)
            have rg_y_83 := i_rng y_83
            have hS9 := hSu
            have hF2 := hF1
            have hS9a := hS9.1
            have hS9b := hS9.2.1
            refine lv_bipush (v := 6) hx hb dX10_worksPattern_109 (by decide) ?_
            refine lv_icmp_le (tgt := 117) hx hb dX10_worksPattern_111 (by decide) (fun k_84 => ?_) (fun k_84 => ?_)
            · have tk_84 := c_le (a := y_83.toInt) (b := 6) rfl (by decide) k_84
              refine lv_iload hx hb dX10_worksPattern_117 (lv_at hl 1 rfl) ?_
              refine lv_aload_n hx hb dX10_worksPattern_119 rfl (lv_at hl 5 rfl) ?_
              refine va_get (D := (dC, dI)) (ci := 10) (v := .ref (ad 5)) (C := RX10) (T := TX10) (N := 48) hx hb hts fin_X10_worksPatterng_X10 hown hK hP 0 rfl rfl 16 (by decide) (hts (.fieldLink RX10 31 "PatternGateModel" "first" "[I") (List.mem_of_getElem? (i := 8) (by decide +kernel))) (fun _ h9 => h9) rfl dX10_worksPattern_120 ?_
              refine lv_iload_n hx hb dX10_worksPattern_123 rfl (lv_at hl 6 rfl) ?_
              refine va_iald hx hb hK hP 5 4 rfl rfl (i := i1) (vp_of (a := i1.toInt) rfl (by omega) (by omega)) dX10_worksPattern_124 ?_
              refine lv_topi (fun y_85 ey_85 => ?_)
              have rg_y_85 := i_rng y_85
              have vy_85 := vI_lda (f := f4) (i := i1) (a := i1.toInt) ey_85 (by first | omega | decide)
              have rg_y_85 := i_rng y_85
              refine lv_icmp_ne (tgt := 138) hx hb dX10_worksPattern_125 (by decide) (fun k_86 => ?_) (fun k_86 => ?_)
              · have tk_86 := c_ne (a := kk.toInt) (b := y_85.toInt) rfl rfl k_86
                rw [show y_85.toInt = mV f3 f4 f5 f7 1 i1.toInt from vy_85] at tk_86
                refine lv_aload_n hx hb dX10_worksPattern_138 rfl (lv_at hl 5 rfl) ?_
                refine lv_iload_n hx hb dX10_worksPattern_139 rfl (lv_at hl 8 rfl) ?_
                refine lv_iload hx hb dX10_worksPattern_140 (lv_at hl 3 rfl) ?_
                have hFc := m_free hD hS hA
                refine va_callv (va_runV (As := [.int i3, .int r_4]) (rest := []) ⟨hx, hb, hml, hown, hts⟩ (m_either l dC dI ad kc x0 x1 x2 x3 x4 x5 x6 x7 x8 x9 x10 x11 x12 x13 x14 x15 x_31 x_32 x_33 x19 x20 x21 f0 f1 f2 f3 f4 f5 f6 f7 f8 f_34 f_35 f_36 f12 f13 f14 f15 f16 f17 f18 f19 f20 f21 L_37 Nn_38 fP M_39 O_40 H.size i3 r_4 m9 (by first | omega | assumption | decide | (have l0 := Int32.toInt_zero; omega)) (by first | omega | assumption | decide | (have l0 := Int32.toInt_zero; omega)) (by first | omega | assumption | decide | (have l0 := Int32.toInt_zero; omega)) (hNe tk_86) (hr_30_4.mono (by omega)) (by first | omega | assumption | decide | (have l0 := Int32.toInt_zero; omega)) (by first | omega | assumption | decide | (have l0 := Int32.toInt_zero; omega))) (cwV 2 hts mg_X10_worksPatterng_X10_either_356 rfl rfl rfl (by decide +kernel) ⟨(show 2 + 1 ≤ 6 * d + 8 by omega), (show 8 + (4 + 11) + 120 ≤ 60 * (6 * d + 8) by omega)⟩) ⟨fun a U g mk q => by obtain ⟨q0, q1, qP, qK, qD⟩ := q; exact ⟨q0, q1, qP, va_K.moved (u := U) (U := U.calling g mk a) (Vm.Alike.refl U.vm) qK, qD⟩, va_recv hK hP (ci := 10) (q0 := 0) rfl rfl, fun U hU hW => ⟨rfl, by rw [hU], by rw [hU]; exact hP, va_K.moved hW.alike hK, hD.weaken (fun _ _ _ _ => trivial)⟩⟩ rfl rfl hl.1 rfl (lv_room (Nat.le_of_ble_eq_true rfl)) dX10_worksPattern_142 ⟨Nat.le_of_ble_eq_true rfl, Nat.le_of_ble_eq_true rfl⟩) hS (fun q _ h => hFc q h) hFc (fun u t H1 locs ht hvm hw hB hz1 hk1 hS => ?_)
                obtain ⟨x_88, f_89, f_90, Nn_91, M_92, O_93, hr_87_0, hr_87_1, hr_87_2, hP, hK1, hD1⟩ := hB
                rw [ht] at hP
                have hD := hD1.weaken (fun k q _ h => hFc q.1 h)
                clear hz1 hk1 hFc hD1 hK1 hvm
                generalize H1 = H at hP hS ⊢
                have rg_x_88 := i_rng x_88
                have hP : va_P (dC, dI) vwCl (mW ad kc x0 x1 x2 x3 x4 x5 x6 x7 x8 x9 x10 x11 x12 x13 x14 x15 x_31 x_32 x_88 x19 x20 x21 f0 f1 f2 f3 f4 f5 f6 f7 f8 f_34 f_90 f_89 f12 f13 f14 f15 f16 f17 f18 f19 f20 f21 L_37 Nn_91 fP M_92 O_93) H := hP
                have hD : va_D A (mW ad kc x0 x1 x2 x3 x4 x5 x6 x7 x8 x9 x10 x11 x12 x13 x14 x15 x_31 x_32 x_88 x19 x20 x21 f0 f1 f2 f3 f4 f5 f6 f7 f8 f_34 f_90 f_89 f12 f13 f14 f15 f16 f17 f18 f19 f20 f21 L_37 Nn_91 fP M_92 O_93) := hD
                have hN9 := hr_87_0
                have hF3 := hF2.tr (wF.need hr_87_1 hr_87_2 (Or.inr rfl) (by omega) (by omega))
                refine lv_aload_n hx hb dX10_worksPattern_145 rfl (lv_at hl 5 rfl) ?_
                refine va_get (D := (dC, dI)) (ci := 10) (v := .ref (ad 6)) (C := RX10) (T := TX10) (N := 48) hx hb hts fin_X10_worksPatterng_X10 hown hK hP 0 rfl rfl 17 (by decide) (hts (.fieldLink RX10 34 "PatternGateModel" "next" "[I") (List.mem_of_getElem? (i := 9) (by decide +kernel))) (fun _ h9 => h9) rfl dX10_worksPattern_146 ?_
                refine lv_iload hx hb dX10_worksPattern_149 (lv_at hl 1 rfl) ?_
                refine va_iald hx hb hK hP 6 5 rfl rfl (i := kk) (vp_of (a := kk.toInt) rfl (by omega) (by omega)) dX10_worksPattern_151 ?_
                refine lv_topi (fun y_94 ey_94 => ?_)
                have rg_y_94 := i_rng y_94
                have vy_94 := vI_lda (f := f5) (i := kk) (a := kk.toInt) ey_94 (by first | omega | decide)
                have rg_y_94 := i_rng y_94
                refine lv_istore (lv' := [(8, .int y_94), (4, .int 0), (7, .int r_10), (6, .int r_4), (5, .int r_1), (0, .ref (ad 0)), (1, .int i1), (2, .int i2), (3, .int i3)]) hx hb dX10_worksPattern_152 hl (by decide) rfl (fun ls hl => ?_)
                refine lv_goto (tgt := 29) hx hb dX10_worksPattern_154 (by decide) ?_
                have lit_94 : (0 : Int32).toInt = 0 := by decide
                exact ih29 0 y_94 x_31 x_32 x_88 (le9 - m8) f_34 f_90 f_89 L_37 Nn_91 M_92 O_93 (by first | omega | assumption | decide) (by first | omega | assumption | decide) (by first | omega | assumption | decide) (by first | omega | assumption | decide) hF3 ⟨hS9, fun _ => hN9⟩ (by rw [show y_94.toInt = mV f3 f4 f5 f7 2 kk.toInt from vy_94]; exact hN8) (by first | omega | assumption | decide) (fun h9 => by omega) (by omega) _ _ ls hP hD hS (lv_sub hl [0, 2, 3, 4, 1, 5, 6, 7, 8] rfl)
              · have tk_86 := c_eq (a := kk.toInt) (b := y_85.toInt) rfl rfl k_86
                refine lv_aload_n hx hb dX10_worksPattern_128 rfl (lv_at hl 5 rfl) ?_
                refine lv_iload hx hb dX10_worksPattern_129 (lv_at hl 3 rfl) ?_
                refine lv_iload_n hx hb dX10_worksPattern_131 rfl (lv_at hl 8 rfl) ?_
                have hFc := m_free hD hS hA
                refine va_callv (va_runV (As := [.int r_4, .int i3]) (rest := []) ⟨hx, hb, hml, hown, hts⟩ (m_copiesNeed l dC dI ad kc x0 x1 x2 x3 x4 x5 x6 x7 x8 x9 x10 x11 x12 x13 x14 x15 x_31 x_32 x_33 x19 x20 x21 f0 f1 f2 f3 f4 f5 f6 f7 f8 f_34 f_35 f_36 f12 f13 f14 f15 f16 f17 f18 f19 f20 f21 L_37 Nn_38 fP M_39 O_40 H.size r_4 i3 m8 (by first | omega | assumption | decide | (have l0 := Int32.toInt_zero; omega)) (by first | omega | assumption | decide | (have l0 := Int32.toInt_zero; omega)) (by first | omega | assumption | decide | (have l0 := Int32.toInt_zero; omega)) hr_30_4 (by first | omega | assumption | decide | (have l0 := Int32.toInt_zero; omega)) (by first | omega | assumption | decide | (have l0 := Int32.toInt_zero; omega))) (cwV 2 hts mg_X10_worksPatterng_X10_copiesNeed_353 rfl rfl rfl (by decide +kernel) ⟨(show 1 + 1 ≤ 6 * d + 8 by omega), (show 8 + (4 + 11) + 60 ≤ 60 * (6 * d + 8) by omega)⟩) ⟨fun a U g mk q => by obtain ⟨q0, q1, qP, qK, qD⟩ := q; exact ⟨q0, q1, qP, va_K.moved (u := U) (U := U.calling g mk a) (Vm.Alike.refl U.vm) qK, qD⟩, va_recv hK hP (ci := 10) (q0 := 0) rfl rfl, fun U hU hW => ⟨rfl, by rw [hU], by rw [hU]; exact hP, va_K.moved hW.alike hK, hD.weaken (fun _ _ _ _ => trivial)⟩⟩ rfl rfl hl.1 rfl (lv_room (Nat.le_of_ble_eq_true rfl)) dX10_worksPattern_132 ⟨Nat.le_of_ble_eq_true rfl, Nat.le_of_ble_eq_true rfl⟩) hS (fun q _ h => hFc q h) hFc (fun u t H1 locs ht hvm hw hB hz1 hk1 hS => ?_)
                obtain ⟨f_97, Nn_98, M_99, O_100, hr_96_0, hr_96_1, hr_96_2, hP, hK1, hD1⟩ := hB
                rw [ht] at hP
                have hD := hD1.weaken (fun k q _ h => hFc q.1 h)
                clear hz1 hk1 hFc hD1 hK1 hvm
                generalize H1 = H at hP hS ⊢
                have hP : va_P (dC, dI) vwCl (mW ad kc x0 x1 x2 x3 x4 x5 x6 x7 x8 x9 x10 x11 x12 x13 x14 x15 x_31 x_32 x_33 x19 x20 x21 f0 f1 f2 f3 f4 f5 f6 f7 f8 f_34 f_97 f_36 f12 f13 f14 f15 f16 f17 f18 f19 f20 f21 L_37 Nn_98 fP M_99 O_100) H := hP
                have hD : va_D A (mW ad kc x0 x1 x2 x3 x4 x5 x6 x7 x8 x9 x10 x11 x12 x13 x14 x15 x_31 x_32 x_33 x19 x20 x21 f0 f1 f2 f3 f4 f5 f6 f7 f8 f_34 f_97 f_36 f12 f13 f14 f15 f16 f17 f18 f19 f20 f21 L_37 Nn_98 fP M_99 O_100) := hD
                have hN9 := hr_96_0.mono (show m8 ≤ m9 by omega)
                have hF3 := hF2.tr (wF.need hr_96_1 hr_96_2 (Or.inr rfl) (by omega) (by omega))
                refine lv_goto (tgt := 145) hx hb dX10_worksPattern_135 (by decide) ?_
                refine lv_aload_n hx hb dX10_worksPattern_145 rfl (lv_at hl 5 rfl) ?_
                refine va_get (D := (dC, dI)) (ci := 10) (v := .ref (ad 6)) (C := RX10) (T := TX10) (N := 48) hx hb hts fin_X10_worksPatterng_X10 hown hK hP 0 rfl rfl 17 (by decide) (hts (.fieldLink RX10 34 "PatternGateModel" "next" "[I") (List.mem_of_getElem? (i := 9) (by decide +kernel))) (fun _ h9 => h9) rfl dX10_worksPattern_146 ?_
                refine lv_iload hx hb dX10_worksPattern_149 (lv_at hl 1 rfl) ?_
                refine va_iald hx hb hK hP 6 5 rfl rfl (i := kk) (vp_of (a := kk.toInt) rfl (by omega) (by omega)) dX10_worksPattern_151 ?_
                refine lv_topi (fun y_101 ey_101 => ?_)
                have rg_y_101 := i_rng y_101
                have vy_101 := vI_lda (f := f5) (i := kk) (a := kk.toInt) ey_101 (by first | omega | decide)
                have rg_y_101 := i_rng y_101
                refine lv_istore (lv' := [(8, .int y_101), (4, .int 0), (7, .int r_10), (6, .int r_4), (5, .int r_1), (0, .ref (ad 0)), (1, .int i1), (2, .int i2), (3, .int i3)]) hx hb dX10_worksPattern_152 hl (by decide) rfl (fun ls hl => ?_)
                refine lv_goto (tgt := 29) hx hb dX10_worksPattern_154 (by decide) ?_
                have lit_101 : (0 : Int32).toInt = 0 := by decide
                exact ih29 0 y_101 x_31 x_32 x_33 (le9 - m8) f_34 f_97 f_36 L_37 Nn_98 M_99 O_100 (by first | omega | assumption | decide) (by first | omega | assumption | decide) (by first | omega | assumption | decide) (by first | omega | assumption | decide) hF3 ⟨hS9, fun _ => hN9⟩ (by rw [show y_101.toInt = mV f3 f4 f5 f7 2 kk.toInt from vy_101]; exact hN8) (by first | omega | assumption | decide) (fun h9 => by omega) (by omega) _ _ ls hP hD hS (lv_sub hl [0, 2, 3, 4, 1, 5, 6, 7, 8] rfl)
            · have tk_84 := c_nle (a := y_83.toInt) (b := 6) rfl (by decide) k_84
              refine lv_iconst (v := 0) hx hb dX10_worksPattern_114 (by decide) ?_
              refine lv_istore (lv' := [(4, .int 0), (8, .int kk), (7, .int r_10), (6, .int r_4), (5, .int r_1), (0, .ref (ad 0)), (1, .int i1), (2, .int i2), (3, .int i3)]) hx hb dX10_worksPattern_115 hl (by decide) rfl (fun ls hl => ?_)
              refine lv_iload hx hb dX10_worksPattern_117 (lv_at hl 1 rfl) ?_
              refine lv_aload_n hx hb dX10_worksPattern_119 rfl (lv_at hl 5 rfl) ?_
              refine va_get (D := (dC, dI)) (ci := 10) (v := .ref (ad 5)) (C := RX10) (T := TX10) (N := 48) hx hb hts fin_X10_worksPatterng_X10 hown hK hP 0 rfl rfl 16 (by decide) (hts (.fieldLink RX10 31 "PatternGateModel" "first" "[I") (List.mem_of_getElem? (i := 8) (by decide +kernel))) (fun _ h9 => h9) rfl dX10_worksPattern_120 ?_
              refine lv_iload_n hx hb dX10_worksPattern_123 rfl (lv_at hl 6 rfl) ?_
              refine va_iald hx hb hK hP 5 4 rfl rfl (i := i1) (vp_of (a := i1.toInt) rfl (by omega) (by omega)) dX10_worksPattern_124 ?_
              refine lv_topi (fun y_103 ey_103 => ?_)
              have rg_y_103 := i_rng y_103
              have vy_103 := vI_lda (f := f4) (i := i1) (a := i1.toInt) ey_103 (by first | omega | decide)
              have rg_y_103 := i_rng y_103
              refine lv_icmp_ne (tgt := 138) hx hb dX10_worksPattern_125 (by decide) (fun k_104 => ?_) (fun k_104 => ?_)
              · have tk_104 := c_ne (a := kk.toInt) (b := y_103.toInt) rfl rfl k_104
                rw [show y_103.toInt = mV f3 f4 f5 f7 1 i1.toInt from vy_103] at tk_104
                refine lv_aload_n hx hb dX10_worksPattern_138 rfl (lv_at hl 5 rfl) ?_
                refine lv_iload_n hx hb dX10_worksPattern_139 rfl (lv_at hl 8 rfl) ?_
                refine lv_iload hx hb dX10_worksPattern_140 (lv_at hl 3 rfl) ?_
                have hFc := m_free hD hS hA
                refine va_callv (va_runV (As := [.int i3, .int r_4]) (rest := []) ⟨hx, hb, hml, hown, hts⟩ (m_either l dC dI ad kc x0 x1 x2 x3 x4 x5 x6 x7 x8 x9 x10 x11 x12 x13 x14 x15 x_31 x_32 x_33 x19 x20 x21 f0 f1 f2 f3 f4 f5 f6 f7 f8 f_34 f_35 f_36 f12 f13 f14 f15 f16 f17 f18 f19 f20 f21 L_37 Nn_38 fP M_39 O_40 H.size i3 r_4 m9 (by first | omega | assumption | decide | (have l0 := Int32.toInt_zero; omega)) (by first | omega | assumption | decide | (have l0 := Int32.toInt_zero; omega)) (by first | omega | assumption | decide | (have l0 := Int32.toInt_zero; omega)) (hNe tk_104) (hr_30_4.mono (by omega)) (by first | omega | assumption | decide | (have l0 := Int32.toInt_zero; omega)) (by first | omega | assumption | decide | (have l0 := Int32.toInt_zero; omega))) (cwV 2 hts mg_X10_worksPatterng_X10_either_356 rfl rfl rfl (by decide +kernel) ⟨(show 2 + 1 ≤ 6 * d + 8 by omega), (show 8 + (4 + 11) + 120 ≤ 60 * (6 * d + 8) by omega)⟩) ⟨fun a U g mk q => by obtain ⟨q0, q1, qP, qK, qD⟩ := q; exact ⟨q0, q1, qP, va_K.moved (u := U) (U := U.calling g mk a) (Vm.Alike.refl U.vm) qK, qD⟩, va_recv hK hP (ci := 10) (q0 := 0) rfl rfl, fun U hU hW => ⟨rfl, by rw [hU], by rw [hU]; exact hP, va_K.moved hW.alike hK, hD.weaken (fun _ _ _ _ => trivial)⟩⟩ rfl rfl hl.1 rfl (lv_room (Nat.le_of_ble_eq_true rfl)) dX10_worksPattern_142 ⟨Nat.le_of_ble_eq_true rfl, Nat.le_of_ble_eq_true rfl⟩) hS (fun q _ h => hFc q h) hFc (fun u t H1 locs ht hvm hw hB hz1 hk1 hS => ?_)
                obtain ⟨x_106, f_107, f_108, Nn_109, M_110, O_111, hr_105_0, hr_105_1, hr_105_2, hP, hK1, hD1⟩ := hB
                rw [ht] at hP
                have hD := hD1.weaken (fun k q _ h => hFc q.1 h)
                clear hz1 hk1 hFc hD1 hK1 hvm
                generalize H1 = H at hP hS ⊢
                have rg_x_106 := i_rng x_106
                have hP : va_P (dC, dI) vwCl (mW ad kc x0 x1 x2 x3 x4 x5 x6 x7 x8 x9 x10 x11 x12 x13 x14 x15 x_31 x_32 x_106 x19 x20 x21 f0 f1 f2 f3 f4 f5 f6 f7 f8 f_34 f_108 f_107 f12 f13 f14 f15 f16 f17 f18 f19 f20 f21 L_37 Nn_109 fP M_110 O_111) H := hP
                have hD : va_D A (mW ad kc x0 x1 x2 x3 x4 x5 x6 x7 x8 x9 x10 x11 x12 x13 x14 x15 x_31 x_32 x_106 x19 x20 x21 f0 f1 f2 f3 f4 f5 f6 f7 f8 f_34 f_108 f_107 f12 f13 f14 f15 f16 f17 f18 f19 f20 f21 L_37 Nn_109 fP M_110 O_111) := hD
                have hN9 := hr_105_0
                have hF3 := hF2.tr (wF.need hr_105_1 hr_105_2 (Or.inr rfl) (by omega) (by omega))
                refine lv_aload_n hx hb dX10_worksPattern_145 rfl (lv_at hl 5 rfl) ?_
                refine va_get (D := (dC, dI)) (ci := 10) (v := .ref (ad 6)) (C := RX10) (T := TX10) (N := 48) hx hb hts fin_X10_worksPatterng_X10 hown hK hP 0 rfl rfl 17 (by decide) (hts (.fieldLink RX10 34 "PatternGateModel" "next" "[I") (List.mem_of_getElem? (i := 9) (by decide +kernel))) (fun _ h9 => h9) rfl dX10_worksPattern_146 ?_
                refine lv_iload hx hb dX10_worksPattern_149 (lv_at hl 1 rfl) ?_
                refine va_iald hx hb hK hP 6 5 rfl rfl (i := kk) (vp_of (a := kk.toInt) rfl (by omega) (by omega)) dX10_worksPattern_151 ?_
                refine lv_topi (fun y_112 ey_112 => ?_)
                have rg_y_112 := i_rng y_112
                have vy_112 := vI_lda (f := f5) (i := kk) (a := kk.toInt) ey_112 (by first | omega | decide)
                have rg_y_112 := i_rng y_112
                refine lv_istore (lv' := [(8, .int y_112), (4, .int 0), (7, .int r_10), (6, .int r_4), (5, .int r_1), (0, .ref (ad 0)), (1, .int i1), (2, .int i2), (3, .int i3)]) hx hb dX10_worksPattern_152 hl (by decide) rfl (fun ls hl => ?_)
                refine lv_goto (tgt := 29) hx hb dX10_worksPattern_154 (by decide) ?_
                have lit_112 : (0 : Int32).toInt = 0 := by decide
                exact ih29 0 y_112 x_31 x_32 x_106 (le9 - m8) f_34 f_108 f_107 L_37 Nn_109 M_110 O_111 (by first | omega | assumption | decide) (by first | omega | assumption | decide) (by first | omega | assumption | decide) (by first | omega | assumption | decide) hF3 ⟨hS9, fun _ => hN9⟩ (by rw [show y_112.toInt = mV f3 f4 f5 f7 2 kk.toInt from vy_112]; exact hN8) (by first | omega | assumption | decide) (fun h9 => by omega) (by omega) _ _ ls hP hD hS (lv_sub hl [0, 2, 3, 4, 1, 5, 6, 7, 8] rfl)
              · have tk_104 := c_eq (a := kk.toInt) (b := y_103.toInt) rfl rfl k_104
                refine lv_aload_n hx hb dX10_worksPattern_128 rfl (lv_at hl 5 rfl) ?_
                refine lv_iload hx hb dX10_worksPattern_129 (lv_at hl 3 rfl) ?_
                refine lv_iload_n hx hb dX10_worksPattern_131 rfl (lv_at hl 8 rfl) ?_
                have hFc := m_free hD hS hA
                refine va_callv (va_runV (As := [.int r_4, .int i3]) (rest := []) ⟨hx, hb, hml, hown, hts⟩ (m_copiesNeed l dC dI ad kc x0 x1 x2 x3 x4 x5 x6 x7 x8 x9 x10 x11 x12 x13 x14 x15 x_31 x_32 x_33 x19 x20 x21 f0 f1 f2 f3 f4 f5 f6 f7 f8 f_34 f_35 f_36 f12 f13 f14 f15 f16 f17 f18 f19 f20 f21 L_37 Nn_38 fP M_39 O_40 H.size r_4 i3 m8 (by first | omega | assumption | decide | (have l0 := Int32.toInt_zero; omega)) (by first | omega | assumption | decide | (have l0 := Int32.toInt_zero; omega)) (by first | omega | assumption | decide | (have l0 := Int32.toInt_zero; omega)) hr_30_4 (by first | omega | assumption | decide | (have l0 := Int32.toInt_zero; omega)) (by first | omega | assumption | decide | (have l0 := Int32.toInt_zero; omega))) (cwV 2 hts mg_X10_worksPatterng_X10_copiesNeed_353 rfl rfl rfl (by decide +kernel) ⟨(show 1 + 1 ≤ 6 * d + 8 by omega), (show 8 + (4 + 11) + 60 ≤ 60 * (6 * d + 8) by omega)⟩) ⟨fun a U g mk q => by obtain ⟨q0, q1, qP, qK, qD⟩ := q; exact ⟨q0, q1, qP, va_K.moved (u := U) (U := U.calling g mk a) (Vm.Alike.refl U.vm) qK, qD⟩, va_recv hK hP (ci := 10) (q0 := 0) rfl rfl, fun U hU hW => ⟨rfl, by rw [hU], by rw [hU]; exact hP, va_K.moved hW.alike hK, hD.weaken (fun _ _ _ _ => trivial)⟩⟩ rfl rfl hl.1 rfl (lv_room (Nat.le_of_ble_eq_true rfl)) dX10_worksPattern_132 ⟨Nat.le_of_ble_eq_true rfl, Nat.le_of_ble_eq_true rfl⟩) hS (fun q _ h => hFc q h) hFc (fun u t H1 locs ht hvm hw hB hz1 hk1 hS => ?_)
                obtain ⟨f_115, Nn_116, M_117, O_118, hr_114_0, hr_114_1, hr_114_2, hP, hK1, hD1⟩ := hB
                rw [ht] at hP
                have hD := hD1.weaken (fun k q _ h => hFc q.1 h)
                clear hz1 hk1 hFc hD1 hK1 hvm
                generalize H1 = H at hP hS ⊢
                have hP : va_P (dC, dI) vwCl (mW ad kc x0 x1 x2 x3 x4 x5 x6 x7 x8 x9 x10 x11 x12 x13 x14 x15 x_31 x_32 x_33 x19 x20 x21 f0 f1 f2 f3 f4 f5 f6 f7 f8 f_34 f_115 f_36 f12 f13 f14 f15 f16 f17 f18 f19 f20 f21 L_37 Nn_116 fP M_117 O_118) H := hP
                have hD : va_D A (mW ad kc x0 x1 x2 x3 x4 x5 x6 x7 x8 x9 x10 x11 x12 x13 x14 x15 x_31 x_32 x_33 x19 x20 x21 f0 f1 f2 f3 f4 f5 f6 f7 f8 f_34 f_115 f_36 f12 f13 f14 f15 f16 f17 f18 f19 f20 f21 L_37 Nn_116 fP M_117 O_118) := hD
                have hN9 := hr_114_0.mono (show m8 ≤ m9 by omega)
                have hF3 := hF2.tr (wF.need hr_114_1 hr_114_2 (Or.inr rfl) (by omega) (by omega))
                refine lv_goto (tgt := 145) hx hb dX10_worksPattern_135 (by decide) ?_
                refine lv_aload_n hx hb dX10_worksPattern_145 rfl (lv_at hl 5 rfl) ?_
                refine va_get (D := (dC, dI)) (ci := 10) (v := .ref (ad 6)) (C := RX10) (T := TX10) (N := 48) hx hb hts fin_X10_worksPatterng_X10 hown hK hP 0 rfl rfl 17 (by decide) (hts (.fieldLink RX10 34 "PatternGateModel" "next" "[I") (List.mem_of_getElem? (i := 9) (by decide +kernel))) (fun _ h9 => h9) rfl dX10_worksPattern_146 ?_
                refine lv_iload hx hb dX10_worksPattern_149 (lv_at hl 1 rfl) ?_
                refine va_iald hx hb hK hP 6 5 rfl rfl (i := kk) (vp_of (a := kk.toInt) rfl (by omega) (by omega)) dX10_worksPattern_151 ?_
                refine lv_topi (fun y_119 ey_119 => ?_)
                have rg_y_119 := i_rng y_119
                have vy_119 := vI_lda (f := f5) (i := kk) (a := kk.toInt) ey_119 (by first | omega | decide)
                have rg_y_119 := i_rng y_119
                refine lv_istore (lv' := [(8, .int y_119), (4, .int 0), (7, .int r_10), (6, .int r_4), (5, .int r_1), (0, .ref (ad 0)), (1, .int i1), (2, .int i2), (3, .int i3)]) hx hb dX10_worksPattern_152 hl (by decide) rfl (fun ls hl => ?_)
                refine lv_goto (tgt := 29) hx hb dX10_worksPattern_154 (by decide) ?_
                have lit_119 : (0 : Int32).toInt = 0 := by decide
                exact ih29 0 y_119 x_31 x_32 x_33 (le9 - m8) f_34 f_115 f_36 L_37 Nn_116 M_117 O_118 (by first | omega | assumption | decide) (by first | omega | assumption | decide) (by first | omega | assumption | decide) (by first | omega | assumption | decide) hF3 ⟨hS9, fun _ => hN9⟩ (by rw [show y_119.toInt = mV f3 f4 f5 f7 2 kk.toInt from vy_119]; exact hN8) (by first | omega | assumption | decide) (fun h9 => by omega) (by omega) _ _ ls hP hD hS (lv_sub hl [0, 2, 3, 4, 1, 5, 6, 7, 8] rfl)
          · have tk_81 := c_ne (a := ex.toInt) (b := 0) rfl (by decide) k_81
            refine lv_iconst (v := 1) hx hb dX10_worksPattern_53 (by decide) ?_
            refine lv_goto (tgt := 58) hx hb dX10_worksPattern_54 (by decide) ?_
            refine lv_istore (lv' := [(4, .int 1), (8, .int kk), (7, .int r_10), (6, .int r_4), (5, .int r_1), (0, .ref (ad 0)), (1, .int i1), (2, .int i2), (3, .int i3)]) hx hb dX10_worksPattern_58 hl (by decide) rfl (fun ls hl => ?_)
            refine lv_iload hx hb dX10_worksPattern_60 (lv_at hl 0 rfl) ?_
            refine lv_if_eq (tgt := 102) hx hb dX10_worksPattern_62 (by decide) (fun k_121 => absurd k_121 (by decide)) (fun k_121 => ?_)
            have tk_121 := c_ne (a := 1) (b := 0) (by decide) (by decide) k_121
            have hOw := hr_30_5 (by omega)
            have hOw1 := hOw.1
            have hOw2 := hOw.2.1
            have hS6 := v29_8 (by omega)
            have hSu6 : sOK L_37 f_34 r_10.toInt 6 m9 := ⟨hSu.1, by have h9 := (hr_30_3.1 r_10.toInt (by omega) (by omega) (by omega)).1; omega, hSu.2.2⟩
            refine lv_iconst (v := 0) hx hb dX10_worksPattern_65 (by decide) ?_
            refine lv_istore (lv' := [(9, .int 0), (4, .int 1), (8, .int kk), (7, .int r_10), (6, .int r_4), (5, .int r_1), (0, .ref (ad 0)), (1, .int i1), (2, .int i2), (3, .int i3)]) hx hb dX10_worksPattern_66 hl (by decide) rfl (fun ls hl => ?_)
            have loop68 : ∀ (lm68 : Nat) (ri : Int32) (gd : Nat → Int32) (lb : Nat → Nat → Int64), (0 ≤ ri.toInt) → (ri.toInt ≤ 6) → (sFr L_37 f_34 lb gd r_10.toInt) → (sOK lb gd r_10.toInt (6 + ri.toInt) m9) → ((6 - ri.toInt).toNat) < lm68 → ∀ (H : Heap) (locs : List Loc) (ls : Array Slot), va_P (dC, dI) vwCl (mW ad kc x0 x1 x2 x3 x4 x5 x6 x7 x8 x9 x10 x11 x12 x13 x14 x15 x_31 x_32 x_33 x19 x20 x21 f0 f1 f2 f3 f4 f5 f6 f7 f8 gd f_35 f_36 f12 f13 f14 f15 f16 f17 f18 f19 f20 f21 lb Nn_38 fP M_39 O_40) H → va_D A (mW ad kc x0 x1 x2 x3 x4 x5 x6 x7 x8 x9 x10 x11 x12 x13 x14 x15 x_31 x_32 x_33 x19 x20 x21 f0 f1 f2 f3 f4 f5 f6 f7 f8 gd f_35 f_36 f12 f13 f14 f15 f16 f17 f18 f19 f20 f21 lb Nn_38 fP M_39 O_40) → va_S A s.heap H locs → lv_has ls 10 [(9, .int ri), (4, .int 1), (8, .int kk), (7, .int r_10), (6, .int r_4), (5, .int r_1), (0, .ref (ad 0)), (1, .int i1), (2, .int i2), (3, .int i3)] → W p l e (headSpec mwg_X10_worksPattern ({ frames := (6 * d + 8), cells := 0, slots := 0, locals := 60 * (6 * d + 8) })).room s m ([.ref (ad 0), .int i1, .int i2, .int i3]).toArray below meth c H locs 0 0 (MQ below (va_Qi (fun (o9 u9 : Int32) => o9 = u9) (fun (o9 : Int32) t => ∃ (y16 y17 y18 : Int32) (g9 g10 g11 : Nat → Int32) (L9 : Nat → Nat → Int64) (Nn9 : Nat → Nat → Int32) (M9 : Nat → Nat → Int32) (O9 : Nat → Nat → Int32), (o9.toInt = 0 ∨ o9.toInt = 1) ∧ (y16.toInt = x16.toInt) ∧ (y17.toInt = x17.toInt) ∧ (wF fL f9 f10 (rO fN fM fO) L9 g9 g10 (rO Nn9 M9 O9) i2.toInt i3.toInt x16.toInt x17.toInt) ∧ (nOK (rO Nn9 M9 O9) fP g10 i3.toInt m9) ∧ (o9.toInt = 1 → sOK L9 g9 i2.toInt 6 m9) ∧ va_P (dC, dI) vwCl (mW ad kc x0 x1 x2 x3 x4 x5 x6 x7 x8 x9 x10 x11 x12 x13 x14 x15 y16 y17 y18 x19 x20 x21 f0 f1 f2 f3 f4 f5 f6 f7 f8 g9 g10 g11 f12 f13 f14 f15 f16 f17 f18 f19 f20 f21 L9 Nn9 fP M9 O9) t.heap ∧ va_K (dC, dI) vwCl (mT kc) t ∧ va_D A (mW ad kc x0 x1 x2 x3 x4 x5 x6 x7 x8 x9 x10 x11 x12 x13 x14 x15 y16 y17 y18 x19 x20 x21 f0 f1 f2 f3 f4 f5 f6 f7 f8 g9 g10 g11 f12 f13 f14 f15 f16 f17 f18 f19 f20 f21 L9 Nn9 fP M9 O9)) A) ([.ref (ad 0), .int i1, .int i2, .int i3]).toArray s 0 0 A) (F0 m 68 ls []) := by
              intro lm68
              induction lm68 with
              | zero => intro ri gd lb v68_0 v68_1 v68_2 v68_3 hm68; exact absurd hm68 (Nat.not_lt_zero _)
              | succ lm68 ih68 =>
                intro ri gd lb v68_0 v68_1 v68_2 v68_3 hm68 H locs ls hP hD hS hl
                have rg_ri := i_rng ri
                refine lv_iload hx hb dX10_worksPattern_68 (lv_at hl 0 rfl) ?_
                refine lv_aload_n hx hb dX10_worksPattern_70 rfl (lv_at hl 6 rfl) ?_
                refine va_get (D := (dC, dI)) (ci := 10) (v := .ref (ad 10)) (C := RX10) (T := TX10) (N := 48) hx hb hts fin_X10_worksPatterng_X10 hown hK hP 0 rfl rfl 26 (by decide) (hts (.fieldLink RX10 51 "PatternGateModel" "rowMany" "[I") (List.mem_of_getElem? (i := 12) (by decide +kernel))) (fun _ h9 => h9) rfl dX10_worksPattern_71 ?_
                refine lv_iload hx hb dX10_worksPattern_74 (lv_at hl 5 rfl) ?_
                refine va_iald hx hb hK hP 10 9 rfl rfl (i := r_1) (vp_of (a := r_1.toInt) rfl (by omega) (by omega)) dX10_worksPattern_76 ?_
                refine lv_topi (fun y_122 ey_122 => ?_)
                have rg_y_122 := i_rng y_122
                have vy_122 := vI_lda (f := gd) (i := r_1) (a := r_1.toInt) ey_122 (by first | omega | decide)
                have rg_y_122 := i_rng y_122
                have wy_122 := v68_2.1 r_1.toInt (by omega) (by omega)
                refine lv_icmp_ge (tgt := 102) hx hb dX10_worksPattern_77 (by decide) (fun k_123 => ?_) (fun k_123 => ?_)
                · have tk_123 := c_ge (a := ri.toInt) (b := y_122.toInt) rfl rfl k_123
                  refine lv_aload_n hx hb dX10_worksPattern_102 rfl (lv_at hl 6 rfl) ?_
                  refine va_get (D := (dC, dI)) (ci := 10) (v := .ref (ad 10)) (C := RX10) (T := TX10) (N := 48) hx hb hts fin_X10_worksPatterng_X10 hown hK hP 0 rfl rfl 26 (by decide) (hts (.fieldLink RX10 51 "PatternGateModel" "rowMany" "[I") (List.mem_of_getElem? (i := 12) (by decide +kernel))) (fun _ h9 => h9) rfl dX10_worksPattern_103 ?_
                  refine lv_iload hx hb dX10_worksPattern_106 (lv_at hl 3 rfl) ?_
                  refine va_iald hx hb hK hP 10 9 rfl rfl (i := r_10) (vp_of (a := r_10.toInt) rfl (by omega) (by omega)) dX10_worksPattern_108 ?_
                  refine lv_topi (fun y_124 ey_124 => ?_)
                  have rg_y_124 := i_rng y_124
                  have vy_124 := vI_lda (f := gd) (i := r_10) (a := r_10.toInt) ey_124 (by first | omega | decide)
                  have rg_y_124 := i_rng y_124
                  have hS9 := v68_3.mono (show 6 + ri.toInt ≤ 12 by omega) (Int.le_refl m9)
                  have hF2 := hF1.tr (wF.row v68_2 (Or.inl (by omega)) (by omega))
                  have hS9a := hS9.1
                  have hS9b := hS9.2.1
                  refine lv_bipush (v := 6) hx hb dX10_worksPattern_109 (by decide) ?_
                  refine lv_icmp_le (tgt := 117) hx hb dX10_worksPattern_111 (by decide) (fun k_125 => ?_) (fun k_125 => ?_)
                  · have tk_125 := c_le (a := y_124.toInt) (b := 6) rfl (by decide) k_125
                    refine lv_iload hx hb dX10_worksPattern_117 (lv_at hl 2 rfl) ?_
                    refine lv_aload_n hx hb dX10_worksPattern_119 rfl (lv_at hl 6 rfl) ?_
                    refine va_get (D := (dC, dI)) (ci := 10) (v := .ref (ad 5)) (C := RX10) (T := TX10) (N := 48) hx hb hts fin_X10_worksPatterng_X10 hown hK hP 0 rfl rfl 16 (by decide) (hts (.fieldLink RX10 31 "PatternGateModel" "first" "[I") (List.mem_of_getElem? (i := 8) (by decide +kernel))) (fun _ h9 => h9) rfl dX10_worksPattern_120 ?_
                    refine lv_iload_n hx hb dX10_worksPattern_123 rfl (lv_at hl 7 rfl) ?_
                    refine va_iald hx hb hK hP 5 4 rfl rfl (i := i1) (vp_of (a := i1.toInt) rfl (by omega) (by omega)) dX10_worksPattern_124 ?_
                    refine lv_topi (fun y_126 ey_126 => ?_)
                    have rg_y_126 := i_rng y_126
                    have vy_126 := vI_lda (f := f4) (i := i1) (a := i1.toInt) ey_126 (by first | omega | decide)
                    have rg_y_126 := i_rng y_126
                    refine lv_icmp_ne (tgt := 138) hx hb dX10_worksPattern_125 (by decide) (fun k_127 => ?_) (fun k_127 => ?_)
                    · have tk_127 := c_ne (a := kk.toInt) (b := y_126.toInt) rfl rfl k_127
                      rw [show y_126.toInt = mV f3 f4 f5 f7 1 i1.toInt from vy_126] at tk_127
                      refine lv_aload_n hx hb dX10_worksPattern_138 rfl (lv_at hl 6 rfl) ?_
                      refine lv_iload_n hx hb dX10_worksPattern_139 rfl (lv_at hl 9 rfl) ?_
                      refine lv_iload hx hb dX10_worksPattern_140 (lv_at hl 4 rfl) ?_
                      have hFc := m_free hD hS hA
                      refine va_callv (va_runV (As := [.int i3, .int r_4]) (rest := []) ⟨hx, hb, hml, hown, hts⟩ (m_either l dC dI ad kc x0 x1 x2 x3 x4 x5 x6 x7 x8 x9 x10 x11 x12 x13 x14 x15 x_31 x_32 x_33 x19 x20 x21 f0 f1 f2 f3 f4 f5 f6 f7 f8 gd f_35 f_36 f12 f13 f14 f15 f16 f17 f18 f19 f20 f21 lb Nn_38 fP M_39 O_40 H.size i3 r_4 m9 (by first | omega | assumption | decide | (have l0 := Int32.toInt_zero; omega)) (by first | omega | assumption | decide | (have l0 := Int32.toInt_zero; omega)) (by first | omega | assumption | decide | (have l0 := Int32.toInt_zero; omega)) (hNe tk_127) (hr_30_4.mono (by omega)) (by first | omega | assumption | decide | (have l0 := Int32.toInt_zero; omega)) (by first | omega | assumption | decide | (have l0 := Int32.toInt_zero; omega))) (cwV 2 hts mg_X10_worksPatterng_X10_either_356 rfl rfl rfl (by decide +kernel) ⟨(show 2 + 1 ≤ 6 * d + 8 by omega), (show 8 + (4 + 11) + 120 ≤ 60 * (6 * d + 8) by omega)⟩) ⟨fun a U g mk q => by obtain ⟨q0, q1, qP, qK, qD⟩ := q; exact ⟨q0, q1, qP, va_K.moved (u := U) (U := U.calling g mk a) (Vm.Alike.refl U.vm) qK, qD⟩, va_recv hK hP (ci := 10) (q0 := 0) rfl rfl, fun U hU hW => ⟨rfl, by rw [hU], by rw [hU]; exact hP, va_K.moved hW.alike hK, hD.weaken (fun _ _ _ _ => trivial)⟩⟩ rfl rfl hl.1 rfl (lv_room (Nat.le_of_ble_eq_true rfl)) dX10_worksPattern_142 ⟨Nat.le_of_ble_eq_true rfl, Nat.le_of_ble_eq_true rfl⟩) hS (fun q _ h => hFc q h) hFc (fun u t H1 locs ht hvm hw hB hz1 hk1 hS => ?_)
                      obtain ⟨x_129, f_130, f_131, Nn_132, M_133, O_134, hr_128_0, hr_128_1, hr_128_2, hP, hK1, hD1⟩ := hB
                      rw [ht] at hP
                      have hD := hD1.weaken (fun k q _ h => hFc q.1 h)
                      clear hz1 hk1 hFc hD1 hK1 hvm
                      generalize H1 = H at hP hS ⊢
                      have rg_x_129 := i_rng x_129
                      have hP : va_P (dC, dI) vwCl (mW ad kc x0 x1 x2 x3 x4 x5 x6 x7 x8 x9 x10 x11 x12 x13 x14 x15 x_31 x_32 x_129 x19 x20 x21 f0 f1 f2 f3 f4 f5 f6 f7 f8 gd f_131 f_130 f12 f13 f14 f15 f16 f17 f18 f19 f20 f21 lb Nn_132 fP M_133 O_134) H := hP
                      have hD : va_D A (mW ad kc x0 x1 x2 x3 x4 x5 x6 x7 x8 x9 x10 x11 x12 x13 x14 x15 x_31 x_32 x_129 x19 x20 x21 f0 f1 f2 f3 f4 f5 f6 f7 f8 gd f_131 f_130 f12 f13 f14 f15 f16 f17 f18 f19 f20 f21 lb Nn_132 fP M_133 O_134) := hD
                      have hN9 := hr_128_0
                      have hF3 := hF2.tr (wF.need hr_128_1 hr_128_2 (Or.inr rfl) (by omega) (by omega))
                      refine lv_aload_n hx hb dX10_worksPattern_145 rfl (lv_at hl 6 rfl) ?_
                      refine va_get (D := (dC, dI)) (ci := 10) (v := .ref (ad 6)) (C := RX10) (T := TX10) (N := 48) hx hb hts fin_X10_worksPatterng_X10 hown hK hP 0 rfl rfl 17 (by decide) (hts (.fieldLink RX10 34 "PatternGateModel" "next" "[I") (List.mem_of_getElem? (i := 9) (by decide +kernel))) (fun _ h9 => h9) rfl dX10_worksPattern_146 ?_
                      refine lv_iload hx hb dX10_worksPattern_149 (lv_at hl 2 rfl) ?_
                      refine va_iald hx hb hK hP 6 5 rfl rfl (i := kk) (vp_of (a := kk.toInt) rfl (by omega) (by omega)) dX10_worksPattern_151 ?_
                      refine lv_topi (fun y_135 ey_135 => ?_)
                      have rg_y_135 := i_rng y_135
                      have vy_135 := vI_lda (f := f5) (i := kk) (a := kk.toInt) ey_135 (by first | omega | decide)
                      have rg_y_135 := i_rng y_135
                      refine lv_istore (lv' := [(8, .int y_135), (9, .int ri), (4, .int 1), (7, .int r_10), (6, .int r_4), (5, .int r_1), (0, .ref (ad 0)), (1, .int i1), (2, .int i2), (3, .int i3)]) hx hb dX10_worksPattern_152 hl (by decide) rfl (fun ls hl => ?_)
                      refine lv_goto (tgt := 29) hx hb dX10_worksPattern_154 (by decide) ?_
                      have lit_135 : (1 : Int32).toInt = 1 := by decide
                      exact ih29 1 y_135 x_31 x_32 x_129 (le9 - m8) gd f_131 f_130 lb Nn_132 M_133 O_134 (by first | omega | assumption | decide) (by first | omega | assumption | decide) (by first | omega | assumption | decide) (by first | omega | assumption | decide) hF3 ⟨hS9, fun _ => hN9⟩ (by rw [show y_135.toInt = mV f3 f4 f5 f7 2 kk.toInt from vy_135]; exact hN8) (by first | omega | assumption | decide) (fun h9 => by omega) (by omega) _ _ ls hP hD hS (lv_sub hl [0, 3, 4, 5, 2, 6, 7, 8, 9] rfl)
                    · have tk_127 := c_eq (a := kk.toInt) (b := y_126.toInt) rfl rfl k_127
                      refine lv_aload_n hx hb dX10_worksPattern_128 rfl (lv_at hl 6 rfl) ?_
                      refine lv_iload hx hb dX10_worksPattern_129 (lv_at hl 4 rfl) ?_
                      refine lv_iload_n hx hb dX10_worksPattern_131 rfl (lv_at hl 9 rfl) ?_
                      have hFc := m_free hD hS hA
                      refine va_callv (va_runV (As := [.int r_4, .int i3]) (rest := []) ⟨hx, hb, hml, hown, hts⟩ (m_copiesNeed l dC dI ad kc x0 x1 x2 x3 x4 x5 x6 x7 x8 x9 x10 x11 x12 x13 x14 x15 x_31 x_32 x_33 x19 x20 x21 f0 f1 f2 f3 f4 f5 f6 f7 f8 gd f_35 f_36 f12 f13 f14 f15 f16 f17 f18 f19 f20 f21 lb Nn_38 fP M_39 O_40 H.size r_4 i3 m8 (by first | omega | assumption | decide | (have l0 := Int32.toInt_zero; omega)) (by first | omega | assumption | decide | (have l0 := Int32.toInt_zero; omega)) (by first | omega | assumption | decide | (have l0 := Int32.toInt_zero; omega)) hr_30_4 (by first | omega | assumption | decide | (have l0 := Int32.toInt_zero; omega)) (by first | omega | assumption | decide | (have l0 := Int32.toInt_zero; omega))) (cwV 2 hts mg_X10_worksPatterng_X10_copiesNeed_353 rfl rfl rfl (by decide +kernel) ⟨(show 1 + 1 ≤ 6 * d + 8 by omega), (show 8 + (4 + 11) + 60 ≤ 60 * (6 * d + 8) by omega)⟩) ⟨fun a U g mk q => by obtain ⟨q0, q1, qP, qK, qD⟩ := q; exact ⟨q0, q1, qP, va_K.moved (u := U) (U := U.calling g mk a) (Vm.Alike.refl U.vm) qK, qD⟩, va_recv hK hP (ci := 10) (q0 := 0) rfl rfl, fun U hU hW => ⟨rfl, by rw [hU], by rw [hU]; exact hP, va_K.moved hW.alike hK, hD.weaken (fun _ _ _ _ => trivial)⟩⟩ rfl rfl hl.1 rfl (lv_room (Nat.le_of_ble_eq_true rfl)) dX10_worksPattern_132 ⟨Nat.le_of_ble_eq_true rfl, Nat.le_of_ble_eq_true rfl⟩) hS (fun q _ h => hFc q h) hFc (fun u t H1 locs ht hvm hw hB hz1 hk1 hS => ?_)
                      obtain ⟨f_138, Nn_139, M_140, O_141, hr_137_0, hr_137_1, hr_137_2, hP, hK1, hD1⟩ := hB
                      rw [ht] at hP
                      have hD := hD1.weaken (fun k q _ h => hFc q.1 h)
                      clear hz1 hk1 hFc hD1 hK1 hvm
                      generalize H1 = H at hP hS ⊢
                      have hP : va_P (dC, dI) vwCl (mW ad kc x0 x1 x2 x3 x4 x5 x6 x7 x8 x9 x10 x11 x12 x13 x14 x15 x_31 x_32 x_33 x19 x20 x21 f0 f1 f2 f3 f4 f5 f6 f7 f8 gd f_138 f_36 f12 f13 f14 f15 f16 f17 f18 f19 f20 f21 lb Nn_139 fP M_140 O_141) H := hP
                      have hD : va_D A (mW ad kc x0 x1 x2 x3 x4 x5 x6 x7 x8 x9 x10 x11 x12 x13 x14 x15 x_31 x_32 x_33 x19 x20 x21 f0 f1 f2 f3 f4 f5 f6 f7 f8 gd f_138 f_36 f12 f13 f14 f15 f16 f17 f18 f19 f20 f21 lb Nn_139 fP M_140 O_141) := hD
                      have hN9 := hr_137_0.mono (show m8 ≤ m9 by omega)
                      have hF3 := hF2.tr (wF.need hr_137_1 hr_137_2 (Or.inr rfl) (by omega) (by omega))
                      refine lv_goto (tgt := 145) hx hb dX10_worksPattern_135 (by decide) ?_
                      refine lv_aload_n hx hb dX10_worksPattern_145 rfl (lv_at hl 6 rfl) ?_
                      refine va_get (D := (dC, dI)) (ci := 10) (v := .ref (ad 6)) (C := RX10) (T := TX10) (N := 48) hx hb hts fin_X10_worksPatterng_X10 hown hK hP 0 rfl rfl 17 (by decide) (hts (.fieldLink RX10 34 "PatternGateModel" "next" "[I") (List.mem_of_getElem? (i := 9) (by decide +kernel))) (fun _ h9 => h9) rfl dX10_worksPattern_146 ?_
                      refine lv_iload hx hb dX10_worksPattern_149 (lv_at hl 2 rfl) ?_
                      refine va_iald hx hb hK hP 6 5 rfl rfl (i := kk) (vp_of (a := kk.toInt) rfl (by omega) (by omega)) dX10_worksPattern_151 ?_
                      refine lv_topi (fun y_142 ey_142 => ?_)
                      have rg_y_142 := i_rng y_142
                      have vy_142 := vI_lda (f := f5) (i := kk) (a := kk.toInt) ey_142 (by first | omega | decide)
                      have rg_y_142 := i_rng y_142
                      refine lv_istore (lv' := [(8, .int y_142), (9, .int ri), (4, .int 1), (7, .int r_10), (6, .int r_4), (5, .int r_1), (0, .ref (ad 0)), (1, .int i1), (2, .int i2), (3, .int i3)]) hx hb dX10_worksPattern_152 hl (by decide) rfl (fun ls hl => ?_)
                      refine lv_goto (tgt := 29) hx hb dX10_worksPattern_154 (by decide) ?_
                      have lit_142 : (1 : Int32).toInt = 1 := by decide
                      exact ih29 1 y_142 x_31 x_32 x_33 (le9 - m8) gd f_138 f_36 lb Nn_139 M_140 O_141 (by first | omega | assumption | decide) (by first | omega | assumption | decide) (by first | omega | assumption | decide) (by first | omega | assumption | decide) hF3 ⟨hS9, fun _ => hN9⟩ (by rw [show y_142.toInt = mV f3 f4 f5 f7 2 kk.toInt from vy_142]; exact hN8) (by first | omega | assumption | decide) (fun h9 => by omega) (by omega) _ _ ls hP hD hS (lv_sub hl [0, 3, 4, 5, 2, 6, 7, 8, 9] rfl)
                  · have tk_125 := c_nle (a := y_124.toInt) (b := 6) rfl (by decide) k_125
                    refine lv_iconst (v := 0) hx hb dX10_worksPattern_114 (by decide) ?_
                    refine lv_istore (lv' := [(4, .int 0), (9, .int ri), (8, .int kk), (7, .int r_10), (6, .int r_4), (5, .int r_1), (0, .ref (ad 0)), (1, .int i1), (2, .int i2), (3, .int i3)]) hx hb dX10_worksPattern_115 hl (by decide) rfl (fun ls hl => ?_)
                    refine lv_iload hx hb dX10_worksPattern_117 (lv_at hl 2 rfl) ?_
                    refine lv_aload_n hx hb dX10_worksPattern_119 rfl (lv_at hl 6 rfl) ?_
                    refine va_get (D := (dC, dI)) (ci := 10) (v := .ref (ad 5)) (C := RX10) (T := TX10) (N := 48) hx hb hts fin_X10_worksPatterng_X10 hown hK hP 0 rfl rfl 16 (by decide) (hts (.fieldLink RX10 31 "PatternGateModel" "first" "[I") (List.mem_of_getElem? (i := 8) (by decide +kernel))) (fun _ h9 => h9) rfl dX10_worksPattern_120 ?_
                    refine lv_iload_n hx hb dX10_worksPattern_123 rfl (lv_at hl 7 rfl) ?_
                    refine va_iald hx hb hK hP 5 4 rfl rfl (i := i1) (vp_of (a := i1.toInt) rfl (by omega) (by omega)) dX10_worksPattern_124 ?_
                    refine lv_topi (fun y_144 ey_144 => ?_)
                    have rg_y_144 := i_rng y_144
                    have vy_144 := vI_lda (f := f4) (i := i1) (a := i1.toInt) ey_144 (by first | omega | decide)
                    have rg_y_144 := i_rng y_144
                    refine lv_icmp_ne (tgt := 138) hx hb dX10_worksPattern_125 (by decide) (fun k_145 => ?_) (fun k_145 => ?_)
                    · have tk_145 := c_ne (a := kk.toInt) (b := y_144.toInt) rfl rfl k_145
                      rw [show y_144.toInt = mV f3 f4 f5 f7 1 i1.toInt from vy_144] at tk_145
                      refine lv_aload_n hx hb dX10_worksPattern_138 rfl (lv_at hl 6 rfl) ?_
                      refine lv_iload_n hx hb dX10_worksPattern_139 rfl (lv_at hl 9 rfl) ?_
                      refine lv_iload hx hb dX10_worksPattern_140 (lv_at hl 4 rfl) ?_
                      have hFc := m_free hD hS hA
                      refine va_callv (va_runV (As := [.int i3, .int r_4]) (rest := []) ⟨hx, hb, hml, hown, hts⟩ (m_either l dC dI ad kc x0 x1 x2 x3 x4 x5 x6 x7 x8 x9 x10 x11 x12 x13 x14 x15 x_31 x_32 x_33 x19 x20 x21 f0 f1 f2 f3 f4 f5 f6 f7 f8 gd f_35 f_36 f12 f13 f14 f15 f16 f17 f18 f19 f20 f21 lb Nn_38 fP M_39 O_40 H.size i3 r_4 m9 (by first | omega | assumption | decide | (have l0 := Int32.toInt_zero; omega)) (by first | omega | assumption | decide | (have l0 := Int32.toInt_zero; omega)) (by first | omega | assumption | decide | (have l0 := Int32.toInt_zero; omega)) (hNe tk_145) (hr_30_4.mono (by omega)) (by first | omega | assumption | decide | (have l0 := Int32.toInt_zero; omega)) (by first | omega | assumption | decide | (have l0 := Int32.toInt_zero; omega))) (cwV 2 hts mg_X10_worksPatterng_X10_either_356 rfl rfl rfl (by decide +kernel) ⟨(show 2 + 1 ≤ 6 * d + 8 by omega), (show 8 + (4 + 11) + 120 ≤ 60 * (6 * d + 8) by omega)⟩) ⟨fun a U g mk q => by obtain ⟨q0, q1, qP, qK, qD⟩ := q; exact ⟨q0, q1, qP, va_K.moved (u := U) (U := U.calling g mk a) (Vm.Alike.refl U.vm) qK, qD⟩, va_recv hK hP (ci := 10) (q0 := 0) rfl rfl, fun U hU hW => ⟨rfl, by rw [hU], by rw [hU]; exact hP, va_K.moved hW.alike hK, hD.weaken (fun _ _ _ _ => trivial)⟩⟩ rfl rfl hl.1 rfl (lv_room (Nat.le_of_ble_eq_true rfl)) dX10_worksPattern_142 ⟨Nat.le_of_ble_eq_true rfl, Nat.le_of_ble_eq_true rfl⟩) hS (fun q _ h => hFc q h) hFc (fun u t H1 locs ht hvm hw hB hz1 hk1 hS => ?_)
                      obtain ⟨x_147, f_148, f_149, Nn_150, M_151, O_152, hr_146_0, hr_146_1, hr_146_2, hP, hK1, hD1⟩ := hB
                      rw [ht] at hP
                      have hD := hD1.weaken (fun k q _ h => hFc q.1 h)
                      clear hz1 hk1 hFc hD1 hK1 hvm
                      generalize H1 = H at hP hS ⊢
                      have rg_x_147 := i_rng x_147
                      have hP : va_P (dC, dI) vwCl (mW ad kc x0 x1 x2 x3 x4 x5 x6 x7 x8 x9 x10 x11 x12 x13 x14 x15 x_31 x_32 x_147 x19 x20 x21 f0 f1 f2 f3 f4 f5 f6 f7 f8 gd f_149 f_148 f12 f13 f14 f15 f16 f17 f18 f19 f20 f21 lb Nn_150 fP M_151 O_152) H := hP
                      have hD : va_D A (mW ad kc x0 x1 x2 x3 x4 x5 x6 x7 x8 x9 x10 x11 x12 x13 x14 x15 x_31 x_32 x_147 x19 x20 x21 f0 f1 f2 f3 f4 f5 f6 f7 f8 gd f_149 f_148 f12 f13 f14 f15 f16 f17 f18 f19 f20 f21 lb Nn_150 fP M_151 O_152) := hD
                      have hN9 := hr_146_0
                      have hF3 := hF2.tr (wF.need hr_146_1 hr_146_2 (Or.inr rfl) (by omega) (by omega))
                      refine lv_aload_n hx hb dX10_worksPattern_145 rfl (lv_at hl 6 rfl) ?_
                      refine va_get (D := (dC, dI)) (ci := 10) (v := .ref (ad 6)) (C := RX10) (T := TX10) (N := 48) hx hb hts fin_X10_worksPatterng_X10 hown hK hP 0 rfl rfl 17 (by decide) (hts (.fieldLink RX10 34 "PatternGateModel" "next" "[I") (List.mem_of_getElem? (i := 9) (by decide +kernel))) (fun _ h9 => h9) rfl dX10_worksPattern_146 ?_
                      refine lv_iload hx hb dX10_worksPattern_149 (lv_at hl 2 rfl) ?_
                      refine va_iald hx hb hK hP 6 5 rfl rfl (i := kk) (vp_of (a := kk.toInt) rfl (by omega) (by omega)) dX10_worksPattern_151 ?_
                      refine lv_topi (fun y_153 ey_153 => ?_)
                      have rg_y_153 := i_rng y_153
                      have vy_153 := vI_lda (f := f5) (i := kk) (a := kk.toInt) ey_153 (by first | omega | decide)
                      have rg_y_153 := i_rng y_153
                      refine lv_istore (lv' := [(8, .int y_153), (4, .int 0), (9, .int ri), (7, .int r_10), (6, .int r_4), (5, .int r_1), (0, .ref (ad 0)), (1, .int i1), (2, .int i2), (3, .int i3)]) hx hb dX10_worksPattern_152 hl (by decide) rfl (fun ls hl => ?_)
                      refine lv_goto (tgt := 29) hx hb dX10_worksPattern_154 (by decide) ?_
                      have lit_153 : (0 : Int32).toInt = 0 := by decide
                      exact ih29 0 y_153 x_31 x_32 x_147 (le9 - m8) gd f_149 f_148 lb Nn_150 M_151 O_152 (by first | omega | assumption | decide) (by first | omega | assumption | decide) (by first | omega | assumption | decide) (by first | omega | assumption | decide) hF3 ⟨hS9, fun _ => hN9⟩ (by rw [show y_153.toInt = mV f3 f4 f5 f7 2 kk.toInt from vy_153]; exact hN8) (by first | omega | assumption | decide) (fun h9 => by omega) (by omega) _ _ ls hP hD hS (lv_sub hl [0, 3, 4, 5, 1, 6, 7, 8, 9] rfl)
                    · have tk_145 := c_eq (a := kk.toInt) (b := y_144.toInt) rfl rfl k_145
                      refine lv_aload_n hx hb dX10_worksPattern_128 rfl (lv_at hl 6 rfl) ?_
                      refine lv_iload hx hb dX10_worksPattern_129 (lv_at hl 4 rfl) ?_
                      refine lv_iload_n hx hb dX10_worksPattern_131 rfl (lv_at hl 9 rfl) ?_
                      have hFc := m_free hD hS hA
                      refine va_callv (va_runV (As := [.int r_4, .int i3]) (rest := []) ⟨hx, hb, hml, hown, hts⟩ (m_copiesNeed l dC dI ad kc x0 x1 x2 x3 x4 x5 x6 x7 x8 x9 x10 x11 x12 x13 x14 x15 x_31 x_32 x_33 x19 x20 x21 f0 f1 f2 f3 f4 f5 f6 f7 f8 gd f_35 f_36 f12 f13 f14 f15 f16 f17 f18 f19 f20 f21 lb Nn_38 fP M_39 O_40 H.size r_4 i3 m8 (by first | omega | assumption | decide | (have l0 := Int32.toInt_zero; omega)) (by first | omega | assumption | decide | (have l0 := Int32.toInt_zero; omega)) (by first | omega | assumption | decide | (have l0 := Int32.toInt_zero; omega)) hr_30_4 (by first | omega | assumption | decide | (have l0 := Int32.toInt_zero; omega)) (by first | omega | assumption | decide | (have l0 := Int32.toInt_zero; omega))) (cwV 2 hts mg_X10_worksPatterng_X10_copiesNeed_353 rfl rfl rfl (by decide +kernel) ⟨(show 1 + 1 ≤ 6 * d + 8 by omega), (show 8 + (4 + 11) + 60 ≤ 60 * (6 * d + 8) by omega)⟩) ⟨fun a U g mk q => by obtain ⟨q0, q1, qP, qK, qD⟩ := q; exact ⟨q0, q1, qP, va_K.moved (u := U) (U := U.calling g mk a) (Vm.Alike.refl U.vm) qK, qD⟩, va_recv hK hP (ci := 10) (q0 := 0) rfl rfl, fun U hU hW => ⟨rfl, by rw [hU], by rw [hU]; exact hP, va_K.moved hW.alike hK, hD.weaken (fun _ _ _ _ => trivial)⟩⟩ rfl rfl hl.1 rfl (lv_room (Nat.le_of_ble_eq_true rfl)) dX10_worksPattern_132 ⟨Nat.le_of_ble_eq_true rfl, Nat.le_of_ble_eq_true rfl⟩) hS (fun q _ h => hFc q h) hFc (fun u t H1 locs ht hvm hw hB hz1 hk1 hS => ?_)
                      obtain ⟨f_156, Nn_157, M_158, O_159, hr_155_0, hr_155_1, hr_155_2, hP, hK1, hD1⟩ := hB
                      rw [ht] at hP
                      have hD := hD1.weaken (fun k q _ h => hFc q.1 h)
                      clear hz1 hk1 hFc hD1 hK1 hvm
                      generalize H1 = H at hP hS ⊢
                      have hP : va_P (dC, dI) vwCl (mW ad kc x0 x1 x2 x3 x4 x5 x6 x7 x8 x9 x10 x11 x12 x13 x14 x15 x_31 x_32 x_33 x19 x20 x21 f0 f1 f2 f3 f4 f5 f6 f7 f8 gd f_156 f_36 f12 f13 f14 f15 f16 f17 f18 f19 f20 f21 lb Nn_157 fP M_158 O_159) H := hP
                      have hD : va_D A (mW ad kc x0 x1 x2 x3 x4 x5 x6 x7 x8 x9 x10 x11 x12 x13 x14 x15 x_31 x_32 x_33 x19 x20 x21 f0 f1 f2 f3 f4 f5 f6 f7 f8 gd f_156 f_36 f12 f13 f14 f15 f16 f17 f18 f19 f20 f21 lb Nn_157 fP M_158 O_159) := hD
                      have hN9 := hr_155_0.mono (show m8 ≤ m9 by omega)
                      have hF3 := hF2.tr (wF.need hr_155_1 hr_155_2 (Or.inr rfl) (by omega) (by omega))
                      refine lv_goto (tgt := 145) hx hb dX10_worksPattern_135 (by decide) ?_
                      refine lv_aload_n hx hb dX10_worksPattern_145 rfl (lv_at hl 6 rfl) ?_
                      refine va_get (D := (dC, dI)) (ci := 10) (v := .ref (ad 6)) (C := RX10) (T := TX10) (N := 48) hx hb hts fin_X10_worksPatterng_X10 hown hK hP 0 rfl rfl 17 (by decide) (hts (.fieldLink RX10 34 "PatternGateModel" "next" "[I") (List.mem_of_getElem? (i := 9) (by decide +kernel))) (fun _ h9 => h9) rfl dX10_worksPattern_146 ?_
                      refine lv_iload hx hb dX10_worksPattern_149 (lv_at hl 2 rfl) ?_
                      refine va_iald hx hb hK hP 6 5 rfl rfl (i := kk) (vp_of (a := kk.toInt) rfl (by omega) (by omega)) dX10_worksPattern_151 ?_
                      refine lv_topi (fun y_160 ey_160 => ?_)
                      have rg_y_160 := i_rng y_160
                      have vy_160 := vI_lda (f := f5) (i := kk) (a := kk.toInt) ey_160 (by first | omega | decide)
                      have rg_y_160 := i_rng y_160
                      refine lv_istore (lv' := [(8, .int y_160), (4, .int 0), (9, .int ri), (7, .int r_10), (6, .int r_4), (5, .int r_1), (0, .ref (ad 0)), (1, .int i1), (2, .int i2), (3, .int i3)]) hx hb dX10_worksPattern_152 hl (by decide) rfl (fun ls hl => ?_)
                      refine lv_goto (tgt := 29) hx hb dX10_worksPattern_154 (by decide) ?_
                      have lit_160 : (0 : Int32).toInt = 0 := by decide
                      exact ih29 0 y_160 x_31 x_32 x_33 (le9 - m8) gd f_156 f_36 lb Nn_157 M_158 O_159 (by first | omega | assumption | decide) (by first | omega | assumption | decide) (by first | omega | assumption | decide) (by first | omega | assumption | decide) hF3 ⟨hS9, fun _ => hN9⟩ (by rw [show y_160.toInt = mV f3 f4 f5 f7 2 kk.toInt from vy_160]; exact hN8) (by first | omega | assumption | decide) (fun h9 => by omega) (by omega) _ _ ls hP hD hS (lv_sub hl [0, 3, 4, 5, 1, 6, 7, 8, 9] rfl)
                · have tk_123 := c_nge (a := ri.toInt) (b := y_122.toInt) rfl rfl k_123
                  refine lv_aload_n hx hb dX10_worksPattern_80 rfl (lv_at hl 6 rfl) ?_
                  refine lv_iload hx hb dX10_worksPattern_81 (lv_at hl 3 rfl) ?_
                  refine lv_aload_n hx hb dX10_worksPattern_83 rfl (lv_at hl 6 rfl) ?_
                  refine va_get (D := (dC, dI)) (ci := 10) (v := .ref (ad 23)) (C := RX10) (T := TX10) (N := 48) hx hb hts fin_X10_worksPatterng_X10 hown hK hP 0 rfl rfl 25 (by decide) (hts (.fieldLink RX10 48 "PatternGateModel" "rows" "[[J") (List.mem_of_getElem? (i := 11) (by decide +kernel))) (fun _ h9 => h9) rfl dX10_worksPattern_84 ?_
                  refine lv_iload hx hb dX10_worksPattern_87 (lv_at hl 5 rfl) ?_
                  refine m_aak hx hb hK hP 23 22 (k := r_1.toInt.toNat) (b := ad (100 + r_1.toInt.toNat)) rfl rfl rfl (i := r_1) (by omega) (by omega) rfl dX10_worksPattern_89 ?_
                  refine lv_iload hx hb dX10_worksPattern_90 (lv_at hl 0 rfl) ?_
                  refine va_lald hx hb hK hP (27 + r_1.toInt.toNat) 26 (mW_L (by omega)) rfl (i := ri) (vp_of (a := ri.toInt) rfl (by omega) (by omega)) dX10_worksPattern_92 ?_
                  refine lv_topl (fun w_162 ew_162 => ?_)
                  obtain ⟨n7, hn7a, hn7b, hn7c⟩ := hOw.2.2 ri.toInt.toNat (by omega)
                  have hn7w : rLen w_162 n7 := by rw [ew_162, v68_2.2 _ (by omega)]; exact hn7c
                  have hFc := m_free hD hS hA
                  refine va_callv (va_runV (As := [.int r_10, .long w_162]) (rest := []) ⟨hx, hb, hml, hown, hts⟩ (m_addsRow l dC dI ad kc x0 x1 x2 x3 x4 x5 x6 x7 x8 x9 x10 x11 x12 x13 x14 x15 x_31 x_32 x_33 x19 x20 x21 f0 f1 f2 f3 f4 f5 f6 f7 f8 gd f_35 f_36 f12 f13 f14 f15 f16 f17 f18 f19 f20 f21 lb Nn_38 fP M_39 O_40 H.size r_10 w_162 (by first | omega | assumption | decide | (have l0 := Int32.toInt_zero; omega)) (by first | omega | assumption | decide | (have l0 := Int32.toInt_zero; omega)) v68_3.1 (by have h9 := v68_3.2.1; omega)) (cwV 2 hts mg_X10_worksPatterng_X10_addsRow_285 rfl rfl rfl (by decide +kernel) ⟨(show 0 + 1 ≤ 6 * d + 8 by omega), (show 8 + (5 + 11) + 0 ≤ 60 * (6 * d + 8) by omega)⟩) ⟨fun a U g mk q => by obtain ⟨q0, q1, qP, qK, qD⟩ := q; exact ⟨q0, q1, qP, va_K.moved (u := U) (U := U.calling g mk a) (Vm.Alike.refl U.vm) qK, qD⟩, va_recv hK hP (ci := 10) (q0 := 0) rfl rfl, fun U hU hW => ⟨rfl, by rw [hU], by rw [hU]; exact hP, va_K.moved hW.alike hK, hD.weaken (fun _ _ _ _ => trivial)⟩⟩ rfl rfl hl.1 rfl (lv_room (Nat.le_of_ble_eq_true rfl)) dX10_worksPattern_93 ⟨Nat.le_of_ble_eq_true rfl, Nat.le_of_ble_eq_true rfl⟩) hS (fun q _ h => hFc q h) hFc (fun u t H1 locs ht hvm hw hB hz1 hk1 hS => ?_)
                  obtain ⟨f_164, L_165, hr_163_0, hP, hK1, hD1⟩ := hB
                  rw [ht] at hP
                  have hD := hD1.weaken (fun k q _ h => hFc q.1 h)
                  clear hz1 hk1 hFc hD1 hK1 hvm
                  generalize H1 = H at hP hS ⊢
                  have hP : va_P (dC, dI) vwCl (mW ad kc x0 x1 x2 x3 x4 x5 x6 x7 x8 x9 x10 x11 x12 x13 x14 x15 x_31 x_32 x_33 x19 x20 x21 f0 f1 f2 f3 f4 f5 f6 f7 f8 f_164 f_35 f_36 f12 f13 f14 f15 f16 f17 f18 f19 f20 f21 L_165 Nn_38 fP M_39 O_40) H := hP
                  have hD : va_D A (mW ad kc x0 x1 x2 x3 x4 x5 x6 x7 x8 x9 x10 x11 x12 x13 x14 x15 x_31 x_32 x_33 x19 x20 x21 f0 f1 f2 f3 f4 f5 f6 f7 f8 f_164 f_35 f_36 f12 f13 f14 f15 f16 f17 f18 f19 f20 f21 L_165 Nn_38 fP M_39 O_40) := hD
                  obtain ⟨y_166, ey_166⟩ : ∃ y : Int32, y = ri + 1 := ⟨_, rfl⟩
                  first | have ty_166 := i_add (a := ri.toInt) (b := 1) rfl (by decide) ey_166 (by omega) (by omega) | skip
                  refine lv_iinc (v := y_166) (lv' := [(9, .int y_166), (4, .int 1), (8, .int kk), (7, .int r_10), (6, .int r_4), (5, .int r_1), (0, .ref (ad 0)), (1, .int i1), (2, .int i2), (3, .int i3)]) hx hb dX10_worksPattern_96 hl (k := 0) rfl (by rw [ey_166]; rfl) (by decide) rfl (fun ls hl => ?_)
                  refine lv_goto (tgt := 68) hx hb dX10_worksPattern_99 (by decide) ?_
                  exact ih68 y_166 f_164 L_165 (by first | omega | assumption | decide) (by first | omega | assumption | decide) (v68_2.add hr_163_0) (by rw [show 6 + y_166.toInt = 6 + ri.toInt + 1 by omega]; exact v68_3.add hr_163_0 hn7w (by omega) (by omega)) (by omega) _ _ ls hP hD hS (lv_sub hl [0, 1, 2, 3, 4, 5, 6, 7, 8, 9] rfl)
            have lit_166 : (0 : Int32).toInt = 0 := by decide
            exact loop68 _ 0 f_34 L_37 (by first | omega | assumption | decide) (by first | omega | assumption | decide) sFr.rf (hSu6.mono (by omega) (by omega)) (Nat.lt_succ_self _) _ _ ls hP hD hS (lv_sub hl [0, 1, 2, 3, 4, 5, 6, 7, 8, 9] rfl)
  have lit_167 : (1 : Int32).toInt = 1 := by decide
  exact loop29 _ 1 y_13 x_11 x_5 x18 m9 f_12 f_6 f11 fL Nn_7 M_8 O_9 (by first | omega | assumption | decide) (by first | omega | assumption | decide) (by first | omega | assumption | decide) (by first | omega | assumption | decide) hF0 ⟨sOK.zero (by rw [show r_10.toInt = x_2.toInt by omega]; exact hr_10_2.1) (by omega), fun h9 => absurd (vy_13 : y_13.toInt = mV f3 f4 f5 f7 1 i1.toInt) h9⟩ (by rw [show y_13.toInt = mV f3 f4 f5 f7 1 i1.toInt from vy_13]; exact hT0) (by first | omega | assumption | decide) (fun _ => by rw [show r_10.toInt = x_2.toInt by omega, hr_10_2.1]; omega) (Nat.lt_succ_self _) _ _ ls hP hD hS (lv_sub hl [0, 1, 2, 3, 4, 5, 6, 7, 8] rfl)
theorem dX10_worksOut_55 : decode cX10_worksOut 55 = .ok (.aload_n 0, 1) := by decide +kernel
theorem dX10_worksOut_56 : decode cX10_worksOut 56 = .ok (.iload_n 1, 1) := by decide +kernel
theorem dX10_worksOut_57 : decode cX10_worksOut 57 = .ok (.iload_n 2, 1) := by decide +kernel
theorem dX10_worksOut_58 : decode cX10_worksOut 58 = .ok (.iload_n 3, 1) := by decide +kernel
theorem dX10_worksOut_59 : decode cX10_worksOut 59 = .ok (.invokevirtual 328, 3) := by decide +kernel
theorem fin_X10_worksOutgP_X10 : ∀ w ∈ wsX100, w ∈ mwg_X10_worksOutP := fun w h => List.mem_cons_of_mem _ (List.mem_append_right _ (List.mem_append_left _ h))
set_option maxRecDepth 100000 in
theorem mg_X10_worksOutgP_X10_worksPattern_328 : GoodIn mwg_X10_worksOutP (wsV RX10 328 RX10 yX10_worksPattern mwg_X10_worksPattern) := gj_app (A := [.methodLink RX10 328 yX10_worksPattern, .instanceMethod yX10_worksPattern, .selects RX10 yX10_worksPattern yX10_worksPattern, .initialized RX10]) (goodIn_r _ [32, 27, 55, 13] (by decide +kernel) (by decide +kernel)) (gj_cons ⟨List.mem_of_getElem? (i := 4) rfl, good_of_word rfl⟩ (gj_sub gd_wgU_works (fun w h => List.mem_cons_of_mem _ h)))
set_option maxHeartbeats 4000000 in
set_option maxRecDepth 100000 in
theorem m_worksOutP (l : Launch) (dC : Nat → ClassId) (dI : Nat → Nat → Nat) (d : Nat) (hrec : k_m_worksPattern l dC dI d) : k_m_worksOutP l dC dI d := by
  intro ad kc x0 x1 x2 x3 x4 x5 x6 x7 x8 x9 x10 x11 x12 x13 x14 x15 x16 x17 x18 x19 x20 x21 f0 f1 f2 f3 f4 f5 f6 f7 f8 f9 f10 f11 f12 f13 f14 f15 f16 f17 f18 f19 f20 f21 fL fN fP fM fO sz i1 i2 i3 hi m9 q0 q1 q2 q3 q4 q5 q6 q7 q8
  refine Met.ofW (cc := cX10_worksOut) (maxL := 4) (ret := (some .boolean)) (by decide +kernel) rfl ?_
  intro p e s m args below meth c s₁ B hml hv
  obtain ⟨rfl, hsz, hP, hK, hD0⟩ := hv
  have hx := B.exec
  have hb := B.bytes
  have hr := B.returns
  have hts := atoms_spec (ws := mwg_X10_worksOutP) B.pre
  have hown : s.vm.findClass RX10 = some m.cls := findClass_of_methodNamed B.named
  have hlocks := B.notSynchronized
  subst hsz
  have hD := hD0.self (sz := s.heap.size)
  generalize hAe : va_A (mW ad kc x0 x1 x2 x3 x4 x5 x6 x7 x8 x9 x10 x11 x12 x13 x14 x15 x16 x17 x18 x19 x20 x21 f0 f1 f2 f3 f4 f5 f6 f7 f8 f9 f10 f11 f12 f13 f14 f15 f16 f17 f18 f19 f20 f21 fL fN fP fM fO) s.heap.size = A at hD ⊢
  have hA : ∀ q : Nat, s.heap.size ≤ q → A q := fun q h => by rw [← hAe]; exact Or.inr h
  have hP : va_P (dC, dI) vwCl (mW ad kc x0 x1 x2 x3 x4 x5 x6 x7 x8 x9 x10 x11 x12 x13 x14 x15 x16 x17 x18 x19 x20 x21 f0 f1 f2 f3 f4 f5 f6 f7 f8 f9 f10 f11 f12 f13 f14 f15 f16 f17 f18 f19 f20 f21 fL fN fP fM fO) s.heap := hP
  have hD : va_D A (mW ad kc x0 x1 x2 x3 x4 x5 x6 x7 x8 x9 x10 x11 x12 x13 x14 x15 x16 x17 x18 x19 x20 x21 f0 f1 f2 f3 f4 f5 f6 f7 f8 f9 f10 f11 f12 f13 f14 f15 f16 f17 f18 f19 f20 f21 fL fN fP fM fO) := hD
  have hK : va_K (dC, dI) vwCl (mT kc) s := hK
  generalize hH : s.heap = H at hP ⊢
  have hS : va_S A s.heap H [] := by rw [← hH]; exact va_S.rf
  have hl := lv_entry ([.ref (ad 0), .int i1, .int i2, .int i3]) (n := 4) (Nat.le_of_ble_eq_true rfl)
  rw [lg_entry_eq]
  generalize (lg_sl ([.ref (ad 0), .int i1, .int i2, .int i3]) ++ List.replicate (4 - (lg_sl ([.ref (ad 0), .int i1, .int i2, .int i3])).length) Slot.unset).toArray = ls at hl ⊢
  have hl : lv_has ls 4 [(0, .ref (ad 0)), (1, .int i1), (2, .int i2), (3, .int i3)] := hl
  have rg_i1 := i_rng i1
  have rg_i2 := i_rng i2
  have rg_i3 := i_rng i3
  have hkd : vI f3 i1.toInt = 3 := (by have h9 := q6; rw [tPat_eq] at h9; exact h9.1)
  refine lv_aload_n hx hb dX10_worksOut_0 rfl (lv_at hl 0 rfl) ?_
  refine va_get (D := (dC, dI)) (ci := 10) (v := .ref (ad 4)) (C := RX10) (T := TX10) (N := 48) hx hb hts fin_X10_worksOutgP_X10 hown hK hP 0 rfl rfl 15 (by decide) (hts (.fieldLink RX10 28 "PatternGateModel" "kind" "[I") (List.mem_of_getElem? (i := 6) (by decide +kernel))) (fun _ h9 => h9) rfl dX10_worksOut_1 ?_
  refine lv_iload_n hx hb dX10_worksOut_4 rfl (lv_at hl 1 rfl) ?_
  refine va_iald hx hb hK hP 4 3 rfl rfl (i := i1) (vp_of (a := i1.toInt) rfl (by omega) (by omega)) dX10_worksOut_5 ?_
  refine lv_topi (fun y_1 ey_1 => ?_)
  have rg_y_1 := i_rng y_1
  have vy_1 := vI_lda (f := f3) (i := i1) (a := i1.toInt) ey_1 (by first | omega | decide)
  have rg_y_1 := i_rng y_1
  refine lv_if_ne (tgt := 17) hx hb dX10_worksOut_6 (by decide) (fun k_2 => ?_) (fun k_2 => absurd k_2 (fun e9 => by have h9 := congrArg Int32.toInt e9; have h8 : (0 : Int32).toInt = 0 := (by decide); omega))
  have tk_2 := c_ne (a := y_1.toInt) (b := 0) rfl (by decide) k_2
  refine lv_aload_n hx hb dX10_worksOut_17 rfl (lv_at hl 0 rfl) ?_
  refine va_get (D := (dC, dI)) (ci := 10) (v := .ref (ad 4)) (C := RX10) (T := TX10) (N := 48) hx hb hts fin_X10_worksOutgP_X10 hown hK hP 0 rfl rfl 15 (by decide) (hts (.fieldLink RX10 28 "PatternGateModel" "kind" "[I") (List.mem_of_getElem? (i := 6) (by decide +kernel))) (fun _ h9 => h9) rfl dX10_worksOut_18 ?_
  refine lv_iload_n hx hb dX10_worksOut_21 rfl (lv_at hl 1 rfl) ?_
  refine va_iald hx hb hK hP 4 3 rfl rfl (i := i1) (vp_of (a := i1.toInt) rfl (by omega) (by omega)) dX10_worksOut_22 ?_
  refine lv_topi (fun y_3 ey_3 => ?_)
  have rg_y_3 := i_rng y_3
  have vy_3 := vI_lda (f := f3) (i := i1) (a := i1.toInt) ey_3 (by first | omega | decide)
  have rg_y_3 := i_rng y_3
  refine lv_iconst (v := 1) hx hb dX10_worksOut_23 (by decide) ?_
  refine lv_icmp_ne (tgt := 35) hx hb dX10_worksOut_24 (by decide) (fun k_4 => ?_) (fun k_4 => absurd k_4 (fun e9 => by have h9 := congrArg Int32.toInt e9; have h8 : (1 : Int32).toInt = 1 := (by decide); omega))
  have tk_4 := c_ne (a := y_3.toInt) (b := 1) rfl (by decide) k_4
  refine lv_aload_n hx hb dX10_worksOut_35 rfl (lv_at hl 0 rfl) ?_
  refine va_get (D := (dC, dI)) (ci := 10) (v := .ref (ad 4)) (C := RX10) (T := TX10) (N := 48) hx hb hts fin_X10_worksOutgP_X10 hown hK hP 0 rfl rfl 15 (by decide) (hts (.fieldLink RX10 28 "PatternGateModel" "kind" "[I") (List.mem_of_getElem? (i := 6) (by decide +kernel))) (fun _ h9 => h9) rfl dX10_worksOut_36 ?_
  refine lv_iload_n hx hb dX10_worksOut_39 rfl (lv_at hl 1 rfl) ?_
  refine va_iald hx hb hK hP 4 3 rfl rfl (i := i1) (vp_of (a := i1.toInt) rfl (by omega) (by omega)) dX10_worksOut_40 ?_
  refine lv_topi (fun y_5 ey_5 => ?_)
  have rg_y_5 := i_rng y_5
  have vy_5 := vI_lda (f := f3) (i := i1) (a := i1.toInt) ey_5 (by first | omega | decide)
  have rg_y_5 := i_rng y_5
  refine lv_iconst (v := 2) hx hb dX10_worksOut_41 (by decide) ?_
  refine lv_icmp_ne (tgt := 55) hx hb dX10_worksOut_42 (by decide) (fun k_6 => ?_) (fun k_6 => absurd k_6 (fun e9 => by have h9 := congrArg Int32.toInt e9; have h8 : (2 : Int32).toInt = 2 := (by decide); omega))
  have tk_6 := c_ne (a := y_5.toInt) (b := 2) rfl (by decide) k_6
  refine lv_aload_n hx hb dX10_worksOut_55 rfl (lv_at hl 0 rfl) ?_
  refine lv_iload_n hx hb dX10_worksOut_56 rfl (lv_at hl 1 rfl) ?_
  refine lv_iload_n hx hb dX10_worksOut_57 rfl (lv_at hl 2 rfl) ?_
  refine lv_iload_n hx hb dX10_worksOut_58 rfl (lv_at hl 3 rfl) ?_
  have hFc := m_free hD hS hA
  refine va_calli (va_runV (As := [.int i1, .int i2, .int i3]) (rest := []) ⟨hx, hb, hml, hown, hts⟩ (hrec ad kc x0 x1 x2 x3 x4 x5 x6 x7 x8 x9 x10 x11 x12 x13 x14 x15 x16 x17 x18 x19 x20 x21 f0 f1 f2 f3 f4 f5 f6 f7 f8 f9 f10 f11 f12 f13 f14 f15 f16 f17 f18 f19 f20 f21 fL fN fP fM fO H.size i1 i2 i3 hi m9 (by first | omega | assumption | decide | (have l0 := Int32.toInt_zero; omega)) (by first | omega | assumption | decide | (have l0 := Int32.toInt_zero; omega)) (by first | omega | assumption | decide | (have l0 := Int32.toInt_zero; omega)) (by first | omega | assumption | decide | (have l0 := Int32.toInt_zero; omega)) (by first | omega | assumption | decide | (have l0 := Int32.toInt_zero; omega)) (by first | omega | assumption | decide | (have l0 := Int32.toInt_zero; omega)) (by first | omega | assumption | decide | (have l0 := Int32.toInt_zero; omega)) (by first | omega | assumption | decide | (have l0 := Int32.toInt_zero; omega)) (by first | omega | assumption | decide | (have l0 := Int32.toInt_zero; omega))) (cwV 3 hts mg_X10_worksOutgP_X10_worksPattern_328 rfl rfl rfl (by decide +kernel) ⟨(show (6 * d + 8) + 1 ≤ 6 * d + 9 by omega), (show 8 + (10 + 11) + 60 * (6 * d + 8) ≤ 60 * (6 * d + 9) by omega)⟩) ⟨fun a U g mk q => by obtain ⟨q0, q1, qP, qK, qD⟩ := q; exact ⟨q0, q1, qP, va_K.moved (u := U) (U := U.calling g mk a) (Vm.Alike.refl U.vm) qK, qD⟩, va_recv hK hP (ci := 10) (q0 := 0) rfl rfl, fun U hU hW => ⟨rfl, by rw [hU], by rw [hU]; exact hP, va_K.moved hW.alike hK, hD.weaken (fun _ _ _ _ => trivial)⟩⟩ rfl rfl hl.1 rfl (lv_room (Nat.le_of_ble_eq_true rfl)) dX10_worksOut_59 ⟨Nat.le_of_ble_eq_true rfl, Nat.le_of_ble_eq_true rfl⟩) hS (fun q _ h => hFc q h) hFc (fun r_7 u t H1 locs ht hvm hw hB hz1 hk1 hS => ?_)
  subst hw
  obtain ⟨x_8, x_9, x_10, f_11, f_12, f_13, L_14, Nn_15, M_16, O_17, hr_7_0, hr_7_1, hr_7_2, hr_7_3, hr_7_4, hr_7_5, hP, hK1, hD1⟩ := hB
  rw [ht] at hP
  have hD := hD1.weaken (fun k q _ h => hFc q.1 h)
  clear hz1 hk1 hFc hD1 hK1 hvm
  generalize H1 = H at hP hS ⊢
  have rg_x_8 := i_rng x_8
  have rg_x_9 := i_rng x_9
  have rg_x_10 := i_rng x_10
  have rg_r_7 := i_rng r_7
  have hP : va_P (dC, dI) vwCl (mW ad kc x0 x1 x2 x3 x4 x5 x6 x7 x8 x9 x10 x11 x12 x13 x14 x15 x_8 x_9 x_10 x19 x20 x21 f0 f1 f2 f3 f4 f5 f6 f7 f8 f_11 f_12 f_13 f12 f13 f14 f15 f16 f17 f18 f19 f20 f21 L_14 Nn_15 fP M_16 O_17) H := hP
  have hD : va_D A (mW ad kc x0 x1 x2 x3 x4 x5 x6 x7 x8 x9 x10 x11 x12 x13 x14 x15 x_8 x_9 x_10 x19 x20 x21 f0 f1 f2 f3 f4 f5 f6 f7 f8 f_11 f_12 f_13 f12 f13 f14 f15 f16 f17 f18 f19 f20 f21 L_14 Nn_15 fP M_16 O_17) := hD
  exact W.zret hx hb hr (z_nar (by first | assumption | decide | exact z_of (by omega))) (fun t ht hW => ⟨⟨_, _, rfl, rfl, x_8, x_9, x_10, f_11, f_12, f_13, L_14, Nn_15, M_16, O_17, (by first | omega | assumption | rfl | decide), (by first | omega | assumption | rfl | decide), (by first | omega | assumption | rfl | decide), hr_7_3, hr_7_4, hr_7_5, by rw [ht]; exact hP, va_K.moved hW.alike hK, hD⟩, hS.F ht⟩) hS.2.2 dX10_worksOut_62
theorem m_wP (l : Launch) (dC : Nat → ClassId) (dI : Nat → Nat → Nat) : ∀ d : Nat, k_m_worksOutP l dC dI d
  | 0 => m_worksOutP l dC dI 0 (m_worksPattern l dC dI 0 (m_worksOutB l dC dI 0 (m_worksBranch l dC dI 0 (m_worksOutI l dC dI 0 (m_worksItem l dC dI 0 (fun e h => by omega))))))
  | d + 1 => m_worksOutP l dC dI (d + 1) (m_worksPattern l dC dI (d + 1) (m_worksOutB l dC dI (d + 1) (m_worksBranch l dC dI (d + 1) (m_worksOutI l dC dI (d + 1) (m_worksItem l dC dI (d + 1) (fun e h => by
    have h9 : d = e := by omega
    subst h9
    exact m_wP l dC dI d))))))

/-- the reference's constant texts -/
def sW (A : Nat → Prop) (U : State) (H : Heap) : Prop := ∃ qd qp : Nat, vk_R RX10 173 "doc" qd U ∧ vk_R RX10 179 "pattern" qp U ∧ sX A U H qd 3 ∧ sX A U H qp 7 ∧ sC A U H
theorem sW.call {A : Nat → Prop} {U : State} {H : Heap} {g : JFrame} {mk : MethodId} {a : Array Value} (h : sW A U H) : sW A (U.calling g mk a) H := by
  obtain ⟨qd, qp, h1, h2, h3, h4, h5⟩ := h
  exact ⟨qd, qp, vk_R.same (u := U) rfl h1, vk_R.same (u := U) rfl h2, sX.moved (u := U) (U := U.calling g mk a) (Vm.Alike.refl U.vm) h3, sX.moved (u := U) (U := U.calling g mk a) (Vm.Alike.refl U.vm) h4, sC.moved (u := U) (U := U.calling g mk a) (Vm.Alike.refl U.vm) h5⟩
theorem sW.to {A B : Nat → Prop} {s U : State} {H : Heap} {locs : List Loc} (h : sW A s s.heap) (hS : va_S A s.heap H locs) (hF : ∀ q, B q → A q) (hW : s.WarmedH U.vm) (hU : U.heap = H) : sW B U U.heap := by
  obtain ⟨qd, qp, h1, h2, h3, h4, h5⟩ := h
  rw [hU]
  exact ⟨qd, qp, vk_R.warm hW h1, vk_R.warm hW h2, ((h3.kept hS.2.1).narrow hF).moved hW.alike, ((h4.kept hS.2.1).narrow hF).moved hW.alike, ((h5.kept hS.2.1).narrow hF).moved hW.alike⟩
theorem sX.to {A B : Nat → Prop} {s U : State} {H : Heap} {locs : List Loc} {q n : Nat} (h : sX A s s.heap q n) (hS : va_S A s.heap H locs) (hF : ∀ q, B q → A q) (hW : s.WarmedH U.vm) (hU : U.heap = H) : sX B U U.heap q n := by
  rw [hU]; exact ((h.kept hS.2.1).narrow hF).moved hW.alike
theorem sC.to {A B : Nat → Prop} {s U : State} {H : Heap} {locs : List Loc} (h : sC A s s.heap) (hS : va_S A s.heap H locs) (hF : ∀ q, B q → A q) (hW : s.WarmedH U.vm) (hU : U.heap = H) : sC B U U.heap := by
  rw [hU]; exact ((h.kept hS.2.1).narrow hF).moved hW.alike
theorem dX10_isWord_0 : decode cX10_isWord 0 = .ok (.aload_n 0, 1) := by decide +kernel
theorem dX10_isWord_1 : decode cX10_isWord 1 = .ok (.getfield 120, 3) := by decide +kernel
theorem dX10_isWord_4 : decode cX10_isWord 4 = .ok (.iconst 2, 1) := by decide +kernel
theorem dX10_isWord_5 : decode cX10_isWord 5 = .ok (.if_icmp .ne 23, 3) := by decide +kernel
theorem dX10_isWord_8 : decode cX10_isWord 8 = .ok (.aload_n 0, 1) := by decide +kernel
theorem dX10_isWord_9 : decode cX10_isWord 9 = .ok (.getfield 130, 3) := by decide +kernel
theorem dX10_isWord_12 : decode cX10_isWord 12 = .ok (.aload_n 0, 1) := by decide +kernel
theorem dX10_isWord_13 : decode cX10_isWord 13 = .ok (.getfield 123, 3) := by decide +kernel
theorem dX10_isWord_16 : decode cX10_isWord 16 = .ok (.isub, 1) := by decide +kernel
theorem dX10_isWord_17 : decode cX10_isWord 17 = .ok (.aload_n 1, 1) := by decide +kernel
theorem dX10_isWord_18 : decode cX10_isWord 18 = .ok (.invokevirtual 141, 3) := by decide +kernel
theorem dX10_isWord_21 : decode cX10_isWord 21 = .ok (.if_icmp .ne 7, 3) := by decide +kernel
theorem dX10_isWord_24 : decode cX10_isWord 24 = .ok (.iconst 1, 1) := by decide +kernel
theorem dX10_isWord_25 : decode cX10_isWord 25 = .ok (.goto 4, 3) := by decide +kernel
theorem dX10_isWord_28 : decode cX10_isWord 28 = .ok (.iconst 0, 1) := by decide +kernel
theorem dX10_isWord_29 : decode cX10_isWord 29 = .ok (.istore_n 2, 1) := by decide +kernel
theorem dX10_isWord_30 : decode cX10_isWord 30 = .ok (.iconst 0, 1) := by decide +kernel
theorem dX10_isWord_31 : decode cX10_isWord 31 = .ok (.istore_n 3, 1) := by decide +kernel
theorem dX10_isWord_32 : decode cX10_isWord 32 = .ok (.iload_n 3, 1) := by decide +kernel
theorem dX10_isWord_33 : decode cX10_isWord 33 = .ok (.aload_n 1, 1) := by decide +kernel
theorem dX10_isWord_34 : decode cX10_isWord 34 = .ok (.invokevirtual 141, 3) := by decide +kernel
theorem dX10_isWord_37 : decode cX10_isWord 37 = .ok (.if_icmp .ge 37, 3) := by decide +kernel
theorem dX10_isWord_40 : decode cX10_isWord 40 = .ok (.iload_n 2, 1) := by decide +kernel
theorem dX10_isWord_41 : decode cX10_isWord 41 = .ok (.ifCond .eq 33, 3) := by decide +kernel
theorem dX10_isWord_44 : decode cX10_isWord 44 = .ok (.aload_n 0, 1) := by decide +kernel
theorem dX10_isWord_45 : decode cX10_isWord 45 = .ok (.aload_n 0, 1) := by decide +kernel
theorem dX10_isWord_46 : decode cX10_isWord 46 = .ok (.getfield 123, 3) := by decide +kernel
theorem dX10_isWord_49 : decode cX10_isWord 49 = .ok (.iload_n 3, 1) := by decide +kernel
theorem dX10_isWord_50 : decode cX10_isWord 50 = .ok (.iadd, 1) := by decide +kernel
theorem dX10_isWord_51 : decode cX10_isWord 51 = .ok (.invokevirtual 133, 3) := by decide +kernel
theorem dX10_isWord_54 : decode cX10_isWord 54 = .ok (.aload_n 1, 1) := by decide +kernel
theorem dX10_isWord_55 : decode cX10_isWord 55 = .ok (.iload_n 3, 1) := by decide +kernel
theorem dX10_isWord_56 : decode cX10_isWord 56 = .ok (.invokevirtual 147, 3) := by decide +kernel
theorem dX10_isWord_59 : decode cX10_isWord 59 = .ok (.if_icmp .ne 7, 3) := by decide +kernel
theorem dX10_isWord_62 : decode cX10_isWord 62 = .ok (.iconst 1, 1) := by decide +kernel
theorem dX10_isWord_63 : decode cX10_isWord 63 = .ok (.goto 4, 3) := by decide +kernel
theorem dX10_isWord_66 : decode cX10_isWord 66 = .ok (.iconst 0, 1) := by decide +kernel
theorem dX10_isWord_67 : decode cX10_isWord 67 = .ok (.istore_n 2, 1) := by decide +kernel
theorem dX10_isWord_68 : decode cX10_isWord 68 = .ok (.iinc 3 1, 3) := by decide +kernel
theorem dX10_isWord_71 : decode cX10_isWord 71 = .ok (.goto (-39), 3) := by decide +kernel
theorem dX10_isWord_74 : decode cX10_isWord 74 = .ok (.iload_n 2, 1) := by decide +kernel
theorem dX10_isWord_75 : decode cX10_isWord 75 = .ok (.ireturn, 1) := by decide +kernel
def mwX10_isWordm : List Cond := .code yX10_isWord cX10_isWord 4 (some .boolean) :: (([.fieldLink RX10 120 "PatternGateModel" "token" "I", .methodLink RX10 141 yJ0_length_8abf5, .instanceMethod yJ0_length_8abf5, .selects RJ0 yJ0_length_8abf5 yJ0_length_8abf5, .initialized RJ0, .fieldLink RX10 123 "PatternGateModel" "begin" "I", .methodLink RX10 133 yX10_byteAt, .instanceMethod yX10_byteAt, .selects RX10 yX10_byteAt yX10_byteAt, .initialized RX10, .methodLink RX10 147 yJ0_charAt_5068e, .instanceMethod yJ0_charAt_5068e, .selects RJ0 yJ0_charAt_5068e yJ0_charAt_5068e, .fieldLink RX10 130 "PatternGateModel" "end" "I"] : List Cond) ++ (wsX100 ++ (mwJ0_length_8abf5j ++ (mwX10_byteAtm ++ (mwJ0_charAt_5068ej)))))
theorem fin_X10_isWordm_X10 : ∀ w ∈ wsX100, w ∈ mwX10_isWordm := fun w h => List.mem_cons_of_mem _ (List.mem_append_right _ (List.mem_append_left _ h))
set_option maxRecDepth 100000 in
theorem gd_mwJ0_length_8abf5j : mwJ0_length_8abf5j.all goodWord = true := by decide +kernel
set_option maxRecDepth 100000 in
theorem gd_mwX10_byteAtm : mwX10_byteAtm.all goodWord = true := by decide +kernel
set_option maxRecDepth 100000 in
theorem gd_mwJ0_charAt_5068ej : mwJ0_charAt_5068ej.all goodWord = true := by decide +kernel
set_option maxRecDepth 20000 in
theorem mg_X10_isWordm_J0_length_8abf5_141 : GoodIn mwX10_isWordm (wsV RX10 141 RJ0 yJ0_length_8abf5 mwJ0_length_8abf5j) := gi_app (A := [.methodLink RX10 141 yJ0_length_8abf5, .instanceMethod yJ0_length_8abf5, .selects RJ0 yJ0_length_8abf5 yJ0_length_8abf5, .initialized RJ0]) (goodIn_r _ [2, 3, 4, 5] (by decide +kernel) (by decide +kernel)) (gi_sub gd_mwJ0_length_8abf5j (fun w h => List.mem_cons_of_mem _ (List.mem_append_right _ (List.mem_append_right _ (List.mem_append_left _ h)))))
set_option maxRecDepth 20000 in
theorem mg_X10_isWordm_X10_byteAt_133 : GoodIn mwX10_isWordm (wsV RX10 133 RX10 yX10_byteAt mwX10_byteAtm) := gi_app (A := [.methodLink RX10 133 yX10_byteAt, .instanceMethod yX10_byteAt, .selects RX10 yX10_byteAt yX10_byteAt, .initialized RX10]) (goodIn_r _ [7, 8, 9, 10] (by decide +kernel) (by decide +kernel)) (gi_sub gd_mwX10_byteAtm (fun w h => List.mem_cons_of_mem _ (List.mem_append_right _ (List.mem_append_right _ (List.mem_append_right _ (List.mem_append_left _ h))))))
set_option maxRecDepth 20000 in
theorem mg_X10_isWordm_J0_charAt_5068e_147 : GoodIn mwX10_isWordm (wsV RX10 147 RJ0 yJ0_charAt_5068e mwJ0_charAt_5068ej) := gi_app (A := [.methodLink RX10 147 yJ0_charAt_5068e, .instanceMethod yJ0_charAt_5068e, .selects RJ0 yJ0_charAt_5068e yJ0_charAt_5068e, .initialized RJ0]) (goodIn_r _ [11, 12, 13, 5] (by decide +kernel) (by decide +kernel)) (gi_sub gd_mwJ0_charAt_5068ej (fun w h => List.mem_cons_of_mem _ (List.mem_append_right _ (List.mem_append_right _ (List.mem_append_right _ (List.mem_append_right _ (h)))))))
set_option maxHeartbeats 4000000 in
set_option maxRecDepth 100000 in
theorem m_isWord (l : Launch) (dC : Nat → ClassId) (dI : Nat → Nat → Nat) (ad : Nat → Nat) (kc : Nat → ClassId) (x0 x1 x2 x3 x4 x5 x6 x7 x8 x9 x10 x11 x12 x13 x14 x15 x16 x17 x18 x19 x20 x21 : Int32) (f0 f1 f2 f3 f4 f5 f6 f7 f8 f9 f10 f11 f12 f13 f14 f15 f16 f17 f18 f19 f20 f21 : Nat → Int32) (fL : Nat → Nat → Int64) (fN : Nat → Nat → Int32) (fP : Nat → Nat → Nat) (fM : Nat → Nat → Int32) (fO : Nat → Nat → Int32) (sz : Nat) (qs : Nat) (ns : Nat) (q0 : ns < 100) (q1 : 0 ≤ x6.toInt ∧ x6.toInt ≤ 900) (q2 : x4.toInt ≤ 900) : Met l yX10_isWord mwX10_isWordm ({ frames := 4, cells := 0, slots := 0, locals := 240 }) (va_Pc [.ref (ad 0), .ref qs] (fun U => U.heap.size = sz ∧ va_P (dC, dI) vwCl (mW ad kc x0 x1 x2 x3 x4 x5 x6 x7 x8 x9 x10 x11 x12 x13 x14 x15 x16 x17 x18 x19 x20 x21 f0 f1 f2 f3 f4 f5 f6 f7 f8 f9 f10 f11 f12 f13 f14 f15 f16 f17 f18 f19 f20 f21 fL fN fP fM fO) U.heap ∧ va_K (dC, dI) vwCl (mT kc) U ∧ va_D (fun _ => True) (mW ad kc x0 x1 x2 x3 x4 x5 x6 x7 x8 x9 x10 x11 x12 x13 x14 x15 x16 x17 x18 x19 x20 x21 f0 f1 f2 f3 f4 f5 f6 f7 f8 f9 f10 f11 f12 f13 f14 f15 f16 f17 f18 f19 f20 f21 fL fN fP fM fO) ∧ sX (va_A (mW ad kc x0 x1 x2 x3 x4 x5 x6 x7 x8 x9 x10 x11 x12 x13 x14 x15 x16 x17 x18 x19 x20 x21 f0 f1 f2 f3 f4 f5 f6 f7 f8 f9 f10 f11 f12 f13 f14 f15 f16 f17 f18 f19 f20 f21 fL fN fP fM fO) sz) U U.heap qs ns ∧ sC (va_A (mW ad kc x0 x1 x2 x3 x4 x5 x6 x7 x8 x9 x10 x11 x12 x13 x14 x15 x16 x17 x18 x19 x20 x21 f0 f1 f2 f3 f4 f5 f6 f7 f8 f9 f10 f11 f12 f13 f14 f15 f16 f17 f18 f19 f20 f21 fL fN fP fM fO) sz) U U.heap)) (va_Qi (fun (o9 u9 : Int32) => o9 = u9) (fun (o9 : Int32) t => (o9.toInt = 0 ∨ o9.toInt = 1) ∧ va_P (dC, dI) vwCl (mW ad kc x0 x1 x2 x3 x4 x5 x6 x7 x8 x9 x10 x11 x12 x13 x14 x15 x16 x17 x18 x19 x20 x21 f0 f1 f2 f3 f4 f5 f6 f7 f8 f9 f10 f11 f12 f13 f14 f15 f16 f17 f18 f19 f20 f21 fL fN fP fM fO) t.heap ∧ va_K (dC, dI) vwCl (mT kc) t ∧ va_D (va_A (mW ad kc x0 x1 x2 x3 x4 x5 x6 x7 x8 x9 x10 x11 x12 x13 x14 x15 x16 x17 x18 x19 x20 x21 f0 f1 f2 f3 f4 f5 f6 f7 f8 f9 f10 f11 f12 f13 f14 f15 f16 f17 f18 f19 f20 f21 fL fN fP fM fO) sz) (mW ad kc x0 x1 x2 x3 x4 x5 x6 x7 x8 x9 x10 x11 x12 x13 x14 x15 x16 x17 x18 x19 x20 x21 f0 f1 f2 f3 f4 f5 f6 f7 f8 f9 f10 f11 f12 f13 f14 f15 f16 f17 f18 f19 f20 f21 fL fN fP fM fO)) (va_A (mW ad kc x0 x1 x2 x3 x4 x5 x6 x7 x8 x9 x10 x11 x12 x13 x14 x15 x16 x17 x18 x19 x20 x21 f0 f1 f2 f3 f4 f5 f6 f7 f8 f9 f10 f11 f12 f13 f14 f15 f16 f17 f18 f19 f20 f21 fL fN fP fM fO) sz)) 0 0 (va_A (mW ad kc x0 x1 x2 x3 x4 x5 x6 x7 x8 x9 x10 x11 x12 x13 x14 x15 x16 x17 x18 x19 x20 x21 f0 f1 f2 f3 f4 f5 f6 f7 f8 f9 f10 f11 f12 f13 f14 f15 f16 f17 f18 f19 f20 f21 fL fN fP fM fO) sz) := by
  refine Met.ofW (cc := cX10_isWord) (maxL := 4) (ret := (some .boolean)) (by decide +kernel) rfl ?_
  intro p e s m args below meth c s₁ B hml hv
  obtain ⟨rfl, hsz, hP, hK, hD0, hX9, hC9⟩ := hv
  have hx := B.exec
  have hb := B.bytes
  have hr := B.returns
  have hts := atoms_spec (ws := mwX10_isWordm) B.pre
  have hown : s.vm.findClass RX10 = some m.cls := findClass_of_methodNamed B.named
  have hlocks := B.notSynchronized
  subst hsz
  have hD := hD0.self (sz := s.heap.size)
  generalize hAe : va_A (mW ad kc x0 x1 x2 x3 x4 x5 x6 x7 x8 x9 x10 x11 x12 x13 x14 x15 x16 x17 x18 x19 x20 x21 f0 f1 f2 f3 f4 f5 f6 f7 f8 f9 f10 f11 f12 f13 f14 f15 f16 f17 f18 f19 f20 f21 fL fN fP fM fO) s.heap.size = A at hD hX9 hC9 ⊢
  have hA : ∀ q : Nat, s.heap.size ≤ q → A q := fun q h => by rw [← hAe]; exact Or.inr h
  have hP : va_P (dC, dI) vwCl (mW ad kc x0 x1 x2 x3 x4 x5 x6 x7 x8 x9 x10 x11 x12 x13 x14 x15 x16 x17 x18 x19 x20 x21 f0 f1 f2 f3 f4 f5 f6 f7 f8 f9 f10 f11 f12 f13 f14 f15 f16 f17 f18 f19 f20 f21 fL fN fP fM fO) s.heap := hP
  have hD : va_D A (mW ad kc x0 x1 x2 x3 x4 x5 x6 x7 x8 x9 x10 x11 x12 x13 x14 x15 x16 x17 x18 x19 x20 x21 f0 f1 f2 f3 f4 f5 f6 f7 f8 f9 f10 f11 f12 f13 f14 f15 f16 f17 f18 f19 f20 f21 fL fN fP fM fO) := hD
  have hK : va_K (dC, dI) vwCl (mT kc) s := hK
  generalize hH : s.heap = H at hP ⊢
  have hS : va_S A s.heap H [] := by rw [← hH]; exact va_S.rf
  have hl := lv_entry ([.ref (ad 0), .ref qs]) (n := 4) (Nat.le_of_ble_eq_true rfl)
  rw [lg_entry_eq]
  generalize (lg_sl ([.ref (ad 0), .ref qs]) ++ List.replicate (4 - (lg_sl ([.ref (ad 0), .ref qs])).length) Slot.unset).toArray = ls at hl ⊢
  have hl : lv_has ls 4 [(0, .ref (ad 0)), (1, .ref qs)] := hl
  refine lv_aload_n hx hb dX10_isWord_0 rfl (lv_at hl 0 rfl) ?_
  refine va_get (D := (dC, dI)) (ci := 10) (v := .int x5) (C := RX10) (T := TX10) (N := 48) hx hb hts fin_X10_isWordm_X10 hown hK hP 0 rfl rfl 8 (by decide) (hts (.fieldLink RX10 120 "PatternGateModel" "token" "I") (List.mem_of_getElem? (i := 1) (by decide +kernel))) (fun _ h9 => h9) rfl dX10_isWord_1 ?_
  refine lv_iconst (v := 2) hx hb dX10_isWord_4 (by decide) ?_
  refine lv_icmp_ne (tgt := 28) hx hb dX10_isWord_5 (by decide) (fun k_1 => ?_) (fun k_1 => ?_)
  · have tk_1 := c_ne (a := x5.toInt) (b := 2) rfl (by decide) k_1
    refine lv_iconst (v := 0) hx hb dX10_isWord_28 (by decide) ?_
    refine lv_istore_n (lv' := [(2, .int 0), (0, .ref (ad 0)), (1, .ref qs)]) hx hb dX10_isWord_29 rfl hl (by decide) rfl (fun ls hl => ?_)
    refine lv_iconst (v := 0) hx hb dX10_isWord_30 (by decide) ?_
    refine lv_istore_n (lv' := [(3, .int 0), (2, .int 0), (0, .ref (ad 0)), (1, .ref qs)]) hx hb dX10_isWord_31 rfl hl (by decide) rfl (fun ls hl => ?_)
    have loop32 : ∀ (lm32 : Nat) (is kk : Int32), (is.toInt = 0 ∨ is.toInt = 1) → (0 ≤ kk.toInt ∧ kk.toInt ≤ ns) → (((ns : Int) - kk.toInt).toNat) < lm32 → ∀ (H : Heap) (locs : List Loc) (ls : Array Slot), va_P (dC, dI) vwCl (mW ad kc x0 x1 x2 x3 x4 x5 x6 x7 x8 x9 x10 x11 x12 x13 x14 x15 x16 x17 x18 x19 x20 x21 f0 f1 f2 f3 f4 f5 f6 f7 f8 f9 f10 f11 f12 f13 f14 f15 f16 f17 f18 f19 f20 f21 fL fN fP fM fO) H → va_D A (mW ad kc x0 x1 x2 x3 x4 x5 x6 x7 x8 x9 x10 x11 x12 x13 x14 x15 x16 x17 x18 x19 x20 x21 f0 f1 f2 f3 f4 f5 f6 f7 f8 f9 f10 f11 f12 f13 f14 f15 f16 f17 f18 f19 f20 f21 fL fN fP fM fO) → va_S A s.heap H locs → lv_has ls 4 [(3, .int kk), (2, .int is), (0, .ref (ad 0)), (1, .ref qs)] → W p l e (headSpec mwX10_isWordm ({ frames := 4, cells := 0, slots := 0, locals := 240 })).room s m ([.ref (ad 0), .ref qs]).toArray below meth c H locs 0 0 (MQ below (va_Qi (fun (o9 u9 : Int32) => o9 = u9) (fun (o9 : Int32) t => (o9.toInt = 0 ∨ o9.toInt = 1) ∧ va_P (dC, dI) vwCl (mW ad kc x0 x1 x2 x3 x4 x5 x6 x7 x8 x9 x10 x11 x12 x13 x14 x15 x16 x17 x18 x19 x20 x21 f0 f1 f2 f3 f4 f5 f6 f7 f8 f9 f10 f11 f12 f13 f14 f15 f16 f17 f18 f19 f20 f21 fL fN fP fM fO) t.heap ∧ va_K (dC, dI) vwCl (mT kc) t ∧ va_D A (mW ad kc x0 x1 x2 x3 x4 x5 x6 x7 x8 x9 x10 x11 x12 x13 x14 x15 x16 x17 x18 x19 x20 x21 f0 f1 f2 f3 f4 f5 f6 f7 f8 f9 f10 f11 f12 f13 f14 f15 f16 f17 f18 f19 f20 f21 fL fN fP fM fO)) A) ([.ref (ad 0), .ref qs]).toArray s 0 0 A) (F0 m 32 ls []) := by
      intro lm32
      induction lm32 with
      | zero => intro is kk v32_0 v32_1 hm32; exact absurd hm32 (Nat.not_lt_zero _)
      | succ lm32 ih32 =>
        intro is kk v32_0 v32_1 hm32 H locs ls hP hD hS hl
        have rg_is := i_rng is
        have rg_kk := i_rng kk
        refine lv_iload_n hx hb dX10_isWord_32 rfl (lv_at hl 0 rfl) ?_
        refine lv_aload_n hx hb dX10_isWord_33 rfl (lv_at hl 3 rfl) ?_
        refine vp_callSi (W.runV (As := []) (rest := [.int kk]) ⟨hx, hb, hml, hown, hts⟩ (j_length l qs ns (by omega)) (cwV 0 hts mg_X10_isWordm_J0_length_8abf5_141 rfl rfl rfl (by decide +kernel) ⟨Nat.le_of_ble_eq_true rfl, Nat.le_of_ble_eq_true rfl⟩) ⟨fun a U g mk q => ⟨q.1, sP.call q.2⟩, sX.recv hX9 hS, fun U hU hW => ⟨rfl, sP.of hX9 hC9 hS hW.alike hU⟩⟩ rfl rfl hl.1 rfl (lv_room (Nat.le_of_ble_eq_true rfl)) dX10_isWord_34 ⟨Nat.le_of_ble_eq_true rfl, Nat.le_of_ble_eq_true rfl⟩) (fun r_2 hw => ?_)
        have hlr_2 : r_2.toInt = (ns : Int) := hw
        refine lv_icmp_ge (tgt := 74) hx hb dX10_isWord_37 (by decide) (fun k_3 => ?_) (fun k_3 => ?_)
        · have tk_3 := c_ge (a := kk.toInt) (b := r_2.toInt) rfl rfl k_3
          refine lv_iload_n hx hb dX10_isWord_74 rfl (lv_at hl 1 rfl) ?_
          exact W.zret hx hb hr (z_nar (by first | assumption | decide | exact z_of (by omega))) (fun t ht hW => ⟨⟨_, _, rfl, rfl, (by first | omega | assumption | rfl | decide), by rw [ht]; exact hP, va_K.moved hW.alike hK, hD⟩, hS.F ht⟩) hS.2.2 dX10_isWord_75
        · have tk_3 := c_nge (a := kk.toInt) (b := r_2.toInt) rfl rfl k_3
          refine lv_iload_n hx hb dX10_isWord_40 rfl (lv_at hl 1 rfl) ?_
          refine lv_if_eq (tgt := 74) hx hb dX10_isWord_41 (by decide) (fun k_4 => ?_) (fun k_4 => ?_)
          · have tk_4 := c_eq (a := is.toInt) (b := 0) rfl (by decide) k_4
            refine lv_iload_n hx hb dX10_isWord_74 rfl (lv_at hl 1 rfl) ?_
            exact W.zret hx hb hr (z_nar (by first | assumption | decide | exact z_of (by omega))) (fun t ht hW => ⟨⟨_, _, rfl, rfl, (by first | omega | assumption | rfl | decide), by rw [ht]; exact hP, va_K.moved hW.alike hK, hD⟩, hS.F ht⟩) hS.2.2 dX10_isWord_75
          · have tk_4 := c_ne (a := is.toInt) (b := 0) rfl (by decide) k_4
            refine lv_aload_n hx hb dX10_isWord_44 rfl (lv_at hl 2 rfl) ?_
            refine lv_aload_n hx hb dX10_isWord_45 rfl (lv_at hl 2 rfl) ?_
            refine va_get (D := (dC, dI)) (ci := 10) (v := .int x6) (C := RX10) (T := TX10) (N := 48) hx hb hts fin_X10_isWordm_X10 hown hK hP 0 rfl rfl 9 (by decide) (hts (.fieldLink RX10 123 "PatternGateModel" "begin" "I") (List.mem_of_getElem? (i := 6) (by decide +kernel))) (fun _ h9 => h9) rfl dX10_isWord_46 ?_
            refine lv_iload_n hx hb dX10_isWord_49 rfl (lv_at hl 0 rfl) ?_
            refine lv_iadd hx hb dX10_isWord_50 ?_
            refine lv_topi (fun y_5 ey_5 => ?_)
            first | have ty_5 := i_add (a := x6.toInt) (b := kk.toInt) rfl rfl ey_5 (by omega) (by omega) | skip
            refine vp_callSi (W.runV (As := [.int y_5]) (rest := []) ⟨hx, hb, hml, hown, hts⟩ (m_byteAt l dC dI ad kc x0 x1 x2 x3 x4 x5 x6 x7 x8 x9 x10 x11 x12 x13 x14 x15 x16 x17 x18 x19 x20 x21 f0 f1 f2 f3 f4 f5 f6 f7 f8 f9 f10 f11 f12 f13 f14 f15 f16 f17 f18 f19 f20 f21 fL fN fP fM fO y_5 (by first | omega | assumption | decide | (have l0 := Int32.toInt_zero; omega)) (by first | omega | assumption | decide | (have l0 := Int32.toInt_zero; omega))) (cwV 1 hts mg_X10_isWordm_X10_byteAt_133 rfl rfl rfl (by decide +kernel) ⟨Nat.le_of_ble_eq_true rfl, Nat.le_of_ble_eq_true rfl⟩) ⟨fun a U g mk q => by obtain ⟨q0, qP, qK⟩ := q; exact ⟨q0, qP, va_K.moved (u := U) (U := U.calling g mk a) (Vm.Alike.refl U.vm) qK⟩, va_recv hK hP (ci := 10) (q0 := 0) rfl rfl, fun U hU hW => ⟨rfl, by rw [hU]; exact hP, va_K.moved hW.alike hK⟩⟩ rfl rfl hl.1 rfl (lv_room (Nat.le_of_ble_eq_true rfl)) dX10_isWord_51 ⟨Nat.le_of_ble_eq_true rfl, Nat.le_of_ble_eq_true rfl⟩) (fun r_6 hr_6 => ?_)
            have rg_r_6 := i_rng r_6
            refine lv_aload_n hx hb dX10_isWord_54 rfl (lv_at hl 3 rfl) ?_
            refine lv_iload_n hx hb dX10_isWord_55 rfl (lv_at hl 0 rfl) ?_
            refine vp_callSi (W.runV (As := [.int kk]) (rest := [.int r_6]) ⟨hx, hb, hml, hown, hts⟩ (j_charAt l qs ns kk (by omega) (by omega) (by omega)) (cwV 1 hts mg_X10_isWordm_J0_charAt_5068e_147 rfl rfl rfl (by decide +kernel) ⟨Nat.le_of_ble_eq_true rfl, Nat.le_of_ble_eq_true rfl⟩) ⟨fun a U g mk q => ⟨q.1, sP.call q.2⟩, sX.recv hX9 hS, fun U hU hW => ⟨rfl, sP.of hX9 hC9 hS hW.alike hU⟩⟩ rfl rfl hl.1 rfl (lv_room (Nat.le_of_ble_eq_true rfl)) dX10_isWord_56 ⟨Nat.le_of_ble_eq_true rfl, Nat.le_of_ble_eq_true rfl⟩) (fun r_7 hw => ?_)
            have rg_r_7 := i_rng r_7
            refine lv_icmp_ne (tgt := 66) hx hb dX10_isWord_59 (by decide) (fun k_8 => ?_) (fun k_8 => ?_)
            · have tk_8 := c_ne (a := r_6.toInt) (b := r_7.toInt) rfl rfl k_8
              refine lv_iconst (v := 0) hx hb dX10_isWord_66 (by decide) ?_
              refine lv_istore_n (lv' := [(2, .int 0), (3, .int kk), (0, .ref (ad 0)), (1, .ref qs)]) hx hb dX10_isWord_67 rfl hl (by decide) rfl (fun ls hl => ?_)
              obtain ⟨y_9, ey_9⟩ : ∃ y : Int32, y = kk + 1 := ⟨_, rfl⟩
              first | have ty_9 := i_add (a := kk.toInt) (b := 1) rfl (by decide) ey_9 (by omega) (by omega) | skip
              refine lv_iinc (v := y_9) (lv' := [(3, .int y_9), (2, .int 0), (0, .ref (ad 0)), (1, .ref qs)]) hx hb dX10_isWord_68 hl (k := 1) rfl (by rw [ey_9]; rfl) (by decide) rfl (fun ls hl => ?_)
              refine lv_goto (tgt := 32) hx hb dX10_isWord_71 (by decide) ?_
              have lit_9 : (0 : Int32).toInt = 0 := by decide
              exact ih32 0 y_9 (by first | omega | assumption | decide) (by first | omega | assumption | decide) (by omega) _ _ ls hP hD hS (lv_sub hl [0, 1, 2, 3] rfl)
            · have tk_8 := c_eq (a := r_6.toInt) (b := r_7.toInt) rfl rfl k_8
              refine lv_iconst (v := 1) hx hb dX10_isWord_62 (by decide) ?_
              refine lv_goto (tgt := 67) hx hb dX10_isWord_63 (by decide) ?_
              refine lv_istore_n (lv' := [(2, .int 1), (3, .int kk), (0, .ref (ad 0)), (1, .ref qs)]) hx hb dX10_isWord_67 rfl hl (by decide) rfl (fun ls hl => ?_)
              obtain ⟨y_11, ey_11⟩ : ∃ y : Int32, y = kk + 1 := ⟨_, rfl⟩
              first | have ty_11 := i_add (a := kk.toInt) (b := 1) rfl (by decide) ey_11 (by omega) (by omega) | skip
              refine lv_iinc (v := y_11) (lv' := [(3, .int y_11), (2, .int 1), (0, .ref (ad 0)), (1, .ref qs)]) hx hb dX10_isWord_68 hl (k := 1) rfl (by rw [ey_11]; rfl) (by decide) rfl (fun ls hl => ?_)
              refine lv_goto (tgt := 32) hx hb dX10_isWord_71 (by decide) ?_
              have lit_11 : (1 : Int32).toInt = 1 := by decide
              exact ih32 1 y_11 (by first | omega | assumption | decide) (by first | omega | assumption | decide) (by omega) _ _ ls hP hD hS (lv_sub hl [0, 1, 2, 3] rfl)
    have lit_12 : (0 : Int32).toInt = 0 := by decide
    have lit_13 : (0 : Int32).toInt = 0 := by decide
    exact loop32 _ 0 0 (by first | omega | assumption | decide) (by first | omega | assumption | decide) (Nat.lt_succ_self _) _ _ ls hP hD hS (lv_sub hl [0, 1, 2, 3] rfl)
  · have tk_1 := c_eq (a := x5.toInt) (b := 2) rfl (by decide) k_1
    refine lv_aload_n hx hb dX10_isWord_8 rfl (lv_at hl 0 rfl) ?_
    refine va_get (D := (dC, dI)) (ci := 10) (v := .int x7) (C := RX10) (T := TX10) (N := 48) hx hb hts fin_X10_isWordm_X10 hown hK hP 0 rfl rfl 10 (by decide) (hts (.fieldLink RX10 130 "PatternGateModel" "end" "I") (List.mem_of_getElem? (i := 14) (by decide +kernel))) (fun _ h9 => h9) rfl dX10_isWord_9 ?_
    refine lv_aload_n hx hb dX10_isWord_12 rfl (lv_at hl 0 rfl) ?_
    refine va_get (D := (dC, dI)) (ci := 10) (v := .int x6) (C := RX10) (T := TX10) (N := 48) hx hb hts fin_X10_isWordm_X10 hown hK hP 0 rfl rfl 9 (by decide) (hts (.fieldLink RX10 123 "PatternGateModel" "begin" "I") (List.mem_of_getElem? (i := 6) (by decide +kernel))) (fun _ h9 => h9) rfl dX10_isWord_13 ?_
    refine lv_isub hx hb dX10_isWord_16 ?_
    refine lv_topi (fun y_15 ey_15 => ?_)
    first | have ty_15 := i_sub (a := x7.toInt) (b := x6.toInt) rfl rfl ey_15 (by omega) (by omega) | skip
    refine lv_aload_n hx hb dX10_isWord_17 rfl (lv_at hl 1 rfl) ?_
    refine vp_callSi (W.runV (As := []) (rest := [.int y_15]) ⟨hx, hb, hml, hown, hts⟩ (j_length l qs ns (by omega)) (cwV 0 hts mg_X10_isWordm_J0_length_8abf5_141 rfl rfl rfl (by decide +kernel) ⟨Nat.le_of_ble_eq_true rfl, Nat.le_of_ble_eq_true rfl⟩) ⟨fun a U g mk q => ⟨q.1, sP.call q.2⟩, sX.recv hX9 hS, fun U hU hW => ⟨rfl, sP.of hX9 hC9 hS hW.alike hU⟩⟩ rfl rfl hl.1 rfl (lv_room (Nat.le_of_ble_eq_true rfl)) dX10_isWord_18 ⟨Nat.le_of_ble_eq_true rfl, Nat.le_of_ble_eq_true rfl⟩) (fun r_16 hw => ?_)
    have hlr_16 : r_16.toInt = (ns : Int) := hw
    refine lv_icmp_ne (tgt := 28) hx hb dX10_isWord_21 (by decide) (fun k_17 => ?_) (fun k_17 => ?_)
    · have tk_17 := c_ne (a := y_15.toInt) (b := r_16.toInt) rfl rfl k_17
      refine lv_iconst (v := 0) hx hb dX10_isWord_28 (by decide) ?_
      refine lv_istore_n (lv' := [(2, .int 0), (0, .ref (ad 0)), (1, .ref qs)]) hx hb dX10_isWord_29 rfl hl (by decide) rfl (fun ls hl => ?_)
      refine lv_iconst (v := 0) hx hb dX10_isWord_30 (by decide) ?_
      refine lv_istore_n (lv' := [(3, .int 0), (2, .int 0), (0, .ref (ad 0)), (1, .ref qs)]) hx hb dX10_isWord_31 rfl hl (by decide) rfl (fun ls hl => ?_)
      have loop32 : ∀ (lm32 : Nat) (is kk : Int32), (is.toInt = 0 ∨ is.toInt = 1) → (0 ≤ kk.toInt ∧ kk.toInt ≤ ns) → (((ns : Int) - kk.toInt).toNat) < lm32 → ∀ (H : Heap) (locs : List Loc) (ls : Array Slot), va_P (dC, dI) vwCl (mW ad kc x0 x1 x2 x3 x4 x5 x6 x7 x8 x9 x10 x11 x12 x13 x14 x15 x16 x17 x18 x19 x20 x21 f0 f1 f2 f3 f4 f5 f6 f7 f8 f9 f10 f11 f12 f13 f14 f15 f16 f17 f18 f19 f20 f21 fL fN fP fM fO) H → va_D A (mW ad kc x0 x1 x2 x3 x4 x5 x6 x7 x8 x9 x10 x11 x12 x13 x14 x15 x16 x17 x18 x19 x20 x21 f0 f1 f2 f3 f4 f5 f6 f7 f8 f9 f10 f11 f12 f13 f14 f15 f16 f17 f18 f19 f20 f21 fL fN fP fM fO) → va_S A s.heap H locs → lv_has ls 4 [(3, .int kk), (2, .int is), (0, .ref (ad 0)), (1, .ref qs)] → W p l e (headSpec mwX10_isWordm ({ frames := 4, cells := 0, slots := 0, locals := 240 })).room s m ([.ref (ad 0), .ref qs]).toArray below meth c H locs 0 0 (MQ below (va_Qi (fun (o9 u9 : Int32) => o9 = u9) (fun (o9 : Int32) t => (o9.toInt = 0 ∨ o9.toInt = 1) ∧ va_P (dC, dI) vwCl (mW ad kc x0 x1 x2 x3 x4 x5 x6 x7 x8 x9 x10 x11 x12 x13 x14 x15 x16 x17 x18 x19 x20 x21 f0 f1 f2 f3 f4 f5 f6 f7 f8 f9 f10 f11 f12 f13 f14 f15 f16 f17 f18 f19 f20 f21 fL fN fP fM fO) t.heap ∧ va_K (dC, dI) vwCl (mT kc) t ∧ va_D A (mW ad kc x0 x1 x2 x3 x4 x5 x6 x7 x8 x9 x10 x11 x12 x13 x14 x15 x16 x17 x18 x19 x20 x21 f0 f1 f2 f3 f4 f5 f6 f7 f8 f9 f10 f11 f12 f13 f14 f15 f16 f17 f18 f19 f20 f21 fL fN fP fM fO)) A) ([.ref (ad 0), .ref qs]).toArray s 0 0 A) (F0 m 32 ls []) := by
        intro lm32
        induction lm32 with
        | zero => intro is kk v32_0 v32_1 hm32; exact absurd hm32 (Nat.not_lt_zero _)
        | succ lm32 ih32 =>
          intro is kk v32_0 v32_1 hm32 H locs ls hP hD hS hl
          have rg_is := i_rng is
          have rg_kk := i_rng kk
          refine lv_iload_n hx hb dX10_isWord_32 rfl (lv_at hl 0 rfl) ?_
          refine lv_aload_n hx hb dX10_isWord_33 rfl (lv_at hl 3 rfl) ?_
          refine vp_callSi (W.runV (As := []) (rest := [.int kk]) ⟨hx, hb, hml, hown, hts⟩ (j_length l qs ns (by omega)) (cwV 0 hts mg_X10_isWordm_J0_length_8abf5_141 rfl rfl rfl (by decide +kernel) ⟨Nat.le_of_ble_eq_true rfl, Nat.le_of_ble_eq_true rfl⟩) ⟨fun a U g mk q => ⟨q.1, sP.call q.2⟩, sX.recv hX9 hS, fun U hU hW => ⟨rfl, sP.of hX9 hC9 hS hW.alike hU⟩⟩ rfl rfl hl.1 rfl (lv_room (Nat.le_of_ble_eq_true rfl)) dX10_isWord_34 ⟨Nat.le_of_ble_eq_true rfl, Nat.le_of_ble_eq_true rfl⟩) (fun r_18 hw => ?_)
          have hlr_18 : r_18.toInt = (ns : Int) := hw
          refine lv_icmp_ge (tgt := 74) hx hb dX10_isWord_37 (by decide) (fun k_19 => ?_) (fun k_19 => ?_)
          · have tk_19 := c_ge (a := kk.toInt) (b := r_18.toInt) rfl rfl k_19
            refine lv_iload_n hx hb dX10_isWord_74 rfl (lv_at hl 1 rfl) ?_
            exact W.zret hx hb hr (z_nar (by first | assumption | decide | exact z_of (by omega))) (fun t ht hW => ⟨⟨_, _, rfl, rfl, (by first | omega | assumption | rfl | decide), by rw [ht]; exact hP, va_K.moved hW.alike hK, hD⟩, hS.F ht⟩) hS.2.2 dX10_isWord_75
          · have tk_19 := c_nge (a := kk.toInt) (b := r_18.toInt) rfl rfl k_19
            refine lv_iload_n hx hb dX10_isWord_40 rfl (lv_at hl 1 rfl) ?_
            refine lv_if_eq (tgt := 74) hx hb dX10_isWord_41 (by decide) (fun k_20 => ?_) (fun k_20 => ?_)
            · have tk_20 := c_eq (a := is.toInt) (b := 0) rfl (by decide) k_20
              refine lv_iload_n hx hb dX10_isWord_74 rfl (lv_at hl 1 rfl) ?_
              exact W.zret hx hb hr (z_nar (by first | assumption | decide | exact z_of (by omega))) (fun t ht hW => ⟨⟨_, _, rfl, rfl, (by first | omega | assumption | rfl | decide), by rw [ht]; exact hP, va_K.moved hW.alike hK, hD⟩, hS.F ht⟩) hS.2.2 dX10_isWord_75
            · have tk_20 := c_ne (a := is.toInt) (b := 0) rfl (by decide) k_20
              refine lv_aload_n hx hb dX10_isWord_44 rfl (lv_at hl 2 rfl) ?_
              refine lv_aload_n hx hb dX10_isWord_45 rfl (lv_at hl 2 rfl) ?_
              refine va_get (D := (dC, dI)) (ci := 10) (v := .int x6) (C := RX10) (T := TX10) (N := 48) hx hb hts fin_X10_isWordm_X10 hown hK hP 0 rfl rfl 9 (by decide) (hts (.fieldLink RX10 123 "PatternGateModel" "begin" "I") (List.mem_of_getElem? (i := 6) (by decide +kernel))) (fun _ h9 => h9) rfl dX10_isWord_46 ?_
              refine lv_iload_n hx hb dX10_isWord_49 rfl (lv_at hl 0 rfl) ?_
              refine lv_iadd hx hb dX10_isWord_50 ?_
              refine lv_topi (fun y_21 ey_21 => ?_)
              first | have ty_21 := i_add (a := x6.toInt) (b := kk.toInt) rfl rfl ey_21 (by omega) (by omega) | skip
              refine vp_callSi (W.runV (As := [.int y_21]) (rest := []) ⟨hx, hb, hml, hown, hts⟩ (m_byteAt l dC dI ad kc x0 x1 x2 x3 x4 x5 x6 x7 x8 x9 x10 x11 x12 x13 x14 x15 x16 x17 x18 x19 x20 x21 f0 f1 f2 f3 f4 f5 f6 f7 f8 f9 f10 f11 f12 f13 f14 f15 f16 f17 f18 f19 f20 f21 fL fN fP fM fO y_21 (by first | omega | assumption | decide | (have l0 := Int32.toInt_zero; omega)) (by first | omega | assumption | decide | (have l0 := Int32.toInt_zero; omega))) (cwV 1 hts mg_X10_isWordm_X10_byteAt_133 rfl rfl rfl (by decide +kernel) ⟨Nat.le_of_ble_eq_true rfl, Nat.le_of_ble_eq_true rfl⟩) ⟨fun a U g mk q => by obtain ⟨q0, qP, qK⟩ := q; exact ⟨q0, qP, va_K.moved (u := U) (U := U.calling g mk a) (Vm.Alike.refl U.vm) qK⟩, va_recv hK hP (ci := 10) (q0 := 0) rfl rfl, fun U hU hW => ⟨rfl, by rw [hU]; exact hP, va_K.moved hW.alike hK⟩⟩ rfl rfl hl.1 rfl (lv_room (Nat.le_of_ble_eq_true rfl)) dX10_isWord_51 ⟨Nat.le_of_ble_eq_true rfl, Nat.le_of_ble_eq_true rfl⟩) (fun r_22 hr_22 => ?_)
              have rg_r_22 := i_rng r_22
              refine lv_aload_n hx hb dX10_isWord_54 rfl (lv_at hl 3 rfl) ?_
              refine lv_iload_n hx hb dX10_isWord_55 rfl (lv_at hl 0 rfl) ?_
              refine vp_callSi (W.runV (As := [.int kk]) (rest := [.int r_22]) ⟨hx, hb, hml, hown, hts⟩ (j_charAt l qs ns kk (by omega) (by omega) (by omega)) (cwV 1 hts mg_X10_isWordm_J0_charAt_5068e_147 rfl rfl rfl (by decide +kernel) ⟨Nat.le_of_ble_eq_true rfl, Nat.le_of_ble_eq_true rfl⟩) ⟨fun a U g mk q => ⟨q.1, sP.call q.2⟩, sX.recv hX9 hS, fun U hU hW => ⟨rfl, sP.of hX9 hC9 hS hW.alike hU⟩⟩ rfl rfl hl.1 rfl (lv_room (Nat.le_of_ble_eq_true rfl)) dX10_isWord_56 ⟨Nat.le_of_ble_eq_true rfl, Nat.le_of_ble_eq_true rfl⟩) (fun r_23 hw => ?_)
              have rg_r_23 := i_rng r_23
              refine lv_icmp_ne (tgt := 66) hx hb dX10_isWord_59 (by decide) (fun k_24 => ?_) (fun k_24 => ?_)
              · have tk_24 := c_ne (a := r_22.toInt) (b := r_23.toInt) rfl rfl k_24
                refine lv_iconst (v := 0) hx hb dX10_isWord_66 (by decide) ?_
                refine lv_istore_n (lv' := [(2, .int 0), (3, .int kk), (0, .ref (ad 0)), (1, .ref qs)]) hx hb dX10_isWord_67 rfl hl (by decide) rfl (fun ls hl => ?_)
                obtain ⟨y_25, ey_25⟩ : ∃ y : Int32, y = kk + 1 := ⟨_, rfl⟩
                first | have ty_25 := i_add (a := kk.toInt) (b := 1) rfl (by decide) ey_25 (by omega) (by omega) | skip
                refine lv_iinc (v := y_25) (lv' := [(3, .int y_25), (2, .int 0), (0, .ref (ad 0)), (1, .ref qs)]) hx hb dX10_isWord_68 hl (k := 1) rfl (by rw [ey_25]; rfl) (by decide) rfl (fun ls hl => ?_)
                refine lv_goto (tgt := 32) hx hb dX10_isWord_71 (by decide) ?_
                have lit_25 : (0 : Int32).toInt = 0 := by decide
                exact ih32 0 y_25 (by first | omega | assumption | decide) (by first | omega | assumption | decide) (by omega) _ _ ls hP hD hS (lv_sub hl [0, 1, 2, 3] rfl)
              · have tk_24 := c_eq (a := r_22.toInt) (b := r_23.toInt) rfl rfl k_24
                refine lv_iconst (v := 1) hx hb dX10_isWord_62 (by decide) ?_
                refine lv_goto (tgt := 67) hx hb dX10_isWord_63 (by decide) ?_
                refine lv_istore_n (lv' := [(2, .int 1), (3, .int kk), (0, .ref (ad 0)), (1, .ref qs)]) hx hb dX10_isWord_67 rfl hl (by decide) rfl (fun ls hl => ?_)
                obtain ⟨y_27, ey_27⟩ : ∃ y : Int32, y = kk + 1 := ⟨_, rfl⟩
                first | have ty_27 := i_add (a := kk.toInt) (b := 1) rfl (by decide) ey_27 (by omega) (by omega) | skip
                refine lv_iinc (v := y_27) (lv' := [(3, .int y_27), (2, .int 1), (0, .ref (ad 0)), (1, .ref qs)]) hx hb dX10_isWord_68 hl (k := 1) rfl (by rw [ey_27]; rfl) (by decide) rfl (fun ls hl => ?_)
                refine lv_goto (tgt := 32) hx hb dX10_isWord_71 (by decide) ?_
                have lit_27 : (1 : Int32).toInt = 1 := by decide
                exact ih32 1 y_27 (by first | omega | assumption | decide) (by first | omega | assumption | decide) (by omega) _ _ ls hP hD hS (lv_sub hl [0, 1, 2, 3] rfl)
      have lit_28 : (0 : Int32).toInt = 0 := by decide
      have lit_29 : (0 : Int32).toInt = 0 := by decide
      exact loop32 _ 0 0 (by first | omega | assumption | decide) (by first | omega | assumption | decide) (Nat.lt_succ_self _) _ _ ls hP hD hS (lv_sub hl [0, 1, 2, 3] rfl)
    · have tk_17 := c_eq (a := y_15.toInt) (b := r_16.toInt) rfl rfl k_17
      refine lv_iconst (v := 1) hx hb dX10_isWord_24 (by decide) ?_
      refine lv_goto (tgt := 29) hx hb dX10_isWord_25 (by decide) ?_
      refine lv_istore_n (lv' := [(2, .int 1), (0, .ref (ad 0)), (1, .ref qs)]) hx hb dX10_isWord_29 rfl hl (by decide) rfl (fun ls hl => ?_)
      refine lv_iconst (v := 0) hx hb dX10_isWord_30 (by decide) ?_
      refine lv_istore_n (lv' := [(3, .int 0), (2, .int 1), (0, .ref (ad 0)), (1, .ref qs)]) hx hb dX10_isWord_31 rfl hl (by decide) rfl (fun ls hl => ?_)
      have loop32 : ∀ (lm32 : Nat) (is kk : Int32), (is.toInt = 0 ∨ is.toInt = 1) → (0 ≤ kk.toInt ∧ kk.toInt ≤ ns) → (((ns : Int) - kk.toInt).toNat) < lm32 → ∀ (H : Heap) (locs : List Loc) (ls : Array Slot), va_P (dC, dI) vwCl (mW ad kc x0 x1 x2 x3 x4 x5 x6 x7 x8 x9 x10 x11 x12 x13 x14 x15 x16 x17 x18 x19 x20 x21 f0 f1 f2 f3 f4 f5 f6 f7 f8 f9 f10 f11 f12 f13 f14 f15 f16 f17 f18 f19 f20 f21 fL fN fP fM fO) H → va_D A (mW ad kc x0 x1 x2 x3 x4 x5 x6 x7 x8 x9 x10 x11 x12 x13 x14 x15 x16 x17 x18 x19 x20 x21 f0 f1 f2 f3 f4 f5 f6 f7 f8 f9 f10 f11 f12 f13 f14 f15 f16 f17 f18 f19 f20 f21 fL fN fP fM fO) → va_S A s.heap H locs → lv_has ls 4 [(3, .int kk), (2, .int is), (0, .ref (ad 0)), (1, .ref qs)] → W p l e (headSpec mwX10_isWordm ({ frames := 4, cells := 0, slots := 0, locals := 240 })).room s m ([.ref (ad 0), .ref qs]).toArray below meth c H locs 0 0 (MQ below (va_Qi (fun (o9 u9 : Int32) => o9 = u9) (fun (o9 : Int32) t => (o9.toInt = 0 ∨ o9.toInt = 1) ∧ va_P (dC, dI) vwCl (mW ad kc x0 x1 x2 x3 x4 x5 x6 x7 x8 x9 x10 x11 x12 x13 x14 x15 x16 x17 x18 x19 x20 x21 f0 f1 f2 f3 f4 f5 f6 f7 f8 f9 f10 f11 f12 f13 f14 f15 f16 f17 f18 f19 f20 f21 fL fN fP fM fO) t.heap ∧ va_K (dC, dI) vwCl (mT kc) t ∧ va_D A (mW ad kc x0 x1 x2 x3 x4 x5 x6 x7 x8 x9 x10 x11 x12 x13 x14 x15 x16 x17 x18 x19 x20 x21 f0 f1 f2 f3 f4 f5 f6 f7 f8 f9 f10 f11 f12 f13 f14 f15 f16 f17 f18 f19 f20 f21 fL fN fP fM fO)) A) ([.ref (ad 0), .ref qs]).toArray s 0 0 A) (F0 m 32 ls []) := by
        intro lm32
        induction lm32 with
        | zero => intro is kk v32_0 v32_1 hm32; exact absurd hm32 (Nat.not_lt_zero _)
        | succ lm32 ih32 =>
          intro is kk v32_0 v32_1 hm32 H locs ls hP hD hS hl
          have rg_is := i_rng is
          have rg_kk := i_rng kk
          refine lv_iload_n hx hb dX10_isWord_32 rfl (lv_at hl 0 rfl) ?_
          refine lv_aload_n hx hb dX10_isWord_33 rfl (lv_at hl 3 rfl) ?_
          refine vp_callSi (W.runV (As := []) (rest := [.int kk]) ⟨hx, hb, hml, hown, hts⟩ (j_length l qs ns (by omega)) (cwV 0 hts mg_X10_isWordm_J0_length_8abf5_141 rfl rfl rfl (by decide +kernel) ⟨Nat.le_of_ble_eq_true rfl, Nat.le_of_ble_eq_true rfl⟩) ⟨fun a U g mk q => ⟨q.1, sP.call q.2⟩, sX.recv hX9 hS, fun U hU hW => ⟨rfl, sP.of hX9 hC9 hS hW.alike hU⟩⟩ rfl rfl hl.1 rfl (lv_room (Nat.le_of_ble_eq_true rfl)) dX10_isWord_34 ⟨Nat.le_of_ble_eq_true rfl, Nat.le_of_ble_eq_true rfl⟩) (fun r_31 hw => ?_)
          have hlr_31 : r_31.toInt = (ns : Int) := hw
          refine lv_icmp_ge (tgt := 74) hx hb dX10_isWord_37 (by decide) (fun k_32 => ?_) (fun k_32 => ?_)
          · have tk_32 := c_ge (a := kk.toInt) (b := r_31.toInt) rfl rfl k_32
            refine lv_iload_n hx hb dX10_isWord_74 rfl (lv_at hl 1 rfl) ?_
            exact W.zret hx hb hr (z_nar (by first | assumption | decide | exact z_of (by omega))) (fun t ht hW => ⟨⟨_, _, rfl, rfl, (by first | omega | assumption | rfl | decide), by rw [ht]; exact hP, va_K.moved hW.alike hK, hD⟩, hS.F ht⟩) hS.2.2 dX10_isWord_75
          · have tk_32 := c_nge (a := kk.toInt) (b := r_31.toInt) rfl rfl k_32
            refine lv_iload_n hx hb dX10_isWord_40 rfl (lv_at hl 1 rfl) ?_
            refine lv_if_eq (tgt := 74) hx hb dX10_isWord_41 (by decide) (fun k_33 => ?_) (fun k_33 => ?_)
            · have tk_33 := c_eq (a := is.toInt) (b := 0) rfl (by decide) k_33
              refine lv_iload_n hx hb dX10_isWord_74 rfl (lv_at hl 1 rfl) ?_
              exact W.zret hx hb hr (z_nar (by first | assumption | decide | exact z_of (by omega))) (fun t ht hW => ⟨⟨_, _, rfl, rfl, (by first | omega | assumption | rfl | decide), by rw [ht]; exact hP, va_K.moved hW.alike hK, hD⟩, hS.F ht⟩) hS.2.2 dX10_isWord_75
            · have tk_33 := c_ne (a := is.toInt) (b := 0) rfl (by decide) k_33
              refine lv_aload_n hx hb dX10_isWord_44 rfl (lv_at hl 2 rfl) ?_
              refine lv_aload_n hx hb dX10_isWord_45 rfl (lv_at hl 2 rfl) ?_
              refine va_get (D := (dC, dI)) (ci := 10) (v := .int x6) (C := RX10) (T := TX10) (N := 48) hx hb hts fin_X10_isWordm_X10 hown hK hP 0 rfl rfl 9 (by decide) (hts (.fieldLink RX10 123 "PatternGateModel" "begin" "I") (List.mem_of_getElem? (i := 6) (by decide +kernel))) (fun _ h9 => h9) rfl dX10_isWord_46 ?_
              refine lv_iload_n hx hb dX10_isWord_49 rfl (lv_at hl 0 rfl) ?_
              refine lv_iadd hx hb dX10_isWord_50 ?_
              refine lv_topi (fun y_34 ey_34 => ?_)
              first | have ty_34 := i_add (a := x6.toInt) (b := kk.toInt) rfl rfl ey_34 (by omega) (by omega) | skip
              refine vp_callSi (W.runV (As := [.int y_34]) (rest := []) ⟨hx, hb, hml, hown, hts⟩ (m_byteAt l dC dI ad kc x0 x1 x2 x3 x4 x5 x6 x7 x8 x9 x10 x11 x12 x13 x14 x15 x16 x17 x18 x19 x20 x21 f0 f1 f2 f3 f4 f5 f6 f7 f8 f9 f10 f11 f12 f13 f14 f15 f16 f17 f18 f19 f20 f21 fL fN fP fM fO y_34 (by first | omega | assumption | decide | (have l0 := Int32.toInt_zero; omega)) (by first | omega | assumption | decide | (have l0 := Int32.toInt_zero; omega))) (cwV 1 hts mg_X10_isWordm_X10_byteAt_133 rfl rfl rfl (by decide +kernel) ⟨Nat.le_of_ble_eq_true rfl, Nat.le_of_ble_eq_true rfl⟩) ⟨fun a U g mk q => by obtain ⟨q0, qP, qK⟩ := q; exact ⟨q0, qP, va_K.moved (u := U) (U := U.calling g mk a) (Vm.Alike.refl U.vm) qK⟩, va_recv hK hP (ci := 10) (q0 := 0) rfl rfl, fun U hU hW => ⟨rfl, by rw [hU]; exact hP, va_K.moved hW.alike hK⟩⟩ rfl rfl hl.1 rfl (lv_room (Nat.le_of_ble_eq_true rfl)) dX10_isWord_51 ⟨Nat.le_of_ble_eq_true rfl, Nat.le_of_ble_eq_true rfl⟩) (fun r_35 hr_35 => ?_)
              have rg_r_35 := i_rng r_35
              refine lv_aload_n hx hb dX10_isWord_54 rfl (lv_at hl 3 rfl) ?_
              refine lv_iload_n hx hb dX10_isWord_55 rfl (lv_at hl 0 rfl) ?_
              refine vp_callSi (W.runV (As := [.int kk]) (rest := [.int r_35]) ⟨hx, hb, hml, hown, hts⟩ (j_charAt l qs ns kk (by omega) (by omega) (by omega)) (cwV 1 hts mg_X10_isWordm_J0_charAt_5068e_147 rfl rfl rfl (by decide +kernel) ⟨Nat.le_of_ble_eq_true rfl, Nat.le_of_ble_eq_true rfl⟩) ⟨fun a U g mk q => ⟨q.1, sP.call q.2⟩, sX.recv hX9 hS, fun U hU hW => ⟨rfl, sP.of hX9 hC9 hS hW.alike hU⟩⟩ rfl rfl hl.1 rfl (lv_room (Nat.le_of_ble_eq_true rfl)) dX10_isWord_56 ⟨Nat.le_of_ble_eq_true rfl, Nat.le_of_ble_eq_true rfl⟩) (fun r_36 hw => ?_)
              have rg_r_36 := i_rng r_36
              refine lv_icmp_ne (tgt := 66) hx hb dX10_isWord_59 (by decide) (fun k_37 => ?_) (fun k_37 => ?_)
              · have tk_37 := c_ne (a := r_35.toInt) (b := r_36.toInt) rfl rfl k_37
                refine lv_iconst (v := 0) hx hb dX10_isWord_66 (by decide) ?_
                refine lv_istore_n (lv' := [(2, .int 0), (3, .int kk), (0, .ref (ad 0)), (1, .ref qs)]) hx hb dX10_isWord_67 rfl hl (by decide) rfl (fun ls hl => ?_)
                obtain ⟨y_38, ey_38⟩ : ∃ y : Int32, y = kk + 1 := ⟨_, rfl⟩
                first | have ty_38 := i_add (a := kk.toInt) (b := 1) rfl (by decide) ey_38 (by omega) (by omega) | skip
                refine lv_iinc (v := y_38) (lv' := [(3, .int y_38), (2, .int 0), (0, .ref (ad 0)), (1, .ref qs)]) hx hb dX10_isWord_68 hl (k := 1) rfl (by rw [ey_38]; rfl) (by decide) rfl (fun ls hl => ?_)
                refine lv_goto (tgt := 32) hx hb dX10_isWord_71 (by decide) ?_
                have lit_38 : (0 : Int32).toInt = 0 := by decide
                exact ih32 0 y_38 (by first | omega | assumption | decide) (by first | omega | assumption | decide) (by omega) _ _ ls hP hD hS (lv_sub hl [0, 1, 2, 3] rfl)
              · have tk_37 := c_eq (a := r_35.toInt) (b := r_36.toInt) rfl rfl k_37
                refine lv_iconst (v := 1) hx hb dX10_isWord_62 (by decide) ?_
                refine lv_goto (tgt := 67) hx hb dX10_isWord_63 (by decide) ?_
                refine lv_istore_n (lv' := [(2, .int 1), (3, .int kk), (0, .ref (ad 0)), (1, .ref qs)]) hx hb dX10_isWord_67 rfl hl (by decide) rfl (fun ls hl => ?_)
                obtain ⟨y_40, ey_40⟩ : ∃ y : Int32, y = kk + 1 := ⟨_, rfl⟩
                first | have ty_40 := i_add (a := kk.toInt) (b := 1) rfl (by decide) ey_40 (by omega) (by omega) | skip
                refine lv_iinc (v := y_40) (lv' := [(3, .int y_40), (2, .int 1), (0, .ref (ad 0)), (1, .ref qs)]) hx hb dX10_isWord_68 hl (k := 1) rfl (by rw [ey_40]; rfl) (by decide) rfl (fun ls hl => ?_)
                refine lv_goto (tgt := 32) hx hb dX10_isWord_71 (by decide) ?_
                have lit_40 : (1 : Int32).toInt = 1 := by decide
                exact ih32 1 y_40 (by first | omega | assumption | decide) (by first | omega | assumption | decide) (by omega) _ _ ls hP hD hS (lv_sub hl [0, 1, 2, 3] rfl)
      have lit_41 : (1 : Int32).toInt = 1 := by decide
      have lit_42 : (0 : Int32).toInt = 0 := by decide
      exact loop32 _ 1 0 (by first | omega | assumption | decide) (by first | omega | assumption | decide) (Nat.lt_succ_self _) _ _ ls hP hD hS (lv_sub hl [0, 1, 2, 3] rfl)
theorem dX10_aLine_0 : decode cX10_aLine 0 = .ok (.aload_n 0, 1) := by decide +kernel
theorem dX10_aLine_1 : decode cX10_aLine 1 = .ok (.ldc 173, 2) := by decide +kernel
theorem dX10_aLine_3 : decode cX10_aLine 3 = .ok (.invokevirtual 175, 3) := by decide +kernel
theorem dX10_aLine_6 : decode cX10_aLine 6 = .ok (.istore_n 1, 1) := by decide +kernel
theorem dX10_aLine_7 : decode cX10_aLine 7 = .ok (.iload_n 1, 1) := by decide +kernel
theorem dX10_aLine_8 : decode cX10_aLine 8 = .ok (.ifCond .ne 18, 3) := by decide +kernel
theorem dX10_aLine_11 : decode cX10_aLine 11 = .ok (.aload_n 0, 1) := by decide +kernel
theorem dX10_aLine_12 : decode cX10_aLine 12 = .ok (.ldc 179, 2) := by decide +kernel
theorem dX10_aLine_14 : decode cX10_aLine 14 = .ok (.invokevirtual 175, 3) := by decide +kernel
theorem dX10_aLine_17 : decode cX10_aLine 17 = .ok (.ifCond .ne 9, 3) := by decide +kernel
theorem dX10_aLine_20 : decode cX10_aLine 20 = .ok (.aload_n 0, 1) := by decide +kernel
theorem dX10_aLine_21 : decode cX10_aLine 21 = .ok (.iconst 2, 1) := by decide +kernel
theorem dX10_aLine_22 : decode cX10_aLine 22 = .ok (.invokevirtual 181, 3) := by decide +kernel
theorem dX10_aLine_25 : decode cX10_aLine 25 = .ok (.ireturn, 1) := by decide +kernel
theorem dX10_aLine_26 : decode cX10_aLine 26 = .ok (.aload_n 0, 1) := by decide +kernel
theorem dX10_aLine_27 : decode cX10_aLine 27 = .ok (.getfield 8, 3) := by decide +kernel
theorem dX10_aLine_30 : decode cX10_aLine 30 = .ok (.iload_n 1, 1) := by decide +kernel
theorem dX10_aLine_31 : decode cX10_aLine 31 = .ok (.ifCond .eq 7, 3) := by decide +kernel
theorem dX10_aLine_34 : decode cX10_aLine 34 = .ok (.iconst 0, 1) := by decide +kernel
theorem dX10_aLine_35 : decode cX10_aLine 35 = .ok (.goto 6, 3) := by decide +kernel
theorem dX10_aLine_38 : decode cX10_aLine 38 = .ok (.sipush 611, 3) := by decide +kernel
theorem dX10_aLine_41 : decode cX10_aLine 41 = .ok (.iaload, 1) := by decide +kernel
theorem dX10_aLine_42 : decode cX10_aLine 42 = .ok (.iload_n 1, 1) := by decide +kernel
theorem dX10_aLine_43 : decode cX10_aLine 43 = .ok (.ifCond .eq 8, 3) := by decide +kernel
theorem dX10_aLine_46 : decode cX10_aLine 46 = .ok (.bipush 10, 2) := by decide +kernel
theorem dX10_aLine_48 : decode cX10_aLine 48 = .ok (.goto 5, 3) := by decide +kernel
theorem dX10_aLine_51 : decode cX10_aLine 51 = .ok (.bipush 8, 2) := by decide +kernel
theorem dX10_aLine_53 : decode cX10_aLine 53 = .ok (.if_icmp .ne 9, 3) := by decide +kernel
theorem dX10_aLine_56 : decode cX10_aLine 56 = .ok (.aload_n 0, 1) := by decide +kernel
theorem dX10_aLine_57 : decode cX10_aLine 57 = .ok (.iconst 3, 1) := by decide +kernel
theorem dX10_aLine_58 : decode cX10_aLine 58 = .ok (.invokevirtual 181, 3) := by decide +kernel
theorem dX10_aLine_61 : decode cX10_aLine 61 = .ok (.ireturn, 1) := by decide +kernel
theorem dX10_aLine_62 : decode cX10_aLine 62 = .ok (.aload_n 0, 1) := by decide +kernel
theorem dX10_aLine_63 : decode cX10_aLine 63 = .ok (.invokevirtual 184, 3) := by decide +kernel
theorem dX10_aLine_66 : decode cX10_aLine 66 = .ok (.aload_n 0, 1) := by decide +kernel
theorem dX10_aLine_67 : decode cX10_aLine 67 = .ok (.getfield 120, 3) := by decide +kernel
theorem dX10_aLine_70 : decode cX10_aLine 70 = .ok (.iconst 3, 1) := by decide +kernel
theorem dX10_aLine_71 : decode cX10_aLine 71 = .ok (.if_icmp .eq 9, 3) := by decide +kernel
theorem dX10_aLine_74 : decode cX10_aLine 74 = .ok (.aload_n 0, 1) := by decide +kernel
theorem dX10_aLine_75 : decode cX10_aLine 75 = .ok (.iconst 2, 1) := by decide +kernel
theorem dX10_aLine_76 : decode cX10_aLine 76 = .ok (.invokevirtual 181, 3) := by decide +kernel
theorem dX10_aLine_79 : decode cX10_aLine 79 = .ok (.ireturn, 1) := by decide +kernel
theorem dX10_aLine_80 : decode cX10_aLine 80 = .ok (.iload_n 1, 1) := by decide +kernel
theorem dX10_aLine_81 : decode cX10_aLine 81 = .ok (.ifCond .eq 13, 3) := by decide +kernel
theorem dX10_aLine_84 : decode cX10_aLine 84 = .ok (.aload_n 0, 1) := by decide +kernel
theorem dX10_aLine_85 : decode cX10_aLine 85 = .ok (.invokevirtual 187, 3) := by decide +kernel
theorem dX10_aLine_88 : decode cX10_aLine 88 = .ok (.ifCond .eq 13, 3) := by decide +kernel
theorem dX10_aLine_91 : decode cX10_aLine 91 = .ok (.goto 12, 3) := by decide +kernel
theorem dX10_aLine_94 : decode cX10_aLine 94 = .ok (.aload_n 0, 1) := by decide +kernel
theorem dX10_aLine_95 : decode cX10_aLine 95 = .ok (.invokevirtual 190, 3) := by decide +kernel
theorem dX10_aLine_98 : decode cX10_aLine 98 = .ok (.ifCond .ne 5, 3) := by decide +kernel
theorem dX10_aLine_101 : decode cX10_aLine 101 = .ok (.iconst 0, 1) := by decide +kernel
theorem dX10_aLine_102 : decode cX10_aLine 102 = .ok (.ireturn, 1) := by decide +kernel
theorem dX10_aLine_103 : decode cX10_aLine 103 = .ok (.aload_n 0, 1) := by decide +kernel
theorem dX10_aLine_104 : decode cX10_aLine 104 = .ok (.invokevirtual 184, 3) := by decide +kernel
theorem dX10_aLine_107 : decode cX10_aLine 107 = .ok (.aload_n 0, 1) := by decide +kernel
theorem dX10_aLine_108 : decode cX10_aLine 108 = .ok (.getfield 120, 3) := by decide +kernel
theorem dX10_aLine_111 : decode cX10_aLine 111 = .ok (.iconst 4, 1) := by decide +kernel
theorem dX10_aLine_112 : decode cX10_aLine 112 = .ok (.if_icmp .eq 9, 3) := by decide +kernel
theorem dX10_aLine_115 : decode cX10_aLine 115 = .ok (.aload_n 0, 1) := by decide +kernel
theorem dX10_aLine_116 : decode cX10_aLine 116 = .ok (.iconst 2, 1) := by decide +kernel
theorem dX10_aLine_117 : decode cX10_aLine 117 = .ok (.invokevirtual 181, 3) := by decide +kernel
theorem dX10_aLine_120 : decode cX10_aLine 120 = .ok (.ireturn, 1) := by decide +kernel
theorem dX10_aLine_121 : decode cX10_aLine 121 = .ok (.aload_n 0, 1) := by decide +kernel
theorem dX10_aLine_122 : decode cX10_aLine 122 = .ok (.invokevirtual 184, 3) := by decide +kernel
theorem dX10_aLine_125 : decode cX10_aLine 125 = .ok (.iconst 1, 1) := by decide +kernel
theorem dX10_aLine_126 : decode cX10_aLine 126 = .ok (.ireturn, 1) := by decide +kernel
def mwX10_aLinem : List Cond := .code yX10_aLine cX10_aLine 2 (some .boolean) :: (([.methodLink RX10 175 yX10_isWord, .instanceMethod yX10_isWord, .selects RX10 yX10_isWord yX10_isWord, .initialized RX10, .fieldLink RX10 8 "PatternGateModel" "all" "[I", .methodLink RX10 184 yX10_ahead, .instanceMethod yX10_ahead, .selects RX10 yX10_ahead yX10_ahead, .fieldLink RX10 120 "PatternGateModel" "token" "I", .methodLink RX10 190 yX10_patternQuote, .instanceMethod yX10_patternQuote, .selects RX10 yX10_patternQuote yX10_patternQuote, .methodLink RX10 181 yX10_fails, .instanceMethod yX10_fails, .selects RX10 yX10_fails yX10_fails, .methodLink RX10 187 yX10_docQuote, .instanceMethod yX10_docQuote, .selects RX10 yX10_docQuote yX10_docQuote] : List Cond) ++ (wsX100 ++ (mwX10_isWordm ++ (mwX10_aheadm ++ (mwX10_patternQuotem ++ (mwX10_failsm ++ (mwX10_docQuotem)))))))
theorem fin_X10_aLinem_X10 : ∀ w ∈ wsX100, w ∈ mwX10_aLinem := fun w h => List.mem_cons_of_mem _ (List.mem_append_right _ (List.mem_append_left _ h))
set_option maxRecDepth 100000 in
theorem gd_mwX10_isWordm : mwX10_isWordm.all goodWord = true := by decide +kernel
set_option maxRecDepth 100000 in
theorem gd_mwX10_aheadm : mwX10_aheadm.all goodWord = true := by decide +kernel
set_option maxRecDepth 100000 in
theorem gd_mwX10_patternQuotem : mwX10_patternQuotem.all goodWord = true := by decide +kernel
set_option maxRecDepth 100000 in
theorem gd_mwX10_failsm : mwX10_failsm.all goodWord = true := by decide +kernel
set_option maxRecDepth 100000 in
theorem gd_mwX10_docQuotem : mwX10_docQuotem.all goodWord = true := by decide +kernel
set_option maxRecDepth 20000 in
theorem mg_X10_aLinem_X10_isWord_175 : GoodIn mwX10_aLinem (wsV RX10 175 RX10 yX10_isWord mwX10_isWordm) := gi_app (A := [.methodLink RX10 175 yX10_isWord, .instanceMethod yX10_isWord, .selects RX10 yX10_isWord yX10_isWord, .initialized RX10]) (goodIn_r _ [1, 2, 3, 4] (by decide +kernel) (by decide +kernel)) (gi_sub gd_mwX10_isWordm (fun w h => List.mem_cons_of_mem _ (List.mem_append_right _ (List.mem_append_right _ (List.mem_append_left _ h)))))
set_option maxRecDepth 20000 in
theorem mg_X10_aLinem_X10_ahead_184 : GoodIn mwX10_aLinem (wsV RX10 184 RX10 yX10_ahead mwX10_aheadm) := gi_app (A := [.methodLink RX10 184 yX10_ahead, .instanceMethod yX10_ahead, .selects RX10 yX10_ahead yX10_ahead, .initialized RX10]) (goodIn_r _ [6, 7, 8, 4] (by decide +kernel) (by decide +kernel)) (gi_sub gd_mwX10_aheadm (fun w h => List.mem_cons_of_mem _ (List.mem_append_right _ (List.mem_append_right _ (List.mem_append_right _ (List.mem_append_left _ h))))))
set_option maxRecDepth 20000 in
theorem mg_X10_aLinem_X10_patternQuote_190 : GoodIn mwX10_aLinem (wsV RX10 190 RX10 yX10_patternQuote mwX10_patternQuotem) := gi_app (A := [.methodLink RX10 190 yX10_patternQuote, .instanceMethod yX10_patternQuote, .selects RX10 yX10_patternQuote yX10_patternQuote, .initialized RX10]) (goodIn_r _ [10, 11, 12, 4] (by decide +kernel) (by decide +kernel)) (gi_sub gd_mwX10_patternQuotem (fun w h => List.mem_cons_of_mem _ (List.mem_append_right _ (List.mem_append_right _ (List.mem_append_right _ (List.mem_append_right _ (List.mem_append_left _ h)))))))
set_option maxRecDepth 20000 in
theorem mg_X10_aLinem_X10_fails_181 : GoodIn mwX10_aLinem (wsV RX10 181 RX10 yX10_fails mwX10_failsm) := gi_app (A := [.methodLink RX10 181 yX10_fails, .instanceMethod yX10_fails, .selects RX10 yX10_fails yX10_fails, .initialized RX10]) (goodIn_r _ [13, 14, 15, 4] (by decide +kernel) (by decide +kernel)) (gi_sub gd_mwX10_failsm (fun w h => List.mem_cons_of_mem _ (List.mem_append_right _ (List.mem_append_right _ (List.mem_append_right _ (List.mem_append_right _ (List.mem_append_right _ (List.mem_append_left _ h))))))))
set_option maxRecDepth 20000 in
theorem mg_X10_aLinem_X10_docQuote_187 : GoodIn mwX10_aLinem (wsV RX10 187 RX10 yX10_docQuote mwX10_docQuotem) := gi_app (A := [.methodLink RX10 187 yX10_docQuote, .instanceMethod yX10_docQuote, .selects RX10 yX10_docQuote yX10_docQuote, .initialized RX10]) (goodIn_r _ [16, 17, 18, 4] (by decide +kernel) (by decide +kernel)) (gi_sub gd_mwX10_docQuotem (fun w h => List.mem_cons_of_mem _ (List.mem_append_right _ (List.mem_append_right _ (List.mem_append_right _ (List.mem_append_right _ (List.mem_append_right _ (List.mem_append_right _ (h)))))))))
set_option maxHeartbeats 4000000 in
set_option maxRecDepth 100000 in
theorem m_aLine (l : Launch) (dC : Nat → ClassId) (dI : Nat → Nat → Nat) (ad : Nat → Nat) (kc : Nat → ClassId) (x0 x1 x2 x3 x4 x5 x6 x7 x8 x9 x10 x11 x12 x13 x14 x15 x16 x17 x18 x19 x20 x21 : Int32) (f0 f1 f2 f3 f4 f5 f6 f7 f8 f9 f10 f11 f12 f13 f14 f15 f16 f17 f18 f19 f20 f21 : Nat → Int32) (fL : Nat → Nat → Int64) (fN : Nat → Nat → Int32) (fP : Nat → Nat → Nat) (fM : Nat → Nat → Int32) (fO : Nat → Nat → Int32) (sz : Nat) (q0 : OKd f0 0) (q1 : 0 ≤ x6.toInt ∧ x6.toInt ≤ x7.toInt) (q2 : x7.toInt ≤ x4.toInt ∧ x4.toInt ≤ 900) : Met l yX10_aLine mwX10_aLinem ({ frames := 22, cells := 0, slots := 0, locals := 1320 }) (va_Pc [.ref (ad 0)] (fun U => U.heap.size = sz ∧ va_P (dC, dI) vwCl (mW ad kc x0 x1 x2 x3 x4 x5 x6 x7 x8 x9 x10 x11 x12 x13 x14 x15 x16 x17 x18 x19 x20 x21 f0 f1 f2 f3 f4 f5 f6 f7 f8 f9 f10 f11 f12 f13 f14 f15 f16 f17 f18 f19 f20 f21 fL fN fP fM fO) U.heap ∧ va_K (dC, dI) vwCl (mT kc) U ∧ va_D (fun _ => True) (mW ad kc x0 x1 x2 x3 x4 x5 x6 x7 x8 x9 x10 x11 x12 x13 x14 x15 x16 x17 x18 x19 x20 x21 f0 f1 f2 f3 f4 f5 f6 f7 f8 f9 f10 f11 f12 f13 f14 f15 f16 f17 f18 f19 f20 f21 fL fN fP fM fO) ∧ sW (va_A (mW ad kc x0 x1 x2 x3 x4 x5 x6 x7 x8 x9 x10 x11 x12 x13 x14 x15 x16 x17 x18 x19 x20 x21 f0 f1 f2 f3 f4 f5 f6 f7 f8 f9 f10 f11 f12 f13 f14 f15 f16 f17 f18 f19 f20 f21 fL fN fP fM fO) sz) U U.heap)) (va_Qi (fun (o9 u9 : Int32) => o9 = u9) (fun (o9 : Int32) t => ∃ (y5 y6 y7 y8 y9 y11 : Int32) (g0 : Nat → Int32), (OKd g0 0) ∧ (∀ z : Int, 7820 ≤ z → vI g0 z = vI f0 z) ∧ (0 ≤ y6.toInt ∧ y6.toInt ≤ y7.toInt) ∧ (x7.toInt ≤ y7.toInt ∧ y7.toInt ≤ x4.toInt) ∧ (o9.toInt = 0 ∨ o9.toInt = 1) ∧ (o9.toInt = 1 → x7.toInt < y7.toInt) ∧ va_P (dC, dI) vwCl (mW ad kc x0 x1 x2 x3 x4 y5 y6 y7 y8 y9 x10 y11 x12 x13 x14 x15 x16 x17 x18 x19 x20 x21 g0 f1 f2 f3 f4 f5 f6 f7 f8 f9 f10 f11 f12 f13 f14 f15 f16 f17 f18 f19 f20 f21 fL fN fP fM fO) t.heap ∧ va_K (dC, dI) vwCl (mT kc) t ∧ va_D (va_A (mW ad kc x0 x1 x2 x3 x4 x5 x6 x7 x8 x9 x10 x11 x12 x13 x14 x15 x16 x17 x18 x19 x20 x21 f0 f1 f2 f3 f4 f5 f6 f7 f8 f9 f10 f11 f12 f13 f14 f15 f16 f17 f18 f19 f20 f21 fL fN fP fM fO) sz) (mW ad kc x0 x1 x2 x3 x4 y5 y6 y7 y8 y9 x10 y11 x12 x13 x14 x15 x16 x17 x18 x19 x20 x21 g0 f1 f2 f3 f4 f5 f6 f7 f8 f9 f10 f11 f12 f13 f14 f15 f16 f17 f18 f19 f20 f21 fL fN fP fM fO)) (va_A (mW ad kc x0 x1 x2 x3 x4 x5 x6 x7 x8 x9 x10 x11 x12 x13 x14 x15 x16 x17 x18 x19 x20 x21 f0 f1 f2 f3 f4 f5 f6 f7 f8 f9 f10 f11 f12 f13 f14 f15 f16 f17 f18 f19 f20 f21 fL fN fP fM fO) sz)) 0 0 (va_A (mW ad kc x0 x1 x2 x3 x4 x5 x6 x7 x8 x9 x10 x11 x12 x13 x14 x15 x16 x17 x18 x19 x20 x21 f0 f1 f2 f3 f4 f5 f6 f7 f8 f9 f10 f11 f12 f13 f14 f15 f16 f17 f18 f19 f20 f21 fL fN fP fM fO) sz) := by
  refine Met.ofW (cc := cX10_aLine) (maxL := 2) (ret := (some .boolean)) (by decide +kernel) rfl ?_
  intro p e s m args below meth c s₁ B hml hv
  obtain ⟨rfl, hsz, hP, hK, hD0, hSW⟩ := hv
  have hx := B.exec
  have hb := B.bytes
  have hr := B.returns
  have hts := atoms_spec (ws := mwX10_aLinem) B.pre
  have hown : s.vm.findClass RX10 = some m.cls := findClass_of_methodNamed B.named
  have hlocks := B.notSynchronized
  subst hsz
  have hD := hD0.self (sz := s.heap.size)
  generalize hAe : va_A (mW ad kc x0 x1 x2 x3 x4 x5 x6 x7 x8 x9 x10 x11 x12 x13 x14 x15 x16 x17 x18 x19 x20 x21 f0 f1 f2 f3 f4 f5 f6 f7 f8 f9 f10 f11 f12 f13 f14 f15 f16 f17 f18 f19 f20 f21 fL fN fP fM fO) s.heap.size = A at hD hSW ⊢
  have hA : ∀ q : Nat, s.heap.size ≤ q → A q := fun q h => by rw [← hAe]; exact Or.inr h
  have hP : va_P (dC, dI) vwCl (mW ad kc x0 x1 x2 x3 x4 x5 x6 x7 x8 x9 x10 x11 x12 x13 x14 x15 x16 x17 x18 x19 x20 x21 f0 f1 f2 f3 f4 f5 f6 f7 f8 f9 f10 f11 f12 f13 f14 f15 f16 f17 f18 f19 f20 f21 fL fN fP fM fO) s.heap := hP
  have hD : va_D A (mW ad kc x0 x1 x2 x3 x4 x5 x6 x7 x8 x9 x10 x11 x12 x13 x14 x15 x16 x17 x18 x19 x20 x21 f0 f1 f2 f3 f4 f5 f6 f7 f8 f9 f10 f11 f12 f13 f14 f15 f16 f17 f18 f19 f20 f21 fL fN fP fM fO) := hD
  have hK : va_K (dC, dI) vwCl (mT kc) s := hK
  generalize hH : s.heap = H at hP ⊢
  have hS : va_S A s.heap H [] := by rw [← hH]; exact va_S.rf
  have hl := lv_entry ([.ref (ad 0)]) (n := 2) (Nat.le_of_ble_eq_true rfl)
  rw [lg_entry_eq]
  generalize (lg_sl ([.ref (ad 0)]) ++ List.replicate (2 - (lg_sl ([.ref (ad 0)])).length) Slot.unset).toArray = ls at hl ⊢
  have hl : lv_has ls 2 [(0, .ref (ad 0))] := hl
  obtain ⟨qd, qp, hR173, hR179, hXd, hXp, hC9⟩ := hSW
  have hd10 := q0.n0
  have hp8 := q0.P0
  refine lv_aload_n hx hb dX10_aLine_0 rfl (lv_at hl 0 rfl) ?_
  refine va_ldcS hx hb hown hR173 dX10_aLine_1 ?_
  have hFc := m_free hD hS hA
  refine va_calli (va_runV (As := [.ref qd]) (rest := []) ⟨hx, hb, hml, hown, hts⟩ (m_isWord l dC dI ad kc x0 x1 x2 x3 x4 x5 x6 x7 x8 x9 x10 x11 x12 x13 x14 x15 x16 x17 x18 x19 x20 x21 f0 f1 f2 f3 f4 f5 f6 f7 f8 f9 f10 f11 f12 f13 f14 f15 f16 f17 f18 f19 f20 f21 fL fN fP fM fO H.size qd 3 (by first | omega | assumption | decide | (have l0 := Int32.toInt_zero; omega)) (by first | omega | assumption | decide | (have l0 := Int32.toInt_zero; omega)) (by first | omega | assumption | decide | (have l0 := Int32.toInt_zero; omega))) (cwV 1 hts mg_X10_aLinem_X10_isWord_175 rfl rfl rfl (by decide +kernel) ⟨Nat.le_of_ble_eq_true rfl, Nat.le_of_ble_eq_true rfl⟩) ⟨fun a U g mk q => by obtain ⟨q0, q1, qP, qK, qD, qE0, qE1⟩ := q; exact ⟨q0, q1, qP, va_K.moved (u := U) (U := U.calling g mk a) (Vm.Alike.refl U.vm) qK, qD, sX.moved (u := U) (U := U.calling g mk a) (Vm.Alike.refl U.vm) qE0, sC.moved (u := U) (U := U.calling g mk a) (Vm.Alike.refl U.vm) qE1⟩, va_recv hK hP (ci := 10) (q0 := 0) rfl rfl, fun U hU hW => ⟨rfl, by rw [hU], by rw [hU]; exact hP, va_K.moved hW.alike hK, hD.weaken (fun _ _ _ _ => trivial), sX.to hXd hS hFc hW hU, sC.to hC9 hS hFc hW hU⟩⟩ rfl rfl hl.1 rfl (lv_room (Nat.le_of_ble_eq_true rfl)) dX10_aLine_3 ⟨Nat.le_of_ble_eq_true rfl, Nat.le_of_ble_eq_true rfl⟩) hS (fun q _ h => hFc q h) hFc (fun r_1 u t H1 locs ht hvm hw hB hz1 hk1 hS => ?_)
  subst hw
  obtain ⟨hr_1_0, hP, hK1, hD1⟩ := hB
  rw [ht] at hP
  have hD := hD1.weaken (fun k q _ h => hFc q.1 h)
  clear hz1 hk1 hFc hD1 hK1 hvm
  generalize H1 = H at hP hS ⊢
  have rg_r_1 := i_rng r_1
  have hP : va_P (dC, dI) vwCl (mW ad kc x0 x1 x2 x3 x4 x5 x6 x7 x8 x9 x10 x11 x12 x13 x14 x15 x16 x17 x18 x19 x20 x21 f0 f1 f2 f3 f4 f5 f6 f7 f8 f9 f10 f11 f12 f13 f14 f15 f16 f17 f18 f19 f20 f21 fL fN fP fM fO) H := hP
  have hD : va_D A (mW ad kc x0 x1 x2 x3 x4 x5 x6 x7 x8 x9 x10 x11 x12 x13 x14 x15 x16 x17 x18 x19 x20 x21 f0 f1 f2 f3 f4 f5 f6 f7 f8 f9 f10 f11 f12 f13 f14 f15 f16 f17 f18 f19 f20 f21 fL fN fP fM fO) := hD
  refine lv_istore_n (lv' := [(1, .int r_1), (0, .ref (ad 0))]) hx hb dX10_aLine_6 rfl hl (by decide) rfl (fun ls hl => ?_)
  refine lv_iload_n hx hb dX10_aLine_7 rfl (lv_at hl 0 rfl) ?_
  refine lv_if_ne (tgt := 26) hx hb dX10_aLine_8 (by decide) (fun k_2 => ?_) (fun k_2 => ?_)
  · have tk_2 := c_ne (a := r_1.toInt) (b := 0) rfl (by decide) k_2
    refine lv_aload_n hx hb dX10_aLine_26 rfl (lv_at hl 1 rfl) ?_
    refine va_get (D := (dC, dI)) (ci := 10) (v := .ref (ad 1)) (C := RX10) (T := TX10) (N := 48) hx hb hts fin_X10_aLinem_X10 hown hK hP 0 rfl rfl 0 (by decide) (hts (.fieldLink RX10 8 "PatternGateModel" "all" "[I") (List.mem_of_getElem? (i := 5) (by decide +kernel))) (fun _ h9 => h9) rfl dX10_aLine_27 ?_
    refine lv_iload_n hx hb dX10_aLine_30 rfl (lv_at hl 0 rfl) ?_
    refine lv_if_eq (tgt := 38) hx hb dX10_aLine_31 (by decide) (fun k_3 => ?_) (fun k_3 => ?_)
    · have tk_3 := c_eq (a := r_1.toInt) (b := 0) rfl (by decide) k_3
      refine lv_sipush (v := 611) hx hb dX10_aLine_38 (by decide) ?_
      refine va_iald hx hb hK hP 1 0 rfl rfl (i := 611) (by unfold vp_in; decide +kernel) dX10_aLine_41 ?_
      refine lv_topi (fun y_4 ey_4 => ?_)
      have rg_y_4 := i_rng y_4
      have vy_4 := vI_lda (f := f0) (i := 611) (a := 611) ey_4 (by first | omega | decide)
      have rg_y_4 := i_rng y_4
      refine lv_iload_n hx hb dX10_aLine_42 rfl (lv_at hl 0 rfl) ?_
      refine lv_if_eq (tgt := 51) hx hb dX10_aLine_43 (by decide) (fun k_5 => ?_) (fun k_5 => ?_)
      · have tk_5 := c_eq (a := r_1.toInt) (b := 0) rfl (by decide) k_5
        refine lv_bipush (v := 8) hx hb dX10_aLine_51 (by decide) ?_
        refine lv_icmp_ne (tgt := 62) hx hb dX10_aLine_53 (by decide) (fun k_6 => ?_) (fun k_6 => ?_)
        · have tk_6 := c_ne (a := y_4.toInt) (b := 8) rfl (by decide) k_6
          refine lv_aload_n hx hb dX10_aLine_62 rfl (lv_at hl 1 rfl) ?_
          have hFc := m_free hD hS hA
          refine va_callv (va_runV (As := []) (rest := []) ⟨hx, hb, hml, hown, hts⟩ (m_ahead l dC dI ad kc x0 x1 x2 x3 x4 x5 x6 x7 x8 x9 x10 x11 x12 x13 x14 x15 x16 x17 x18 x19 x20 x21 f0 f1 f2 f3 f4 f5 f6 f7 f8 f9 f10 f11 f12 f13 f14 f15 f16 f17 f18 f19 f20 f21 fL fN fP fM fO H.size (by first | omega | assumption | decide | (have l0 := Int32.toInt_zero; omega)) (by first | omega | assumption | decide | (have l0 := Int32.toInt_zero; omega)) (by first | omega | assumption | decide | (have l0 := Int32.toInt_zero; omega))) (cwV 0 hts mg_X10_aLinem_X10_ahead_184 rfl rfl rfl (by decide +kernel) ⟨Nat.le_of_ble_eq_true rfl, Nat.le_of_ble_eq_true rfl⟩) ⟨fun a U g mk q => by obtain ⟨q0, q1, qP, qK, qD⟩ := q; exact ⟨q0, q1, qP, va_K.moved (u := U) (U := U.calling g mk a) (Vm.Alike.refl U.vm) qK, qD⟩, va_recv hK hP (ci := 10) (q0 := 0) rfl rfl, fun U hU hW => ⟨rfl, by rw [hU], by rw [hU]; exact hP, va_K.moved hW.alike hK, hD.weaken (fun _ _ _ _ => trivial)⟩⟩ rfl rfl hl.1 rfl (lv_room (Nat.le_of_ble_eq_true rfl)) dX10_aLine_63 ⟨Nat.le_of_ble_eq_true rfl, Nat.le_of_ble_eq_true rfl⟩) hS (fun q _ h => hFc q h) hFc (fun u t H1 locs ht hvm hw hB hz1 hk1 hS => ?_)
          obtain ⟨x_8, x_9, x_10, hr_7_0, hr_7_1, hr_7_2, hr_7_3, hr_7_4, hP, hK1, hD1⟩ := hB
          rw [ht] at hP
          have hD := hD1.weaken (fun k q _ h => hFc q.1 h)
          clear hz1 hk1 hFc hD1 hK1 hvm
          generalize H1 = H at hP hS ⊢
          have rg_x_8 := i_rng x_8
          have rg_x_9 := i_rng x_9
          have rg_x_10 := i_rng x_10
          have hP : va_P (dC, dI) vwCl (mW ad kc x0 x1 x2 x3 x4 x_8 x_9 x_10 x8 x9 x10 x11 x12 x13 x14 x15 x16 x17 x18 x19 x20 x21 f0 f1 f2 f3 f4 f5 f6 f7 f8 f9 f10 f11 f12 f13 f14 f15 f16 f17 f18 f19 f20 f21 fL fN fP fM fO) H := hP
          have hD : va_D A (mW ad kc x0 x1 x2 x3 x4 x_8 x_9 x_10 x8 x9 x10 x11 x12 x13 x14 x15 x16 x17 x18 x19 x20 x21 f0 f1 f2 f3 f4 f5 f6 f7 f8 f9 f10 f11 f12 f13 f14 f15 f16 f17 f18 f19 f20 f21 fL fN fP fM fO) := hD
          refine lv_aload_n hx hb dX10_aLine_66 rfl (lv_at hl 1 rfl) ?_
          refine va_get (D := (dC, dI)) (ci := 10) (v := .int x_8) (C := RX10) (T := TX10) (N := 48) hx hb hts fin_X10_aLinem_X10 hown hK hP 0 rfl rfl 8 (by decide) (hts (.fieldLink RX10 120 "PatternGateModel" "token" "I") (List.mem_of_getElem? (i := 9) (by decide +kernel))) (fun _ h9 => h9) rfl dX10_aLine_67 ?_
          refine lv_iconst (v := 3) hx hb dX10_aLine_70 (by decide) ?_
          refine lv_icmp_eq (tgt := 80) hx hb dX10_aLine_71 (by decide) (fun k_11 => ?_) (fun k_11 => ?_)
          · have tk_11 := c_eq (a := x_8.toInt) (b := 3) rfl (by decide) k_11
            refine lv_iload_n hx hb dX10_aLine_80 rfl (lv_at hl 0 rfl) ?_
            refine lv_if_eq (tgt := 94) hx hb dX10_aLine_81 (by decide) (fun k_12 => ?_) (fun k_12 => ?_)
            · have tk_12 := c_eq (a := r_1.toInt) (b := 0) rfl (by decide) k_12
              refine lv_aload_n hx hb dX10_aLine_94 rfl (lv_at hl 1 rfl) ?_
              have hFc := m_free hD hS hA
              refine va_calli (va_runV (As := []) (rest := []) ⟨hx, hb, hml, hown, hts⟩ (m_patternQuote l dC dI ad kc x0 x1 x2 x3 x4 x_8 x_9 x_10 x8 x9 x10 x11 x12 x13 x14 x15 x16 x17 x18 x19 x20 x21 f0 f1 f2 f3 f4 f5 f6 f7 f8 f9 f10 f11 f12 f13 f14 f15 f16 f17 f18 f19 f20 f21 fL fN fP fM fO H.size (by first | omega | assumption | decide | (have l0 := Int32.toInt_zero; omega)) (by first | omega | assumption | decide | (have l0 := Int32.toInt_zero; omega)) (by first | omega | assumption | decide | (have l0 := Int32.toInt_zero; omega)) (by first | omega | assumption | decide | (have l0 := Int32.toInt_zero; omega)) (by first | omega | assumption | decide | (have l0 := Int32.toInt_zero; omega))) (cwV 0 hts mg_X10_aLinem_X10_patternQuote_190 rfl rfl rfl (by decide +kernel) ⟨Nat.le_of_ble_eq_true rfl, Nat.le_of_ble_eq_true rfl⟩) ⟨fun a U g mk q => by obtain ⟨q0, q1, qP, qK, qD⟩ := q; exact ⟨q0, q1, qP, va_K.moved (u := U) (U := U.calling g mk a) (Vm.Alike.refl U.vm) qK, qD⟩, va_recv hK hP (ci := 10) (q0 := 0) rfl rfl, fun U hU hW => ⟨rfl, by rw [hU], by rw [hU]; exact hP, va_K.moved hW.alike hK, hD.weaken (fun _ _ _ _ => trivial)⟩⟩ rfl rfl hl.1 rfl (lv_room (Nat.le_of_ble_eq_true rfl)) dX10_aLine_95 ⟨Nat.le_of_ble_eq_true rfl, Nat.le_of_ble_eq_true rfl⟩) hS (fun q _ h => hFc q h) hFc (fun r_13 u t H1 locs ht hvm hw hB hz1 hk1 hS => ?_)
              subst hw
              obtain ⟨x_14, x_15, x_16, x_17, f_18, hr_13_0, hr_13_1, hr_13_2, hr_13_3, hr_13_4, hP, hK1, hD1⟩ := hB
              rw [ht] at hP
              have hD := hD1.weaken (fun k q _ h => hFc q.1 h)
              clear hz1 hk1 hFc hD1 hK1 hvm
              generalize H1 = H at hP hS ⊢
              have rg_x_14 := i_rng x_14
              have rg_x_15 := i_rng x_15
              have rg_x_16 := i_rng x_16
              have rg_x_17 := i_rng x_17
              have rg_r_13 := i_rng r_13
              have hP : va_P (dC, dI) vwCl (mW ad kc x0 x1 x2 x3 x4 x_8 x_9 x_14 x_15 x_16 x10 x_17 x12 x13 x14 x15 x16 x17 x18 x19 x20 x21 f_18 f1 f2 f3 f4 f5 f6 f7 f8 f9 f10 f11 f12 f13 f14 f15 f16 f17 f18 f19 f20 f21 fL fN fP fM fO) H := hP
              have hD : va_D A (mW ad kc x0 x1 x2 x3 x4 x_8 x_9 x_14 x_15 x_16 x10 x_17 x12 x13 x14 x15 x16 x17 x18 x19 x20 x21 f_18 f1 f2 f3 f4 f5 f6 f7 f8 f9 f10 f11 f12 f13 f14 f15 f16 f17 f18 f19 f20 f21 fL fN fP fM fO) := hD
              have hq9 := hr_13_0
              have hq8 := hr_13_1
              refine lv_if_ne (tgt := 103) hx hb dX10_aLine_98 (by decide) (fun k_19 => ?_) (fun k_19 => ?_)
              · have tk_19 := c_ne (a := r_13.toInt) (b := 0) rfl (by decide) k_19
                refine lv_aload_n hx hb dX10_aLine_103 rfl (lv_at hl 1 rfl) ?_
                have hFc := m_free hD hS hA
                refine va_callv (va_runV (As := []) (rest := []) ⟨hx, hb, hml, hown, hts⟩ (m_ahead l dC dI ad kc x0 x1 x2 x3 x4 x_8 x_9 x_14 x_15 x_16 x10 x_17 x12 x13 x14 x15 x16 x17 x18 x19 x20 x21 f_18 f1 f2 f3 f4 f5 f6 f7 f8 f9 f10 f11 f12 f13 f14 f15 f16 f17 f18 f19 f20 f21 fL fN fP fM fO H.size (by first | omega | assumption | decide | (have l0 := Int32.toInt_zero; omega)) (by first | omega | assumption | decide | (have l0 := Int32.toInt_zero; omega)) (by first | omega | assumption | decide | (have l0 := Int32.toInt_zero; omega))) (cwV 0 hts mg_X10_aLinem_X10_ahead_184 rfl rfl rfl (by decide +kernel) ⟨Nat.le_of_ble_eq_true rfl, Nat.le_of_ble_eq_true rfl⟩) ⟨fun a U g mk q => by obtain ⟨q0, q1, qP, qK, qD⟩ := q; exact ⟨q0, q1, qP, va_K.moved (u := U) (U := U.calling g mk a) (Vm.Alike.refl U.vm) qK, qD⟩, va_recv hK hP (ci := 10) (q0 := 0) rfl rfl, fun U hU hW => ⟨rfl, by rw [hU], by rw [hU]; exact hP, va_K.moved hW.alike hK, hD.weaken (fun _ _ _ _ => trivial)⟩⟩ rfl rfl hl.1 rfl (lv_room (Nat.le_of_ble_eq_true rfl)) dX10_aLine_104 ⟨Nat.le_of_ble_eq_true rfl, Nat.le_of_ble_eq_true rfl⟩) hS (fun q _ h => hFc q h) hFc (fun u t H1 locs ht hvm hw hB hz1 hk1 hS => ?_)
                obtain ⟨x_21, x_22, x_23, hr_20_0, hr_20_1, hr_20_2, hr_20_3, hr_20_4, hP, hK1, hD1⟩ := hB
                rw [ht] at hP
                have hD := hD1.weaken (fun k q _ h => hFc q.1 h)
                clear hz1 hk1 hFc hD1 hK1 hvm
                generalize H1 = H at hP hS ⊢
                have rg_x_21 := i_rng x_21
                have rg_x_22 := i_rng x_22
                have rg_x_23 := i_rng x_23
                have hP : va_P (dC, dI) vwCl (mW ad kc x0 x1 x2 x3 x4 x_21 x_22 x_23 x_15 x_16 x10 x_17 x12 x13 x14 x15 x16 x17 x18 x19 x20 x21 f_18 f1 f2 f3 f4 f5 f6 f7 f8 f9 f10 f11 f12 f13 f14 f15 f16 f17 f18 f19 f20 f21 fL fN fP fM fO) H := hP
                have hD : va_D A (mW ad kc x0 x1 x2 x3 x4 x_21 x_22 x_23 x_15 x_16 x10 x_17 x12 x13 x14 x15 x16 x17 x18 x19 x20 x21 f_18 f1 f2 f3 f4 f5 f6 f7 f8 f9 f10 f11 f12 f13 f14 f15 f16 f17 f18 f19 f20 f21 fL fN fP fM fO) := hD
                refine lv_aload_n hx hb dX10_aLine_107 rfl (lv_at hl 1 rfl) ?_
                refine va_get (D := (dC, dI)) (ci := 10) (v := .int x_21) (C := RX10) (T := TX10) (N := 48) hx hb hts fin_X10_aLinem_X10 hown hK hP 0 rfl rfl 8 (by decide) (hts (.fieldLink RX10 120 "PatternGateModel" "token" "I") (List.mem_of_getElem? (i := 9) (by decide +kernel))) (fun _ h9 => h9) rfl dX10_aLine_108 ?_
                refine lv_iconst (v := 4) hx hb dX10_aLine_111 (by decide) ?_
                refine lv_icmp_eq (tgt := 121) hx hb dX10_aLine_112 (by decide) (fun k_24 => ?_) (fun k_24 => ?_)
                · have tk_24 := c_eq (a := x_21.toInt) (b := 4) rfl (by decide) k_24
                  refine lv_aload_n hx hb dX10_aLine_121 rfl (lv_at hl 1 rfl) ?_
                  have hFc := m_free hD hS hA
                  refine va_callv (va_runV (As := []) (rest := []) ⟨hx, hb, hml, hown, hts⟩ (m_ahead l dC dI ad kc x0 x1 x2 x3 x4 x_21 x_22 x_23 x_15 x_16 x10 x_17 x12 x13 x14 x15 x16 x17 x18 x19 x20 x21 f_18 f1 f2 f3 f4 f5 f6 f7 f8 f9 f10 f11 f12 f13 f14 f15 f16 f17 f18 f19 f20 f21 fL fN fP fM fO H.size (by first | omega | assumption | decide | (have l0 := Int32.toInt_zero; omega)) (by first | omega | assumption | decide | (have l0 := Int32.toInt_zero; omega)) (by first | omega | assumption | decide | (have l0 := Int32.toInt_zero; omega))) (cwV 0 hts mg_X10_aLinem_X10_ahead_184 rfl rfl rfl (by decide +kernel) ⟨Nat.le_of_ble_eq_true rfl, Nat.le_of_ble_eq_true rfl⟩) ⟨fun a U g mk q => by obtain ⟨q0, q1, qP, qK, qD⟩ := q; exact ⟨q0, q1, qP, va_K.moved (u := U) (U := U.calling g mk a) (Vm.Alike.refl U.vm) qK, qD⟩, va_recv hK hP (ci := 10) (q0 := 0) rfl rfl, fun U hU hW => ⟨rfl, by rw [hU], by rw [hU]; exact hP, va_K.moved hW.alike hK, hD.weaken (fun _ _ _ _ => trivial)⟩⟩ rfl rfl hl.1 rfl (lv_room (Nat.le_of_ble_eq_true rfl)) dX10_aLine_122 ⟨Nat.le_of_ble_eq_true rfl, Nat.le_of_ble_eq_true rfl⟩) hS (fun q _ h => hFc q h) hFc (fun u t H1 locs ht hvm hw hB hz1 hk1 hS => ?_)
                  obtain ⟨x_26, x_27, x_28, hr_25_0, hr_25_1, hr_25_2, hr_25_3, hr_25_4, hP, hK1, hD1⟩ := hB
                  rw [ht] at hP
                  have hD := hD1.weaken (fun k q _ h => hFc q.1 h)
                  clear hz1 hk1 hFc hD1 hK1 hvm
                  generalize H1 = H at hP hS ⊢
                  have rg_x_26 := i_rng x_26
                  have rg_x_27 := i_rng x_27
                  have rg_x_28 := i_rng x_28
                  have hP : va_P (dC, dI) vwCl (mW ad kc x0 x1 x2 x3 x4 x_26 x_27 x_28 x_15 x_16 x10 x_17 x12 x13 x14 x15 x16 x17 x18 x19 x20 x21 f_18 f1 f2 f3 f4 f5 f6 f7 f8 f9 f10 f11 f12 f13 f14 f15 f16 f17 f18 f19 f20 f21 fL fN fP fM fO) H := hP
                  have hD : va_D A (mW ad kc x0 x1 x2 x3 x4 x_26 x_27 x_28 x_15 x_16 x10 x_17 x12 x13 x14 x15 x16 x17 x18 x19 x20 x21 f_18 f1 f2 f3 f4 f5 f6 f7 f8 f9 f10 f11 f12 f13 f14 f15 f16 f17 f18 f19 f20 f21 fL fN fP fM fO) := hD
                  refine lv_iconst (v := 1) hx hb dX10_aLine_125 (by decide) ?_
                  have lit_28 : (1 : Int32).toInt = 1 := by decide
                  exact W.zret hx hb hr (z_nar (by first | assumption | decide | exact z_of (by omega))) (fun t ht hW => ⟨⟨_, _, rfl, rfl, x_26, x_27, x_28, x_15, x_16, x_17, f_18, hq9, hq8, (by first | omega | assumption | rfl | decide), (by first | omega | assumption | rfl | decide), (by first | omega | assumption | rfl | decide), (fun h9 => by omega), by rw [ht]; exact hP, va_K.moved hW.alike hK, hD⟩, hS.F ht⟩) hS.2.2 dX10_aLine_126
                · have tk_24 := c_ne (a := x_21.toInt) (b := 4) rfl (by decide) k_24
                  refine lv_aload_n hx hb dX10_aLine_115 rfl (lv_at hl 1 rfl) ?_
                  refine lv_iconst (v := 2) hx hb dX10_aLine_116 (by decide) ?_
                  have hFc := m_free hD hS hA
                  refine va_calli (va_runV (As := [.int 2]) (rest := []) ⟨hx, hb, hml, hown, hts⟩ (m_fails l dC dI ad kc x0 x1 x2 x3 x4 x_21 x_22 x_23 x_15 x_16 x10 x_17 x12 x13 x14 x15 x16 x17 x18 x19 x20 x21 f_18 f1 f2 f3 f4 f5 f6 f7 f8 f9 f10 f11 f12 f13 f14 f15 f16 f17 f18 f19 f20 f21 fL fN fP fM fO H.size 2 ) (cwV 1 hts mg_X10_aLinem_X10_fails_181 rfl rfl rfl (by decide +kernel) ⟨Nat.le_of_ble_eq_true rfl, Nat.le_of_ble_eq_true rfl⟩) ⟨fun a U g mk q => by obtain ⟨q0, q1, qP, qK, qD⟩ := q; exact ⟨q0, q1, qP, va_K.moved (u := U) (U := U.calling g mk a) (Vm.Alike.refl U.vm) qK, qD⟩, va_recv hK hP (ci := 10) (q0 := 0) rfl rfl, fun U hU hW => ⟨rfl, by rw [hU], by rw [hU]; exact hP, va_K.moved hW.alike hK, hD.weaken (fun _ _ _ _ => trivial)⟩⟩ rfl rfl hl.1 rfl (lv_room (Nat.le_of_ble_eq_true rfl)) dX10_aLine_117 ⟨Nat.le_of_ble_eq_true rfl, Nat.le_of_ble_eq_true rfl⟩) hS (fun q _ h => hFc q h) hFc (fun r_30 u t H1 locs ht hvm hw hB hz1 hk1 hS => ?_)
                  subst hw
                  obtain ⟨x_31, x_32, hr_30_0, hP, hK1, hD1⟩ := hB
                  rw [ht] at hP
                  have hD := hD1.weaken (fun k q _ h => hFc q.1 h)
                  clear hz1 hk1 hFc hD1 hK1 hvm
                  generalize H1 = H at hP hS ⊢
                  have rg_x_31 := i_rng x_31
                  have rg_x_32 := i_rng x_32
                  have rg_r_30 := i_rng r_30
                  have hP : va_P (dC, dI) vwCl (mW ad kc x0 x1 x2 x3 x4 x_21 x_22 x_23 x_31 x_32 x10 x_17 x12 x13 x14 x15 x16 x17 x18 x19 x20 x21 f_18 f1 f2 f3 f4 f5 f6 f7 f8 f9 f10 f11 f12 f13 f14 f15 f16 f17 f18 f19 f20 f21 fL fN fP fM fO) H := hP
                  have hD : va_D A (mW ad kc x0 x1 x2 x3 x4 x_21 x_22 x_23 x_31 x_32 x10 x_17 x12 x13 x14 x15 x16 x17 x18 x19 x20 x21 f_18 f1 f2 f3 f4 f5 f6 f7 f8 f9 f10 f11 f12 f13 f14 f15 f16 f17 f18 f19 f20 f21 fL fN fP fM fO) := hD
                  exact W.zret hx hb hr (z_nar (by first | assumption | decide | exact z_of (by omega))) (fun t ht hW => ⟨⟨_, _, rfl, rfl, x_21, x_22, x_23, x_31, x_32, x_17, f_18, hq9, hq8, (by first | omega | assumption | rfl | decide), (by first | omega | assumption | rfl | decide), (by first | omega | assumption | rfl | decide), (fun h9 => by omega), by rw [ht]; exact hP, va_K.moved hW.alike hK, hD⟩, hS.F ht⟩) hS.2.2 dX10_aLine_120
              · have tk_19 := c_eq (a := r_13.toInt) (b := 0) rfl (by decide) k_19
                refine lv_iconst (v := 0) hx hb dX10_aLine_101 (by decide) ?_
                have lit_32 : (0 : Int32).toInt = 0 := by decide
                exact W.zret hx hb hr (z_nar (by first | assumption | decide | exact z_of (by omega))) (fun t ht hW => ⟨⟨_, _, rfl, rfl, x_8, x_9, x_14, x_15, x_16, x_17, f_18, hq9, hq8, (by first | omega | assumption | rfl | decide), (by first | omega | assumption | rfl | decide), (by first | omega | assumption | rfl | decide), (fun h9 => by omega), by rw [ht]; exact hP, va_K.moved hW.alike hK, hD⟩, hS.F ht⟩) hS.2.2 dX10_aLine_102
            · have tk_12 := c_ne (a := r_1.toInt) (b := 0) rfl (by decide) k_12
              refine lv_aload_n hx hb dX10_aLine_84 rfl (lv_at hl 1 rfl) ?_
              have hFc := m_free hD hS hA
              refine va_calli (va_runV (As := []) (rest := []) ⟨hx, hb, hml, hown, hts⟩ (m_docQuote l dC dI ad kc x0 x1 x2 x3 x4 x_8 x_9 x_10 x8 x9 x10 x11 x12 x13 x14 x15 x16 x17 x18 x19 x20 x21 f0 f1 f2 f3 f4 f5 f6 f7 f8 f9 f10 f11 f12 f13 f14 f15 f16 f17 f18 f19 f20 f21 fL fN fP fM fO H.size (by first | omega | assumption | decide | (have l0 := Int32.toInt_zero; omega)) (by first | omega | assumption | decide | (have l0 := Int32.toInt_zero; omega)) (by first | omega | assumption | decide | (have l0 := Int32.toInt_zero; omega)) (by first | omega | assumption | decide | (have l0 := Int32.toInt_zero; omega)) (by first | omega | assumption | decide | (have l0 := Int32.toInt_zero; omega))) (cwV 0 hts mg_X10_aLinem_X10_docQuote_187 rfl rfl rfl (by decide +kernel) ⟨Nat.le_of_ble_eq_true rfl, Nat.le_of_ble_eq_true rfl⟩) ⟨fun a U g mk q => by obtain ⟨q0, q1, qP, qK, qD⟩ := q; exact ⟨q0, q1, qP, va_K.moved (u := U) (U := U.calling g mk a) (Vm.Alike.refl U.vm) qK, qD⟩, va_recv hK hP (ci := 10) (q0 := 0) rfl rfl, fun U hU hW => ⟨rfl, by rw [hU], by rw [hU]; exact hP, va_K.moved hW.alike hK, hD.weaken (fun _ _ _ _ => trivial)⟩⟩ rfl rfl hl.1 rfl (lv_room (Nat.le_of_ble_eq_true rfl)) dX10_aLine_85 ⟨Nat.le_of_ble_eq_true rfl, Nat.le_of_ble_eq_true rfl⟩) hS (fun q _ h => hFc q h) hFc (fun r_34 u t H1 locs ht hvm hw hB hz1 hk1 hS => ?_)
              subst hw
              obtain ⟨x_35, x_36, x_37, f_38, hr_34_0, hr_34_1, hr_34_2, hr_34_3, hr_34_4, hP, hK1, hD1⟩ := hB
              rw [ht] at hP
              have hD := hD1.weaken (fun k q _ h => hFc q.1 h)
              clear hz1 hk1 hFc hD1 hK1 hvm
              generalize H1 = H at hP hS ⊢
              have rg_x_35 := i_rng x_35
              have rg_x_36 := i_rng x_36
              have rg_x_37 := i_rng x_37
              have rg_r_34 := i_rng r_34
              have hP : va_P (dC, dI) vwCl (mW ad kc x0 x1 x2 x3 x4 x_8 x_9 x_35 x_36 x_37 x10 x11 x12 x13 x14 x15 x16 x17 x18 x19 x20 x21 f_38 f1 f2 f3 f4 f5 f6 f7 f8 f9 f10 f11 f12 f13 f14 f15 f16 f17 f18 f19 f20 f21 fL fN fP fM fO) H := hP
              have hD : va_D A (mW ad kc x0 x1 x2 x3 x4 x_8 x_9 x_35 x_36 x_37 x10 x11 x12 x13 x14 x15 x16 x17 x18 x19 x20 x21 f_38 f1 f2 f3 f4 f5 f6 f7 f8 f9 f10 f11 f12 f13 f14 f15 f16 f17 f18 f19 f20 f21 fL fN fP fM fO) := hD
              have hq9 := hr_34_0
              have hq8 := hr_34_1
              refine lv_if_eq (tgt := 101) hx hb dX10_aLine_88 (by decide) (fun k_39 => ?_) (fun k_39 => ?_)
              · have tk_39 := c_eq (a := r_34.toInt) (b := 0) rfl (by decide) k_39
                refine lv_iconst (v := 0) hx hb dX10_aLine_101 (by decide) ?_
                have lit_39 : (0 : Int32).toInt = 0 := by decide
                exact W.zret hx hb hr (z_nar (by first | assumption | decide | exact z_of (by omega))) (fun t ht hW => ⟨⟨_, _, rfl, rfl, x_8, x_9, x_35, x_36, x_37, x11, f_38, hq9, hq8, (by first | omega | assumption | rfl | decide), (by first | omega | assumption | rfl | decide), (by first | omega | assumption | rfl | decide), (fun h9 => by omega), by rw [ht]; exact hP, va_K.moved hW.alike hK, hD⟩, hS.F ht⟩) hS.2.2 dX10_aLine_102
              · have tk_39 := c_ne (a := r_34.toInt) (b := 0) rfl (by decide) k_39
                refine lv_goto (tgt := 103) hx hb dX10_aLine_91 (by decide) ?_
                refine lv_aload_n hx hb dX10_aLine_103 rfl (lv_at hl 1 rfl) ?_
                have hFc := m_free hD hS hA
                refine va_callv (va_runV (As := []) (rest := []) ⟨hx, hb, hml, hown, hts⟩ (m_ahead l dC dI ad kc x0 x1 x2 x3 x4 x_8 x_9 x_35 x_36 x_37 x10 x11 x12 x13 x14 x15 x16 x17 x18 x19 x20 x21 f_38 f1 f2 f3 f4 f5 f6 f7 f8 f9 f10 f11 f12 f13 f14 f15 f16 f17 f18 f19 f20 f21 fL fN fP fM fO H.size (by first | omega | assumption | decide | (have l0 := Int32.toInt_zero; omega)) (by first | omega | assumption | decide | (have l0 := Int32.toInt_zero; omega)) (by first | omega | assumption | decide | (have l0 := Int32.toInt_zero; omega))) (cwV 0 hts mg_X10_aLinem_X10_ahead_184 rfl rfl rfl (by decide +kernel) ⟨Nat.le_of_ble_eq_true rfl, Nat.le_of_ble_eq_true rfl⟩) ⟨fun a U g mk q => by obtain ⟨q0, q1, qP, qK, qD⟩ := q; exact ⟨q0, q1, qP, va_K.moved (u := U) (U := U.calling g mk a) (Vm.Alike.refl U.vm) qK, qD⟩, va_recv hK hP (ci := 10) (q0 := 0) rfl rfl, fun U hU hW => ⟨rfl, by rw [hU], by rw [hU]; exact hP, va_K.moved hW.alike hK, hD.weaken (fun _ _ _ _ => trivial)⟩⟩ rfl rfl hl.1 rfl (lv_room (Nat.le_of_ble_eq_true rfl)) dX10_aLine_104 ⟨Nat.le_of_ble_eq_true rfl, Nat.le_of_ble_eq_true rfl⟩) hS (fun q _ h => hFc q h) hFc (fun u t H1 locs ht hvm hw hB hz1 hk1 hS => ?_)
                obtain ⟨x_42, x_43, x_44, hr_41_0, hr_41_1, hr_41_2, hr_41_3, hr_41_4, hP, hK1, hD1⟩ := hB
                rw [ht] at hP
                have hD := hD1.weaken (fun k q _ h => hFc q.1 h)
                clear hz1 hk1 hFc hD1 hK1 hvm
                generalize H1 = H at hP hS ⊢
                have rg_x_42 := i_rng x_42
                have rg_x_43 := i_rng x_43
                have rg_x_44 := i_rng x_44
                have hP : va_P (dC, dI) vwCl (mW ad kc x0 x1 x2 x3 x4 x_42 x_43 x_44 x_36 x_37 x10 x11 x12 x13 x14 x15 x16 x17 x18 x19 x20 x21 f_38 f1 f2 f3 f4 f5 f6 f7 f8 f9 f10 f11 f12 f13 f14 f15 f16 f17 f18 f19 f20 f21 fL fN fP fM fO) H := hP
                have hD : va_D A (mW ad kc x0 x1 x2 x3 x4 x_42 x_43 x_44 x_36 x_37 x10 x11 x12 x13 x14 x15 x16 x17 x18 x19 x20 x21 f_38 f1 f2 f3 f4 f5 f6 f7 f8 f9 f10 f11 f12 f13 f14 f15 f16 f17 f18 f19 f20 f21 fL fN fP fM fO) := hD
                refine lv_aload_n hx hb dX10_aLine_107 rfl (lv_at hl 1 rfl) ?_
                refine va_get (D := (dC, dI)) (ci := 10) (v := .int x_42) (C := RX10) (T := TX10) (N := 48) hx hb hts fin_X10_aLinem_X10 hown hK hP 0 rfl rfl 8 (by decide) (hts (.fieldLink RX10 120 "PatternGateModel" "token" "I") (List.mem_of_getElem? (i := 9) (by decide +kernel))) (fun _ h9 => h9) rfl dX10_aLine_108 ?_
                refine lv_iconst (v := 4) hx hb dX10_aLine_111 (by decide) ?_
                refine lv_icmp_eq (tgt := 121) hx hb dX10_aLine_112 (by decide) (fun k_45 => ?_) (fun k_45 => ?_)
                · have tk_45 := c_eq (a := x_42.toInt) (b := 4) rfl (by decide) k_45
                  refine lv_aload_n hx hb dX10_aLine_121 rfl (lv_at hl 1 rfl) ?_
                  have hFc := m_free hD hS hA
                  refine va_callv (va_runV (As := []) (rest := []) ⟨hx, hb, hml, hown, hts⟩ (m_ahead l dC dI ad kc x0 x1 x2 x3 x4 x_42 x_43 x_44 x_36 x_37 x10 x11 x12 x13 x14 x15 x16 x17 x18 x19 x20 x21 f_38 f1 f2 f3 f4 f5 f6 f7 f8 f9 f10 f11 f12 f13 f14 f15 f16 f17 f18 f19 f20 f21 fL fN fP fM fO H.size (by first | omega | assumption | decide | (have l0 := Int32.toInt_zero; omega)) (by first | omega | assumption | decide | (have l0 := Int32.toInt_zero; omega)) (by first | omega | assumption | decide | (have l0 := Int32.toInt_zero; omega))) (cwV 0 hts mg_X10_aLinem_X10_ahead_184 rfl rfl rfl (by decide +kernel) ⟨Nat.le_of_ble_eq_true rfl, Nat.le_of_ble_eq_true rfl⟩) ⟨fun a U g mk q => by obtain ⟨q0, q1, qP, qK, qD⟩ := q; exact ⟨q0, q1, qP, va_K.moved (u := U) (U := U.calling g mk a) (Vm.Alike.refl U.vm) qK, qD⟩, va_recv hK hP (ci := 10) (q0 := 0) rfl rfl, fun U hU hW => ⟨rfl, by rw [hU], by rw [hU]; exact hP, va_K.moved hW.alike hK, hD.weaken (fun _ _ _ _ => trivial)⟩⟩ rfl rfl hl.1 rfl (lv_room (Nat.le_of_ble_eq_true rfl)) dX10_aLine_122 ⟨Nat.le_of_ble_eq_true rfl, Nat.le_of_ble_eq_true rfl⟩) hS (fun q _ h => hFc q h) hFc (fun u t H1 locs ht hvm hw hB hz1 hk1 hS => ?_)
                  obtain ⟨x_47, x_48, x_49, hr_46_0, hr_46_1, hr_46_2, hr_46_3, hr_46_4, hP, hK1, hD1⟩ := hB
                  rw [ht] at hP
                  have hD := hD1.weaken (fun k q _ h => hFc q.1 h)
                  clear hz1 hk1 hFc hD1 hK1 hvm
                  generalize H1 = H at hP hS ⊢
                  have rg_x_47 := i_rng x_47
                  have rg_x_48 := i_rng x_48
                  have rg_x_49 := i_rng x_49
                  have hP : va_P (dC, dI) vwCl (mW ad kc x0 x1 x2 x3 x4 x_47 x_48 x_49 x_36 x_37 x10 x11 x12 x13 x14 x15 x16 x17 x18 x19 x20 x21 f_38 f1 f2 f3 f4 f5 f6 f7 f8 f9 f10 f11 f12 f13 f14 f15 f16 f17 f18 f19 f20 f21 fL fN fP fM fO) H := hP
                  have hD : va_D A (mW ad kc x0 x1 x2 x3 x4 x_47 x_48 x_49 x_36 x_37 x10 x11 x12 x13 x14 x15 x16 x17 x18 x19 x20 x21 f_38 f1 f2 f3 f4 f5 f6 f7 f8 f9 f10 f11 f12 f13 f14 f15 f16 f17 f18 f19 f20 f21 fL fN fP fM fO) := hD
                  refine lv_iconst (v := 1) hx hb dX10_aLine_125 (by decide) ?_
                  have lit_49 : (1 : Int32).toInt = 1 := by decide
                  exact W.zret hx hb hr (z_nar (by first | assumption | decide | exact z_of (by omega))) (fun t ht hW => ⟨⟨_, _, rfl, rfl, x_47, x_48, x_49, x_36, x_37, x11, f_38, hq9, hq8, (by first | omega | assumption | rfl | decide), (by first | omega | assumption | rfl | decide), (by first | omega | assumption | rfl | decide), (fun h9 => by omega), by rw [ht]; exact hP, va_K.moved hW.alike hK, hD⟩, hS.F ht⟩) hS.2.2 dX10_aLine_126
                · have tk_45 := c_ne (a := x_42.toInt) (b := 4) rfl (by decide) k_45
                  refine lv_aload_n hx hb dX10_aLine_115 rfl (lv_at hl 1 rfl) ?_
                  refine lv_iconst (v := 2) hx hb dX10_aLine_116 (by decide) ?_
                  have hFc := m_free hD hS hA
                  refine va_calli (va_runV (As := [.int 2]) (rest := []) ⟨hx, hb, hml, hown, hts⟩ (m_fails l dC dI ad kc x0 x1 x2 x3 x4 x_42 x_43 x_44 x_36 x_37 x10 x11 x12 x13 x14 x15 x16 x17 x18 x19 x20 x21 f_38 f1 f2 f3 f4 f5 f6 f7 f8 f9 f10 f11 f12 f13 f14 f15 f16 f17 f18 f19 f20 f21 fL fN fP fM fO H.size 2 ) (cwV 1 hts mg_X10_aLinem_X10_fails_181 rfl rfl rfl (by decide +kernel) ⟨Nat.le_of_ble_eq_true rfl, Nat.le_of_ble_eq_true rfl⟩) ⟨fun a U g mk q => by obtain ⟨q0, q1, qP, qK, qD⟩ := q; exact ⟨q0, q1, qP, va_K.moved (u := U) (U := U.calling g mk a) (Vm.Alike.refl U.vm) qK, qD⟩, va_recv hK hP (ci := 10) (q0 := 0) rfl rfl, fun U hU hW => ⟨rfl, by rw [hU], by rw [hU]; exact hP, va_K.moved hW.alike hK, hD.weaken (fun _ _ _ _ => trivial)⟩⟩ rfl rfl hl.1 rfl (lv_room (Nat.le_of_ble_eq_true rfl)) dX10_aLine_117 ⟨Nat.le_of_ble_eq_true rfl, Nat.le_of_ble_eq_true rfl⟩) hS (fun q _ h => hFc q h) hFc (fun r_51 u t H1 locs ht hvm hw hB hz1 hk1 hS => ?_)
                  subst hw
                  obtain ⟨x_52, x_53, hr_51_0, hP, hK1, hD1⟩ := hB
                  rw [ht] at hP
                  have hD := hD1.weaken (fun k q _ h => hFc q.1 h)
                  clear hz1 hk1 hFc hD1 hK1 hvm
                  generalize H1 = H at hP hS ⊢
                  have rg_x_52 := i_rng x_52
                  have rg_x_53 := i_rng x_53
                  have rg_r_51 := i_rng r_51
                  have hP : va_P (dC, dI) vwCl (mW ad kc x0 x1 x2 x3 x4 x_42 x_43 x_44 x_52 x_53 x10 x11 x12 x13 x14 x15 x16 x17 x18 x19 x20 x21 f_38 f1 f2 f3 f4 f5 f6 f7 f8 f9 f10 f11 f12 f13 f14 f15 f16 f17 f18 f19 f20 f21 fL fN fP fM fO) H := hP
                  have hD : va_D A (mW ad kc x0 x1 x2 x3 x4 x_42 x_43 x_44 x_52 x_53 x10 x11 x12 x13 x14 x15 x16 x17 x18 x19 x20 x21 f_38 f1 f2 f3 f4 f5 f6 f7 f8 f9 f10 f11 f12 f13 f14 f15 f16 f17 f18 f19 f20 f21 fL fN fP fM fO) := hD
                  exact W.zret hx hb hr (z_nar (by first | assumption | decide | exact z_of (by omega))) (fun t ht hW => ⟨⟨_, _, rfl, rfl, x_42, x_43, x_44, x_52, x_53, x11, f_38, hq9, hq8, (by first | omega | assumption | rfl | decide), (by first | omega | assumption | rfl | decide), (by first | omega | assumption | rfl | decide), (fun h9 => by omega), by rw [ht]; exact hP, va_K.moved hW.alike hK, hD⟩, hS.F ht⟩) hS.2.2 dX10_aLine_120
          · have tk_11 := c_ne (a := x_8.toInt) (b := 3) rfl (by decide) k_11
            refine lv_aload_n hx hb dX10_aLine_74 rfl (lv_at hl 1 rfl) ?_
            refine lv_iconst (v := 2) hx hb dX10_aLine_75 (by decide) ?_
            have hFc := m_free hD hS hA
            refine va_calli (va_runV (As := [.int 2]) (rest := []) ⟨hx, hb, hml, hown, hts⟩ (m_fails l dC dI ad kc x0 x1 x2 x3 x4 x_8 x_9 x_10 x8 x9 x10 x11 x12 x13 x14 x15 x16 x17 x18 x19 x20 x21 f0 f1 f2 f3 f4 f5 f6 f7 f8 f9 f10 f11 f12 f13 f14 f15 f16 f17 f18 f19 f20 f21 fL fN fP fM fO H.size 2 ) (cwV 1 hts mg_X10_aLinem_X10_fails_181 rfl rfl rfl (by decide +kernel) ⟨Nat.le_of_ble_eq_true rfl, Nat.le_of_ble_eq_true rfl⟩) ⟨fun a U g mk q => by obtain ⟨q0, q1, qP, qK, qD⟩ := q; exact ⟨q0, q1, qP, va_K.moved (u := U) (U := U.calling g mk a) (Vm.Alike.refl U.vm) qK, qD⟩, va_recv hK hP (ci := 10) (q0 := 0) rfl rfl, fun U hU hW => ⟨rfl, by rw [hU], by rw [hU]; exact hP, va_K.moved hW.alike hK, hD.weaken (fun _ _ _ _ => trivial)⟩⟩ rfl rfl hl.1 rfl (lv_room (Nat.le_of_ble_eq_true rfl)) dX10_aLine_76 ⟨Nat.le_of_ble_eq_true rfl, Nat.le_of_ble_eq_true rfl⟩) hS (fun q _ h => hFc q h) hFc (fun r_54 u t H1 locs ht hvm hw hB hz1 hk1 hS => ?_)
            subst hw
            obtain ⟨x_55, x_56, hr_54_0, hP, hK1, hD1⟩ := hB
            rw [ht] at hP
            have hD := hD1.weaken (fun k q _ h => hFc q.1 h)
            clear hz1 hk1 hFc hD1 hK1 hvm
            generalize H1 = H at hP hS ⊢
            have rg_x_55 := i_rng x_55
            have rg_x_56 := i_rng x_56
            have rg_r_54 := i_rng r_54
            have hP : va_P (dC, dI) vwCl (mW ad kc x0 x1 x2 x3 x4 x_8 x_9 x_10 x_55 x_56 x10 x11 x12 x13 x14 x15 x16 x17 x18 x19 x20 x21 f0 f1 f2 f3 f4 f5 f6 f7 f8 f9 f10 f11 f12 f13 f14 f15 f16 f17 f18 f19 f20 f21 fL fN fP fM fO) H := hP
            have hD : va_D A (mW ad kc x0 x1 x2 x3 x4 x_8 x_9 x_10 x_55 x_56 x10 x11 x12 x13 x14 x15 x16 x17 x18 x19 x20 x21 f0 f1 f2 f3 f4 f5 f6 f7 f8 f9 f10 f11 f12 f13 f14 f15 f16 f17 f18 f19 f20 f21 fL fN fP fM fO) := hD
            exact W.zret hx hb hr (z_nar (by first | assumption | decide | exact z_of (by omega))) (fun t ht hW => ⟨⟨_, _, rfl, rfl, x_8, x_9, x_10, x_55, x_56, x11, f0, q0, (fun _ _ => rfl), (by first | omega | assumption | rfl | decide), (by first | omega | assumption | rfl | decide), (by first | omega | assumption | rfl | decide), (fun h9 => by omega), by rw [ht]; exact hP, va_K.moved hW.alike hK, hD⟩, hS.F ht⟩) hS.2.2 dX10_aLine_79
        · have tk_6 := c_eq (a := y_4.toInt) (b := 8) rfl (by decide) k_6
          refine lv_aload_n hx hb dX10_aLine_56 rfl (lv_at hl 1 rfl) ?_
          refine lv_iconst (v := 3) hx hb dX10_aLine_57 (by decide) ?_
          have hFc := m_free hD hS hA
          refine va_calli (va_runV (As := [.int 3]) (rest := []) ⟨hx, hb, hml, hown, hts⟩ (m_fails l dC dI ad kc x0 x1 x2 x3 x4 x5 x6 x7 x8 x9 x10 x11 x12 x13 x14 x15 x16 x17 x18 x19 x20 x21 f0 f1 f2 f3 f4 f5 f6 f7 f8 f9 f10 f11 f12 f13 f14 f15 f16 f17 f18 f19 f20 f21 fL fN fP fM fO H.size 3 ) (cwV 1 hts mg_X10_aLinem_X10_fails_181 rfl rfl rfl (by decide +kernel) ⟨Nat.le_of_ble_eq_true rfl, Nat.le_of_ble_eq_true rfl⟩) ⟨fun a U g mk q => by obtain ⟨q0, q1, qP, qK, qD⟩ := q; exact ⟨q0, q1, qP, va_K.moved (u := U) (U := U.calling g mk a) (Vm.Alike.refl U.vm) qK, qD⟩, va_recv hK hP (ci := 10) (q0 := 0) rfl rfl, fun U hU hW => ⟨rfl, by rw [hU], by rw [hU]; exact hP, va_K.moved hW.alike hK, hD.weaken (fun _ _ _ _ => trivial)⟩⟩ rfl rfl hl.1 rfl (lv_room (Nat.le_of_ble_eq_true rfl)) dX10_aLine_58 ⟨Nat.le_of_ble_eq_true rfl, Nat.le_of_ble_eq_true rfl⟩) hS (fun q _ h => hFc q h) hFc (fun r_57 u t H1 locs ht hvm hw hB hz1 hk1 hS => ?_)
          subst hw
          obtain ⟨x_58, x_59, hr_57_0, hP, hK1, hD1⟩ := hB
          rw [ht] at hP
          have hD := hD1.weaken (fun k q _ h => hFc q.1 h)
          clear hz1 hk1 hFc hD1 hK1 hvm
          generalize H1 = H at hP hS ⊢
          have rg_x_58 := i_rng x_58
          have rg_x_59 := i_rng x_59
          have rg_r_57 := i_rng r_57
          have hP : va_P (dC, dI) vwCl (mW ad kc x0 x1 x2 x3 x4 x5 x6 x7 x_58 x_59 x10 x11 x12 x13 x14 x15 x16 x17 x18 x19 x20 x21 f0 f1 f2 f3 f4 f5 f6 f7 f8 f9 f10 f11 f12 f13 f14 f15 f16 f17 f18 f19 f20 f21 fL fN fP fM fO) H := hP
          have hD : va_D A (mW ad kc x0 x1 x2 x3 x4 x5 x6 x7 x_58 x_59 x10 x11 x12 x13 x14 x15 x16 x17 x18 x19 x20 x21 f0 f1 f2 f3 f4 f5 f6 f7 f8 f9 f10 f11 f12 f13 f14 f15 f16 f17 f18 f19 f20 f21 fL fN fP fM fO) := hD
          exact W.zret hx hb hr (z_nar (by first | assumption | decide | exact z_of (by omega))) (fun t ht hW => ⟨⟨_, _, rfl, rfl, x5, x6, x7, x_58, x_59, x11, f0, q0, (fun _ _ => rfl), (by first | omega | assumption | rfl | decide), (by first | omega | assumption | rfl | decide), (by first | omega | assumption | rfl | decide), (fun h9 => by omega), by rw [ht]; exact hP, va_K.moved hW.alike hK, hD⟩, hS.F ht⟩) hS.2.2 dX10_aLine_61
      · have tk_5 := c_ne (a := r_1.toInt) (b := 0) rfl (by decide) k_5
        refine lv_bipush (v := 10) hx hb dX10_aLine_46 (by decide) ?_
        refine lv_goto (tgt := 53) hx hb dX10_aLine_48 (by decide) ?_
        refine lv_icmp_ne (tgt := 62) hx hb dX10_aLine_53 (by decide) (fun k_60 => ?_) (fun k_60 => ?_)
        · have tk_60 := c_ne (a := y_4.toInt) (b := 10) rfl (by decide) k_60
          refine lv_aload_n hx hb dX10_aLine_62 rfl (lv_at hl 1 rfl) ?_
          have hFc := m_free hD hS hA
          refine va_callv (va_runV (As := []) (rest := []) ⟨hx, hb, hml, hown, hts⟩ (m_ahead l dC dI ad kc x0 x1 x2 x3 x4 x5 x6 x7 x8 x9 x10 x11 x12 x13 x14 x15 x16 x17 x18 x19 x20 x21 f0 f1 f2 f3 f4 f5 f6 f7 f8 f9 f10 f11 f12 f13 f14 f15 f16 f17 f18 f19 f20 f21 fL fN fP fM fO H.size (by first | omega | assumption | decide | (have l0 := Int32.toInt_zero; omega)) (by first | omega | assumption | decide | (have l0 := Int32.toInt_zero; omega)) (by first | omega | assumption | decide | (have l0 := Int32.toInt_zero; omega))) (cwV 0 hts mg_X10_aLinem_X10_ahead_184 rfl rfl rfl (by decide +kernel) ⟨Nat.le_of_ble_eq_true rfl, Nat.le_of_ble_eq_true rfl⟩) ⟨fun a U g mk q => by obtain ⟨q0, q1, qP, qK, qD⟩ := q; exact ⟨q0, q1, qP, va_K.moved (u := U) (U := U.calling g mk a) (Vm.Alike.refl U.vm) qK, qD⟩, va_recv hK hP (ci := 10) (q0 := 0) rfl rfl, fun U hU hW => ⟨rfl, by rw [hU], by rw [hU]; exact hP, va_K.moved hW.alike hK, hD.weaken (fun _ _ _ _ => trivial)⟩⟩ rfl rfl hl.1 rfl (lv_room (Nat.le_of_ble_eq_true rfl)) dX10_aLine_63 ⟨Nat.le_of_ble_eq_true rfl, Nat.le_of_ble_eq_true rfl⟩) hS (fun q _ h => hFc q h) hFc (fun u t H1 locs ht hvm hw hB hz1 hk1 hS => ?_)
          obtain ⟨x_62, x_63, x_64, hr_61_0, hr_61_1, hr_61_2, hr_61_3, hr_61_4, hP, hK1, hD1⟩ := hB
          rw [ht] at hP
          have hD := hD1.weaken (fun k q _ h => hFc q.1 h)
          clear hz1 hk1 hFc hD1 hK1 hvm
          generalize H1 = H at hP hS ⊢
          have rg_x_62 := i_rng x_62
          have rg_x_63 := i_rng x_63
          have rg_x_64 := i_rng x_64
          have hP : va_P (dC, dI) vwCl (mW ad kc x0 x1 x2 x3 x4 x_62 x_63 x_64 x8 x9 x10 x11 x12 x13 x14 x15 x16 x17 x18 x19 x20 x21 f0 f1 f2 f3 f4 f5 f6 f7 f8 f9 f10 f11 f12 f13 f14 f15 f16 f17 f18 f19 f20 f21 fL fN fP fM fO) H := hP
          have hD : va_D A (mW ad kc x0 x1 x2 x3 x4 x_62 x_63 x_64 x8 x9 x10 x11 x12 x13 x14 x15 x16 x17 x18 x19 x20 x21 f0 f1 f2 f3 f4 f5 f6 f7 f8 f9 f10 f11 f12 f13 f14 f15 f16 f17 f18 f19 f20 f21 fL fN fP fM fO) := hD
          refine lv_aload_n hx hb dX10_aLine_66 rfl (lv_at hl 1 rfl) ?_
          refine va_get (D := (dC, dI)) (ci := 10) (v := .int x_62) (C := RX10) (T := TX10) (N := 48) hx hb hts fin_X10_aLinem_X10 hown hK hP 0 rfl rfl 8 (by decide) (hts (.fieldLink RX10 120 "PatternGateModel" "token" "I") (List.mem_of_getElem? (i := 9) (by decide +kernel))) (fun _ h9 => h9) rfl dX10_aLine_67 ?_
          refine lv_iconst (v := 3) hx hb dX10_aLine_70 (by decide) ?_
          refine lv_icmp_eq (tgt := 80) hx hb dX10_aLine_71 (by decide) (fun k_65 => ?_) (fun k_65 => ?_)
          · have tk_65 := c_eq (a := x_62.toInt) (b := 3) rfl (by decide) k_65
            refine lv_iload_n hx hb dX10_aLine_80 rfl (lv_at hl 0 rfl) ?_
            refine lv_if_eq (tgt := 94) hx hb dX10_aLine_81 (by decide) (fun k_66 => ?_) (fun k_66 => ?_)
            · have tk_66 := c_eq (a := r_1.toInt) (b := 0) rfl (by decide) k_66
              refine lv_aload_n hx hb dX10_aLine_94 rfl (lv_at hl 1 rfl) ?_
              have hFc := m_free hD hS hA
              refine va_calli (va_runV (As := []) (rest := []) ⟨hx, hb, hml, hown, hts⟩ (m_patternQuote l dC dI ad kc x0 x1 x2 x3 x4 x_62 x_63 x_64 x8 x9 x10 x11 x12 x13 x14 x15 x16 x17 x18 x19 x20 x21 f0 f1 f2 f3 f4 f5 f6 f7 f8 f9 f10 f11 f12 f13 f14 f15 f16 f17 f18 f19 f20 f21 fL fN fP fM fO H.size (by first | omega | assumption | decide | (have l0 := Int32.toInt_zero; omega)) (by first | omega | assumption | decide | (have l0 := Int32.toInt_zero; omega)) (by first | omega | assumption | decide | (have l0 := Int32.toInt_zero; omega)) (by first | omega | assumption | decide | (have l0 := Int32.toInt_zero; omega)) (by first | omega | assumption | decide | (have l0 := Int32.toInt_zero; omega))) (cwV 0 hts mg_X10_aLinem_X10_patternQuote_190 rfl rfl rfl (by decide +kernel) ⟨Nat.le_of_ble_eq_true rfl, Nat.le_of_ble_eq_true rfl⟩) ⟨fun a U g mk q => by obtain ⟨q0, q1, qP, qK, qD⟩ := q; exact ⟨q0, q1, qP, va_K.moved (u := U) (U := U.calling g mk a) (Vm.Alike.refl U.vm) qK, qD⟩, va_recv hK hP (ci := 10) (q0 := 0) rfl rfl, fun U hU hW => ⟨rfl, by rw [hU], by rw [hU]; exact hP, va_K.moved hW.alike hK, hD.weaken (fun _ _ _ _ => trivial)⟩⟩ rfl rfl hl.1 rfl (lv_room (Nat.le_of_ble_eq_true rfl)) dX10_aLine_95 ⟨Nat.le_of_ble_eq_true rfl, Nat.le_of_ble_eq_true rfl⟩) hS (fun q _ h => hFc q h) hFc (fun r_67 u t H1 locs ht hvm hw hB hz1 hk1 hS => ?_)
              subst hw
              obtain ⟨x_68, x_69, x_70, x_71, f_72, hr_67_0, hr_67_1, hr_67_2, hr_67_3, hr_67_4, hP, hK1, hD1⟩ := hB
              rw [ht] at hP
              have hD := hD1.weaken (fun k q _ h => hFc q.1 h)
              clear hz1 hk1 hFc hD1 hK1 hvm
              generalize H1 = H at hP hS ⊢
              have rg_x_68 := i_rng x_68
              have rg_x_69 := i_rng x_69
              have rg_x_70 := i_rng x_70
              have rg_x_71 := i_rng x_71
              have rg_r_67 := i_rng r_67
              have hP : va_P (dC, dI) vwCl (mW ad kc x0 x1 x2 x3 x4 x_62 x_63 x_68 x_69 x_70 x10 x_71 x12 x13 x14 x15 x16 x17 x18 x19 x20 x21 f_72 f1 f2 f3 f4 f5 f6 f7 f8 f9 f10 f11 f12 f13 f14 f15 f16 f17 f18 f19 f20 f21 fL fN fP fM fO) H := hP
              have hD : va_D A (mW ad kc x0 x1 x2 x3 x4 x_62 x_63 x_68 x_69 x_70 x10 x_71 x12 x13 x14 x15 x16 x17 x18 x19 x20 x21 f_72 f1 f2 f3 f4 f5 f6 f7 f8 f9 f10 f11 f12 f13 f14 f15 f16 f17 f18 f19 f20 f21 fL fN fP fM fO) := hD
              have hq9 := hr_67_0
              have hq8 := hr_67_1
              refine lv_if_ne (tgt := 103) hx hb dX10_aLine_98 (by decide) (fun k_73 => ?_) (fun k_73 => ?_)
              · have tk_73 := c_ne (a := r_67.toInt) (b := 0) rfl (by decide) k_73
                refine lv_aload_n hx hb dX10_aLine_103 rfl (lv_at hl 1 rfl) ?_
                have hFc := m_free hD hS hA
                refine va_callv (va_runV (As := []) (rest := []) ⟨hx, hb, hml, hown, hts⟩ (m_ahead l dC dI ad kc x0 x1 x2 x3 x4 x_62 x_63 x_68 x_69 x_70 x10 x_71 x12 x13 x14 x15 x16 x17 x18 x19 x20 x21 f_72 f1 f2 f3 f4 f5 f6 f7 f8 f9 f10 f11 f12 f13 f14 f15 f16 f17 f18 f19 f20 f21 fL fN fP fM fO H.size (by first | omega | assumption | decide | (have l0 := Int32.toInt_zero; omega)) (by first | omega | assumption | decide | (have l0 := Int32.toInt_zero; omega)) (by first | omega | assumption | decide | (have l0 := Int32.toInt_zero; omega))) (cwV 0 hts mg_X10_aLinem_X10_ahead_184 rfl rfl rfl (by decide +kernel) ⟨Nat.le_of_ble_eq_true rfl, Nat.le_of_ble_eq_true rfl⟩) ⟨fun a U g mk q => by obtain ⟨q0, q1, qP, qK, qD⟩ := q; exact ⟨q0, q1, qP, va_K.moved (u := U) (U := U.calling g mk a) (Vm.Alike.refl U.vm) qK, qD⟩, va_recv hK hP (ci := 10) (q0 := 0) rfl rfl, fun U hU hW => ⟨rfl, by rw [hU], by rw [hU]; exact hP, va_K.moved hW.alike hK, hD.weaken (fun _ _ _ _ => trivial)⟩⟩ rfl rfl hl.1 rfl (lv_room (Nat.le_of_ble_eq_true rfl)) dX10_aLine_104 ⟨Nat.le_of_ble_eq_true rfl, Nat.le_of_ble_eq_true rfl⟩) hS (fun q _ h => hFc q h) hFc (fun u t H1 locs ht hvm hw hB hz1 hk1 hS => ?_)
                obtain ⟨x_75, x_76, x_77, hr_74_0, hr_74_1, hr_74_2, hr_74_3, hr_74_4, hP, hK1, hD1⟩ := hB
                rw [ht] at hP
                have hD := hD1.weaken (fun k q _ h => hFc q.1 h)
                clear hz1 hk1 hFc hD1 hK1 hvm
                generalize H1 = H at hP hS ⊢
                have rg_x_75 := i_rng x_75
                have rg_x_76 := i_rng x_76
                have rg_x_77 := i_rng x_77
                have hP : va_P (dC, dI) vwCl (mW ad kc x0 x1 x2 x3 x4 x_75 x_76 x_77 x_69 x_70 x10 x_71 x12 x13 x14 x15 x16 x17 x18 x19 x20 x21 f_72 f1 f2 f3 f4 f5 f6 f7 f8 f9 f10 f11 f12 f13 f14 f15 f16 f17 f18 f19 f20 f21 fL fN fP fM fO) H := hP
                have hD : va_D A (mW ad kc x0 x1 x2 x3 x4 x_75 x_76 x_77 x_69 x_70 x10 x_71 x12 x13 x14 x15 x16 x17 x18 x19 x20 x21 f_72 f1 f2 f3 f4 f5 f6 f7 f8 f9 f10 f11 f12 f13 f14 f15 f16 f17 f18 f19 f20 f21 fL fN fP fM fO) := hD
                refine lv_aload_n hx hb dX10_aLine_107 rfl (lv_at hl 1 rfl) ?_
                refine va_get (D := (dC, dI)) (ci := 10) (v := .int x_75) (C := RX10) (T := TX10) (N := 48) hx hb hts fin_X10_aLinem_X10 hown hK hP 0 rfl rfl 8 (by decide) (hts (.fieldLink RX10 120 "PatternGateModel" "token" "I") (List.mem_of_getElem? (i := 9) (by decide +kernel))) (fun _ h9 => h9) rfl dX10_aLine_108 ?_
                refine lv_iconst (v := 4) hx hb dX10_aLine_111 (by decide) ?_
                refine lv_icmp_eq (tgt := 121) hx hb dX10_aLine_112 (by decide) (fun k_78 => ?_) (fun k_78 => ?_)
                · have tk_78 := c_eq (a := x_75.toInt) (b := 4) rfl (by decide) k_78
                  refine lv_aload_n hx hb dX10_aLine_121 rfl (lv_at hl 1 rfl) ?_
                  have hFc := m_free hD hS hA
                  refine va_callv (va_runV (As := []) (rest := []) ⟨hx, hb, hml, hown, hts⟩ (m_ahead l dC dI ad kc x0 x1 x2 x3 x4 x_75 x_76 x_77 x_69 x_70 x10 x_71 x12 x13 x14 x15 x16 x17 x18 x19 x20 x21 f_72 f1 f2 f3 f4 f5 f6 f7 f8 f9 f10 f11 f12 f13 f14 f15 f16 f17 f18 f19 f20 f21 fL fN fP fM fO H.size (by first | omega | assumption | decide | (have l0 := Int32.toInt_zero; omega)) (by first | omega | assumption | decide | (have l0 := Int32.toInt_zero; omega)) (by first | omega | assumption | decide | (have l0 := Int32.toInt_zero; omega))) (cwV 0 hts mg_X10_aLinem_X10_ahead_184 rfl rfl rfl (by decide +kernel) ⟨Nat.le_of_ble_eq_true rfl, Nat.le_of_ble_eq_true rfl⟩) ⟨fun a U g mk q => by obtain ⟨q0, q1, qP, qK, qD⟩ := q; exact ⟨q0, q1, qP, va_K.moved (u := U) (U := U.calling g mk a) (Vm.Alike.refl U.vm) qK, qD⟩, va_recv hK hP (ci := 10) (q0 := 0) rfl rfl, fun U hU hW => ⟨rfl, by rw [hU], by rw [hU]; exact hP, va_K.moved hW.alike hK, hD.weaken (fun _ _ _ _ => trivial)⟩⟩ rfl rfl hl.1 rfl (lv_room (Nat.le_of_ble_eq_true rfl)) dX10_aLine_122 ⟨Nat.le_of_ble_eq_true rfl, Nat.le_of_ble_eq_true rfl⟩) hS (fun q _ h => hFc q h) hFc (fun u t H1 locs ht hvm hw hB hz1 hk1 hS => ?_)
                  obtain ⟨x_80, x_81, x_82, hr_79_0, hr_79_1, hr_79_2, hr_79_3, hr_79_4, hP, hK1, hD1⟩ := hB
                  rw [ht] at hP
                  have hD := hD1.weaken (fun k q _ h => hFc q.1 h)
                  clear hz1 hk1 hFc hD1 hK1 hvm
                  generalize H1 = H at hP hS ⊢
                  have rg_x_80 := i_rng x_80
                  have rg_x_81 := i_rng x_81
                  have rg_x_82 := i_rng x_82
                  have hP : va_P (dC, dI) vwCl (mW ad kc x0 x1 x2 x3 x4 x_80 x_81 x_82 x_69 x_70 x10 x_71 x12 x13 x14 x15 x16 x17 x18 x19 x20 x21 f_72 f1 f2 f3 f4 f5 f6 f7 f8 f9 f10 f11 f12 f13 f14 f15 f16 f17 f18 f19 f20 f21 fL fN fP fM fO) H := hP
                  have hD : va_D A (mW ad kc x0 x1 x2 x3 x4 x_80 x_81 x_82 x_69 x_70 x10 x_71 x12 x13 x14 x15 x16 x17 x18 x19 x20 x21 f_72 f1 f2 f3 f4 f5 f6 f7 f8 f9 f10 f11 f12 f13 f14 f15 f16 f17 f18 f19 f20 f21 fL fN fP fM fO) := hD
                  refine lv_iconst (v := 1) hx hb dX10_aLine_125 (by decide) ?_
                  have lit_82 : (1 : Int32).toInt = 1 := by decide
                  exact W.zret hx hb hr (z_nar (by first | assumption | decide | exact z_of (by omega))) (fun t ht hW => ⟨⟨_, _, rfl, rfl, x_80, x_81, x_82, x_69, x_70, x_71, f_72, hq9, hq8, (by first | omega | assumption | rfl | decide), (by first | omega | assumption | rfl | decide), (by first | omega | assumption | rfl | decide), (fun h9 => by omega), by rw [ht]; exact hP, va_K.moved hW.alike hK, hD⟩, hS.F ht⟩) hS.2.2 dX10_aLine_126
                · have tk_78 := c_ne (a := x_75.toInt) (b := 4) rfl (by decide) k_78
                  refine lv_aload_n hx hb dX10_aLine_115 rfl (lv_at hl 1 rfl) ?_
                  refine lv_iconst (v := 2) hx hb dX10_aLine_116 (by decide) ?_
                  have hFc := m_free hD hS hA
                  refine va_calli (va_runV (As := [.int 2]) (rest := []) ⟨hx, hb, hml, hown, hts⟩ (m_fails l dC dI ad kc x0 x1 x2 x3 x4 x_75 x_76 x_77 x_69 x_70 x10 x_71 x12 x13 x14 x15 x16 x17 x18 x19 x20 x21 f_72 f1 f2 f3 f4 f5 f6 f7 f8 f9 f10 f11 f12 f13 f14 f15 f16 f17 f18 f19 f20 f21 fL fN fP fM fO H.size 2 ) (cwV 1 hts mg_X10_aLinem_X10_fails_181 rfl rfl rfl (by decide +kernel) ⟨Nat.le_of_ble_eq_true rfl, Nat.le_of_ble_eq_true rfl⟩) ⟨fun a U g mk q => by obtain ⟨q0, q1, qP, qK, qD⟩ := q; exact ⟨q0, q1, qP, va_K.moved (u := U) (U := U.calling g mk a) (Vm.Alike.refl U.vm) qK, qD⟩, va_recv hK hP (ci := 10) (q0 := 0) rfl rfl, fun U hU hW => ⟨rfl, by rw [hU], by rw [hU]; exact hP, va_K.moved hW.alike hK, hD.weaken (fun _ _ _ _ => trivial)⟩⟩ rfl rfl hl.1 rfl (lv_room (Nat.le_of_ble_eq_true rfl)) dX10_aLine_117 ⟨Nat.le_of_ble_eq_true rfl, Nat.le_of_ble_eq_true rfl⟩) hS (fun q _ h => hFc q h) hFc (fun r_84 u t H1 locs ht hvm hw hB hz1 hk1 hS => ?_)
                  subst hw
                  obtain ⟨x_85, x_86, hr_84_0, hP, hK1, hD1⟩ := hB
                  rw [ht] at hP
                  have hD := hD1.weaken (fun k q _ h => hFc q.1 h)
                  clear hz1 hk1 hFc hD1 hK1 hvm
                  generalize H1 = H at hP hS ⊢
                  have rg_x_85 := i_rng x_85
                  have rg_x_86 := i_rng x_86
                  have rg_r_84 := i_rng r_84
                  have hP : va_P (dC, dI) vwCl (mW ad kc x0 x1 x2 x3 x4 x_75 x_76 x_77 x_85 x_86 x10 x_71 x12 x13 x14 x15 x16 x17 x18 x19 x20 x21 f_72 f1 f2 f3 f4 f5 f6 f7 f8 f9 f10 f11 f12 f13 f14 f15 f16 f17 f18 f19 f20 f21 fL fN fP fM fO) H := hP
                  have hD : va_D A (mW ad kc x0 x1 x2 x3 x4 x_75 x_76 x_77 x_85 x_86 x10 x_71 x12 x13 x14 x15 x16 x17 x18 x19 x20 x21 f_72 f1 f2 f3 f4 f5 f6 f7 f8 f9 f10 f11 f12 f13 f14 f15 f16 f17 f18 f19 f20 f21 fL fN fP fM fO) := hD
                  exact W.zret hx hb hr (z_nar (by first | assumption | decide | exact z_of (by omega))) (fun t ht hW => ⟨⟨_, _, rfl, rfl, x_75, x_76, x_77, x_85, x_86, x_71, f_72, hq9, hq8, (by first | omega | assumption | rfl | decide), (by first | omega | assumption | rfl | decide), (by first | omega | assumption | rfl | decide), (fun h9 => by omega), by rw [ht]; exact hP, va_K.moved hW.alike hK, hD⟩, hS.F ht⟩) hS.2.2 dX10_aLine_120
              · have tk_73 := c_eq (a := r_67.toInt) (b := 0) rfl (by decide) k_73
                refine lv_iconst (v := 0) hx hb dX10_aLine_101 (by decide) ?_
                have lit_86 : (0 : Int32).toInt = 0 := by decide
                exact W.zret hx hb hr (z_nar (by first | assumption | decide | exact z_of (by omega))) (fun t ht hW => ⟨⟨_, _, rfl, rfl, x_62, x_63, x_68, x_69, x_70, x_71, f_72, hq9, hq8, (by first | omega | assumption | rfl | decide), (by first | omega | assumption | rfl | decide), (by first | omega | assumption | rfl | decide), (fun h9 => by omega), by rw [ht]; exact hP, va_K.moved hW.alike hK, hD⟩, hS.F ht⟩) hS.2.2 dX10_aLine_102
            · have tk_66 := c_ne (a := r_1.toInt) (b := 0) rfl (by decide) k_66
              refine lv_aload_n hx hb dX10_aLine_84 rfl (lv_at hl 1 rfl) ?_
              have hFc := m_free hD hS hA
              refine va_calli (va_runV (As := []) (rest := []) ⟨hx, hb, hml, hown, hts⟩ (m_docQuote l dC dI ad kc x0 x1 x2 x3 x4 x_62 x_63 x_64 x8 x9 x10 x11 x12 x13 x14 x15 x16 x17 x18 x19 x20 x21 f0 f1 f2 f3 f4 f5 f6 f7 f8 f9 f10 f11 f12 f13 f14 f15 f16 f17 f18 f19 f20 f21 fL fN fP fM fO H.size (by first | omega | assumption | decide | (have l0 := Int32.toInt_zero; omega)) (by first | omega | assumption | decide | (have l0 := Int32.toInt_zero; omega)) (by first | omega | assumption | decide | (have l0 := Int32.toInt_zero; omega)) (by first | omega | assumption | decide | (have l0 := Int32.toInt_zero; omega)) (by first | omega | assumption | decide | (have l0 := Int32.toInt_zero; omega))) (cwV 0 hts mg_X10_aLinem_X10_docQuote_187 rfl rfl rfl (by decide +kernel) ⟨Nat.le_of_ble_eq_true rfl, Nat.le_of_ble_eq_true rfl⟩) ⟨fun a U g mk q => by obtain ⟨q0, q1, qP, qK, qD⟩ := q; exact ⟨q0, q1, qP, va_K.moved (u := U) (U := U.calling g mk a) (Vm.Alike.refl U.vm) qK, qD⟩, va_recv hK hP (ci := 10) (q0 := 0) rfl rfl, fun U hU hW => ⟨rfl, by rw [hU], by rw [hU]; exact hP, va_K.moved hW.alike hK, hD.weaken (fun _ _ _ _ => trivial)⟩⟩ rfl rfl hl.1 rfl (lv_room (Nat.le_of_ble_eq_true rfl)) dX10_aLine_85 ⟨Nat.le_of_ble_eq_true rfl, Nat.le_of_ble_eq_true rfl⟩) hS (fun q _ h => hFc q h) hFc (fun r_88 u t H1 locs ht hvm hw hB hz1 hk1 hS => ?_)
              subst hw
              obtain ⟨x_89, x_90, x_91, f_92, hr_88_0, hr_88_1, hr_88_2, hr_88_3, hr_88_4, hP, hK1, hD1⟩ := hB
              rw [ht] at hP
              have hD := hD1.weaken (fun k q _ h => hFc q.1 h)
              clear hz1 hk1 hFc hD1 hK1 hvm
              generalize H1 = H at hP hS ⊢
              have rg_x_89 := i_rng x_89
              have rg_x_90 := i_rng x_90
              have rg_x_91 := i_rng x_91
              have rg_r_88 := i_rng r_88
              have hP : va_P (dC, dI) vwCl (mW ad kc x0 x1 x2 x3 x4 x_62 x_63 x_89 x_90 x_91 x10 x11 x12 x13 x14 x15 x16 x17 x18 x19 x20 x21 f_92 f1 f2 f3 f4 f5 f6 f7 f8 f9 f10 f11 f12 f13 f14 f15 f16 f17 f18 f19 f20 f21 fL fN fP fM fO) H := hP
              have hD : va_D A (mW ad kc x0 x1 x2 x3 x4 x_62 x_63 x_89 x_90 x_91 x10 x11 x12 x13 x14 x15 x16 x17 x18 x19 x20 x21 f_92 f1 f2 f3 f4 f5 f6 f7 f8 f9 f10 f11 f12 f13 f14 f15 f16 f17 f18 f19 f20 f21 fL fN fP fM fO) := hD
              have hq9 := hr_88_0
              have hq8 := hr_88_1
              refine lv_if_eq (tgt := 101) hx hb dX10_aLine_88 (by decide) (fun k_93 => ?_) (fun k_93 => ?_)
              · have tk_93 := c_eq (a := r_88.toInt) (b := 0) rfl (by decide) k_93
                refine lv_iconst (v := 0) hx hb dX10_aLine_101 (by decide) ?_
                have lit_93 : (0 : Int32).toInt = 0 := by decide
                exact W.zret hx hb hr (z_nar (by first | assumption | decide | exact z_of (by omega))) (fun t ht hW => ⟨⟨_, _, rfl, rfl, x_62, x_63, x_89, x_90, x_91, x11, f_92, hq9, hq8, (by first | omega | assumption | rfl | decide), (by first | omega | assumption | rfl | decide), (by first | omega | assumption | rfl | decide), (fun h9 => by omega), by rw [ht]; exact hP, va_K.moved hW.alike hK, hD⟩, hS.F ht⟩) hS.2.2 dX10_aLine_102
              · have tk_93 := c_ne (a := r_88.toInt) (b := 0) rfl (by decide) k_93
                refine lv_goto (tgt := 103) hx hb dX10_aLine_91 (by decide) ?_
                refine lv_aload_n hx hb dX10_aLine_103 rfl (lv_at hl 1 rfl) ?_
                have hFc := m_free hD hS hA
                refine va_callv (va_runV (As := []) (rest := []) ⟨hx, hb, hml, hown, hts⟩ (m_ahead l dC dI ad kc x0 x1 x2 x3 x4 x_62 x_63 x_89 x_90 x_91 x10 x11 x12 x13 x14 x15 x16 x17 x18 x19 x20 x21 f_92 f1 f2 f3 f4 f5 f6 f7 f8 f9 f10 f11 f12 f13 f14 f15 f16 f17 f18 f19 f20 f21 fL fN fP fM fO H.size (by first | omega | assumption | decide | (have l0 := Int32.toInt_zero; omega)) (by first | omega | assumption | decide | (have l0 := Int32.toInt_zero; omega)) (by first | omega | assumption | decide | (have l0 := Int32.toInt_zero; omega))) (cwV 0 hts mg_X10_aLinem_X10_ahead_184 rfl rfl rfl (by decide +kernel) ⟨Nat.le_of_ble_eq_true rfl, Nat.le_of_ble_eq_true rfl⟩) ⟨fun a U g mk q => by obtain ⟨q0, q1, qP, qK, qD⟩ := q; exact ⟨q0, q1, qP, va_K.moved (u := U) (U := U.calling g mk a) (Vm.Alike.refl U.vm) qK, qD⟩, va_recv hK hP (ci := 10) (q0 := 0) rfl rfl, fun U hU hW => ⟨rfl, by rw [hU], by rw [hU]; exact hP, va_K.moved hW.alike hK, hD.weaken (fun _ _ _ _ => trivial)⟩⟩ rfl rfl hl.1 rfl (lv_room (Nat.le_of_ble_eq_true rfl)) dX10_aLine_104 ⟨Nat.le_of_ble_eq_true rfl, Nat.le_of_ble_eq_true rfl⟩) hS (fun q _ h => hFc q h) hFc (fun u t H1 locs ht hvm hw hB hz1 hk1 hS => ?_)
                obtain ⟨x_96, x_97, x_98, hr_95_0, hr_95_1, hr_95_2, hr_95_3, hr_95_4, hP, hK1, hD1⟩ := hB
                rw [ht] at hP
                have hD := hD1.weaken (fun k q _ h => hFc q.1 h)
                clear hz1 hk1 hFc hD1 hK1 hvm
                generalize H1 = H at hP hS ⊢
                have rg_x_96 := i_rng x_96
                have rg_x_97 := i_rng x_97
                have rg_x_98 := i_rng x_98
                have hP : va_P (dC, dI) vwCl (mW ad kc x0 x1 x2 x3 x4 x_96 x_97 x_98 x_90 x_91 x10 x11 x12 x13 x14 x15 x16 x17 x18 x19 x20 x21 f_92 f1 f2 f3 f4 f5 f6 f7 f8 f9 f10 f11 f12 f13 f14 f15 f16 f17 f18 f19 f20 f21 fL fN fP fM fO) H := hP
                have hD : va_D A (mW ad kc x0 x1 x2 x3 x4 x_96 x_97 x_98 x_90 x_91 x10 x11 x12 x13 x14 x15 x16 x17 x18 x19 x20 x21 f_92 f1 f2 f3 f4 f5 f6 f7 f8 f9 f10 f11 f12 f13 f14 f15 f16 f17 f18 f19 f20 f21 fL fN fP fM fO) := hD
                refine lv_aload_n hx hb dX10_aLine_107 rfl (lv_at hl 1 rfl) ?_
                refine va_get (D := (dC, dI)) (ci := 10) (v := .int x_96) (C := RX10) (T := TX10) (N := 48) hx hb hts fin_X10_aLinem_X10 hown hK hP 0 rfl rfl 8 (by decide) (hts (.fieldLink RX10 120 "PatternGateModel" "token" "I") (List.mem_of_getElem? (i := 9) (by decide +kernel))) (fun _ h9 => h9) rfl dX10_aLine_108 ?_
                refine lv_iconst (v := 4) hx hb dX10_aLine_111 (by decide) ?_
                refine lv_icmp_eq (tgt := 121) hx hb dX10_aLine_112 (by decide) (fun k_99 => ?_) (fun k_99 => ?_)
                · have tk_99 := c_eq (a := x_96.toInt) (b := 4) rfl (by decide) k_99
                  refine lv_aload_n hx hb dX10_aLine_121 rfl (lv_at hl 1 rfl) ?_
                  have hFc := m_free hD hS hA
                  refine va_callv (va_runV (As := []) (rest := []) ⟨hx, hb, hml, hown, hts⟩ (m_ahead l dC dI ad kc x0 x1 x2 x3 x4 x_96 x_97 x_98 x_90 x_91 x10 x11 x12 x13 x14 x15 x16 x17 x18 x19 x20 x21 f_92 f1 f2 f3 f4 f5 f6 f7 f8 f9 f10 f11 f12 f13 f14 f15 f16 f17 f18 f19 f20 f21 fL fN fP fM fO H.size (by first | omega | assumption | decide | (have l0 := Int32.toInt_zero; omega)) (by first | omega | assumption | decide | (have l0 := Int32.toInt_zero; omega)) (by first | omega | assumption | decide | (have l0 := Int32.toInt_zero; omega))) (cwV 0 hts mg_X10_aLinem_X10_ahead_184 rfl rfl rfl (by decide +kernel) ⟨Nat.le_of_ble_eq_true rfl, Nat.le_of_ble_eq_true rfl⟩) ⟨fun a U g mk q => by obtain ⟨q0, q1, qP, qK, qD⟩ := q; exact ⟨q0, q1, qP, va_K.moved (u := U) (U := U.calling g mk a) (Vm.Alike.refl U.vm) qK, qD⟩, va_recv hK hP (ci := 10) (q0 := 0) rfl rfl, fun U hU hW => ⟨rfl, by rw [hU], by rw [hU]; exact hP, va_K.moved hW.alike hK, hD.weaken (fun _ _ _ _ => trivial)⟩⟩ rfl rfl hl.1 rfl (lv_room (Nat.le_of_ble_eq_true rfl)) dX10_aLine_122 ⟨Nat.le_of_ble_eq_true rfl, Nat.le_of_ble_eq_true rfl⟩) hS (fun q _ h => hFc q h) hFc (fun u t H1 locs ht hvm hw hB hz1 hk1 hS => ?_)
                  obtain ⟨x_101, x_102, x_103, hr_100_0, hr_100_1, hr_100_2, hr_100_3, hr_100_4, hP, hK1, hD1⟩ := hB
                  rw [ht] at hP
                  have hD := hD1.weaken (fun k q _ h => hFc q.1 h)
                  clear hz1 hk1 hFc hD1 hK1 hvm
                  generalize H1 = H at hP hS ⊢
                  have rg_x_101 := i_rng x_101
                  have rg_x_102 := i_rng x_102
                  have rg_x_103 := i_rng x_103
                  have hP : va_P (dC, dI) vwCl (mW ad kc x0 x1 x2 x3 x4 x_101 x_102 x_103 x_90 x_91 x10 x11 x12 x13 x14 x15 x16 x17 x18 x19 x20 x21 f_92 f1 f2 f3 f4 f5 f6 f7 f8 f9 f10 f11 f12 f13 f14 f15 f16 f17 f18 f19 f20 f21 fL fN fP fM fO) H := hP
                  have hD : va_D A (mW ad kc x0 x1 x2 x3 x4 x_101 x_102 x_103 x_90 x_91 x10 x11 x12 x13 x14 x15 x16 x17 x18 x19 x20 x21 f_92 f1 f2 f3 f4 f5 f6 f7 f8 f9 f10 f11 f12 f13 f14 f15 f16 f17 f18 f19 f20 f21 fL fN fP fM fO) := hD
                  refine lv_iconst (v := 1) hx hb dX10_aLine_125 (by decide) ?_
                  have lit_103 : (1 : Int32).toInt = 1 := by decide
                  exact W.zret hx hb hr (z_nar (by first | assumption | decide | exact z_of (by omega))) (fun t ht hW => ⟨⟨_, _, rfl, rfl, x_101, x_102, x_103, x_90, x_91, x11, f_92, hq9, hq8, (by first | omega | assumption | rfl | decide), (by first | omega | assumption | rfl | decide), (by first | omega | assumption | rfl | decide), (fun h9 => by omega), by rw [ht]; exact hP, va_K.moved hW.alike hK, hD⟩, hS.F ht⟩) hS.2.2 dX10_aLine_126
                · have tk_99 := c_ne (a := x_96.toInt) (b := 4) rfl (by decide) k_99
                  refine lv_aload_n hx hb dX10_aLine_115 rfl (lv_at hl 1 rfl) ?_
                  refine lv_iconst (v := 2) hx hb dX10_aLine_116 (by decide) ?_
                  have hFc := m_free hD hS hA
                  refine va_calli (va_runV (As := [.int 2]) (rest := []) ⟨hx, hb, hml, hown, hts⟩ (m_fails l dC dI ad kc x0 x1 x2 x3 x4 x_96 x_97 x_98 x_90 x_91 x10 x11 x12 x13 x14 x15 x16 x17 x18 x19 x20 x21 f_92 f1 f2 f3 f4 f5 f6 f7 f8 f9 f10 f11 f12 f13 f14 f15 f16 f17 f18 f19 f20 f21 fL fN fP fM fO H.size 2 ) (cwV 1 hts mg_X10_aLinem_X10_fails_181 rfl rfl rfl (by decide +kernel) ⟨Nat.le_of_ble_eq_true rfl, Nat.le_of_ble_eq_true rfl⟩) ⟨fun a U g mk q => by obtain ⟨q0, q1, qP, qK, qD⟩ := q; exact ⟨q0, q1, qP, va_K.moved (u := U) (U := U.calling g mk a) (Vm.Alike.refl U.vm) qK, qD⟩, va_recv hK hP (ci := 10) (q0 := 0) rfl rfl, fun U hU hW => ⟨rfl, by rw [hU], by rw [hU]; exact hP, va_K.moved hW.alike hK, hD.weaken (fun _ _ _ _ => trivial)⟩⟩ rfl rfl hl.1 rfl (lv_room (Nat.le_of_ble_eq_true rfl)) dX10_aLine_117 ⟨Nat.le_of_ble_eq_true rfl, Nat.le_of_ble_eq_true rfl⟩) hS (fun q _ h => hFc q h) hFc (fun r_105 u t H1 locs ht hvm hw hB hz1 hk1 hS => ?_)
                  subst hw
                  obtain ⟨x_106, x_107, hr_105_0, hP, hK1, hD1⟩ := hB
                  rw [ht] at hP
                  have hD := hD1.weaken (fun k q _ h => hFc q.1 h)
                  clear hz1 hk1 hFc hD1 hK1 hvm
                  generalize H1 = H at hP hS ⊢
                  have rg_x_106 := i_rng x_106
                  have rg_x_107 := i_rng x_107
                  have rg_r_105 := i_rng r_105
                  have hP : va_P (dC, dI) vwCl (mW ad kc x0 x1 x2 x3 x4 x_96 x_97 x_98 x_106 x_107 x10 x11 x12 x13 x14 x15 x16 x17 x18 x19 x20 x21 f_92 f1 f2 f3 f4 f5 f6 f7 f8 f9 f10 f11 f12 f13 f14 f15 f16 f17 f18 f19 f20 f21 fL fN fP fM fO) H := hP
                  have hD : va_D A (mW ad kc x0 x1 x2 x3 x4 x_96 x_97 x_98 x_106 x_107 x10 x11 x12 x13 x14 x15 x16 x17 x18 x19 x20 x21 f_92 f1 f2 f3 f4 f5 f6 f7 f8 f9 f10 f11 f12 f13 f14 f15 f16 f17 f18 f19 f20 f21 fL fN fP fM fO) := hD
                  exact W.zret hx hb hr (z_nar (by first | assumption | decide | exact z_of (by omega))) (fun t ht hW => ⟨⟨_, _, rfl, rfl, x_96, x_97, x_98, x_106, x_107, x11, f_92, hq9, hq8, (by first | omega | assumption | rfl | decide), (by first | omega | assumption | rfl | decide), (by first | omega | assumption | rfl | decide), (fun h9 => by omega), by rw [ht]; exact hP, va_K.moved hW.alike hK, hD⟩, hS.F ht⟩) hS.2.2 dX10_aLine_120
          · have tk_65 := c_ne (a := x_62.toInt) (b := 3) rfl (by decide) k_65
            refine lv_aload_n hx hb dX10_aLine_74 rfl (lv_at hl 1 rfl) ?_
            refine lv_iconst (v := 2) hx hb dX10_aLine_75 (by decide) ?_
            have hFc := m_free hD hS hA
            refine va_calli (va_runV (As := [.int 2]) (rest := []) ⟨hx, hb, hml, hown, hts⟩ (m_fails l dC dI ad kc x0 x1 x2 x3 x4 x_62 x_63 x_64 x8 x9 x10 x11 x12 x13 x14 x15 x16 x17 x18 x19 x20 x21 f0 f1 f2 f3 f4 f5 f6 f7 f8 f9 f10 f11 f12 f13 f14 f15 f16 f17 f18 f19 f20 f21 fL fN fP fM fO H.size 2 ) (cwV 1 hts mg_X10_aLinem_X10_fails_181 rfl rfl rfl (by decide +kernel) ⟨Nat.le_of_ble_eq_true rfl, Nat.le_of_ble_eq_true rfl⟩) ⟨fun a U g mk q => by obtain ⟨q0, q1, qP, qK, qD⟩ := q; exact ⟨q0, q1, qP, va_K.moved (u := U) (U := U.calling g mk a) (Vm.Alike.refl U.vm) qK, qD⟩, va_recv hK hP (ci := 10) (q0 := 0) rfl rfl, fun U hU hW => ⟨rfl, by rw [hU], by rw [hU]; exact hP, va_K.moved hW.alike hK, hD.weaken (fun _ _ _ _ => trivial)⟩⟩ rfl rfl hl.1 rfl (lv_room (Nat.le_of_ble_eq_true rfl)) dX10_aLine_76 ⟨Nat.le_of_ble_eq_true rfl, Nat.le_of_ble_eq_true rfl⟩) hS (fun q _ h => hFc q h) hFc (fun r_108 u t H1 locs ht hvm hw hB hz1 hk1 hS => ?_)
            subst hw
            obtain ⟨x_109, x_110, hr_108_0, hP, hK1, hD1⟩ := hB
            rw [ht] at hP
            have hD := hD1.weaken (fun k q _ h => hFc q.1 h)
            clear hz1 hk1 hFc hD1 hK1 hvm
            generalize H1 = H at hP hS ⊢
            have rg_x_109 := i_rng x_109
            have rg_x_110 := i_rng x_110
            have rg_r_108 := i_rng r_108
            have hP : va_P (dC, dI) vwCl (mW ad kc x0 x1 x2 x3 x4 x_62 x_63 x_64 x_109 x_110 x10 x11 x12 x13 x14 x15 x16 x17 x18 x19 x20 x21 f0 f1 f2 f3 f4 f5 f6 f7 f8 f9 f10 f11 f12 f13 f14 f15 f16 f17 f18 f19 f20 f21 fL fN fP fM fO) H := hP
            have hD : va_D A (mW ad kc x0 x1 x2 x3 x4 x_62 x_63 x_64 x_109 x_110 x10 x11 x12 x13 x14 x15 x16 x17 x18 x19 x20 x21 f0 f1 f2 f3 f4 f5 f6 f7 f8 f9 f10 f11 f12 f13 f14 f15 f16 f17 f18 f19 f20 f21 fL fN fP fM fO) := hD
            exact W.zret hx hb hr (z_nar (by first | assumption | decide | exact z_of (by omega))) (fun t ht hW => ⟨⟨_, _, rfl, rfl, x_62, x_63, x_64, x_109, x_110, x11, f0, q0, (fun _ _ => rfl), (by first | omega | assumption | rfl | decide), (by first | omega | assumption | rfl | decide), (by first | omega | assumption | rfl | decide), (fun h9 => by omega), by rw [ht]; exact hP, va_K.moved hW.alike hK, hD⟩, hS.F ht⟩) hS.2.2 dX10_aLine_79
        · have tk_60 := c_eq (a := y_4.toInt) (b := 10) rfl (by decide) k_60
          refine lv_aload_n hx hb dX10_aLine_56 rfl (lv_at hl 1 rfl) ?_
          refine lv_iconst (v := 3) hx hb dX10_aLine_57 (by decide) ?_
          have hFc := m_free hD hS hA
          refine va_calli (va_runV (As := [.int 3]) (rest := []) ⟨hx, hb, hml, hown, hts⟩ (m_fails l dC dI ad kc x0 x1 x2 x3 x4 x5 x6 x7 x8 x9 x10 x11 x12 x13 x14 x15 x16 x17 x18 x19 x20 x21 f0 f1 f2 f3 f4 f5 f6 f7 f8 f9 f10 f11 f12 f13 f14 f15 f16 f17 f18 f19 f20 f21 fL fN fP fM fO H.size 3 ) (cwV 1 hts mg_X10_aLinem_X10_fails_181 rfl rfl rfl (by decide +kernel) ⟨Nat.le_of_ble_eq_true rfl, Nat.le_of_ble_eq_true rfl⟩) ⟨fun a U g mk q => by obtain ⟨q0, q1, qP, qK, qD⟩ := q; exact ⟨q0, q1, qP, va_K.moved (u := U) (U := U.calling g mk a) (Vm.Alike.refl U.vm) qK, qD⟩, va_recv hK hP (ci := 10) (q0 := 0) rfl rfl, fun U hU hW => ⟨rfl, by rw [hU], by rw [hU]; exact hP, va_K.moved hW.alike hK, hD.weaken (fun _ _ _ _ => trivial)⟩⟩ rfl rfl hl.1 rfl (lv_room (Nat.le_of_ble_eq_true rfl)) dX10_aLine_58 ⟨Nat.le_of_ble_eq_true rfl, Nat.le_of_ble_eq_true rfl⟩) hS (fun q _ h => hFc q h) hFc (fun r_111 u t H1 locs ht hvm hw hB hz1 hk1 hS => ?_)
          subst hw
          obtain ⟨x_112, x_113, hr_111_0, hP, hK1, hD1⟩ := hB
          rw [ht] at hP
          have hD := hD1.weaken (fun k q _ h => hFc q.1 h)
          clear hz1 hk1 hFc hD1 hK1 hvm
          generalize H1 = H at hP hS ⊢
          have rg_x_112 := i_rng x_112
          have rg_x_113 := i_rng x_113
          have rg_r_111 := i_rng r_111
          have hP : va_P (dC, dI) vwCl (mW ad kc x0 x1 x2 x3 x4 x5 x6 x7 x_112 x_113 x10 x11 x12 x13 x14 x15 x16 x17 x18 x19 x20 x21 f0 f1 f2 f3 f4 f5 f6 f7 f8 f9 f10 f11 f12 f13 f14 f15 f16 f17 f18 f19 f20 f21 fL fN fP fM fO) H := hP
          have hD : va_D A (mW ad kc x0 x1 x2 x3 x4 x5 x6 x7 x_112 x_113 x10 x11 x12 x13 x14 x15 x16 x17 x18 x19 x20 x21 f0 f1 f2 f3 f4 f5 f6 f7 f8 f9 f10 f11 f12 f13 f14 f15 f16 f17 f18 f19 f20 f21 fL fN fP fM fO) := hD
          exact W.zret hx hb hr (z_nar (by first | assumption | decide | exact z_of (by omega))) (fun t ht hW => ⟨⟨_, _, rfl, rfl, x5, x6, x7, x_112, x_113, x11, f0, q0, (fun _ _ => rfl), (by first | omega | assumption | rfl | decide), (by first | omega | assumption | rfl | decide), (by first | omega | assumption | rfl | decide), (fun h9 => by omega), by rw [ht]; exact hP, va_K.moved hW.alike hK, hD⟩, hS.F ht⟩) hS.2.2 dX10_aLine_61
    · have tk_3 := c_ne (a := r_1.toInt) (b := 0) rfl (by decide) k_3
      refine lv_iconst (v := 0) hx hb dX10_aLine_34 (by decide) ?_
      refine lv_goto (tgt := 41) hx hb dX10_aLine_35 (by decide) ?_
      refine va_iald hx hb hK hP 1 0 rfl rfl (i := 0) (by unfold vp_in; decide +kernel) dX10_aLine_41 ?_
      refine lv_topi (fun y_114 ey_114 => ?_)
      have rg_y_114 := i_rng y_114
      have vy_114 := vI_lda (f := f0) (i := 0) (a := 0) ey_114 (by first | omega | decide)
      have rg_y_114 := i_rng y_114
      refine lv_iload_n hx hb dX10_aLine_42 rfl (lv_at hl 0 rfl) ?_
      refine lv_if_eq (tgt := 51) hx hb dX10_aLine_43 (by decide) (fun k_115 => ?_) (fun k_115 => ?_)
      · have tk_115 := c_eq (a := r_1.toInt) (b := 0) rfl (by decide) k_115
        refine lv_bipush (v := 8) hx hb dX10_aLine_51 (by decide) ?_
        refine lv_icmp_ne (tgt := 62) hx hb dX10_aLine_53 (by decide) (fun k_116 => ?_) (fun k_116 => ?_)
        · have tk_116 := c_ne (a := y_114.toInt) (b := 8) rfl (by decide) k_116
          refine lv_aload_n hx hb dX10_aLine_62 rfl (lv_at hl 1 rfl) ?_
          have hFc := m_free hD hS hA
          refine va_callv (va_runV (As := []) (rest := []) ⟨hx, hb, hml, hown, hts⟩ (m_ahead l dC dI ad kc x0 x1 x2 x3 x4 x5 x6 x7 x8 x9 x10 x11 x12 x13 x14 x15 x16 x17 x18 x19 x20 x21 f0 f1 f2 f3 f4 f5 f6 f7 f8 f9 f10 f11 f12 f13 f14 f15 f16 f17 f18 f19 f20 f21 fL fN fP fM fO H.size (by first | omega | assumption | decide | (have l0 := Int32.toInt_zero; omega)) (by first | omega | assumption | decide | (have l0 := Int32.toInt_zero; omega)) (by first | omega | assumption | decide | (have l0 := Int32.toInt_zero; omega))) (cwV 0 hts mg_X10_aLinem_X10_ahead_184 rfl rfl rfl (by decide +kernel) ⟨Nat.le_of_ble_eq_true rfl, Nat.le_of_ble_eq_true rfl⟩) ⟨fun a U g mk q => by obtain ⟨q0, q1, qP, qK, qD⟩ := q; exact ⟨q0, q1, qP, va_K.moved (u := U) (U := U.calling g mk a) (Vm.Alike.refl U.vm) qK, qD⟩, va_recv hK hP (ci := 10) (q0 := 0) rfl rfl, fun U hU hW => ⟨rfl, by rw [hU], by rw [hU]; exact hP, va_K.moved hW.alike hK, hD.weaken (fun _ _ _ _ => trivial)⟩⟩ rfl rfl hl.1 rfl (lv_room (Nat.le_of_ble_eq_true rfl)) dX10_aLine_63 ⟨Nat.le_of_ble_eq_true rfl, Nat.le_of_ble_eq_true rfl⟩) hS (fun q _ h => hFc q h) hFc (fun u t H1 locs ht hvm hw hB hz1 hk1 hS => ?_)
          obtain ⟨x_118, x_119, x_120, hr_117_0, hr_117_1, hr_117_2, hr_117_3, hr_117_4, hP, hK1, hD1⟩ := hB
          rw [ht] at hP
          have hD := hD1.weaken (fun k q _ h => hFc q.1 h)
          clear hz1 hk1 hFc hD1 hK1 hvm
          generalize H1 = H at hP hS ⊢
          have rg_x_118 := i_rng x_118
          have rg_x_119 := i_rng x_119
          have rg_x_120 := i_rng x_120
          have hP : va_P (dC, dI) vwCl (mW ad kc x0 x1 x2 x3 x4 x_118 x_119 x_120 x8 x9 x10 x11 x12 x13 x14 x15 x16 x17 x18 x19 x20 x21 f0 f1 f2 f3 f4 f5 f6 f7 f8 f9 f10 f11 f12 f13 f14 f15 f16 f17 f18 f19 f20 f21 fL fN fP fM fO) H := hP
          have hD : va_D A (mW ad kc x0 x1 x2 x3 x4 x_118 x_119 x_120 x8 x9 x10 x11 x12 x13 x14 x15 x16 x17 x18 x19 x20 x21 f0 f1 f2 f3 f4 f5 f6 f7 f8 f9 f10 f11 f12 f13 f14 f15 f16 f17 f18 f19 f20 f21 fL fN fP fM fO) := hD
          refine lv_aload_n hx hb dX10_aLine_66 rfl (lv_at hl 1 rfl) ?_
          refine va_get (D := (dC, dI)) (ci := 10) (v := .int x_118) (C := RX10) (T := TX10) (N := 48) hx hb hts fin_X10_aLinem_X10 hown hK hP 0 rfl rfl 8 (by decide) (hts (.fieldLink RX10 120 "PatternGateModel" "token" "I") (List.mem_of_getElem? (i := 9) (by decide +kernel))) (fun _ h9 => h9) rfl dX10_aLine_67 ?_
          refine lv_iconst (v := 3) hx hb dX10_aLine_70 (by decide) ?_
          refine lv_icmp_eq (tgt := 80) hx hb dX10_aLine_71 (by decide) (fun k_121 => ?_) (fun k_121 => ?_)
          · have tk_121 := c_eq (a := x_118.toInt) (b := 3) rfl (by decide) k_121
            refine lv_iload_n hx hb dX10_aLine_80 rfl (lv_at hl 0 rfl) ?_
            refine lv_if_eq (tgt := 94) hx hb dX10_aLine_81 (by decide) (fun k_122 => ?_) (fun k_122 => ?_)
            · have tk_122 := c_eq (a := r_1.toInt) (b := 0) rfl (by decide) k_122
              refine lv_aload_n hx hb dX10_aLine_94 rfl (lv_at hl 1 rfl) ?_
              have hFc := m_free hD hS hA
              refine va_calli (va_runV (As := []) (rest := []) ⟨hx, hb, hml, hown, hts⟩ (m_patternQuote l dC dI ad kc x0 x1 x2 x3 x4 x_118 x_119 x_120 x8 x9 x10 x11 x12 x13 x14 x15 x16 x17 x18 x19 x20 x21 f0 f1 f2 f3 f4 f5 f6 f7 f8 f9 f10 f11 f12 f13 f14 f15 f16 f17 f18 f19 f20 f21 fL fN fP fM fO H.size (by first | omega | assumption | decide | (have l0 := Int32.toInt_zero; omega)) (by first | omega | assumption | decide | (have l0 := Int32.toInt_zero; omega)) (by first | omega | assumption | decide | (have l0 := Int32.toInt_zero; omega)) (by first | omega | assumption | decide | (have l0 := Int32.toInt_zero; omega)) (by first | omega | assumption | decide | (have l0 := Int32.toInt_zero; omega))) (cwV 0 hts mg_X10_aLinem_X10_patternQuote_190 rfl rfl rfl (by decide +kernel) ⟨Nat.le_of_ble_eq_true rfl, Nat.le_of_ble_eq_true rfl⟩) ⟨fun a U g mk q => by obtain ⟨q0, q1, qP, qK, qD⟩ := q; exact ⟨q0, q1, qP, va_K.moved (u := U) (U := U.calling g mk a) (Vm.Alike.refl U.vm) qK, qD⟩, va_recv hK hP (ci := 10) (q0 := 0) rfl rfl, fun U hU hW => ⟨rfl, by rw [hU], by rw [hU]; exact hP, va_K.moved hW.alike hK, hD.weaken (fun _ _ _ _ => trivial)⟩⟩ rfl rfl hl.1 rfl (lv_room (Nat.le_of_ble_eq_true rfl)) dX10_aLine_95 ⟨Nat.le_of_ble_eq_true rfl, Nat.le_of_ble_eq_true rfl⟩) hS (fun q _ h => hFc q h) hFc (fun r_123 u t H1 locs ht hvm hw hB hz1 hk1 hS => ?_)
              subst hw
              obtain ⟨x_124, x_125, x_126, x_127, f_128, hr_123_0, hr_123_1, hr_123_2, hr_123_3, hr_123_4, hP, hK1, hD1⟩ := hB
              rw [ht] at hP
              have hD := hD1.weaken (fun k q _ h => hFc q.1 h)
              clear hz1 hk1 hFc hD1 hK1 hvm
              generalize H1 = H at hP hS ⊢
              have rg_x_124 := i_rng x_124
              have rg_x_125 := i_rng x_125
              have rg_x_126 := i_rng x_126
              have rg_x_127 := i_rng x_127
              have rg_r_123 := i_rng r_123
              have hP : va_P (dC, dI) vwCl (mW ad kc x0 x1 x2 x3 x4 x_118 x_119 x_124 x_125 x_126 x10 x_127 x12 x13 x14 x15 x16 x17 x18 x19 x20 x21 f_128 f1 f2 f3 f4 f5 f6 f7 f8 f9 f10 f11 f12 f13 f14 f15 f16 f17 f18 f19 f20 f21 fL fN fP fM fO) H := hP
              have hD : va_D A (mW ad kc x0 x1 x2 x3 x4 x_118 x_119 x_124 x_125 x_126 x10 x_127 x12 x13 x14 x15 x16 x17 x18 x19 x20 x21 f_128 f1 f2 f3 f4 f5 f6 f7 f8 f9 f10 f11 f12 f13 f14 f15 f16 f17 f18 f19 f20 f21 fL fN fP fM fO) := hD
              have hq9 := hr_123_0
              have hq8 := hr_123_1
              refine lv_if_ne (tgt := 103) hx hb dX10_aLine_98 (by decide) (fun k_129 => ?_) (fun k_129 => ?_)
              · have tk_129 := c_ne (a := r_123.toInt) (b := 0) rfl (by decide) k_129
                refine lv_aload_n hx hb dX10_aLine_103 rfl (lv_at hl 1 rfl) ?_
                have hFc := m_free hD hS hA
                refine va_callv (va_runV (As := []) (rest := []) ⟨hx, hb, hml, hown, hts⟩ (m_ahead l dC dI ad kc x0 x1 x2 x3 x4 x_118 x_119 x_124 x_125 x_126 x10 x_127 x12 x13 x14 x15 x16 x17 x18 x19 x20 x21 f_128 f1 f2 f3 f4 f5 f6 f7 f8 f9 f10 f11 f12 f13 f14 f15 f16 f17 f18 f19 f20 f21 fL fN fP fM fO H.size (by first | omega | assumption | decide | (have l0 := Int32.toInt_zero; omega)) (by first | omega | assumption | decide | (have l0 := Int32.toInt_zero; omega)) (by first | omega | assumption | decide | (have l0 := Int32.toInt_zero; omega))) (cwV 0 hts mg_X10_aLinem_X10_ahead_184 rfl rfl rfl (by decide +kernel) ⟨Nat.le_of_ble_eq_true rfl, Nat.le_of_ble_eq_true rfl⟩) ⟨fun a U g mk q => by obtain ⟨q0, q1, qP, qK, qD⟩ := q; exact ⟨q0, q1, qP, va_K.moved (u := U) (U := U.calling g mk a) (Vm.Alike.refl U.vm) qK, qD⟩, va_recv hK hP (ci := 10) (q0 := 0) rfl rfl, fun U hU hW => ⟨rfl, by rw [hU], by rw [hU]; exact hP, va_K.moved hW.alike hK, hD.weaken (fun _ _ _ _ => trivial)⟩⟩ rfl rfl hl.1 rfl (lv_room (Nat.le_of_ble_eq_true rfl)) dX10_aLine_104 ⟨Nat.le_of_ble_eq_true rfl, Nat.le_of_ble_eq_true rfl⟩) hS (fun q _ h => hFc q h) hFc (fun u t H1 locs ht hvm hw hB hz1 hk1 hS => ?_)
                obtain ⟨x_131, x_132, x_133, hr_130_0, hr_130_1, hr_130_2, hr_130_3, hr_130_4, hP, hK1, hD1⟩ := hB
                rw [ht] at hP
                have hD := hD1.weaken (fun k q _ h => hFc q.1 h)
                clear hz1 hk1 hFc hD1 hK1 hvm
                generalize H1 = H at hP hS ⊢
                have rg_x_131 := i_rng x_131
                have rg_x_132 := i_rng x_132
                have rg_x_133 := i_rng x_133
                have hP : va_P (dC, dI) vwCl (mW ad kc x0 x1 x2 x3 x4 x_131 x_132 x_133 x_125 x_126 x10 x_127 x12 x13 x14 x15 x16 x17 x18 x19 x20 x21 f_128 f1 f2 f3 f4 f5 f6 f7 f8 f9 f10 f11 f12 f13 f14 f15 f16 f17 f18 f19 f20 f21 fL fN fP fM fO) H := hP
                have hD : va_D A (mW ad kc x0 x1 x2 x3 x4 x_131 x_132 x_133 x_125 x_126 x10 x_127 x12 x13 x14 x15 x16 x17 x18 x19 x20 x21 f_128 f1 f2 f3 f4 f5 f6 f7 f8 f9 f10 f11 f12 f13 f14 f15 f16 f17 f18 f19 f20 f21 fL fN fP fM fO) := hD
                refine lv_aload_n hx hb dX10_aLine_107 rfl (lv_at hl 1 rfl) ?_
                refine va_get (D := (dC, dI)) (ci := 10) (v := .int x_131) (C := RX10) (T := TX10) (N := 48) hx hb hts fin_X10_aLinem_X10 hown hK hP 0 rfl rfl 8 (by decide) (hts (.fieldLink RX10 120 "PatternGateModel" "token" "I") (List.mem_of_getElem? (i := 9) (by decide +kernel))) (fun _ h9 => h9) rfl dX10_aLine_108 ?_
                refine lv_iconst (v := 4) hx hb dX10_aLine_111 (by decide) ?_
                refine lv_icmp_eq (tgt := 121) hx hb dX10_aLine_112 (by decide) (fun k_134 => ?_) (fun k_134 => ?_)
                · have tk_134 := c_eq (a := x_131.toInt) (b := 4) rfl (by decide) k_134
                  refine lv_aload_n hx hb dX10_aLine_121 rfl (lv_at hl 1 rfl) ?_
                  have hFc := m_free hD hS hA
                  refine va_callv (va_runV (As := []) (rest := []) ⟨hx, hb, hml, hown, hts⟩ (m_ahead l dC dI ad kc x0 x1 x2 x3 x4 x_131 x_132 x_133 x_125 x_126 x10 x_127 x12 x13 x14 x15 x16 x17 x18 x19 x20 x21 f_128 f1 f2 f3 f4 f5 f6 f7 f8 f9 f10 f11 f12 f13 f14 f15 f16 f17 f18 f19 f20 f21 fL fN fP fM fO H.size (by first | omega | assumption | decide | (have l0 := Int32.toInt_zero; omega)) (by first | omega | assumption | decide | (have l0 := Int32.toInt_zero; omega)) (by first | omega | assumption | decide | (have l0 := Int32.toInt_zero; omega))) (cwV 0 hts mg_X10_aLinem_X10_ahead_184 rfl rfl rfl (by decide +kernel) ⟨Nat.le_of_ble_eq_true rfl, Nat.le_of_ble_eq_true rfl⟩) ⟨fun a U g mk q => by obtain ⟨q0, q1, qP, qK, qD⟩ := q; exact ⟨q0, q1, qP, va_K.moved (u := U) (U := U.calling g mk a) (Vm.Alike.refl U.vm) qK, qD⟩, va_recv hK hP (ci := 10) (q0 := 0) rfl rfl, fun U hU hW => ⟨rfl, by rw [hU], by rw [hU]; exact hP, va_K.moved hW.alike hK, hD.weaken (fun _ _ _ _ => trivial)⟩⟩ rfl rfl hl.1 rfl (lv_room (Nat.le_of_ble_eq_true rfl)) dX10_aLine_122 ⟨Nat.le_of_ble_eq_true rfl, Nat.le_of_ble_eq_true rfl⟩) hS (fun q _ h => hFc q h) hFc (fun u t H1 locs ht hvm hw hB hz1 hk1 hS => ?_)
                  obtain ⟨x_136, x_137, x_138, hr_135_0, hr_135_1, hr_135_2, hr_135_3, hr_135_4, hP, hK1, hD1⟩ := hB
                  rw [ht] at hP
                  have hD := hD1.weaken (fun k q _ h => hFc q.1 h)
                  clear hz1 hk1 hFc hD1 hK1 hvm
                  generalize H1 = H at hP hS ⊢
                  have rg_x_136 := i_rng x_136
                  have rg_x_137 := i_rng x_137
                  have rg_x_138 := i_rng x_138
                  have hP : va_P (dC, dI) vwCl (mW ad kc x0 x1 x2 x3 x4 x_136 x_137 x_138 x_125 x_126 x10 x_127 x12 x13 x14 x15 x16 x17 x18 x19 x20 x21 f_128 f1 f2 f3 f4 f5 f6 f7 f8 f9 f10 f11 f12 f13 f14 f15 f16 f17 f18 f19 f20 f21 fL fN fP fM fO) H := hP
                  have hD : va_D A (mW ad kc x0 x1 x2 x3 x4 x_136 x_137 x_138 x_125 x_126 x10 x_127 x12 x13 x14 x15 x16 x17 x18 x19 x20 x21 f_128 f1 f2 f3 f4 f5 f6 f7 f8 f9 f10 f11 f12 f13 f14 f15 f16 f17 f18 f19 f20 f21 fL fN fP fM fO) := hD
                  refine lv_iconst (v := 1) hx hb dX10_aLine_125 (by decide) ?_
                  have lit_138 : (1 : Int32).toInt = 1 := by decide
                  exact W.zret hx hb hr (z_nar (by first | assumption | decide | exact z_of (by omega))) (fun t ht hW => ⟨⟨_, _, rfl, rfl, x_136, x_137, x_138, x_125, x_126, x_127, f_128, hq9, hq8, (by first | omega | assumption | rfl | decide), (by first | omega | assumption | rfl | decide), (by first | omega | assumption | rfl | decide), (fun h9 => by omega), by rw [ht]; exact hP, va_K.moved hW.alike hK, hD⟩, hS.F ht⟩) hS.2.2 dX10_aLine_126
                · have tk_134 := c_ne (a := x_131.toInt) (b := 4) rfl (by decide) k_134
                  refine lv_aload_n hx hb dX10_aLine_115 rfl (lv_at hl 1 rfl) ?_
                  refine lv_iconst (v := 2) hx hb dX10_aLine_116 (by decide) ?_
                  have hFc := m_free hD hS hA
                  refine va_calli (va_runV (As := [.int 2]) (rest := []) ⟨hx, hb, hml, hown, hts⟩ (m_fails l dC dI ad kc x0 x1 x2 x3 x4 x_131 x_132 x_133 x_125 x_126 x10 x_127 x12 x13 x14 x15 x16 x17 x18 x19 x20 x21 f_128 f1 f2 f3 f4 f5 f6 f7 f8 f9 f10 f11 f12 f13 f14 f15 f16 f17 f18 f19 f20 f21 fL fN fP fM fO H.size 2 ) (cwV 1 hts mg_X10_aLinem_X10_fails_181 rfl rfl rfl (by decide +kernel) ⟨Nat.le_of_ble_eq_true rfl, Nat.le_of_ble_eq_true rfl⟩) ⟨fun a U g mk q => by obtain ⟨q0, q1, qP, qK, qD⟩ := q; exact ⟨q0, q1, qP, va_K.moved (u := U) (U := U.calling g mk a) (Vm.Alike.refl U.vm) qK, qD⟩, va_recv hK hP (ci := 10) (q0 := 0) rfl rfl, fun U hU hW => ⟨rfl, by rw [hU], by rw [hU]; exact hP, va_K.moved hW.alike hK, hD.weaken (fun _ _ _ _ => trivial)⟩⟩ rfl rfl hl.1 rfl (lv_room (Nat.le_of_ble_eq_true rfl)) dX10_aLine_117 ⟨Nat.le_of_ble_eq_true rfl, Nat.le_of_ble_eq_true rfl⟩) hS (fun q _ h => hFc q h) hFc (fun r_140 u t H1 locs ht hvm hw hB hz1 hk1 hS => ?_)
                  subst hw
                  obtain ⟨x_141, x_142, hr_140_0, hP, hK1, hD1⟩ := hB
                  rw [ht] at hP
                  have hD := hD1.weaken (fun k q _ h => hFc q.1 h)
                  clear hz1 hk1 hFc hD1 hK1 hvm
                  generalize H1 = H at hP hS ⊢
                  have rg_x_141 := i_rng x_141
                  have rg_x_142 := i_rng x_142
                  have rg_r_140 := i_rng r_140
                  have hP : va_P (dC, dI) vwCl (mW ad kc x0 x1 x2 x3 x4 x_131 x_132 x_133 x_141 x_142 x10 x_127 x12 x13 x14 x15 x16 x17 x18 x19 x20 x21 f_128 f1 f2 f3 f4 f5 f6 f7 f8 f9 f10 f11 f12 f13 f14 f15 f16 f17 f18 f19 f20 f21 fL fN fP fM fO) H := hP
                  have hD : va_D A (mW ad kc x0 x1 x2 x3 x4 x_131 x_132 x_133 x_141 x_142 x10 x_127 x12 x13 x14 x15 x16 x17 x18 x19 x20 x21 f_128 f1 f2 f3 f4 f5 f6 f7 f8 f9 f10 f11 f12 f13 f14 f15 f16 f17 f18 f19 f20 f21 fL fN fP fM fO) := hD
                  exact W.zret hx hb hr (z_nar (by first | assumption | decide | exact z_of (by omega))) (fun t ht hW => ⟨⟨_, _, rfl, rfl, x_131, x_132, x_133, x_141, x_142, x_127, f_128, hq9, hq8, (by first | omega | assumption | rfl | decide), (by first | omega | assumption | rfl | decide), (by first | omega | assumption | rfl | decide), (fun h9 => by omega), by rw [ht]; exact hP, va_K.moved hW.alike hK, hD⟩, hS.F ht⟩) hS.2.2 dX10_aLine_120
              · have tk_129 := c_eq (a := r_123.toInt) (b := 0) rfl (by decide) k_129
                refine lv_iconst (v := 0) hx hb dX10_aLine_101 (by decide) ?_
                have lit_142 : (0 : Int32).toInt = 0 := by decide
                exact W.zret hx hb hr (z_nar (by first | assumption | decide | exact z_of (by omega))) (fun t ht hW => ⟨⟨_, _, rfl, rfl, x_118, x_119, x_124, x_125, x_126, x_127, f_128, hq9, hq8, (by first | omega | assumption | rfl | decide), (by first | omega | assumption | rfl | decide), (by first | omega | assumption | rfl | decide), (fun h9 => by omega), by rw [ht]; exact hP, va_K.moved hW.alike hK, hD⟩, hS.F ht⟩) hS.2.2 dX10_aLine_102
            · have tk_122 := c_ne (a := r_1.toInt) (b := 0) rfl (by decide) k_122
              refine lv_aload_n hx hb dX10_aLine_84 rfl (lv_at hl 1 rfl) ?_
              have hFc := m_free hD hS hA
              refine va_calli (va_runV (As := []) (rest := []) ⟨hx, hb, hml, hown, hts⟩ (m_docQuote l dC dI ad kc x0 x1 x2 x3 x4 x_118 x_119 x_120 x8 x9 x10 x11 x12 x13 x14 x15 x16 x17 x18 x19 x20 x21 f0 f1 f2 f3 f4 f5 f6 f7 f8 f9 f10 f11 f12 f13 f14 f15 f16 f17 f18 f19 f20 f21 fL fN fP fM fO H.size (by first | omega | assumption | decide | (have l0 := Int32.toInt_zero; omega)) (by first | omega | assumption | decide | (have l0 := Int32.toInt_zero; omega)) (by first | omega | assumption | decide | (have l0 := Int32.toInt_zero; omega)) (by first | omega | assumption | decide | (have l0 := Int32.toInt_zero; omega)) (by first | omega | assumption | decide | (have l0 := Int32.toInt_zero; omega))) (cwV 0 hts mg_X10_aLinem_X10_docQuote_187 rfl rfl rfl (by decide +kernel) ⟨Nat.le_of_ble_eq_true rfl, Nat.le_of_ble_eq_true rfl⟩) ⟨fun a U g mk q => by obtain ⟨q0, q1, qP, qK, qD⟩ := q; exact ⟨q0, q1, qP, va_K.moved (u := U) (U := U.calling g mk a) (Vm.Alike.refl U.vm) qK, qD⟩, va_recv hK hP (ci := 10) (q0 := 0) rfl rfl, fun U hU hW => ⟨rfl, by rw [hU], by rw [hU]; exact hP, va_K.moved hW.alike hK, hD.weaken (fun _ _ _ _ => trivial)⟩⟩ rfl rfl hl.1 rfl (lv_room (Nat.le_of_ble_eq_true rfl)) dX10_aLine_85 ⟨Nat.le_of_ble_eq_true rfl, Nat.le_of_ble_eq_true rfl⟩) hS (fun q _ h => hFc q h) hFc (fun r_144 u t H1 locs ht hvm hw hB hz1 hk1 hS => ?_)
              subst hw
              obtain ⟨x_145, x_146, x_147, f_148, hr_144_0, hr_144_1, hr_144_2, hr_144_3, hr_144_4, hP, hK1, hD1⟩ := hB
              rw [ht] at hP
              have hD := hD1.weaken (fun k q _ h => hFc q.1 h)
              clear hz1 hk1 hFc hD1 hK1 hvm
              generalize H1 = H at hP hS ⊢
              have rg_x_145 := i_rng x_145
              have rg_x_146 := i_rng x_146
              have rg_x_147 := i_rng x_147
              have rg_r_144 := i_rng r_144
              have hP : va_P (dC, dI) vwCl (mW ad kc x0 x1 x2 x3 x4 x_118 x_119 x_145 x_146 x_147 x10 x11 x12 x13 x14 x15 x16 x17 x18 x19 x20 x21 f_148 f1 f2 f3 f4 f5 f6 f7 f8 f9 f10 f11 f12 f13 f14 f15 f16 f17 f18 f19 f20 f21 fL fN fP fM fO) H := hP
              have hD : va_D A (mW ad kc x0 x1 x2 x3 x4 x_118 x_119 x_145 x_146 x_147 x10 x11 x12 x13 x14 x15 x16 x17 x18 x19 x20 x21 f_148 f1 f2 f3 f4 f5 f6 f7 f8 f9 f10 f11 f12 f13 f14 f15 f16 f17 f18 f19 f20 f21 fL fN fP fM fO) := hD
              have hq9 := hr_144_0
              have hq8 := hr_144_1
              refine lv_if_eq (tgt := 101) hx hb dX10_aLine_88 (by decide) (fun k_149 => ?_) (fun k_149 => ?_)
              · have tk_149 := c_eq (a := r_144.toInt) (b := 0) rfl (by decide) k_149
                refine lv_iconst (v := 0) hx hb dX10_aLine_101 (by decide) ?_
                have lit_149 : (0 : Int32).toInt = 0 := by decide
                exact W.zret hx hb hr (z_nar (by first | assumption | decide | exact z_of (by omega))) (fun t ht hW => ⟨⟨_, _, rfl, rfl, x_118, x_119, x_145, x_146, x_147, x11, f_148, hq9, hq8, (by first | omega | assumption | rfl | decide), (by first | omega | assumption | rfl | decide), (by first | omega | assumption | rfl | decide), (fun h9 => by omega), by rw [ht]; exact hP, va_K.moved hW.alike hK, hD⟩, hS.F ht⟩) hS.2.2 dX10_aLine_102
              · have tk_149 := c_ne (a := r_144.toInt) (b := 0) rfl (by decide) k_149
                refine lv_goto (tgt := 103) hx hb dX10_aLine_91 (by decide) ?_
                refine lv_aload_n hx hb dX10_aLine_103 rfl (lv_at hl 1 rfl) ?_
                have hFc := m_free hD hS hA
                refine va_callv (va_runV (As := []) (rest := []) ⟨hx, hb, hml, hown, hts⟩ (m_ahead l dC dI ad kc x0 x1 x2 x3 x4 x_118 x_119 x_145 x_146 x_147 x10 x11 x12 x13 x14 x15 x16 x17 x18 x19 x20 x21 f_148 f1 f2 f3 f4 f5 f6 f7 f8 f9 f10 f11 f12 f13 f14 f15 f16 f17 f18 f19 f20 f21 fL fN fP fM fO H.size (by first | omega | assumption | decide | (have l0 := Int32.toInt_zero; omega)) (by first | omega | assumption | decide | (have l0 := Int32.toInt_zero; omega)) (by first | omega | assumption | decide | (have l0 := Int32.toInt_zero; omega))) (cwV 0 hts mg_X10_aLinem_X10_ahead_184 rfl rfl rfl (by decide +kernel) ⟨Nat.le_of_ble_eq_true rfl, Nat.le_of_ble_eq_true rfl⟩) ⟨fun a U g mk q => by obtain ⟨q0, q1, qP, qK, qD⟩ := q; exact ⟨q0, q1, qP, va_K.moved (u := U) (U := U.calling g mk a) (Vm.Alike.refl U.vm) qK, qD⟩, va_recv hK hP (ci := 10) (q0 := 0) rfl rfl, fun U hU hW => ⟨rfl, by rw [hU], by rw [hU]; exact hP, va_K.moved hW.alike hK, hD.weaken (fun _ _ _ _ => trivial)⟩⟩ rfl rfl hl.1 rfl (lv_room (Nat.le_of_ble_eq_true rfl)) dX10_aLine_104 ⟨Nat.le_of_ble_eq_true rfl, Nat.le_of_ble_eq_true rfl⟩) hS (fun q _ h => hFc q h) hFc (fun u t H1 locs ht hvm hw hB hz1 hk1 hS => ?_)
                obtain ⟨x_152, x_153, x_154, hr_151_0, hr_151_1, hr_151_2, hr_151_3, hr_151_4, hP, hK1, hD1⟩ := hB
                rw [ht] at hP
                have hD := hD1.weaken (fun k q _ h => hFc q.1 h)
                clear hz1 hk1 hFc hD1 hK1 hvm
                generalize H1 = H at hP hS ⊢
                have rg_x_152 := i_rng x_152
                have rg_x_153 := i_rng x_153
                have rg_x_154 := i_rng x_154
                have hP : va_P (dC, dI) vwCl (mW ad kc x0 x1 x2 x3 x4 x_152 x_153 x_154 x_146 x_147 x10 x11 x12 x13 x14 x15 x16 x17 x18 x19 x20 x21 f_148 f1 f2 f3 f4 f5 f6 f7 f8 f9 f10 f11 f12 f13 f14 f15 f16 f17 f18 f19 f20 f21 fL fN fP fM fO) H := hP
                have hD : va_D A (mW ad kc x0 x1 x2 x3 x4 x_152 x_153 x_154 x_146 x_147 x10 x11 x12 x13 x14 x15 x16 x17 x18 x19 x20 x21 f_148 f1 f2 f3 f4 f5 f6 f7 f8 f9 f10 f11 f12 f13 f14 f15 f16 f17 f18 f19 f20 f21 fL fN fP fM fO) := hD
                refine lv_aload_n hx hb dX10_aLine_107 rfl (lv_at hl 1 rfl) ?_
                refine va_get (D := (dC, dI)) (ci := 10) (v := .int x_152) (C := RX10) (T := TX10) (N := 48) hx hb hts fin_X10_aLinem_X10 hown hK hP 0 rfl rfl 8 (by decide) (hts (.fieldLink RX10 120 "PatternGateModel" "token" "I") (List.mem_of_getElem? (i := 9) (by decide +kernel))) (fun _ h9 => h9) rfl dX10_aLine_108 ?_
                refine lv_iconst (v := 4) hx hb dX10_aLine_111 (by decide) ?_
                refine lv_icmp_eq (tgt := 121) hx hb dX10_aLine_112 (by decide) (fun k_155 => ?_) (fun k_155 => ?_)
                · have tk_155 := c_eq (a := x_152.toInt) (b := 4) rfl (by decide) k_155
                  refine lv_aload_n hx hb dX10_aLine_121 rfl (lv_at hl 1 rfl) ?_
                  have hFc := m_free hD hS hA
                  refine va_callv (va_runV (As := []) (rest := []) ⟨hx, hb, hml, hown, hts⟩ (m_ahead l dC dI ad kc x0 x1 x2 x3 x4 x_152 x_153 x_154 x_146 x_147 x10 x11 x12 x13 x14 x15 x16 x17 x18 x19 x20 x21 f_148 f1 f2 f3 f4 f5 f6 f7 f8 f9 f10 f11 f12 f13 f14 f15 f16 f17 f18 f19 f20 f21 fL fN fP fM fO H.size (by first | omega | assumption | decide | (have l0 := Int32.toInt_zero; omega)) (by first | omega | assumption | decide | (have l0 := Int32.toInt_zero; omega)) (by first | omega | assumption | decide | (have l0 := Int32.toInt_zero; omega))) (cwV 0 hts mg_X10_aLinem_X10_ahead_184 rfl rfl rfl (by decide +kernel) ⟨Nat.le_of_ble_eq_true rfl, Nat.le_of_ble_eq_true rfl⟩) ⟨fun a U g mk q => by obtain ⟨q0, q1, qP, qK, qD⟩ := q; exact ⟨q0, q1, qP, va_K.moved (u := U) (U := U.calling g mk a) (Vm.Alike.refl U.vm) qK, qD⟩, va_recv hK hP (ci := 10) (q0 := 0) rfl rfl, fun U hU hW => ⟨rfl, by rw [hU], by rw [hU]; exact hP, va_K.moved hW.alike hK, hD.weaken (fun _ _ _ _ => trivial)⟩⟩ rfl rfl hl.1 rfl (lv_room (Nat.le_of_ble_eq_true rfl)) dX10_aLine_122 ⟨Nat.le_of_ble_eq_true rfl, Nat.le_of_ble_eq_true rfl⟩) hS (fun q _ h => hFc q h) hFc (fun u t H1 locs ht hvm hw hB hz1 hk1 hS => ?_)
                  obtain ⟨x_157, x_158, x_159, hr_156_0, hr_156_1, hr_156_2, hr_156_3, hr_156_4, hP, hK1, hD1⟩ := hB
                  rw [ht] at hP
                  have hD := hD1.weaken (fun k q _ h => hFc q.1 h)
                  clear hz1 hk1 hFc hD1 hK1 hvm
                  generalize H1 = H at hP hS ⊢
                  have rg_x_157 := i_rng x_157
                  have rg_x_158 := i_rng x_158
                  have rg_x_159 := i_rng x_159
                  have hP : va_P (dC, dI) vwCl (mW ad kc x0 x1 x2 x3 x4 x_157 x_158 x_159 x_146 x_147 x10 x11 x12 x13 x14 x15 x16 x17 x18 x19 x20 x21 f_148 f1 f2 f3 f4 f5 f6 f7 f8 f9 f10 f11 f12 f13 f14 f15 f16 f17 f18 f19 f20 f21 fL fN fP fM fO) H := hP
                  have hD : va_D A (mW ad kc x0 x1 x2 x3 x4 x_157 x_158 x_159 x_146 x_147 x10 x11 x12 x13 x14 x15 x16 x17 x18 x19 x20 x21 f_148 f1 f2 f3 f4 f5 f6 f7 f8 f9 f10 f11 f12 f13 f14 f15 f16 f17 f18 f19 f20 f21 fL fN fP fM fO) := hD
                  refine lv_iconst (v := 1) hx hb dX10_aLine_125 (by decide) ?_
                  have lit_159 : (1 : Int32).toInt = 1 := by decide
                  exact W.zret hx hb hr (z_nar (by first | assumption | decide | exact z_of (by omega))) (fun t ht hW => ⟨⟨_, _, rfl, rfl, x_157, x_158, x_159, x_146, x_147, x11, f_148, hq9, hq8, (by first | omega | assumption | rfl | decide), (by first | omega | assumption | rfl | decide), (by first | omega | assumption | rfl | decide), (fun h9 => by omega), by rw [ht]; exact hP, va_K.moved hW.alike hK, hD⟩, hS.F ht⟩) hS.2.2 dX10_aLine_126
                · have tk_155 := c_ne (a := x_152.toInt) (b := 4) rfl (by decide) k_155
                  refine lv_aload_n hx hb dX10_aLine_115 rfl (lv_at hl 1 rfl) ?_
                  refine lv_iconst (v := 2) hx hb dX10_aLine_116 (by decide) ?_
                  have hFc := m_free hD hS hA
                  refine va_calli (va_runV (As := [.int 2]) (rest := []) ⟨hx, hb, hml, hown, hts⟩ (m_fails l dC dI ad kc x0 x1 x2 x3 x4 x_152 x_153 x_154 x_146 x_147 x10 x11 x12 x13 x14 x15 x16 x17 x18 x19 x20 x21 f_148 f1 f2 f3 f4 f5 f6 f7 f8 f9 f10 f11 f12 f13 f14 f15 f16 f17 f18 f19 f20 f21 fL fN fP fM fO H.size 2 ) (cwV 1 hts mg_X10_aLinem_X10_fails_181 rfl rfl rfl (by decide +kernel) ⟨Nat.le_of_ble_eq_true rfl, Nat.le_of_ble_eq_true rfl⟩) ⟨fun a U g mk q => by obtain ⟨q0, q1, qP, qK, qD⟩ := q; exact ⟨q0, q1, qP, va_K.moved (u := U) (U := U.calling g mk a) (Vm.Alike.refl U.vm) qK, qD⟩, va_recv hK hP (ci := 10) (q0 := 0) rfl rfl, fun U hU hW => ⟨rfl, by rw [hU], by rw [hU]; exact hP, va_K.moved hW.alike hK, hD.weaken (fun _ _ _ _ => trivial)⟩⟩ rfl rfl hl.1 rfl (lv_room (Nat.le_of_ble_eq_true rfl)) dX10_aLine_117 ⟨Nat.le_of_ble_eq_true rfl, Nat.le_of_ble_eq_true rfl⟩) hS (fun q _ h => hFc q h) hFc (fun r_161 u t H1 locs ht hvm hw hB hz1 hk1 hS => ?_)
                  subst hw
                  obtain ⟨x_162, x_163, hr_161_0, hP, hK1, hD1⟩ := hB
                  rw [ht] at hP
                  have hD := hD1.weaken (fun k q _ h => hFc q.1 h)
                  clear hz1 hk1 hFc hD1 hK1 hvm
                  generalize H1 = H at hP hS ⊢
                  have rg_x_162 := i_rng x_162
                  have rg_x_163 := i_rng x_163
                  have rg_r_161 := i_rng r_161
                  have hP : va_P (dC, dI) vwCl (mW ad kc x0 x1 x2 x3 x4 x_152 x_153 x_154 x_162 x_163 x10 x11 x12 x13 x14 x15 x16 x17 x18 x19 x20 x21 f_148 f1 f2 f3 f4 f5 f6 f7 f8 f9 f10 f11 f12 f13 f14 f15 f16 f17 f18 f19 f20 f21 fL fN fP fM fO) H := hP
                  have hD : va_D A (mW ad kc x0 x1 x2 x3 x4 x_152 x_153 x_154 x_162 x_163 x10 x11 x12 x13 x14 x15 x16 x17 x18 x19 x20 x21 f_148 f1 f2 f3 f4 f5 f6 f7 f8 f9 f10 f11 f12 f13 f14 f15 f16 f17 f18 f19 f20 f21 fL fN fP fM fO) := hD
                  exact W.zret hx hb hr (z_nar (by first | assumption | decide | exact z_of (by omega))) (fun t ht hW => ⟨⟨_, _, rfl, rfl, x_152, x_153, x_154, x_162, x_163, x11, f_148, hq9, hq8, (by first | omega | assumption | rfl | decide), (by first | omega | assumption | rfl | decide), (by first | omega | assumption | rfl | decide), (fun h9 => by omega), by rw [ht]; exact hP, va_K.moved hW.alike hK, hD⟩, hS.F ht⟩) hS.2.2 dX10_aLine_120
          · have tk_121 := c_ne (a := x_118.toInt) (b := 3) rfl (by decide) k_121
            refine lv_aload_n hx hb dX10_aLine_74 rfl (lv_at hl 1 rfl) ?_
            refine lv_iconst (v := 2) hx hb dX10_aLine_75 (by decide) ?_
            have hFc := m_free hD hS hA
            refine va_calli (va_runV (As := [.int 2]) (rest := []) ⟨hx, hb, hml, hown, hts⟩ (m_fails l dC dI ad kc x0 x1 x2 x3 x4 x_118 x_119 x_120 x8 x9 x10 x11 x12 x13 x14 x15 x16 x17 x18 x19 x20 x21 f0 f1 f2 f3 f4 f5 f6 f7 f8 f9 f10 f11 f12 f13 f14 f15 f16 f17 f18 f19 f20 f21 fL fN fP fM fO H.size 2 ) (cwV 1 hts mg_X10_aLinem_X10_fails_181 rfl rfl rfl (by decide +kernel) ⟨Nat.le_of_ble_eq_true rfl, Nat.le_of_ble_eq_true rfl⟩) ⟨fun a U g mk q => by obtain ⟨q0, q1, qP, qK, qD⟩ := q; exact ⟨q0, q1, qP, va_K.moved (u := U) (U := U.calling g mk a) (Vm.Alike.refl U.vm) qK, qD⟩, va_recv hK hP (ci := 10) (q0 := 0) rfl rfl, fun U hU hW => ⟨rfl, by rw [hU], by rw [hU]; exact hP, va_K.moved hW.alike hK, hD.weaken (fun _ _ _ _ => trivial)⟩⟩ rfl rfl hl.1 rfl (lv_room (Nat.le_of_ble_eq_true rfl)) dX10_aLine_76 ⟨Nat.le_of_ble_eq_true rfl, Nat.le_of_ble_eq_true rfl⟩) hS (fun q _ h => hFc q h) hFc (fun r_164 u t H1 locs ht hvm hw hB hz1 hk1 hS => ?_)
            subst hw
            obtain ⟨x_165, x_166, hr_164_0, hP, hK1, hD1⟩ := hB
            rw [ht] at hP
            have hD := hD1.weaken (fun k q _ h => hFc q.1 h)
            clear hz1 hk1 hFc hD1 hK1 hvm
            generalize H1 = H at hP hS ⊢
            have rg_x_165 := i_rng x_165
            have rg_x_166 := i_rng x_166
            have rg_r_164 := i_rng r_164
            have hP : va_P (dC, dI) vwCl (mW ad kc x0 x1 x2 x3 x4 x_118 x_119 x_120 x_165 x_166 x10 x11 x12 x13 x14 x15 x16 x17 x18 x19 x20 x21 f0 f1 f2 f3 f4 f5 f6 f7 f8 f9 f10 f11 f12 f13 f14 f15 f16 f17 f18 f19 f20 f21 fL fN fP fM fO) H := hP
            have hD : va_D A (mW ad kc x0 x1 x2 x3 x4 x_118 x_119 x_120 x_165 x_166 x10 x11 x12 x13 x14 x15 x16 x17 x18 x19 x20 x21 f0 f1 f2 f3 f4 f5 f6 f7 f8 f9 f10 f11 f12 f13 f14 f15 f16 f17 f18 f19 f20 f21 fL fN fP fM fO) := hD
            exact W.zret hx hb hr (z_nar (by first | assumption | decide | exact z_of (by omega))) (fun t ht hW => ⟨⟨_, _, rfl, rfl, x_118, x_119, x_120, x_165, x_166, x11, f0, q0, (fun _ _ => rfl), (by first | omega | assumption | rfl | decide), (by first | omega | assumption | rfl | decide), (by first | omega | assumption | rfl | decide), (fun h9 => by omega), by rw [ht]; exact hP, va_K.moved hW.alike hK, hD⟩, hS.F ht⟩) hS.2.2 dX10_aLine_79
        · have tk_116 := c_eq (a := y_114.toInt) (b := 8) rfl (by decide) k_116
          refine lv_aload_n hx hb dX10_aLine_56 rfl (lv_at hl 1 rfl) ?_
          refine lv_iconst (v := 3) hx hb dX10_aLine_57 (by decide) ?_
          have hFc := m_free hD hS hA
          refine va_calli (va_runV (As := [.int 3]) (rest := []) ⟨hx, hb, hml, hown, hts⟩ (m_fails l dC dI ad kc x0 x1 x2 x3 x4 x5 x6 x7 x8 x9 x10 x11 x12 x13 x14 x15 x16 x17 x18 x19 x20 x21 f0 f1 f2 f3 f4 f5 f6 f7 f8 f9 f10 f11 f12 f13 f14 f15 f16 f17 f18 f19 f20 f21 fL fN fP fM fO H.size 3 ) (cwV 1 hts mg_X10_aLinem_X10_fails_181 rfl rfl rfl (by decide +kernel) ⟨Nat.le_of_ble_eq_true rfl, Nat.le_of_ble_eq_true rfl⟩) ⟨fun a U g mk q => by obtain ⟨q0, q1, qP, qK, qD⟩ := q; exact ⟨q0, q1, qP, va_K.moved (u := U) (U := U.calling g mk a) (Vm.Alike.refl U.vm) qK, qD⟩, va_recv hK hP (ci := 10) (q0 := 0) rfl rfl, fun U hU hW => ⟨rfl, by rw [hU], by rw [hU]; exact hP, va_K.moved hW.alike hK, hD.weaken (fun _ _ _ _ => trivial)⟩⟩ rfl rfl hl.1 rfl (lv_room (Nat.le_of_ble_eq_true rfl)) dX10_aLine_58 ⟨Nat.le_of_ble_eq_true rfl, Nat.le_of_ble_eq_true rfl⟩) hS (fun q _ h => hFc q h) hFc (fun r_167 u t H1 locs ht hvm hw hB hz1 hk1 hS => ?_)
          subst hw
          obtain ⟨x_168, x_169, hr_167_0, hP, hK1, hD1⟩ := hB
          rw [ht] at hP
          have hD := hD1.weaken (fun k q _ h => hFc q.1 h)
          clear hz1 hk1 hFc hD1 hK1 hvm
          generalize H1 = H at hP hS ⊢
          have rg_x_168 := i_rng x_168
          have rg_x_169 := i_rng x_169
          have rg_r_167 := i_rng r_167
          have hP : va_P (dC, dI) vwCl (mW ad kc x0 x1 x2 x3 x4 x5 x6 x7 x_168 x_169 x10 x11 x12 x13 x14 x15 x16 x17 x18 x19 x20 x21 f0 f1 f2 f3 f4 f5 f6 f7 f8 f9 f10 f11 f12 f13 f14 f15 f16 f17 f18 f19 f20 f21 fL fN fP fM fO) H := hP
          have hD : va_D A (mW ad kc x0 x1 x2 x3 x4 x5 x6 x7 x_168 x_169 x10 x11 x12 x13 x14 x15 x16 x17 x18 x19 x20 x21 f0 f1 f2 f3 f4 f5 f6 f7 f8 f9 f10 f11 f12 f13 f14 f15 f16 f17 f18 f19 f20 f21 fL fN fP fM fO) := hD
          exact W.zret hx hb hr (z_nar (by first | assumption | decide | exact z_of (by omega))) (fun t ht hW => ⟨⟨_, _, rfl, rfl, x5, x6, x7, x_168, x_169, x11, f0, q0, (fun _ _ => rfl), (by first | omega | assumption | rfl | decide), (by first | omega | assumption | rfl | decide), (by first | omega | assumption | rfl | decide), (fun h9 => by omega), by rw [ht]; exact hP, va_K.moved hW.alike hK, hD⟩, hS.F ht⟩) hS.2.2 dX10_aLine_61
      · have tk_115 := c_ne (a := r_1.toInt) (b := 0) rfl (by decide) k_115
        refine lv_bipush (v := 10) hx hb dX10_aLine_46 (by decide) ?_
        refine lv_goto (tgt := 53) hx hb dX10_aLine_48 (by decide) ?_
        refine lv_icmp_ne (tgt := 62) hx hb dX10_aLine_53 (by decide) (fun k_170 => ?_) (fun k_170 => ?_)
        · have tk_170 := c_ne (a := y_114.toInt) (b := 10) rfl (by decide) k_170
          refine lv_aload_n hx hb dX10_aLine_62 rfl (lv_at hl 1 rfl) ?_
          have hFc := m_free hD hS hA
          refine va_callv (va_runV (As := []) (rest := []) ⟨hx, hb, hml, hown, hts⟩ (m_ahead l dC dI ad kc x0 x1 x2 x3 x4 x5 x6 x7 x8 x9 x10 x11 x12 x13 x14 x15 x16 x17 x18 x19 x20 x21 f0 f1 f2 f3 f4 f5 f6 f7 f8 f9 f10 f11 f12 f13 f14 f15 f16 f17 f18 f19 f20 f21 fL fN fP fM fO H.size (by first | omega | assumption | decide | (have l0 := Int32.toInt_zero; omega)) (by first | omega | assumption | decide | (have l0 := Int32.toInt_zero; omega)) (by first | omega | assumption | decide | (have l0 := Int32.toInt_zero; omega))) (cwV 0 hts mg_X10_aLinem_X10_ahead_184 rfl rfl rfl (by decide +kernel) ⟨Nat.le_of_ble_eq_true rfl, Nat.le_of_ble_eq_true rfl⟩) ⟨fun a U g mk q => by obtain ⟨q0, q1, qP, qK, qD⟩ := q; exact ⟨q0, q1, qP, va_K.moved (u := U) (U := U.calling g mk a) (Vm.Alike.refl U.vm) qK, qD⟩, va_recv hK hP (ci := 10) (q0 := 0) rfl rfl, fun U hU hW => ⟨rfl, by rw [hU], by rw [hU]; exact hP, va_K.moved hW.alike hK, hD.weaken (fun _ _ _ _ => trivial)⟩⟩ rfl rfl hl.1 rfl (lv_room (Nat.le_of_ble_eq_true rfl)) dX10_aLine_63 ⟨Nat.le_of_ble_eq_true rfl, Nat.le_of_ble_eq_true rfl⟩) hS (fun q _ h => hFc q h) hFc (fun u t H1 locs ht hvm hw hB hz1 hk1 hS => ?_)
          obtain ⟨x_172, x_173, x_174, hr_171_0, hr_171_1, hr_171_2, hr_171_3, hr_171_4, hP, hK1, hD1⟩ := hB
          rw [ht] at hP
          have hD := hD1.weaken (fun k q _ h => hFc q.1 h)
          clear hz1 hk1 hFc hD1 hK1 hvm
          generalize H1 = H at hP hS ⊢
          have rg_x_172 := i_rng x_172
          have rg_x_173 := i_rng x_173
          have rg_x_174 := i_rng x_174
          have hP : va_P (dC, dI) vwCl (mW ad kc x0 x1 x2 x3 x4 x_172 x_173 x_174 x8 x9 x10 x11 x12 x13 x14 x15 x16 x17 x18 x19 x20 x21 f0 f1 f2 f3 f4 f5 f6 f7 f8 f9 f10 f11 f12 f13 f14 f15 f16 f17 f18 f19 f20 f21 fL fN fP fM fO) H := hP
          have hD : va_D A (mW ad kc x0 x1 x2 x3 x4 x_172 x_173 x_174 x8 x9 x10 x11 x12 x13 x14 x15 x16 x17 x18 x19 x20 x21 f0 f1 f2 f3 f4 f5 f6 f7 f8 f9 f10 f11 f12 f13 f14 f15 f16 f17 f18 f19 f20 f21 fL fN fP fM fO) := hD
          refine lv_aload_n hx hb dX10_aLine_66 rfl (lv_at hl 1 rfl) ?_
          refine va_get (D := (dC, dI)) (ci := 10) (v := .int x_172) (C := RX10) (T := TX10) (N := 48) hx hb hts fin_X10_aLinem_X10 hown hK hP 0 rfl rfl 8 (by decide) (hts (.fieldLink RX10 120 "PatternGateModel" "token" "I") (List.mem_of_getElem? (i := 9) (by decide +kernel))) (fun _ h9 => h9) rfl dX10_aLine_67 ?_
          refine lv_iconst (v := 3) hx hb dX10_aLine_70 (by decide) ?_
          refine lv_icmp_eq (tgt := 80) hx hb dX10_aLine_71 (by decide) (fun k_175 => ?_) (fun k_175 => ?_)
          · have tk_175 := c_eq (a := x_172.toInt) (b := 3) rfl (by decide) k_175
            refine lv_iload_n hx hb dX10_aLine_80 rfl (lv_at hl 0 rfl) ?_
            refine lv_if_eq (tgt := 94) hx hb dX10_aLine_81 (by decide) (fun k_176 => ?_) (fun k_176 => ?_)
            · have tk_176 := c_eq (a := r_1.toInt) (b := 0) rfl (by decide) k_176
              refine lv_aload_n hx hb dX10_aLine_94 rfl (lv_at hl 1 rfl) ?_
              have hFc := m_free hD hS hA
              refine va_calli (va_runV (As := []) (rest := []) ⟨hx, hb, hml, hown, hts⟩ (m_patternQuote l dC dI ad kc x0 x1 x2 x3 x4 x_172 x_173 x_174 x8 x9 x10 x11 x12 x13 x14 x15 x16 x17 x18 x19 x20 x21 f0 f1 f2 f3 f4 f5 f6 f7 f8 f9 f10 f11 f12 f13 f14 f15 f16 f17 f18 f19 f20 f21 fL fN fP fM fO H.size (by first | omega | assumption | decide | (have l0 := Int32.toInt_zero; omega)) (by first | omega | assumption | decide | (have l0 := Int32.toInt_zero; omega)) (by first | omega | assumption | decide | (have l0 := Int32.toInt_zero; omega)) (by first | omega | assumption | decide | (have l0 := Int32.toInt_zero; omega)) (by first | omega | assumption | decide | (have l0 := Int32.toInt_zero; omega))) (cwV 0 hts mg_X10_aLinem_X10_patternQuote_190 rfl rfl rfl (by decide +kernel) ⟨Nat.le_of_ble_eq_true rfl, Nat.le_of_ble_eq_true rfl⟩) ⟨fun a U g mk q => by obtain ⟨q0, q1, qP, qK, qD⟩ := q; exact ⟨q0, q1, qP, va_K.moved (u := U) (U := U.calling g mk a) (Vm.Alike.refl U.vm) qK, qD⟩, va_recv hK hP (ci := 10) (q0 := 0) rfl rfl, fun U hU hW => ⟨rfl, by rw [hU], by rw [hU]; exact hP, va_K.moved hW.alike hK, hD.weaken (fun _ _ _ _ => trivial)⟩⟩ rfl rfl hl.1 rfl (lv_room (Nat.le_of_ble_eq_true rfl)) dX10_aLine_95 ⟨Nat.le_of_ble_eq_true rfl, Nat.le_of_ble_eq_true rfl⟩) hS (fun q _ h => hFc q h) hFc (fun r_177 u t H1 locs ht hvm hw hB hz1 hk1 hS => ?_)
              subst hw
              obtain ⟨x_178, x_179, x_180, x_181, f_182, hr_177_0, hr_177_1, hr_177_2, hr_177_3, hr_177_4, hP, hK1, hD1⟩ := hB
              rw [ht] at hP
              have hD := hD1.weaken (fun k q _ h => hFc q.1 h)
              clear hz1 hk1 hFc hD1 hK1 hvm
              generalize H1 = H at hP hS ⊢
              have rg_x_178 := i_rng x_178
              have rg_x_179 := i_rng x_179
              have rg_x_180 := i_rng x_180
              have rg_x_181 := i_rng x_181
              have rg_r_177 := i_rng r_177
              have hP : va_P (dC, dI) vwCl (mW ad kc x0 x1 x2 x3 x4 x_172 x_173 x_178 x_179 x_180 x10 x_181 x12 x13 x14 x15 x16 x17 x18 x19 x20 x21 f_182 f1 f2 f3 f4 f5 f6 f7 f8 f9 f10 f11 f12 f13 f14 f15 f16 f17 f18 f19 f20 f21 fL fN fP fM fO) H := hP
              have hD : va_D A (mW ad kc x0 x1 x2 x3 x4 x_172 x_173 x_178 x_179 x_180 x10 x_181 x12 x13 x14 x15 x16 x17 x18 x19 x20 x21 f_182 f1 f2 f3 f4 f5 f6 f7 f8 f9 f10 f11 f12 f13 f14 f15 f16 f17 f18 f19 f20 f21 fL fN fP fM fO) := hD
              have hq9 := hr_177_0
              have hq8 := hr_177_1
              refine lv_if_ne (tgt := 103) hx hb dX10_aLine_98 (by decide) (fun k_183 => ?_) (fun k_183 => ?_)
              · have tk_183 := c_ne (a := r_177.toInt) (b := 0) rfl (by decide) k_183
                refine lv_aload_n hx hb dX10_aLine_103 rfl (lv_at hl 1 rfl) ?_
                have hFc := m_free hD hS hA
                refine va_callv (va_runV (As := []) (rest := []) ⟨hx, hb, hml, hown, hts⟩ (m_ahead l dC dI ad kc x0 x1 x2 x3 x4 x_172 x_173 x_178 x_179 x_180 x10 x_181 x12 x13 x14 x15 x16 x17 x18 x19 x20 x21 f_182 f1 f2 f3 f4 f5 f6 f7 f8 f9 f10 f11 f12 f13 f14 f15 f16 f17 f18 f19 f20 f21 fL fN fP fM fO H.size (by first | omega | assumption | decide | (have l0 := Int32.toInt_zero; omega)) (by first | omega | assumption | decide | (have l0 := Int32.toInt_zero; omega)) (by first | omega | assumption | decide | (have l0 := Int32.toInt_zero; omega))) (cwV 0 hts mg_X10_aLinem_X10_ahead_184 rfl rfl rfl (by decide +kernel) ⟨Nat.le_of_ble_eq_true rfl, Nat.le_of_ble_eq_true rfl⟩) ⟨fun a U g mk q => by obtain ⟨q0, q1, qP, qK, qD⟩ := q; exact ⟨q0, q1, qP, va_K.moved (u := U) (U := U.calling g mk a) (Vm.Alike.refl U.vm) qK, qD⟩, va_recv hK hP (ci := 10) (q0 := 0) rfl rfl, fun U hU hW => ⟨rfl, by rw [hU], by rw [hU]; exact hP, va_K.moved hW.alike hK, hD.weaken (fun _ _ _ _ => trivial)⟩⟩ rfl rfl hl.1 rfl (lv_room (Nat.le_of_ble_eq_true rfl)) dX10_aLine_104 ⟨Nat.le_of_ble_eq_true rfl, Nat.le_of_ble_eq_true rfl⟩) hS (fun q _ h => hFc q h) hFc (fun u t H1 locs ht hvm hw hB hz1 hk1 hS => ?_)
                obtain ⟨x_185, x_186, x_187, hr_184_0, hr_184_1, hr_184_2, hr_184_3, hr_184_4, hP, hK1, hD1⟩ := hB
                rw [ht] at hP
                have hD := hD1.weaken (fun k q _ h => hFc q.1 h)
                clear hz1 hk1 hFc hD1 hK1 hvm
                generalize H1 = H at hP hS ⊢
                have rg_x_185 := i_rng x_185
                have rg_x_186 := i_rng x_186
                have rg_x_187 := i_rng x_187
                have hP : va_P (dC, dI) vwCl (mW ad kc x0 x1 x2 x3 x4 x_185 x_186 x_187 x_179 x_180 x10 x_181 x12 x13 x14 x15 x16 x17 x18 x19 x20 x21 f_182 f1 f2 f3 f4 f5 f6 f7 f8 f9 f10 f11 f12 f13 f14 f15 f16 f17 f18 f19 f20 f21 fL fN fP fM fO) H := hP
                have hD : va_D A (mW ad kc x0 x1 x2 x3 x4 x_185 x_186 x_187 x_179 x_180 x10 x_181 x12 x13 x14 x15 x16 x17 x18 x19 x20 x21 f_182 f1 f2 f3 f4 f5 f6 f7 f8 f9 f10 f11 f12 f13 f14 f15 f16 f17 f18 f19 f20 f21 fL fN fP fM fO) := hD
                refine lv_aload_n hx hb dX10_aLine_107 rfl (lv_at hl 1 rfl) ?_
                refine va_get (D := (dC, dI)) (ci := 10) (v := .int x_185) (C := RX10) (T := TX10) (N := 48) hx hb hts fin_X10_aLinem_X10 hown hK hP 0 rfl rfl 8 (by decide) (hts (.fieldLink RX10 120 "PatternGateModel" "token" "I") (List.mem_of_getElem? (i := 9) (by decide +kernel))) (fun _ h9 => h9) rfl dX10_aLine_108 ?_
                refine lv_iconst (v := 4) hx hb dX10_aLine_111 (by decide) ?_
                refine lv_icmp_eq (tgt := 121) hx hb dX10_aLine_112 (by decide) (fun k_188 => ?_) (fun k_188 => ?_)
                · have tk_188 := c_eq (a := x_185.toInt) (b := 4) rfl (by decide) k_188
                  refine lv_aload_n hx hb dX10_aLine_121 rfl (lv_at hl 1 rfl) ?_
                  have hFc := m_free hD hS hA
                  refine va_callv (va_runV (As := []) (rest := []) ⟨hx, hb, hml, hown, hts⟩ (m_ahead l dC dI ad kc x0 x1 x2 x3 x4 x_185 x_186 x_187 x_179 x_180 x10 x_181 x12 x13 x14 x15 x16 x17 x18 x19 x20 x21 f_182 f1 f2 f3 f4 f5 f6 f7 f8 f9 f10 f11 f12 f13 f14 f15 f16 f17 f18 f19 f20 f21 fL fN fP fM fO H.size (by first | omega | assumption | decide | (have l0 := Int32.toInt_zero; omega)) (by first | omega | assumption | decide | (have l0 := Int32.toInt_zero; omega)) (by first | omega | assumption | decide | (have l0 := Int32.toInt_zero; omega))) (cwV 0 hts mg_X10_aLinem_X10_ahead_184 rfl rfl rfl (by decide +kernel) ⟨Nat.le_of_ble_eq_true rfl, Nat.le_of_ble_eq_true rfl⟩) ⟨fun a U g mk q => by obtain ⟨q0, q1, qP, qK, qD⟩ := q; exact ⟨q0, q1, qP, va_K.moved (u := U) (U := U.calling g mk a) (Vm.Alike.refl U.vm) qK, qD⟩, va_recv hK hP (ci := 10) (q0 := 0) rfl rfl, fun U hU hW => ⟨rfl, by rw [hU], by rw [hU]; exact hP, va_K.moved hW.alike hK, hD.weaken (fun _ _ _ _ => trivial)⟩⟩ rfl rfl hl.1 rfl (lv_room (Nat.le_of_ble_eq_true rfl)) dX10_aLine_122 ⟨Nat.le_of_ble_eq_true rfl, Nat.le_of_ble_eq_true rfl⟩) hS (fun q _ h => hFc q h) hFc (fun u t H1 locs ht hvm hw hB hz1 hk1 hS => ?_)
                  obtain ⟨x_190, x_191, x_192, hr_189_0, hr_189_1, hr_189_2, hr_189_3, hr_189_4, hP, hK1, hD1⟩ := hB
                  rw [ht] at hP
                  have hD := hD1.weaken (fun k q _ h => hFc q.1 h)
                  clear hz1 hk1 hFc hD1 hK1 hvm
                  generalize H1 = H at hP hS ⊢
                  have rg_x_190 := i_rng x_190
                  have rg_x_191 := i_rng x_191
                  have rg_x_192 := i_rng x_192
                  have hP : va_P (dC, dI) vwCl (mW ad kc x0 x1 x2 x3 x4 x_190 x_191 x_192 x_179 x_180 x10 x_181 x12 x13 x14 x15 x16 x17 x18 x19 x20 x21 f_182 f1 f2 f3 f4 f5 f6 f7 f8 f9 f10 f11 f12 f13 f14 f15 f16 f17 f18 f19 f20 f21 fL fN fP fM fO) H := hP
                  have hD : va_D A (mW ad kc x0 x1 x2 x3 x4 x_190 x_191 x_192 x_179 x_180 x10 x_181 x12 x13 x14 x15 x16 x17 x18 x19 x20 x21 f_182 f1 f2 f3 f4 f5 f6 f7 f8 f9 f10 f11 f12 f13 f14 f15 f16 f17 f18 f19 f20 f21 fL fN fP fM fO) := hD
                  refine lv_iconst (v := 1) hx hb dX10_aLine_125 (by decide) ?_
                  have lit_192 : (1 : Int32).toInt = 1 := by decide
                  exact W.zret hx hb hr (z_nar (by first | assumption | decide | exact z_of (by omega))) (fun t ht hW => ⟨⟨_, _, rfl, rfl, x_190, x_191, x_192, x_179, x_180, x_181, f_182, hq9, hq8, (by first | omega | assumption | rfl | decide), (by first | omega | assumption | rfl | decide), (by first | omega | assumption | rfl | decide), (fun h9 => by omega), by rw [ht]; exact hP, va_K.moved hW.alike hK, hD⟩, hS.F ht⟩) hS.2.2 dX10_aLine_126
                · have tk_188 := c_ne (a := x_185.toInt) (b := 4) rfl (by decide) k_188
                  refine lv_aload_n hx hb dX10_aLine_115 rfl (lv_at hl 1 rfl) ?_
                  refine lv_iconst (v := 2) hx hb dX10_aLine_116 (by decide) ?_
                  have hFc := m_free hD hS hA
                  refine va_calli (va_runV (As := [.int 2]) (rest := []) ⟨hx, hb, hml, hown, hts⟩ (m_fails l dC dI ad kc x0 x1 x2 x3 x4 x_185 x_186 x_187 x_179 x_180 x10 x_181 x12 x13 x14 x15 x16 x17 x18 x19 x20 x21 f_182 f1 f2 f3 f4 f5 f6 f7 f8 f9 f10 f11 f12 f13 f14 f15 f16 f17 f18 f19 f20 f21 fL fN fP fM fO H.size 2 ) (cwV 1 hts mg_X10_aLinem_X10_fails_181 rfl rfl rfl (by decide +kernel) ⟨Nat.le_of_ble_eq_true rfl, Nat.le_of_ble_eq_true rfl⟩) ⟨fun a U g mk q => by obtain ⟨q0, q1, qP, qK, qD⟩ := q; exact ⟨q0, q1, qP, va_K.moved (u := U) (U := U.calling g mk a) (Vm.Alike.refl U.vm) qK, qD⟩, va_recv hK hP (ci := 10) (q0 := 0) rfl rfl, fun U hU hW => ⟨rfl, by rw [hU], by rw [hU]; exact hP, va_K.moved hW.alike hK, hD.weaken (fun _ _ _ _ => trivial)⟩⟩ rfl rfl hl.1 rfl (lv_room (Nat.le_of_ble_eq_true rfl)) dX10_aLine_117 ⟨Nat.le_of_ble_eq_true rfl, Nat.le_of_ble_eq_true rfl⟩) hS (fun q _ h => hFc q h) hFc (fun r_194 u t H1 locs ht hvm hw hB hz1 hk1 hS => ?_)
                  subst hw
                  obtain ⟨x_195, x_196, hr_194_0, hP, hK1, hD1⟩ := hB
                  rw [ht] at hP
                  have hD := hD1.weaken (fun k q _ h => hFc q.1 h)
                  clear hz1 hk1 hFc hD1 hK1 hvm
                  generalize H1 = H at hP hS ⊢
                  have rg_x_195 := i_rng x_195
                  have rg_x_196 := i_rng x_196
                  have rg_r_194 := i_rng r_194
                  have hP : va_P (dC, dI) vwCl (mW ad kc x0 x1 x2 x3 x4 x_185 x_186 x_187 x_195 x_196 x10 x_181 x12 x13 x14 x15 x16 x17 x18 x19 x20 x21 f_182 f1 f2 f3 f4 f5 f6 f7 f8 f9 f10 f11 f12 f13 f14 f15 f16 f17 f18 f19 f20 f21 fL fN fP fM fO) H := hP
                  have hD : va_D A (mW ad kc x0 x1 x2 x3 x4 x_185 x_186 x_187 x_195 x_196 x10 x_181 x12 x13 x14 x15 x16 x17 x18 x19 x20 x21 f_182 f1 f2 f3 f4 f5 f6 f7 f8 f9 f10 f11 f12 f13 f14 f15 f16 f17 f18 f19 f20 f21 fL fN fP fM fO) := hD
                  exact W.zret hx hb hr (z_nar (by first | assumption | decide | exact z_of (by omega))) (fun t ht hW => ⟨⟨_, _, rfl, rfl, x_185, x_186, x_187, x_195, x_196, x_181, f_182, hq9, hq8, (by first | omega | assumption | rfl | decide), (by first | omega | assumption | rfl | decide), (by first | omega | assumption | rfl | decide), (fun h9 => by omega), by rw [ht]; exact hP, va_K.moved hW.alike hK, hD⟩, hS.F ht⟩) hS.2.2 dX10_aLine_120
              · have tk_183 := c_eq (a := r_177.toInt) (b := 0) rfl (by decide) k_183
                refine lv_iconst (v := 0) hx hb dX10_aLine_101 (by decide) ?_
                have lit_196 : (0 : Int32).toInt = 0 := by decide
                exact W.zret hx hb hr (z_nar (by first | assumption | decide | exact z_of (by omega))) (fun t ht hW => ⟨⟨_, _, rfl, rfl, x_172, x_173, x_178, x_179, x_180, x_181, f_182, hq9, hq8, (by first | omega | assumption | rfl | decide), (by first | omega | assumption | rfl | decide), (by first | omega | assumption | rfl | decide), (fun h9 => by omega), by rw [ht]; exact hP, va_K.moved hW.alike hK, hD⟩, hS.F ht⟩) hS.2.2 dX10_aLine_102
            · have tk_176 := c_ne (a := r_1.toInt) (b := 0) rfl (by decide) k_176
              refine lv_aload_n hx hb dX10_aLine_84 rfl (lv_at hl 1 rfl) ?_
              have hFc := m_free hD hS hA
              refine va_calli (va_runV (As := []) (rest := []) ⟨hx, hb, hml, hown, hts⟩ (m_docQuote l dC dI ad kc x0 x1 x2 x3 x4 x_172 x_173 x_174 x8 x9 x10 x11 x12 x13 x14 x15 x16 x17 x18 x19 x20 x21 f0 f1 f2 f3 f4 f5 f6 f7 f8 f9 f10 f11 f12 f13 f14 f15 f16 f17 f18 f19 f20 f21 fL fN fP fM fO H.size (by first | omega | assumption | decide | (have l0 := Int32.toInt_zero; omega)) (by first | omega | assumption | decide | (have l0 := Int32.toInt_zero; omega)) (by first | omega | assumption | decide | (have l0 := Int32.toInt_zero; omega)) (by first | omega | assumption | decide | (have l0 := Int32.toInt_zero; omega)) (by first | omega | assumption | decide | (have l0 := Int32.toInt_zero; omega))) (cwV 0 hts mg_X10_aLinem_X10_docQuote_187 rfl rfl rfl (by decide +kernel) ⟨Nat.le_of_ble_eq_true rfl, Nat.le_of_ble_eq_true rfl⟩) ⟨fun a U g mk q => by obtain ⟨q0, q1, qP, qK, qD⟩ := q; exact ⟨q0, q1, qP, va_K.moved (u := U) (U := U.calling g mk a) (Vm.Alike.refl U.vm) qK, qD⟩, va_recv hK hP (ci := 10) (q0 := 0) rfl rfl, fun U hU hW => ⟨rfl, by rw [hU], by rw [hU]; exact hP, va_K.moved hW.alike hK, hD.weaken (fun _ _ _ _ => trivial)⟩⟩ rfl rfl hl.1 rfl (lv_room (Nat.le_of_ble_eq_true rfl)) dX10_aLine_85 ⟨Nat.le_of_ble_eq_true rfl, Nat.le_of_ble_eq_true rfl⟩) hS (fun q _ h => hFc q h) hFc (fun r_198 u t H1 locs ht hvm hw hB hz1 hk1 hS => ?_)
              subst hw
              obtain ⟨x_199, x_200, x_201, f_202, hr_198_0, hr_198_1, hr_198_2, hr_198_3, hr_198_4, hP, hK1, hD1⟩ := hB
              rw [ht] at hP
              have hD := hD1.weaken (fun k q _ h => hFc q.1 h)
              clear hz1 hk1 hFc hD1 hK1 hvm
              generalize H1 = H at hP hS ⊢
              have rg_x_199 := i_rng x_199
              have rg_x_200 := i_rng x_200
              have rg_x_201 := i_rng x_201
              have rg_r_198 := i_rng r_198
              have hP : va_P (dC, dI) vwCl (mW ad kc x0 x1 x2 x3 x4 x_172 x_173 x_199 x_200 x_201 x10 x11 x12 x13 x14 x15 x16 x17 x18 x19 x20 x21 f_202 f1 f2 f3 f4 f5 f6 f7 f8 f9 f10 f11 f12 f13 f14 f15 f16 f17 f18 f19 f20 f21 fL fN fP fM fO) H := hP
              have hD : va_D A (mW ad kc x0 x1 x2 x3 x4 x_172 x_173 x_199 x_200 x_201 x10 x11 x12 x13 x14 x15 x16 x17 x18 x19 x20 x21 f_202 f1 f2 f3 f4 f5 f6 f7 f8 f9 f10 f11 f12 f13 f14 f15 f16 f17 f18 f19 f20 f21 fL fN fP fM fO) := hD
              have hq9 := hr_198_0
              have hq8 := hr_198_1
              refine lv_if_eq (tgt := 101) hx hb dX10_aLine_88 (by decide) (fun k_203 => ?_) (fun k_203 => ?_)
              · have tk_203 := c_eq (a := r_198.toInt) (b := 0) rfl (by decide) k_203
                refine lv_iconst (v := 0) hx hb dX10_aLine_101 (by decide) ?_
                have lit_203 : (0 : Int32).toInt = 0 := by decide
                exact W.zret hx hb hr (z_nar (by first | assumption | decide | exact z_of (by omega))) (fun t ht hW => ⟨⟨_, _, rfl, rfl, x_172, x_173, x_199, x_200, x_201, x11, f_202, hq9, hq8, (by first | omega | assumption | rfl | decide), (by first | omega | assumption | rfl | decide), (by first | omega | assumption | rfl | decide), (fun h9 => by omega), by rw [ht]; exact hP, va_K.moved hW.alike hK, hD⟩, hS.F ht⟩) hS.2.2 dX10_aLine_102
              · have tk_203 := c_ne (a := r_198.toInt) (b := 0) rfl (by decide) k_203
                refine lv_goto (tgt := 103) hx hb dX10_aLine_91 (by decide) ?_
                refine lv_aload_n hx hb dX10_aLine_103 rfl (lv_at hl 1 rfl) ?_
                have hFc := m_free hD hS hA
                refine va_callv (va_runV (As := []) (rest := []) ⟨hx, hb, hml, hown, hts⟩ (m_ahead l dC dI ad kc x0 x1 x2 x3 x4 x_172 x_173 x_199 x_200 x_201 x10 x11 x12 x13 x14 x15 x16 x17 x18 x19 x20 x21 f_202 f1 f2 f3 f4 f5 f6 f7 f8 f9 f10 f11 f12 f13 f14 f15 f16 f17 f18 f19 f20 f21 fL fN fP fM fO H.size (by first | omega | assumption | decide | (have l0 := Int32.toInt_zero; omega)) (by first | omega | assumption | decide | (have l0 := Int32.toInt_zero; omega)) (by first | omega | assumption | decide | (have l0 := Int32.toInt_zero; omega))) (cwV 0 hts mg_X10_aLinem_X10_ahead_184 rfl rfl rfl (by decide +kernel) ⟨Nat.le_of_ble_eq_true rfl, Nat.le_of_ble_eq_true rfl⟩) ⟨fun a U g mk q => by obtain ⟨q0, q1, qP, qK, qD⟩ := q; exact ⟨q0, q1, qP, va_K.moved (u := U) (U := U.calling g mk a) (Vm.Alike.refl U.vm) qK, qD⟩, va_recv hK hP (ci := 10) (q0 := 0) rfl rfl, fun U hU hW => ⟨rfl, by rw [hU], by rw [hU]; exact hP, va_K.moved hW.alike hK, hD.weaken (fun _ _ _ _ => trivial)⟩⟩ rfl rfl hl.1 rfl (lv_room (Nat.le_of_ble_eq_true rfl)) dX10_aLine_104 ⟨Nat.le_of_ble_eq_true rfl, Nat.le_of_ble_eq_true rfl⟩) hS (fun q _ h => hFc q h) hFc (fun u t H1 locs ht hvm hw hB hz1 hk1 hS => ?_)
                obtain ⟨x_206, x_207, x_208, hr_205_0, hr_205_1, hr_205_2, hr_205_3, hr_205_4, hP, hK1, hD1⟩ := hB
                rw [ht] at hP
                have hD := hD1.weaken (fun k q _ h => hFc q.1 h)
                clear hz1 hk1 hFc hD1 hK1 hvm
                generalize H1 = H at hP hS ⊢
                have rg_x_206 := i_rng x_206
                have rg_x_207 := i_rng x_207
                have rg_x_208 := i_rng x_208
                have hP : va_P (dC, dI) vwCl (mW ad kc x0 x1 x2 x3 x4 x_206 x_207 x_208 x_200 x_201 x10 x11 x12 x13 x14 x15 x16 x17 x18 x19 x20 x21 f_202 f1 f2 f3 f4 f5 f6 f7 f8 f9 f10 f11 f12 f13 f14 f15 f16 f17 f18 f19 f20 f21 fL fN fP fM fO) H := hP
                have hD : va_D A (mW ad kc x0 x1 x2 x3 x4 x_206 x_207 x_208 x_200 x_201 x10 x11 x12 x13 x14 x15 x16 x17 x18 x19 x20 x21 f_202 f1 f2 f3 f4 f5 f6 f7 f8 f9 f10 f11 f12 f13 f14 f15 f16 f17 f18 f19 f20 f21 fL fN fP fM fO) := hD
                refine lv_aload_n hx hb dX10_aLine_107 rfl (lv_at hl 1 rfl) ?_
                refine va_get (D := (dC, dI)) (ci := 10) (v := .int x_206) (C := RX10) (T := TX10) (N := 48) hx hb hts fin_X10_aLinem_X10 hown hK hP 0 rfl rfl 8 (by decide) (hts (.fieldLink RX10 120 "PatternGateModel" "token" "I") (List.mem_of_getElem? (i := 9) (by decide +kernel))) (fun _ h9 => h9) rfl dX10_aLine_108 ?_
                refine lv_iconst (v := 4) hx hb dX10_aLine_111 (by decide) ?_
                refine lv_icmp_eq (tgt := 121) hx hb dX10_aLine_112 (by decide) (fun k_209 => ?_) (fun k_209 => ?_)
                · have tk_209 := c_eq (a := x_206.toInt) (b := 4) rfl (by decide) k_209
                  refine lv_aload_n hx hb dX10_aLine_121 rfl (lv_at hl 1 rfl) ?_
                  have hFc := m_free hD hS hA
                  refine va_callv (va_runV (As := []) (rest := []) ⟨hx, hb, hml, hown, hts⟩ (m_ahead l dC dI ad kc x0 x1 x2 x3 x4 x_206 x_207 x_208 x_200 x_201 x10 x11 x12 x13 x14 x15 x16 x17 x18 x19 x20 x21 f_202 f1 f2 f3 f4 f5 f6 f7 f8 f9 f10 f11 f12 f13 f14 f15 f16 f17 f18 f19 f20 f21 fL fN fP fM fO H.size (by first | omega | assumption | decide | (have l0 := Int32.toInt_zero; omega)) (by first | omega | assumption | decide | (have l0 := Int32.toInt_zero; omega)) (by first | omega | assumption | decide | (have l0 := Int32.toInt_zero; omega))) (cwV 0 hts mg_X10_aLinem_X10_ahead_184 rfl rfl rfl (by decide +kernel) ⟨Nat.le_of_ble_eq_true rfl, Nat.le_of_ble_eq_true rfl⟩) ⟨fun a U g mk q => by obtain ⟨q0, q1, qP, qK, qD⟩ := q; exact ⟨q0, q1, qP, va_K.moved (u := U) (U := U.calling g mk a) (Vm.Alike.refl U.vm) qK, qD⟩, va_recv hK hP (ci := 10) (q0 := 0) rfl rfl, fun U hU hW => ⟨rfl, by rw [hU], by rw [hU]; exact hP, va_K.moved hW.alike hK, hD.weaken (fun _ _ _ _ => trivial)⟩⟩ rfl rfl hl.1 rfl (lv_room (Nat.le_of_ble_eq_true rfl)) dX10_aLine_122 ⟨Nat.le_of_ble_eq_true rfl, Nat.le_of_ble_eq_true rfl⟩) hS (fun q _ h => hFc q h) hFc (fun u t H1 locs ht hvm hw hB hz1 hk1 hS => ?_)
                  obtain ⟨x_211, x_212, x_213, hr_210_0, hr_210_1, hr_210_2, hr_210_3, hr_210_4, hP, hK1, hD1⟩ := hB
                  rw [ht] at hP
                  have hD := hD1.weaken (fun k q _ h => hFc q.1 h)
                  clear hz1 hk1 hFc hD1 hK1 hvm
                  generalize H1 = H at hP hS ⊢
                  have rg_x_211 := i_rng x_211
                  have rg_x_212 := i_rng x_212
                  have rg_x_213 := i_rng x_213
                  have hP : va_P (dC, dI) vwCl (mW ad kc x0 x1 x2 x3 x4 x_211 x_212 x_213 x_200 x_201 x10 x11 x12 x13 x14 x15 x16 x17 x18 x19 x20 x21 f_202 f1 f2 f3 f4 f5 f6 f7 f8 f9 f10 f11 f12 f13 f14 f15 f16 f17 f18 f19 f20 f21 fL fN fP fM fO) H := hP
                  have hD : va_D A (mW ad kc x0 x1 x2 x3 x4 x_211 x_212 x_213 x_200 x_201 x10 x11 x12 x13 x14 x15 x16 x17 x18 x19 x20 x21 f_202 f1 f2 f3 f4 f5 f6 f7 f8 f9 f10 f11 f12 f13 f14 f15 f16 f17 f18 f19 f20 f21 fL fN fP fM fO) := hD
                  refine lv_iconst (v := 1) hx hb dX10_aLine_125 (by decide) ?_
                  have lit_213 : (1 : Int32).toInt = 1 := by decide
                  exact W.zret hx hb hr (z_nar (by first | assumption | decide | exact z_of (by omega))) (fun t ht hW => ⟨⟨_, _, rfl, rfl, x_211, x_212, x_213, x_200, x_201, x11, f_202, hq9, hq8, (by first | omega | assumption | rfl | decide), (by first | omega | assumption | rfl | decide), (by first | omega | assumption | rfl | decide), (fun h9 => by omega), by rw [ht]; exact hP, va_K.moved hW.alike hK, hD⟩, hS.F ht⟩) hS.2.2 dX10_aLine_126
                · have tk_209 := c_ne (a := x_206.toInt) (b := 4) rfl (by decide) k_209
                  refine lv_aload_n hx hb dX10_aLine_115 rfl (lv_at hl 1 rfl) ?_
                  refine lv_iconst (v := 2) hx hb dX10_aLine_116 (by decide) ?_
                  have hFc := m_free hD hS hA
                  refine va_calli (va_runV (As := [.int 2]) (rest := []) ⟨hx, hb, hml, hown, hts⟩ (m_fails l dC dI ad kc x0 x1 x2 x3 x4 x_206 x_207 x_208 x_200 x_201 x10 x11 x12 x13 x14 x15 x16 x17 x18 x19 x20 x21 f_202 f1 f2 f3 f4 f5 f6 f7 f8 f9 f10 f11 f12 f13 f14 f15 f16 f17 f18 f19 f20 f21 fL fN fP fM fO H.size 2 ) (cwV 1 hts mg_X10_aLinem_X10_fails_181 rfl rfl rfl (by decide +kernel) ⟨Nat.le_of_ble_eq_true rfl, Nat.le_of_ble_eq_true rfl⟩) ⟨fun a U g mk q => by obtain ⟨q0, q1, qP, qK, qD⟩ := q; exact ⟨q0, q1, qP, va_K.moved (u := U) (U := U.calling g mk a) (Vm.Alike.refl U.vm) qK, qD⟩, va_recv hK hP (ci := 10) (q0 := 0) rfl rfl, fun U hU hW => ⟨rfl, by rw [hU], by rw [hU]; exact hP, va_K.moved hW.alike hK, hD.weaken (fun _ _ _ _ => trivial)⟩⟩ rfl rfl hl.1 rfl (lv_room (Nat.le_of_ble_eq_true rfl)) dX10_aLine_117 ⟨Nat.le_of_ble_eq_true rfl, Nat.le_of_ble_eq_true rfl⟩) hS (fun q _ h => hFc q h) hFc (fun r_215 u t H1 locs ht hvm hw hB hz1 hk1 hS => ?_)
                  subst hw
                  obtain ⟨x_216, x_217, hr_215_0, hP, hK1, hD1⟩ := hB
                  rw [ht] at hP
                  have hD := hD1.weaken (fun k q _ h => hFc q.1 h)
                  clear hz1 hk1 hFc hD1 hK1 hvm
                  generalize H1 = H at hP hS ⊢
                  have rg_x_216 := i_rng x_216
                  have rg_x_217 := i_rng x_217
                  have rg_r_215 := i_rng r_215
                  have hP : va_P (dC, dI) vwCl (mW ad kc x0 x1 x2 x3 x4 x_206 x_207 x_208 x_216 x_217 x10 x11 x12 x13 x14 x15 x16 x17 x18 x19 x20 x21 f_202 f1 f2 f3 f4 f5 f6 f7 f8 f9 f10 f11 f12 f13 f14 f15 f16 f17 f18 f19 f20 f21 fL fN fP fM fO) H := hP
                  have hD : va_D A (mW ad kc x0 x1 x2 x3 x4 x_206 x_207 x_208 x_216 x_217 x10 x11 x12 x13 x14 x15 x16 x17 x18 x19 x20 x21 f_202 f1 f2 f3 f4 f5 f6 f7 f8 f9 f10 f11 f12 f13 f14 f15 f16 f17 f18 f19 f20 f21 fL fN fP fM fO) := hD
                  exact W.zret hx hb hr (z_nar (by first | assumption | decide | exact z_of (by omega))) (fun t ht hW => ⟨⟨_, _, rfl, rfl, x_206, x_207, x_208, x_216, x_217, x11, f_202, hq9, hq8, (by first | omega | assumption | rfl | decide), (by first | omega | assumption | rfl | decide), (by first | omega | assumption | rfl | decide), (fun h9 => by omega), by rw [ht]; exact hP, va_K.moved hW.alike hK, hD⟩, hS.F ht⟩) hS.2.2 dX10_aLine_120
          · have tk_175 := c_ne (a := x_172.toInt) (b := 3) rfl (by decide) k_175
            refine lv_aload_n hx hb dX10_aLine_74 rfl (lv_at hl 1 rfl) ?_
            refine lv_iconst (v := 2) hx hb dX10_aLine_75 (by decide) ?_
            have hFc := m_free hD hS hA
            refine va_calli (va_runV (As := [.int 2]) (rest := []) ⟨hx, hb, hml, hown, hts⟩ (m_fails l dC dI ad kc x0 x1 x2 x3 x4 x_172 x_173 x_174 x8 x9 x10 x11 x12 x13 x14 x15 x16 x17 x18 x19 x20 x21 f0 f1 f2 f3 f4 f5 f6 f7 f8 f9 f10 f11 f12 f13 f14 f15 f16 f17 f18 f19 f20 f21 fL fN fP fM fO H.size 2 ) (cwV 1 hts mg_X10_aLinem_X10_fails_181 rfl rfl rfl (by decide +kernel) ⟨Nat.le_of_ble_eq_true rfl, Nat.le_of_ble_eq_true rfl⟩) ⟨fun a U g mk q => by obtain ⟨q0, q1, qP, qK, qD⟩ := q; exact ⟨q0, q1, qP, va_K.moved (u := U) (U := U.calling g mk a) (Vm.Alike.refl U.vm) qK, qD⟩, va_recv hK hP (ci := 10) (q0 := 0) rfl rfl, fun U hU hW => ⟨rfl, by rw [hU], by rw [hU]; exact hP, va_K.moved hW.alike hK, hD.weaken (fun _ _ _ _ => trivial)⟩⟩ rfl rfl hl.1 rfl (lv_room (Nat.le_of_ble_eq_true rfl)) dX10_aLine_76 ⟨Nat.le_of_ble_eq_true rfl, Nat.le_of_ble_eq_true rfl⟩) hS (fun q _ h => hFc q h) hFc (fun r_218 u t H1 locs ht hvm hw hB hz1 hk1 hS => ?_)
            subst hw
            obtain ⟨x_219, x_220, hr_218_0, hP, hK1, hD1⟩ := hB
            rw [ht] at hP
            have hD := hD1.weaken (fun k q _ h => hFc q.1 h)
            clear hz1 hk1 hFc hD1 hK1 hvm
            generalize H1 = H at hP hS ⊢
            have rg_x_219 := i_rng x_219
            have rg_x_220 := i_rng x_220
            have rg_r_218 := i_rng r_218
            have hP : va_P (dC, dI) vwCl (mW ad kc x0 x1 x2 x3 x4 x_172 x_173 x_174 x_219 x_220 x10 x11 x12 x13 x14 x15 x16 x17 x18 x19 x20 x21 f0 f1 f2 f3 f4 f5 f6 f7 f8 f9 f10 f11 f12 f13 f14 f15 f16 f17 f18 f19 f20 f21 fL fN fP fM fO) H := hP
            have hD : va_D A (mW ad kc x0 x1 x2 x3 x4 x_172 x_173 x_174 x_219 x_220 x10 x11 x12 x13 x14 x15 x16 x17 x18 x19 x20 x21 f0 f1 f2 f3 f4 f5 f6 f7 f8 f9 f10 f11 f12 f13 f14 f15 f16 f17 f18 f19 f20 f21 fL fN fP fM fO) := hD
            exact W.zret hx hb hr (z_nar (by first | assumption | decide | exact z_of (by omega))) (fun t ht hW => ⟨⟨_, _, rfl, rfl, x_172, x_173, x_174, x_219, x_220, x11, f0, q0, (fun _ _ => rfl), (by first | omega | assumption | rfl | decide), (by first | omega | assumption | rfl | decide), (by first | omega | assumption | rfl | decide), (fun h9 => by omega), by rw [ht]; exact hP, va_K.moved hW.alike hK, hD⟩, hS.F ht⟩) hS.2.2 dX10_aLine_79
        · have tk_170 := c_eq (a := y_114.toInt) (b := 10) rfl (by decide) k_170
          refine lv_aload_n hx hb dX10_aLine_56 rfl (lv_at hl 1 rfl) ?_
          refine lv_iconst (v := 3) hx hb dX10_aLine_57 (by decide) ?_
          have hFc := m_free hD hS hA
          refine va_calli (va_runV (As := [.int 3]) (rest := []) ⟨hx, hb, hml, hown, hts⟩ (m_fails l dC dI ad kc x0 x1 x2 x3 x4 x5 x6 x7 x8 x9 x10 x11 x12 x13 x14 x15 x16 x17 x18 x19 x20 x21 f0 f1 f2 f3 f4 f5 f6 f7 f8 f9 f10 f11 f12 f13 f14 f15 f16 f17 f18 f19 f20 f21 fL fN fP fM fO H.size 3 ) (cwV 1 hts mg_X10_aLinem_X10_fails_181 rfl rfl rfl (by decide +kernel) ⟨Nat.le_of_ble_eq_true rfl, Nat.le_of_ble_eq_true rfl⟩) ⟨fun a U g mk q => by obtain ⟨q0, q1, qP, qK, qD⟩ := q; exact ⟨q0, q1, qP, va_K.moved (u := U) (U := U.calling g mk a) (Vm.Alike.refl U.vm) qK, qD⟩, va_recv hK hP (ci := 10) (q0 := 0) rfl rfl, fun U hU hW => ⟨rfl, by rw [hU], by rw [hU]; exact hP, va_K.moved hW.alike hK, hD.weaken (fun _ _ _ _ => trivial)⟩⟩ rfl rfl hl.1 rfl (lv_room (Nat.le_of_ble_eq_true rfl)) dX10_aLine_58 ⟨Nat.le_of_ble_eq_true rfl, Nat.le_of_ble_eq_true rfl⟩) hS (fun q _ h => hFc q h) hFc (fun r_221 u t H1 locs ht hvm hw hB hz1 hk1 hS => ?_)
          subst hw
          obtain ⟨x_222, x_223, hr_221_0, hP, hK1, hD1⟩ := hB
          rw [ht] at hP
          have hD := hD1.weaken (fun k q _ h => hFc q.1 h)
          clear hz1 hk1 hFc hD1 hK1 hvm
          generalize H1 = H at hP hS ⊢
          have rg_x_222 := i_rng x_222
          have rg_x_223 := i_rng x_223
          have rg_r_221 := i_rng r_221
          have hP : va_P (dC, dI) vwCl (mW ad kc x0 x1 x2 x3 x4 x5 x6 x7 x_222 x_223 x10 x11 x12 x13 x14 x15 x16 x17 x18 x19 x20 x21 f0 f1 f2 f3 f4 f5 f6 f7 f8 f9 f10 f11 f12 f13 f14 f15 f16 f17 f18 f19 f20 f21 fL fN fP fM fO) H := hP
          have hD : va_D A (mW ad kc x0 x1 x2 x3 x4 x5 x6 x7 x_222 x_223 x10 x11 x12 x13 x14 x15 x16 x17 x18 x19 x20 x21 f0 f1 f2 f3 f4 f5 f6 f7 f8 f9 f10 f11 f12 f13 f14 f15 f16 f17 f18 f19 f20 f21 fL fN fP fM fO) := hD
          exact W.zret hx hb hr (z_nar (by first | assumption | decide | exact z_of (by omega))) (fun t ht hW => ⟨⟨_, _, rfl, rfl, x5, x6, x7, x_222, x_223, x11, f0, q0, (fun _ _ => rfl), (by first | omega | assumption | rfl | decide), (by first | omega | assumption | rfl | decide), (by first | omega | assumption | rfl | decide), (fun h9 => by omega), by rw [ht]; exact hP, va_K.moved hW.alike hK, hD⟩, hS.F ht⟩) hS.2.2 dX10_aLine_61
  · have tk_2 := c_eq (a := r_1.toInt) (b := 0) rfl (by decide) k_2
    refine lv_aload_n hx hb dX10_aLine_11 rfl (lv_at hl 1 rfl) ?_
    refine va_ldcS hx hb hown hR179 dX10_aLine_12 ?_
    have hFc := m_free hD hS hA
    refine va_calli (va_runV (As := [.ref qp]) (rest := []) ⟨hx, hb, hml, hown, hts⟩ (m_isWord l dC dI ad kc x0 x1 x2 x3 x4 x5 x6 x7 x8 x9 x10 x11 x12 x13 x14 x15 x16 x17 x18 x19 x20 x21 f0 f1 f2 f3 f4 f5 f6 f7 f8 f9 f10 f11 f12 f13 f14 f15 f16 f17 f18 f19 f20 f21 fL fN fP fM fO H.size qp 7 (by first | omega | assumption | decide | (have l0 := Int32.toInt_zero; omega)) (by first | omega | assumption | decide | (have l0 := Int32.toInt_zero; omega)) (by first | omega | assumption | decide | (have l0 := Int32.toInt_zero; omega))) (cwV 1 hts mg_X10_aLinem_X10_isWord_175 rfl rfl rfl (by decide +kernel) ⟨Nat.le_of_ble_eq_true rfl, Nat.le_of_ble_eq_true rfl⟩) ⟨fun a U g mk q => by obtain ⟨q0, q1, qP, qK, qD, qE0, qE1⟩ := q; exact ⟨q0, q1, qP, va_K.moved (u := U) (U := U.calling g mk a) (Vm.Alike.refl U.vm) qK, qD, sX.moved (u := U) (U := U.calling g mk a) (Vm.Alike.refl U.vm) qE0, sC.moved (u := U) (U := U.calling g mk a) (Vm.Alike.refl U.vm) qE1⟩, va_recv hK hP (ci := 10) (q0 := 0) rfl rfl, fun U hU hW => ⟨rfl, by rw [hU], by rw [hU]; exact hP, va_K.moved hW.alike hK, hD.weaken (fun _ _ _ _ => trivial), sX.to hXp hS hFc hW hU, sC.to hC9 hS hFc hW hU⟩⟩ rfl rfl hl.1 rfl (lv_room (Nat.le_of_ble_eq_true rfl)) dX10_aLine_14 ⟨Nat.le_of_ble_eq_true rfl, Nat.le_of_ble_eq_true rfl⟩) hS (fun q _ h => hFc q h) hFc (fun r_224 u t H1 locs ht hvm hw hB hz1 hk1 hS => ?_)
    subst hw
    obtain ⟨hr_224_0, hP, hK1, hD1⟩ := hB
    rw [ht] at hP
    have hD := hD1.weaken (fun k q _ h => hFc q.1 h)
    clear hz1 hk1 hFc hD1 hK1 hvm
    generalize H1 = H at hP hS ⊢
    have rg_r_224 := i_rng r_224
    have hP : va_P (dC, dI) vwCl (mW ad kc x0 x1 x2 x3 x4 x5 x6 x7 x8 x9 x10 x11 x12 x13 x14 x15 x16 x17 x18 x19 x20 x21 f0 f1 f2 f3 f4 f5 f6 f7 f8 f9 f10 f11 f12 f13 f14 f15 f16 f17 f18 f19 f20 f21 fL fN fP fM fO) H := hP
    have hD : va_D A (mW ad kc x0 x1 x2 x3 x4 x5 x6 x7 x8 x9 x10 x11 x12 x13 x14 x15 x16 x17 x18 x19 x20 x21 f0 f1 f2 f3 f4 f5 f6 f7 f8 f9 f10 f11 f12 f13 f14 f15 f16 f17 f18 f19 f20 f21 fL fN fP fM fO) := hD
    refine lv_if_ne (tgt := 26) hx hb dX10_aLine_17 (by decide) (fun k_225 => ?_) (fun k_225 => ?_)
    · have tk_225 := c_ne (a := r_224.toInt) (b := 0) rfl (by decide) k_225
      refine lv_aload_n hx hb dX10_aLine_26 rfl (lv_at hl 1 rfl) ?_
      refine va_get (D := (dC, dI)) (ci := 10) (v := .ref (ad 1)) (C := RX10) (T := TX10) (N := 48) hx hb hts fin_X10_aLinem_X10 hown hK hP 0 rfl rfl 0 (by decide) (hts (.fieldLink RX10 8 "PatternGateModel" "all" "[I") (List.mem_of_getElem? (i := 5) (by decide +kernel))) (fun _ h9 => h9) rfl dX10_aLine_27 ?_
      refine lv_iload_n hx hb dX10_aLine_30 rfl (lv_at hl 0 rfl) ?_
      refine lv_if_eq (tgt := 38) hx hb dX10_aLine_31 (by decide) (fun k_226 => ?_) (fun k_226 => ?_)
      · have tk_226 := c_eq (a := r_1.toInt) (b := 0) rfl (by decide) k_226
        refine lv_sipush (v := 611) hx hb dX10_aLine_38 (by decide) ?_
        refine va_iald hx hb hK hP 1 0 rfl rfl (i := 611) (by unfold vp_in; decide +kernel) dX10_aLine_41 ?_
        refine lv_topi (fun y_227 ey_227 => ?_)
        have rg_y_227 := i_rng y_227
        have vy_227 := vI_lda (f := f0) (i := 611) (a := 611) ey_227 (by first | omega | decide)
        have rg_y_227 := i_rng y_227
        refine lv_iload_n hx hb dX10_aLine_42 rfl (lv_at hl 0 rfl) ?_
        refine lv_if_eq (tgt := 51) hx hb dX10_aLine_43 (by decide) (fun k_228 => ?_) (fun k_228 => ?_)
        · have tk_228 := c_eq (a := r_1.toInt) (b := 0) rfl (by decide) k_228
          refine lv_bipush (v := 8) hx hb dX10_aLine_51 (by decide) ?_
          refine lv_icmp_ne (tgt := 62) hx hb dX10_aLine_53 (by decide) (fun k_229 => ?_) (fun k_229 => ?_)
          · have tk_229 := c_ne (a := y_227.toInt) (b := 8) rfl (by decide) k_229
            refine lv_aload_n hx hb dX10_aLine_62 rfl (lv_at hl 1 rfl) ?_
            have hFc := m_free hD hS hA
            refine va_callv (va_runV (As := []) (rest := []) ⟨hx, hb, hml, hown, hts⟩ (m_ahead l dC dI ad kc x0 x1 x2 x3 x4 x5 x6 x7 x8 x9 x10 x11 x12 x13 x14 x15 x16 x17 x18 x19 x20 x21 f0 f1 f2 f3 f4 f5 f6 f7 f8 f9 f10 f11 f12 f13 f14 f15 f16 f17 f18 f19 f20 f21 fL fN fP fM fO H.size (by first | omega | assumption | decide | (have l0 := Int32.toInt_zero; omega)) (by first | omega | assumption | decide | (have l0 := Int32.toInt_zero; omega)) (by first | omega | assumption | decide | (have l0 := Int32.toInt_zero; omega))) (cwV 0 hts mg_X10_aLinem_X10_ahead_184 rfl rfl rfl (by decide +kernel) ⟨Nat.le_of_ble_eq_true rfl, Nat.le_of_ble_eq_true rfl⟩) ⟨fun a U g mk q => by obtain ⟨q0, q1, qP, qK, qD⟩ := q; exact ⟨q0, q1, qP, va_K.moved (u := U) (U := U.calling g mk a) (Vm.Alike.refl U.vm) qK, qD⟩, va_recv hK hP (ci := 10) (q0 := 0) rfl rfl, fun U hU hW => ⟨rfl, by rw [hU], by rw [hU]; exact hP, va_K.moved hW.alike hK, hD.weaken (fun _ _ _ _ => trivial)⟩⟩ rfl rfl hl.1 rfl (lv_room (Nat.le_of_ble_eq_true rfl)) dX10_aLine_63 ⟨Nat.le_of_ble_eq_true rfl, Nat.le_of_ble_eq_true rfl⟩) hS (fun q _ h => hFc q h) hFc (fun u t H1 locs ht hvm hw hB hz1 hk1 hS => ?_)
            obtain ⟨x_231, x_232, x_233, hr_230_0, hr_230_1, hr_230_2, hr_230_3, hr_230_4, hP, hK1, hD1⟩ := hB
            rw [ht] at hP
            have hD := hD1.weaken (fun k q _ h => hFc q.1 h)
            clear hz1 hk1 hFc hD1 hK1 hvm
            generalize H1 = H at hP hS ⊢
            have rg_x_231 := i_rng x_231
            have rg_x_232 := i_rng x_232
            have rg_x_233 := i_rng x_233
            have hP : va_P (dC, dI) vwCl (mW ad kc x0 x1 x2 x3 x4 x_231 x_232 x_233 x8 x9 x10 x11 x12 x13 x14 x15 x16 x17 x18 x19 x20 x21 f0 f1 f2 f3 f4 f5 f6 f7 f8 f9 f10 f11 f12 f13 f14 f15 f16 f17 f18 f19 f20 f21 fL fN fP fM fO) H := hP
            have hD : va_D A (mW ad kc x0 x1 x2 x3 x4 x_231 x_232 x_233 x8 x9 x10 x11 x12 x13 x14 x15 x16 x17 x18 x19 x20 x21 f0 f1 f2 f3 f4 f5 f6 f7 f8 f9 f10 f11 f12 f13 f14 f15 f16 f17 f18 f19 f20 f21 fL fN fP fM fO) := hD
            refine lv_aload_n hx hb dX10_aLine_66 rfl (lv_at hl 1 rfl) ?_
            refine va_get (D := (dC, dI)) (ci := 10) (v := .int x_231) (C := RX10) (T := TX10) (N := 48) hx hb hts fin_X10_aLinem_X10 hown hK hP 0 rfl rfl 8 (by decide) (hts (.fieldLink RX10 120 "PatternGateModel" "token" "I") (List.mem_of_getElem? (i := 9) (by decide +kernel))) (fun _ h9 => h9) rfl dX10_aLine_67 ?_
            refine lv_iconst (v := 3) hx hb dX10_aLine_70 (by decide) ?_
            refine lv_icmp_eq (tgt := 80) hx hb dX10_aLine_71 (by decide) (fun k_234 => ?_) (fun k_234 => ?_)
            · have tk_234 := c_eq (a := x_231.toInt) (b := 3) rfl (by decide) k_234
              refine lv_iload_n hx hb dX10_aLine_80 rfl (lv_at hl 0 rfl) ?_
              refine lv_if_eq (tgt := 94) hx hb dX10_aLine_81 (by decide) (fun k_235 => ?_) (fun k_235 => ?_)
              · have tk_235 := c_eq (a := r_1.toInt) (b := 0) rfl (by decide) k_235
                refine lv_aload_n hx hb dX10_aLine_94 rfl (lv_at hl 1 rfl) ?_
                have hFc := m_free hD hS hA
                refine va_calli (va_runV (As := []) (rest := []) ⟨hx, hb, hml, hown, hts⟩ (m_patternQuote l dC dI ad kc x0 x1 x2 x3 x4 x_231 x_232 x_233 x8 x9 x10 x11 x12 x13 x14 x15 x16 x17 x18 x19 x20 x21 f0 f1 f2 f3 f4 f5 f6 f7 f8 f9 f10 f11 f12 f13 f14 f15 f16 f17 f18 f19 f20 f21 fL fN fP fM fO H.size (by first | omega | assumption | decide | (have l0 := Int32.toInt_zero; omega)) (by first | omega | assumption | decide | (have l0 := Int32.toInt_zero; omega)) (by first | omega | assumption | decide | (have l0 := Int32.toInt_zero; omega)) (by first | omega | assumption | decide | (have l0 := Int32.toInt_zero; omega)) (by first | omega | assumption | decide | (have l0 := Int32.toInt_zero; omega))) (cwV 0 hts mg_X10_aLinem_X10_patternQuote_190 rfl rfl rfl (by decide +kernel) ⟨Nat.le_of_ble_eq_true rfl, Nat.le_of_ble_eq_true rfl⟩) ⟨fun a U g mk q => by obtain ⟨q0, q1, qP, qK, qD⟩ := q; exact ⟨q0, q1, qP, va_K.moved (u := U) (U := U.calling g mk a) (Vm.Alike.refl U.vm) qK, qD⟩, va_recv hK hP (ci := 10) (q0 := 0) rfl rfl, fun U hU hW => ⟨rfl, by rw [hU], by rw [hU]; exact hP, va_K.moved hW.alike hK, hD.weaken (fun _ _ _ _ => trivial)⟩⟩ rfl rfl hl.1 rfl (lv_room (Nat.le_of_ble_eq_true rfl)) dX10_aLine_95 ⟨Nat.le_of_ble_eq_true rfl, Nat.le_of_ble_eq_true rfl⟩) hS (fun q _ h => hFc q h) hFc (fun r_236 u t H1 locs ht hvm hw hB hz1 hk1 hS => ?_)
                subst hw
                obtain ⟨x_237, x_238, x_239, x_240, f_241, hr_236_0, hr_236_1, hr_236_2, hr_236_3, hr_236_4, hP, hK1, hD1⟩ := hB
                rw [ht] at hP
                have hD := hD1.weaken (fun k q _ h => hFc q.1 h)
                clear hz1 hk1 hFc hD1 hK1 hvm
                generalize H1 = H at hP hS ⊢
                have rg_x_237 := i_rng x_237
                have rg_x_238 := i_rng x_238
                have rg_x_239 := i_rng x_239
                have rg_x_240 := i_rng x_240
                have rg_r_236 := i_rng r_236
                have hP : va_P (dC, dI) vwCl (mW ad kc x0 x1 x2 x3 x4 x_231 x_232 x_237 x_238 x_239 x10 x_240 x12 x13 x14 x15 x16 x17 x18 x19 x20 x21 f_241 f1 f2 f3 f4 f5 f6 f7 f8 f9 f10 f11 f12 f13 f14 f15 f16 f17 f18 f19 f20 f21 fL fN fP fM fO) H := hP
                have hD : va_D A (mW ad kc x0 x1 x2 x3 x4 x_231 x_232 x_237 x_238 x_239 x10 x_240 x12 x13 x14 x15 x16 x17 x18 x19 x20 x21 f_241 f1 f2 f3 f4 f5 f6 f7 f8 f9 f10 f11 f12 f13 f14 f15 f16 f17 f18 f19 f20 f21 fL fN fP fM fO) := hD
                have hq9 := hr_236_0
                have hq8 := hr_236_1
                refine lv_if_ne (tgt := 103) hx hb dX10_aLine_98 (by decide) (fun k_242 => ?_) (fun k_242 => ?_)
                · have tk_242 := c_ne (a := r_236.toInt) (b := 0) rfl (by decide) k_242
                  refine lv_aload_n hx hb dX10_aLine_103 rfl (lv_at hl 1 rfl) ?_
                  have hFc := m_free hD hS hA
                  refine va_callv (va_runV (As := []) (rest := []) ⟨hx, hb, hml, hown, hts⟩ (m_ahead l dC dI ad kc x0 x1 x2 x3 x4 x_231 x_232 x_237 x_238 x_239 x10 x_240 x12 x13 x14 x15 x16 x17 x18 x19 x20 x21 f_241 f1 f2 f3 f4 f5 f6 f7 f8 f9 f10 f11 f12 f13 f14 f15 f16 f17 f18 f19 f20 f21 fL fN fP fM fO H.size (by first | omega | assumption | decide | (have l0 := Int32.toInt_zero; omega)) (by first | omega | assumption | decide | (have l0 := Int32.toInt_zero; omega)) (by first | omega | assumption | decide | (have l0 := Int32.toInt_zero; omega))) (cwV 0 hts mg_X10_aLinem_X10_ahead_184 rfl rfl rfl (by decide +kernel) ⟨Nat.le_of_ble_eq_true rfl, Nat.le_of_ble_eq_true rfl⟩) ⟨fun a U g mk q => by obtain ⟨q0, q1, qP, qK, qD⟩ := q; exact ⟨q0, q1, qP, va_K.moved (u := U) (U := U.calling g mk a) (Vm.Alike.refl U.vm) qK, qD⟩, va_recv hK hP (ci := 10) (q0 := 0) rfl rfl, fun U hU hW => ⟨rfl, by rw [hU], by rw [hU]; exact hP, va_K.moved hW.alike hK, hD.weaken (fun _ _ _ _ => trivial)⟩⟩ rfl rfl hl.1 rfl (lv_room (Nat.le_of_ble_eq_true rfl)) dX10_aLine_104 ⟨Nat.le_of_ble_eq_true rfl, Nat.le_of_ble_eq_true rfl⟩) hS (fun q _ h => hFc q h) hFc (fun u t H1 locs ht hvm hw hB hz1 hk1 hS => ?_)
                  obtain ⟨x_244, x_245, x_246, hr_243_0, hr_243_1, hr_243_2, hr_243_3, hr_243_4, hP, hK1, hD1⟩ := hB
                  rw [ht] at hP
                  have hD := hD1.weaken (fun k q _ h => hFc q.1 h)
                  clear hz1 hk1 hFc hD1 hK1 hvm
                  generalize H1 = H at hP hS ⊢
                  have rg_x_244 := i_rng x_244
                  have rg_x_245 := i_rng x_245
                  have rg_x_246 := i_rng x_246
                  have hP : va_P (dC, dI) vwCl (mW ad kc x0 x1 x2 x3 x4 x_244 x_245 x_246 x_238 x_239 x10 x_240 x12 x13 x14 x15 x16 x17 x18 x19 x20 x21 f_241 f1 f2 f3 f4 f5 f6 f7 f8 f9 f10 f11 f12 f13 f14 f15 f16 f17 f18 f19 f20 f21 fL fN fP fM fO) H := hP
                  have hD : va_D A (mW ad kc x0 x1 x2 x3 x4 x_244 x_245 x_246 x_238 x_239 x10 x_240 x12 x13 x14 x15 x16 x17 x18 x19 x20 x21 f_241 f1 f2 f3 f4 f5 f6 f7 f8 f9 f10 f11 f12 f13 f14 f15 f16 f17 f18 f19 f20 f21 fL fN fP fM fO) := hD
                  refine lv_aload_n hx hb dX10_aLine_107 rfl (lv_at hl 1 rfl) ?_
                  refine va_get (D := (dC, dI)) (ci := 10) (v := .int x_244) (C := RX10) (T := TX10) (N := 48) hx hb hts fin_X10_aLinem_X10 hown hK hP 0 rfl rfl 8 (by decide) (hts (.fieldLink RX10 120 "PatternGateModel" "token" "I") (List.mem_of_getElem? (i := 9) (by decide +kernel))) (fun _ h9 => h9) rfl dX10_aLine_108 ?_
                  refine lv_iconst (v := 4) hx hb dX10_aLine_111 (by decide) ?_
                  refine lv_icmp_eq (tgt := 121) hx hb dX10_aLine_112 (by decide) (fun k_247 => ?_) (fun k_247 => ?_)
                  · have tk_247 := c_eq (a := x_244.toInt) (b := 4) rfl (by decide) k_247
                    refine lv_aload_n hx hb dX10_aLine_121 rfl (lv_at hl 1 rfl) ?_
                    have hFc := m_free hD hS hA
                    refine va_callv (va_runV (As := []) (rest := []) ⟨hx, hb, hml, hown, hts⟩ (m_ahead l dC dI ad kc x0 x1 x2 x3 x4 x_244 x_245 x_246 x_238 x_239 x10 x_240 x12 x13 x14 x15 x16 x17 x18 x19 x20 x21 f_241 f1 f2 f3 f4 f5 f6 f7 f8 f9 f10 f11 f12 f13 f14 f15 f16 f17 f18 f19 f20 f21 fL fN fP fM fO H.size (by first | omega | assumption | decide | (have l0 := Int32.toInt_zero; omega)) (by first | omega | assumption | decide | (have l0 := Int32.toInt_zero; omega)) (by first | omega | assumption | decide | (have l0 := Int32.toInt_zero; omega))) (cwV 0 hts mg_X10_aLinem_X10_ahead_184 rfl rfl rfl (by decide +kernel) ⟨Nat.le_of_ble_eq_true rfl, Nat.le_of_ble_eq_true rfl⟩) ⟨fun a U g mk q => by obtain ⟨q0, q1, qP, qK, qD⟩ := q; exact ⟨q0, q1, qP, va_K.moved (u := U) (U := U.calling g mk a) (Vm.Alike.refl U.vm) qK, qD⟩, va_recv hK hP (ci := 10) (q0 := 0) rfl rfl, fun U hU hW => ⟨rfl, by rw [hU], by rw [hU]; exact hP, va_K.moved hW.alike hK, hD.weaken (fun _ _ _ _ => trivial)⟩⟩ rfl rfl hl.1 rfl (lv_room (Nat.le_of_ble_eq_true rfl)) dX10_aLine_122 ⟨Nat.le_of_ble_eq_true rfl, Nat.le_of_ble_eq_true rfl⟩) hS (fun q _ h => hFc q h) hFc (fun u t H1 locs ht hvm hw hB hz1 hk1 hS => ?_)
                    obtain ⟨x_249, x_250, x_251, hr_248_0, hr_248_1, hr_248_2, hr_248_3, hr_248_4, hP, hK1, hD1⟩ := hB
                    rw [ht] at hP
                    have hD := hD1.weaken (fun k q _ h => hFc q.1 h)
                    clear hz1 hk1 hFc hD1 hK1 hvm
                    generalize H1 = H at hP hS ⊢
                    have rg_x_249 := i_rng x_249
                    have rg_x_250 := i_rng x_250
                    have rg_x_251 := i_rng x_251
                    have hP : va_P (dC, dI) vwCl (mW ad kc x0 x1 x2 x3 x4 x_249 x_250 x_251 x_238 x_239 x10 x_240 x12 x13 x14 x15 x16 x17 x18 x19 x20 x21 f_241 f1 f2 f3 f4 f5 f6 f7 f8 f9 f10 f11 f12 f13 f14 f15 f16 f17 f18 f19 f20 f21 fL fN fP fM fO) H := hP
                    have hD : va_D A (mW ad kc x0 x1 x2 x3 x4 x_249 x_250 x_251 x_238 x_239 x10 x_240 x12 x13 x14 x15 x16 x17 x18 x19 x20 x21 f_241 f1 f2 f3 f4 f5 f6 f7 f8 f9 f10 f11 f12 f13 f14 f15 f16 f17 f18 f19 f20 f21 fL fN fP fM fO) := hD
                    refine lv_iconst (v := 1) hx hb dX10_aLine_125 (by decide) ?_
                    have lit_251 : (1 : Int32).toInt = 1 := by decide
                    exact W.zret hx hb hr (z_nar (by first | assumption | decide | exact z_of (by omega))) (fun t ht hW => ⟨⟨_, _, rfl, rfl, x_249, x_250, x_251, x_238, x_239, x_240, f_241, hq9, hq8, (by first | omega | assumption | rfl | decide), (by first | omega | assumption | rfl | decide), (by first | omega | assumption | rfl | decide), (fun h9 => by omega), by rw [ht]; exact hP, va_K.moved hW.alike hK, hD⟩, hS.F ht⟩) hS.2.2 dX10_aLine_126
                  · have tk_247 := c_ne (a := x_244.toInt) (b := 4) rfl (by decide) k_247
                    refine lv_aload_n hx hb dX10_aLine_115 rfl (lv_at hl 1 rfl) ?_
                    refine lv_iconst (v := 2) hx hb dX10_aLine_116 (by decide) ?_
                    have hFc := m_free hD hS hA
                    refine va_calli (va_runV (As := [.int 2]) (rest := []) ⟨hx, hb, hml, hown, hts⟩ (m_fails l dC dI ad kc x0 x1 x2 x3 x4 x_244 x_245 x_246 x_238 x_239 x10 x_240 x12 x13 x14 x15 x16 x17 x18 x19 x20 x21 f_241 f1 f2 f3 f4 f5 f6 f7 f8 f9 f10 f11 f12 f13 f14 f15 f16 f17 f18 f19 f20 f21 fL fN fP fM fO H.size 2 ) (cwV 1 hts mg_X10_aLinem_X10_fails_181 rfl rfl rfl (by decide +kernel) ⟨Nat.le_of_ble_eq_true rfl, Nat.le_of_ble_eq_true rfl⟩) ⟨fun a U g mk q => by obtain ⟨q0, q1, qP, qK, qD⟩ := q; exact ⟨q0, q1, qP, va_K.moved (u := U) (U := U.calling g mk a) (Vm.Alike.refl U.vm) qK, qD⟩, va_recv hK hP (ci := 10) (q0 := 0) rfl rfl, fun U hU hW => ⟨rfl, by rw [hU], by rw [hU]; exact hP, va_K.moved hW.alike hK, hD.weaken (fun _ _ _ _ => trivial)⟩⟩ rfl rfl hl.1 rfl (lv_room (Nat.le_of_ble_eq_true rfl)) dX10_aLine_117 ⟨Nat.le_of_ble_eq_true rfl, Nat.le_of_ble_eq_true rfl⟩) hS (fun q _ h => hFc q h) hFc (fun r_253 u t H1 locs ht hvm hw hB hz1 hk1 hS => ?_)
                    subst hw
                    obtain ⟨x_254, x_255, hr_253_0, hP, hK1, hD1⟩ := hB
                    rw [ht] at hP
                    have hD := hD1.weaken (fun k q _ h => hFc q.1 h)
                    clear hz1 hk1 hFc hD1 hK1 hvm
                    generalize H1 = H at hP hS ⊢
                    have rg_x_254 := i_rng x_254
                    have rg_x_255 := i_rng x_255
                    have rg_r_253 := i_rng r_253
                    have hP : va_P (dC, dI) vwCl (mW ad kc x0 x1 x2 x3 x4 x_244 x_245 x_246 x_254 x_255 x10 x_240 x12 x13 x14 x15 x16 x17 x18 x19 x20 x21 f_241 f1 f2 f3 f4 f5 f6 f7 f8 f9 f10 f11 f12 f13 f14 f15 f16 f17 f18 f19 f20 f21 fL fN fP fM fO) H := hP
                    have hD : va_D A (mW ad kc x0 x1 x2 x3 x4 x_244 x_245 x_246 x_254 x_255 x10 x_240 x12 x13 x14 x15 x16 x17 x18 x19 x20 x21 f_241 f1 f2 f3 f4 f5 f6 f7 f8 f9 f10 f11 f12 f13 f14 f15 f16 f17 f18 f19 f20 f21 fL fN fP fM fO) := hD
                    exact W.zret hx hb hr (z_nar (by first | assumption | decide | exact z_of (by omega))) (fun t ht hW => ⟨⟨_, _, rfl, rfl, x_244, x_245, x_246, x_254, x_255, x_240, f_241, hq9, hq8, (by first | omega | assumption | rfl | decide), (by first | omega | assumption | rfl | decide), (by first | omega | assumption | rfl | decide), (fun h9 => by omega), by rw [ht]; exact hP, va_K.moved hW.alike hK, hD⟩, hS.F ht⟩) hS.2.2 dX10_aLine_120
                · have tk_242 := c_eq (a := r_236.toInt) (b := 0) rfl (by decide) k_242
                  refine lv_iconst (v := 0) hx hb dX10_aLine_101 (by decide) ?_
                  have lit_255 : (0 : Int32).toInt = 0 := by decide
                  exact W.zret hx hb hr (z_nar (by first | assumption | decide | exact z_of (by omega))) (fun t ht hW => ⟨⟨_, _, rfl, rfl, x_231, x_232, x_237, x_238, x_239, x_240, f_241, hq9, hq8, (by first | omega | assumption | rfl | decide), (by first | omega | assumption | rfl | decide), (by first | omega | assumption | rfl | decide), (fun h9 => by omega), by rw [ht]; exact hP, va_K.moved hW.alike hK, hD⟩, hS.F ht⟩) hS.2.2 dX10_aLine_102
              · have tk_235 := c_ne (a := r_1.toInt) (b := 0) rfl (by decide) k_235
                refine lv_aload_n hx hb dX10_aLine_84 rfl (lv_at hl 1 rfl) ?_
                have hFc := m_free hD hS hA
                refine va_calli (va_runV (As := []) (rest := []) ⟨hx, hb, hml, hown, hts⟩ (m_docQuote l dC dI ad kc x0 x1 x2 x3 x4 x_231 x_232 x_233 x8 x9 x10 x11 x12 x13 x14 x15 x16 x17 x18 x19 x20 x21 f0 f1 f2 f3 f4 f5 f6 f7 f8 f9 f10 f11 f12 f13 f14 f15 f16 f17 f18 f19 f20 f21 fL fN fP fM fO H.size (by first | omega | assumption | decide | (have l0 := Int32.toInt_zero; omega)) (by first | omega | assumption | decide | (have l0 := Int32.toInt_zero; omega)) (by first | omega | assumption | decide | (have l0 := Int32.toInt_zero; omega)) (by first | omega | assumption | decide | (have l0 := Int32.toInt_zero; omega)) (by first | omega | assumption | decide | (have l0 := Int32.toInt_zero; omega))) (cwV 0 hts mg_X10_aLinem_X10_docQuote_187 rfl rfl rfl (by decide +kernel) ⟨Nat.le_of_ble_eq_true rfl, Nat.le_of_ble_eq_true rfl⟩) ⟨fun a U g mk q => by obtain ⟨q0, q1, qP, qK, qD⟩ := q; exact ⟨q0, q1, qP, va_K.moved (u := U) (U := U.calling g mk a) (Vm.Alike.refl U.vm) qK, qD⟩, va_recv hK hP (ci := 10) (q0 := 0) rfl rfl, fun U hU hW => ⟨rfl, by rw [hU], by rw [hU]; exact hP, va_K.moved hW.alike hK, hD.weaken (fun _ _ _ _ => trivial)⟩⟩ rfl rfl hl.1 rfl (lv_room (Nat.le_of_ble_eq_true rfl)) dX10_aLine_85 ⟨Nat.le_of_ble_eq_true rfl, Nat.le_of_ble_eq_true rfl⟩) hS (fun q _ h => hFc q h) hFc (fun r_257 u t H1 locs ht hvm hw hB hz1 hk1 hS => ?_)
                subst hw
                obtain ⟨x_258, x_259, x_260, f_261, hr_257_0, hr_257_1, hr_257_2, hr_257_3, hr_257_4, hP, hK1, hD1⟩ := hB
                rw [ht] at hP
                have hD := hD1.weaken (fun k q _ h => hFc q.1 h)
                clear hz1 hk1 hFc hD1 hK1 hvm
                generalize H1 = H at hP hS ⊢
                have rg_x_258 := i_rng x_258
                have rg_x_259 := i_rng x_259
                have rg_x_260 := i_rng x_260
                have rg_r_257 := i_rng r_257
                have hP : va_P (dC, dI) vwCl (mW ad kc x0 x1 x2 x3 x4 x_231 x_232 x_258 x_259 x_260 x10 x11 x12 x13 x14 x15 x16 x17 x18 x19 x20 x21 f_261 f1 f2 f3 f4 f5 f6 f7 f8 f9 f10 f11 f12 f13 f14 f15 f16 f17 f18 f19 f20 f21 fL fN fP fM fO) H := hP
                have hD : va_D A (mW ad kc x0 x1 x2 x3 x4 x_231 x_232 x_258 x_259 x_260 x10 x11 x12 x13 x14 x15 x16 x17 x18 x19 x20 x21 f_261 f1 f2 f3 f4 f5 f6 f7 f8 f9 f10 f11 f12 f13 f14 f15 f16 f17 f18 f19 f20 f21 fL fN fP fM fO) := hD
                have hq9 := hr_257_0
                have hq8 := hr_257_1
                refine lv_if_eq (tgt := 101) hx hb dX10_aLine_88 (by decide) (fun k_262 => ?_) (fun k_262 => ?_)
                · have tk_262 := c_eq (a := r_257.toInt) (b := 0) rfl (by decide) k_262
                  refine lv_iconst (v := 0) hx hb dX10_aLine_101 (by decide) ?_
                  have lit_262 : (0 : Int32).toInt = 0 := by decide
                  exact W.zret hx hb hr (z_nar (by first | assumption | decide | exact z_of (by omega))) (fun t ht hW => ⟨⟨_, _, rfl, rfl, x_231, x_232, x_258, x_259, x_260, x11, f_261, hq9, hq8, (by first | omega | assumption | rfl | decide), (by first | omega | assumption | rfl | decide), (by first | omega | assumption | rfl | decide), (fun h9 => by omega), by rw [ht]; exact hP, va_K.moved hW.alike hK, hD⟩, hS.F ht⟩) hS.2.2 dX10_aLine_102
                · have tk_262 := c_ne (a := r_257.toInt) (b := 0) rfl (by decide) k_262
                  refine lv_goto (tgt := 103) hx hb dX10_aLine_91 (by decide) ?_
                  refine lv_aload_n hx hb dX10_aLine_103 rfl (lv_at hl 1 rfl) ?_
                  have hFc := m_free hD hS hA
                  refine va_callv (va_runV (As := []) (rest := []) ⟨hx, hb, hml, hown, hts⟩ (m_ahead l dC dI ad kc x0 x1 x2 x3 x4 x_231 x_232 x_258 x_259 x_260 x10 x11 x12 x13 x14 x15 x16 x17 x18 x19 x20 x21 f_261 f1 f2 f3 f4 f5 f6 f7 f8 f9 f10 f11 f12 f13 f14 f15 f16 f17 f18 f19 f20 f21 fL fN fP fM fO H.size (by first | omega | assumption | decide | (have l0 := Int32.toInt_zero; omega)) (by first | omega | assumption | decide | (have l0 := Int32.toInt_zero; omega)) (by first | omega | assumption | decide | (have l0 := Int32.toInt_zero; omega))) (cwV 0 hts mg_X10_aLinem_X10_ahead_184 rfl rfl rfl (by decide +kernel) ⟨Nat.le_of_ble_eq_true rfl, Nat.le_of_ble_eq_true rfl⟩) ⟨fun a U g mk q => by obtain ⟨q0, q1, qP, qK, qD⟩ := q; exact ⟨q0, q1, qP, va_K.moved (u := U) (U := U.calling g mk a) (Vm.Alike.refl U.vm) qK, qD⟩, va_recv hK hP (ci := 10) (q0 := 0) rfl rfl, fun U hU hW => ⟨rfl, by rw [hU], by rw [hU]; exact hP, va_K.moved hW.alike hK, hD.weaken (fun _ _ _ _ => trivial)⟩⟩ rfl rfl hl.1 rfl (lv_room (Nat.le_of_ble_eq_true rfl)) dX10_aLine_104 ⟨Nat.le_of_ble_eq_true rfl, Nat.le_of_ble_eq_true rfl⟩) hS (fun q _ h => hFc q h) hFc (fun u t H1 locs ht hvm hw hB hz1 hk1 hS => ?_)
                  obtain ⟨x_265, x_266, x_267, hr_264_0, hr_264_1, hr_264_2, hr_264_3, hr_264_4, hP, hK1, hD1⟩ := hB
                  rw [ht] at hP
                  have hD := hD1.weaken (fun k q _ h => hFc q.1 h)
                  clear hz1 hk1 hFc hD1 hK1 hvm
                  generalize H1 = H at hP hS ⊢
                  have rg_x_265 := i_rng x_265
                  have rg_x_266 := i_rng x_266
                  have rg_x_267 := i_rng x_267
                  have hP : va_P (dC, dI) vwCl (mW ad kc x0 x1 x2 x3 x4 x_265 x_266 x_267 x_259 x_260 x10 x11 x12 x13 x14 x15 x16 x17 x18 x19 x20 x21 f_261 f1 f2 f3 f4 f5 f6 f7 f8 f9 f10 f11 f12 f13 f14 f15 f16 f17 f18 f19 f20 f21 fL fN fP fM fO) H := hP
                  have hD : va_D A (mW ad kc x0 x1 x2 x3 x4 x_265 x_266 x_267 x_259 x_260 x10 x11 x12 x13 x14 x15 x16 x17 x18 x19 x20 x21 f_261 f1 f2 f3 f4 f5 f6 f7 f8 f9 f10 f11 f12 f13 f14 f15 f16 f17 f18 f19 f20 f21 fL fN fP fM fO) := hD
                  refine lv_aload_n hx hb dX10_aLine_107 rfl (lv_at hl 1 rfl) ?_
                  refine va_get (D := (dC, dI)) (ci := 10) (v := .int x_265) (C := RX10) (T := TX10) (N := 48) hx hb hts fin_X10_aLinem_X10 hown hK hP 0 rfl rfl 8 (by decide) (hts (.fieldLink RX10 120 "PatternGateModel" "token" "I") (List.mem_of_getElem? (i := 9) (by decide +kernel))) (fun _ h9 => h9) rfl dX10_aLine_108 ?_
                  refine lv_iconst (v := 4) hx hb dX10_aLine_111 (by decide) ?_
                  refine lv_icmp_eq (tgt := 121) hx hb dX10_aLine_112 (by decide) (fun k_268 => ?_) (fun k_268 => ?_)
                  · have tk_268 := c_eq (a := x_265.toInt) (b := 4) rfl (by decide) k_268
                    refine lv_aload_n hx hb dX10_aLine_121 rfl (lv_at hl 1 rfl) ?_
                    have hFc := m_free hD hS hA
                    refine va_callv (va_runV (As := []) (rest := []) ⟨hx, hb, hml, hown, hts⟩ (m_ahead l dC dI ad kc x0 x1 x2 x3 x4 x_265 x_266 x_267 x_259 x_260 x10 x11 x12 x13 x14 x15 x16 x17 x18 x19 x20 x21 f_261 f1 f2 f3 f4 f5 f6 f7 f8 f9 f10 f11 f12 f13 f14 f15 f16 f17 f18 f19 f20 f21 fL fN fP fM fO H.size (by first | omega | assumption | decide | (have l0 := Int32.toInt_zero; omega)) (by first | omega | assumption | decide | (have l0 := Int32.toInt_zero; omega)) (by first | omega | assumption | decide | (have l0 := Int32.toInt_zero; omega))) (cwV 0 hts mg_X10_aLinem_X10_ahead_184 rfl rfl rfl (by decide +kernel) ⟨Nat.le_of_ble_eq_true rfl, Nat.le_of_ble_eq_true rfl⟩) ⟨fun a U g mk q => by obtain ⟨q0, q1, qP, qK, qD⟩ := q; exact ⟨q0, q1, qP, va_K.moved (u := U) (U := U.calling g mk a) (Vm.Alike.refl U.vm) qK, qD⟩, va_recv hK hP (ci := 10) (q0 := 0) rfl rfl, fun U hU hW => ⟨rfl, by rw [hU], by rw [hU]; exact hP, va_K.moved hW.alike hK, hD.weaken (fun _ _ _ _ => trivial)⟩⟩ rfl rfl hl.1 rfl (lv_room (Nat.le_of_ble_eq_true rfl)) dX10_aLine_122 ⟨Nat.le_of_ble_eq_true rfl, Nat.le_of_ble_eq_true rfl⟩) hS (fun q _ h => hFc q h) hFc (fun u t H1 locs ht hvm hw hB hz1 hk1 hS => ?_)
                    obtain ⟨x_270, x_271, x_272, hr_269_0, hr_269_1, hr_269_2, hr_269_3, hr_269_4, hP, hK1, hD1⟩ := hB
                    rw [ht] at hP
                    have hD := hD1.weaken (fun k q _ h => hFc q.1 h)
                    clear hz1 hk1 hFc hD1 hK1 hvm
                    generalize H1 = H at hP hS ⊢
                    have rg_x_270 := i_rng x_270
                    have rg_x_271 := i_rng x_271
                    have rg_x_272 := i_rng x_272
                    have hP : va_P (dC, dI) vwCl (mW ad kc x0 x1 x2 x3 x4 x_270 x_271 x_272 x_259 x_260 x10 x11 x12 x13 x14 x15 x16 x17 x18 x19 x20 x21 f_261 f1 f2 f3 f4 f5 f6 f7 f8 f9 f10 f11 f12 f13 f14 f15 f16 f17 f18 f19 f20 f21 fL fN fP fM fO) H := hP
                    have hD : va_D A (mW ad kc x0 x1 x2 x3 x4 x_270 x_271 x_272 x_259 x_260 x10 x11 x12 x13 x14 x15 x16 x17 x18 x19 x20 x21 f_261 f1 f2 f3 f4 f5 f6 f7 f8 f9 f10 f11 f12 f13 f14 f15 f16 f17 f18 f19 f20 f21 fL fN fP fM fO) := hD
                    refine lv_iconst (v := 1) hx hb dX10_aLine_125 (by decide) ?_
                    have lit_272 : (1 : Int32).toInt = 1 := by decide
                    exact W.zret hx hb hr (z_nar (by first | assumption | decide | exact z_of (by omega))) (fun t ht hW => ⟨⟨_, _, rfl, rfl, x_270, x_271, x_272, x_259, x_260, x11, f_261, hq9, hq8, (by first | omega | assumption | rfl | decide), (by first | omega | assumption | rfl | decide), (by first | omega | assumption | rfl | decide), (fun h9 => by omega), by rw [ht]; exact hP, va_K.moved hW.alike hK, hD⟩, hS.F ht⟩) hS.2.2 dX10_aLine_126
                  · have tk_268 := c_ne (a := x_265.toInt) (b := 4) rfl (by decide) k_268
                    refine lv_aload_n hx hb dX10_aLine_115 rfl (lv_at hl 1 rfl) ?_
                    refine lv_iconst (v := 2) hx hb dX10_aLine_116 (by decide) ?_
                    have hFc := m_free hD hS hA
                    refine va_calli (va_runV (As := [.int 2]) (rest := []) ⟨hx, hb, hml, hown, hts⟩ (m_fails l dC dI ad kc x0 x1 x2 x3 x4 x_265 x_266 x_267 x_259 x_260 x10 x11 x12 x13 x14 x15 x16 x17 x18 x19 x20 x21 f_261 f1 f2 f3 f4 f5 f6 f7 f8 f9 f10 f11 f12 f13 f14 f15 f16 f17 f18 f19 f20 f21 fL fN fP fM fO H.size 2 ) (cwV 1 hts mg_X10_aLinem_X10_fails_181 rfl rfl rfl (by decide +kernel) ⟨Nat.le_of_ble_eq_true rfl, Nat.le_of_ble_eq_true rfl⟩) ⟨fun a U g mk q => by obtain ⟨q0, q1, qP, qK, qD⟩ := q; exact ⟨q0, q1, qP, va_K.moved (u := U) (U := U.calling g mk a) (Vm.Alike.refl U.vm) qK, qD⟩, va_recv hK hP (ci := 10) (q0 := 0) rfl rfl, fun U hU hW => ⟨rfl, by rw [hU], by rw [hU]; exact hP, va_K.moved hW.alike hK, hD.weaken (fun _ _ _ _ => trivial)⟩⟩ rfl rfl hl.1 rfl (lv_room (Nat.le_of_ble_eq_true rfl)) dX10_aLine_117 ⟨Nat.le_of_ble_eq_true rfl, Nat.le_of_ble_eq_true rfl⟩) hS (fun q _ h => hFc q h) hFc (fun r_274 u t H1 locs ht hvm hw hB hz1 hk1 hS => ?_)
                    subst hw
                    obtain ⟨x_275, x_276, hr_274_0, hP, hK1, hD1⟩ := hB
                    rw [ht] at hP
                    have hD := hD1.weaken (fun k q _ h => hFc q.1 h)
                    clear hz1 hk1 hFc hD1 hK1 hvm
                    generalize H1 = H at hP hS ⊢
                    have rg_x_275 := i_rng x_275
                    have rg_x_276 := i_rng x_276
                    have rg_r_274 := i_rng r_274
                    have hP : va_P (dC, dI) vwCl (mW ad kc x0 x1 x2 x3 x4 x_265 x_266 x_267 x_275 x_276 x10 x11 x12 x13 x14 x15 x16 x17 x18 x19 x20 x21 f_261 f1 f2 f3 f4 f5 f6 f7 f8 f9 f10 f11 f12 f13 f14 f15 f16 f17 f18 f19 f20 f21 fL fN fP fM fO) H := hP
                    have hD : va_D A (mW ad kc x0 x1 x2 x3 x4 x_265 x_266 x_267 x_275 x_276 x10 x11 x12 x13 x14 x15 x16 x17 x18 x19 x20 x21 f_261 f1 f2 f3 f4 f5 f6 f7 f8 f9 f10 f11 f12 f13 f14 f15 f16 f17 f18 f19 f20 f21 fL fN fP fM fO) := hD
                    exact W.zret hx hb hr (z_nar (by first | assumption | decide | exact z_of (by omega))) (fun t ht hW => ⟨⟨_, _, rfl, rfl, x_265, x_266, x_267, x_275, x_276, x11, f_261, hq9, hq8, (by first | omega | assumption | rfl | decide), (by first | omega | assumption | rfl | decide), (by first | omega | assumption | rfl | decide), (fun h9 => by omega), by rw [ht]; exact hP, va_K.moved hW.alike hK, hD⟩, hS.F ht⟩) hS.2.2 dX10_aLine_120
            · have tk_234 := c_ne (a := x_231.toInt) (b := 3) rfl (by decide) k_234
              refine lv_aload_n hx hb dX10_aLine_74 rfl (lv_at hl 1 rfl) ?_
              refine lv_iconst (v := 2) hx hb dX10_aLine_75 (by decide) ?_
              have hFc := m_free hD hS hA
              refine va_calli (va_runV (As := [.int 2]) (rest := []) ⟨hx, hb, hml, hown, hts⟩ (m_fails l dC dI ad kc x0 x1 x2 x3 x4 x_231 x_232 x_233 x8 x9 x10 x11 x12 x13 x14 x15 x16 x17 x18 x19 x20 x21 f0 f1 f2 f3 f4 f5 f6 f7 f8 f9 f10 f11 f12 f13 f14 f15 f16 f17 f18 f19 f20 f21 fL fN fP fM fO H.size 2 ) (cwV 1 hts mg_X10_aLinem_X10_fails_181 rfl rfl rfl (by decide +kernel) ⟨Nat.le_of_ble_eq_true rfl, Nat.le_of_ble_eq_true rfl⟩) ⟨fun a U g mk q => by obtain ⟨q0, q1, qP, qK, qD⟩ := q; exact ⟨q0, q1, qP, va_K.moved (u := U) (U := U.calling g mk a) (Vm.Alike.refl U.vm) qK, qD⟩, va_recv hK hP (ci := 10) (q0 := 0) rfl rfl, fun U hU hW => ⟨rfl, by rw [hU], by rw [hU]; exact hP, va_K.moved hW.alike hK, hD.weaken (fun _ _ _ _ => trivial)⟩⟩ rfl rfl hl.1 rfl (lv_room (Nat.le_of_ble_eq_true rfl)) dX10_aLine_76 ⟨Nat.le_of_ble_eq_true rfl, Nat.le_of_ble_eq_true rfl⟩) hS (fun q _ h => hFc q h) hFc (fun r_277 u t H1 locs ht hvm hw hB hz1 hk1 hS => ?_)
              subst hw
              obtain ⟨x_278, x_279, hr_277_0, hP, hK1, hD1⟩ := hB
              rw [ht] at hP
              have hD := hD1.weaken (fun k q _ h => hFc q.1 h)
              clear hz1 hk1 hFc hD1 hK1 hvm
              generalize H1 = H at hP hS ⊢
              have rg_x_278 := i_rng x_278
              have rg_x_279 := i_rng x_279
              have rg_r_277 := i_rng r_277
              have hP : va_P (dC, dI) vwCl (mW ad kc x0 x1 x2 x3 x4 x_231 x_232 x_233 x_278 x_279 x10 x11 x12 x13 x14 x15 x16 x17 x18 x19 x20 x21 f0 f1 f2 f3 f4 f5 f6 f7 f8 f9 f10 f11 f12 f13 f14 f15 f16 f17 f18 f19 f20 f21 fL fN fP fM fO) H := hP
              have hD : va_D A (mW ad kc x0 x1 x2 x3 x4 x_231 x_232 x_233 x_278 x_279 x10 x11 x12 x13 x14 x15 x16 x17 x18 x19 x20 x21 f0 f1 f2 f3 f4 f5 f6 f7 f8 f9 f10 f11 f12 f13 f14 f15 f16 f17 f18 f19 f20 f21 fL fN fP fM fO) := hD
              exact W.zret hx hb hr (z_nar (by first | assumption | decide | exact z_of (by omega))) (fun t ht hW => ⟨⟨_, _, rfl, rfl, x_231, x_232, x_233, x_278, x_279, x11, f0, q0, (fun _ _ => rfl), (by first | omega | assumption | rfl | decide), (by first | omega | assumption | rfl | decide), (by first | omega | assumption | rfl | decide), (fun h9 => by omega), by rw [ht]; exact hP, va_K.moved hW.alike hK, hD⟩, hS.F ht⟩) hS.2.2 dX10_aLine_79
          · have tk_229 := c_eq (a := y_227.toInt) (b := 8) rfl (by decide) k_229
            refine lv_aload_n hx hb dX10_aLine_56 rfl (lv_at hl 1 rfl) ?_
            refine lv_iconst (v := 3) hx hb dX10_aLine_57 (by decide) ?_
            have hFc := m_free hD hS hA
            refine va_calli (va_runV (As := [.int 3]) (rest := []) ⟨hx, hb, hml, hown, hts⟩ (m_fails l dC dI ad kc x0 x1 x2 x3 x4 x5 x6 x7 x8 x9 x10 x11 x12 x13 x14 x15 x16 x17 x18 x19 x20 x21 f0 f1 f2 f3 f4 f5 f6 f7 f8 f9 f10 f11 f12 f13 f14 f15 f16 f17 f18 f19 f20 f21 fL fN fP fM fO H.size 3 ) (cwV 1 hts mg_X10_aLinem_X10_fails_181 rfl rfl rfl (by decide +kernel) ⟨Nat.le_of_ble_eq_true rfl, Nat.le_of_ble_eq_true rfl⟩) ⟨fun a U g mk q => by obtain ⟨q0, q1, qP, qK, qD⟩ := q; exact ⟨q0, q1, qP, va_K.moved (u := U) (U := U.calling g mk a) (Vm.Alike.refl U.vm) qK, qD⟩, va_recv hK hP (ci := 10) (q0 := 0) rfl rfl, fun U hU hW => ⟨rfl, by rw [hU], by rw [hU]; exact hP, va_K.moved hW.alike hK, hD.weaken (fun _ _ _ _ => trivial)⟩⟩ rfl rfl hl.1 rfl (lv_room (Nat.le_of_ble_eq_true rfl)) dX10_aLine_58 ⟨Nat.le_of_ble_eq_true rfl, Nat.le_of_ble_eq_true rfl⟩) hS (fun q _ h => hFc q h) hFc (fun r_280 u t H1 locs ht hvm hw hB hz1 hk1 hS => ?_)
            subst hw
            obtain ⟨x_281, x_282, hr_280_0, hP, hK1, hD1⟩ := hB
            rw [ht] at hP
            have hD := hD1.weaken (fun k q _ h => hFc q.1 h)
            clear hz1 hk1 hFc hD1 hK1 hvm
            generalize H1 = H at hP hS ⊢
            have rg_x_281 := i_rng x_281
            have rg_x_282 := i_rng x_282
            have rg_r_280 := i_rng r_280
            have hP : va_P (dC, dI) vwCl (mW ad kc x0 x1 x2 x3 x4 x5 x6 x7 x_281 x_282 x10 x11 x12 x13 x14 x15 x16 x17 x18 x19 x20 x21 f0 f1 f2 f3 f4 f5 f6 f7 f8 f9 f10 f11 f12 f13 f14 f15 f16 f17 f18 f19 f20 f21 fL fN fP fM fO) H := hP
            have hD : va_D A (mW ad kc x0 x1 x2 x3 x4 x5 x6 x7 x_281 x_282 x10 x11 x12 x13 x14 x15 x16 x17 x18 x19 x20 x21 f0 f1 f2 f3 f4 f5 f6 f7 f8 f9 f10 f11 f12 f13 f14 f15 f16 f17 f18 f19 f20 f21 fL fN fP fM fO) := hD
            exact W.zret hx hb hr (z_nar (by first | assumption | decide | exact z_of (by omega))) (fun t ht hW => ⟨⟨_, _, rfl, rfl, x5, x6, x7, x_281, x_282, x11, f0, q0, (fun _ _ => rfl), (by first | omega | assumption | rfl | decide), (by first | omega | assumption | rfl | decide), (by first | omega | assumption | rfl | decide), (fun h9 => by omega), by rw [ht]; exact hP, va_K.moved hW.alike hK, hD⟩, hS.F ht⟩) hS.2.2 dX10_aLine_61
        · have tk_228 := c_ne (a := r_1.toInt) (b := 0) rfl (by decide) k_228
          refine lv_bipush (v := 10) hx hb dX10_aLine_46 (by decide) ?_
          refine lv_goto (tgt := 53) hx hb dX10_aLine_48 (by decide) ?_
          refine lv_icmp_ne (tgt := 62) hx hb dX10_aLine_53 (by decide) (fun k_283 => ?_) (fun k_283 => ?_)
          · have tk_283 := c_ne (a := y_227.toInt) (b := 10) rfl (by decide) k_283
            refine lv_aload_n hx hb dX10_aLine_62 rfl (lv_at hl 1 rfl) ?_
            have hFc := m_free hD hS hA
            refine va_callv (va_runV (As := []) (rest := []) ⟨hx, hb, hml, hown, hts⟩ (m_ahead l dC dI ad kc x0 x1 x2 x3 x4 x5 x6 x7 x8 x9 x10 x11 x12 x13 x14 x15 x16 x17 x18 x19 x20 x21 f0 f1 f2 f3 f4 f5 f6 f7 f8 f9 f10 f11 f12 f13 f14 f15 f16 f17 f18 f19 f20 f21 fL fN fP fM fO H.size (by first | omega | assumption | decide | (have l0 := Int32.toInt_zero; omega)) (by first | omega | assumption | decide | (have l0 := Int32.toInt_zero; omega)) (by first | omega | assumption | decide | (have l0 := Int32.toInt_zero; omega))) (cwV 0 hts mg_X10_aLinem_X10_ahead_184 rfl rfl rfl (by decide +kernel) ⟨Nat.le_of_ble_eq_true rfl, Nat.le_of_ble_eq_true rfl⟩) ⟨fun a U g mk q => by obtain ⟨q0, q1, qP, qK, qD⟩ := q; exact ⟨q0, q1, qP, va_K.moved (u := U) (U := U.calling g mk a) (Vm.Alike.refl U.vm) qK, qD⟩, va_recv hK hP (ci := 10) (q0 := 0) rfl rfl, fun U hU hW => ⟨rfl, by rw [hU], by rw [hU]; exact hP, va_K.moved hW.alike hK, hD.weaken (fun _ _ _ _ => trivial)⟩⟩ rfl rfl hl.1 rfl (lv_room (Nat.le_of_ble_eq_true rfl)) dX10_aLine_63 ⟨Nat.le_of_ble_eq_true rfl, Nat.le_of_ble_eq_true rfl⟩) hS (fun q _ h => hFc q h) hFc (fun u t H1 locs ht hvm hw hB hz1 hk1 hS => ?_)
            obtain ⟨x_285, x_286, x_287, hr_284_0, hr_284_1, hr_284_2, hr_284_3, hr_284_4, hP, hK1, hD1⟩ := hB
            rw [ht] at hP
            have hD := hD1.weaken (fun k q _ h => hFc q.1 h)
            clear hz1 hk1 hFc hD1 hK1 hvm
            generalize H1 = H at hP hS ⊢
            have rg_x_285 := i_rng x_285
            have rg_x_286 := i_rng x_286
            have rg_x_287 := i_rng x_287
            have hP : va_P (dC, dI) vwCl (mW ad kc x0 x1 x2 x3 x4 x_285 x_286 x_287 x8 x9 x10 x11 x12 x13 x14 x15 x16 x17 x18 x19 x20 x21 f0 f1 f2 f3 f4 f5 f6 f7 f8 f9 f10 f11 f12 f13 f14 f15 f16 f17 f18 f19 f20 f21 fL fN fP fM fO) H := hP
            have hD : va_D A (mW ad kc x0 x1 x2 x3 x4 x_285 x_286 x_287 x8 x9 x10 x11 x12 x13 x14 x15 x16 x17 x18 x19 x20 x21 f0 f1 f2 f3 f4 f5 f6 f7 f8 f9 f10 f11 f12 f13 f14 f15 f16 f17 f18 f19 f20 f21 fL fN fP fM fO) := hD
            refine lv_aload_n hx hb dX10_aLine_66 rfl (lv_at hl 1 rfl) ?_
            refine va_get (D := (dC, dI)) (ci := 10) (v := .int x_285) (C := RX10) (T := TX10) (N := 48) hx hb hts fin_X10_aLinem_X10 hown hK hP 0 rfl rfl 8 (by decide) (hts (.fieldLink RX10 120 "PatternGateModel" "token" "I") (List.mem_of_getElem? (i := 9) (by decide +kernel))) (fun _ h9 => h9) rfl dX10_aLine_67 ?_
            refine lv_iconst (v := 3) hx hb dX10_aLine_70 (by decide) ?_
            refine lv_icmp_eq (tgt := 80) hx hb dX10_aLine_71 (by decide) (fun k_288 => ?_) (fun k_288 => ?_)
            · have tk_288 := c_eq (a := x_285.toInt) (b := 3) rfl (by decide) k_288
              refine lv_iload_n hx hb dX10_aLine_80 rfl (lv_at hl 0 rfl) ?_
              refine lv_if_eq (tgt := 94) hx hb dX10_aLine_81 (by decide) (fun k_289 => ?_) (fun k_289 => ?_)
              · have tk_289 := c_eq (a := r_1.toInt) (b := 0) rfl (by decide) k_289
                refine lv_aload_n hx hb dX10_aLine_94 rfl (lv_at hl 1 rfl) ?_
                have hFc := m_free hD hS hA
                refine va_calli (va_runV (As := []) (rest := []) ⟨hx, hb, hml, hown, hts⟩ (m_patternQuote l dC dI ad kc x0 x1 x2 x3 x4 x_285 x_286 x_287 x8 x9 x10 x11 x12 x13 x14 x15 x16 x17 x18 x19 x20 x21 f0 f1 f2 f3 f4 f5 f6 f7 f8 f9 f10 f11 f12 f13 f14 f15 f16 f17 f18 f19 f20 f21 fL fN fP fM fO H.size (by first | omega | assumption | decide | (have l0 := Int32.toInt_zero; omega)) (by first | omega | assumption | decide | (have l0 := Int32.toInt_zero; omega)) (by first | omega | assumption | decide | (have l0 := Int32.toInt_zero; omega)) (by first | omega | assumption | decide | (have l0 := Int32.toInt_zero; omega)) (by first | omega | assumption | decide | (have l0 := Int32.toInt_zero; omega))) (cwV 0 hts mg_X10_aLinem_X10_patternQuote_190 rfl rfl rfl (by decide +kernel) ⟨Nat.le_of_ble_eq_true rfl, Nat.le_of_ble_eq_true rfl⟩) ⟨fun a U g mk q => by obtain ⟨q0, q1, qP, qK, qD⟩ := q; exact ⟨q0, q1, qP, va_K.moved (u := U) (U := U.calling g mk a) (Vm.Alike.refl U.vm) qK, qD⟩, va_recv hK hP (ci := 10) (q0 := 0) rfl rfl, fun U hU hW => ⟨rfl, by rw [hU], by rw [hU]; exact hP, va_K.moved hW.alike hK, hD.weaken (fun _ _ _ _ => trivial)⟩⟩ rfl rfl hl.1 rfl (lv_room (Nat.le_of_ble_eq_true rfl)) dX10_aLine_95 ⟨Nat.le_of_ble_eq_true rfl, Nat.le_of_ble_eq_true rfl⟩) hS (fun q _ h => hFc q h) hFc (fun r_290 u t H1 locs ht hvm hw hB hz1 hk1 hS => ?_)
                subst hw
                obtain ⟨x_291, x_292, x_293, x_294, f_295, hr_290_0, hr_290_1, hr_290_2, hr_290_3, hr_290_4, hP, hK1, hD1⟩ := hB
                rw [ht] at hP
                have hD := hD1.weaken (fun k q _ h => hFc q.1 h)
                clear hz1 hk1 hFc hD1 hK1 hvm
                generalize H1 = H at hP hS ⊢
                have rg_x_291 := i_rng x_291
                have rg_x_292 := i_rng x_292
                have rg_x_293 := i_rng x_293
                have rg_x_294 := i_rng x_294
                have rg_r_290 := i_rng r_290
                have hP : va_P (dC, dI) vwCl (mW ad kc x0 x1 x2 x3 x4 x_285 x_286 x_291 x_292 x_293 x10 x_294 x12 x13 x14 x15 x16 x17 x18 x19 x20 x21 f_295 f1 f2 f3 f4 f5 f6 f7 f8 f9 f10 f11 f12 f13 f14 f15 f16 f17 f18 f19 f20 f21 fL fN fP fM fO) H := hP
                have hD : va_D A (mW ad kc x0 x1 x2 x3 x4 x_285 x_286 x_291 x_292 x_293 x10 x_294 x12 x13 x14 x15 x16 x17 x18 x19 x20 x21 f_295 f1 f2 f3 f4 f5 f6 f7 f8 f9 f10 f11 f12 f13 f14 f15 f16 f17 f18 f19 f20 f21 fL fN fP fM fO) := hD
                have hq9 := hr_290_0
                have hq8 := hr_290_1
                refine lv_if_ne (tgt := 103) hx hb dX10_aLine_98 (by decide) (fun k_296 => ?_) (fun k_296 => ?_)
                · have tk_296 := c_ne (a := r_290.toInt) (b := 0) rfl (by decide) k_296
                  refine lv_aload_n hx hb dX10_aLine_103 rfl (lv_at hl 1 rfl) ?_
                  have hFc := m_free hD hS hA
                  refine va_callv (va_runV (As := []) (rest := []) ⟨hx, hb, hml, hown, hts⟩ (m_ahead l dC dI ad kc x0 x1 x2 x3 x4 x_285 x_286 x_291 x_292 x_293 x10 x_294 x12 x13 x14 x15 x16 x17 x18 x19 x20 x21 f_295 f1 f2 f3 f4 f5 f6 f7 f8 f9 f10 f11 f12 f13 f14 f15 f16 f17 f18 f19 f20 f21 fL fN fP fM fO H.size (by first | omega | assumption | decide | (have l0 := Int32.toInt_zero; omega)) (by first | omega | assumption | decide | (have l0 := Int32.toInt_zero; omega)) (by first | omega | assumption | decide | (have l0 := Int32.toInt_zero; omega))) (cwV 0 hts mg_X10_aLinem_X10_ahead_184 rfl rfl rfl (by decide +kernel) ⟨Nat.le_of_ble_eq_true rfl, Nat.le_of_ble_eq_true rfl⟩) ⟨fun a U g mk q => by obtain ⟨q0, q1, qP, qK, qD⟩ := q; exact ⟨q0, q1, qP, va_K.moved (u := U) (U := U.calling g mk a) (Vm.Alike.refl U.vm) qK, qD⟩, va_recv hK hP (ci := 10) (q0 := 0) rfl rfl, fun U hU hW => ⟨rfl, by rw [hU], by rw [hU]; exact hP, va_K.moved hW.alike hK, hD.weaken (fun _ _ _ _ => trivial)⟩⟩ rfl rfl hl.1 rfl (lv_room (Nat.le_of_ble_eq_true rfl)) dX10_aLine_104 ⟨Nat.le_of_ble_eq_true rfl, Nat.le_of_ble_eq_true rfl⟩) hS (fun q _ h => hFc q h) hFc (fun u t H1 locs ht hvm hw hB hz1 hk1 hS => ?_)
                  obtain ⟨x_298, x_299, x_300, hr_297_0, hr_297_1, hr_297_2, hr_297_3, hr_297_4, hP, hK1, hD1⟩ := hB
                  rw [ht] at hP
                  have hD := hD1.weaken (fun k q _ h => hFc q.1 h)
                  clear hz1 hk1 hFc hD1 hK1 hvm
                  generalize H1 = H at hP hS ⊢
                  have rg_x_298 := i_rng x_298
                  have rg_x_299 := i_rng x_299
                  have rg_x_300 := i_rng x_300
                  have hP : va_P (dC, dI) vwCl (mW ad kc x0 x1 x2 x3 x4 x_298 x_299 x_300 x_292 x_293 x10 x_294 x12 x13 x14 x15 x16 x17 x18 x19 x20 x21 f_295 f1 f2 f3 f4 f5 f6 f7 f8 f9 f10 f11 f12 f13 f14 f15 f16 f17 f18 f19 f20 f21 fL fN fP fM fO) H := hP
                  have hD : va_D A (mW ad kc x0 x1 x2 x3 x4 x_298 x_299 x_300 x_292 x_293 x10 x_294 x12 x13 x14 x15 x16 x17 x18 x19 x20 x21 f_295 f1 f2 f3 f4 f5 f6 f7 f8 f9 f10 f11 f12 f13 f14 f15 f16 f17 f18 f19 f20 f21 fL fN fP fM fO) := hD
                  refine lv_aload_n hx hb dX10_aLine_107 rfl (lv_at hl 1 rfl) ?_
                  refine va_get (D := (dC, dI)) (ci := 10) (v := .int x_298) (C := RX10) (T := TX10) (N := 48) hx hb hts fin_X10_aLinem_X10 hown hK hP 0 rfl rfl 8 (by decide) (hts (.fieldLink RX10 120 "PatternGateModel" "token" "I") (List.mem_of_getElem? (i := 9) (by decide +kernel))) (fun _ h9 => h9) rfl dX10_aLine_108 ?_
                  refine lv_iconst (v := 4) hx hb dX10_aLine_111 (by decide) ?_
                  refine lv_icmp_eq (tgt := 121) hx hb dX10_aLine_112 (by decide) (fun k_301 => ?_) (fun k_301 => ?_)
                  · have tk_301 := c_eq (a := x_298.toInt) (b := 4) rfl (by decide) k_301
                    refine lv_aload_n hx hb dX10_aLine_121 rfl (lv_at hl 1 rfl) ?_
                    have hFc := m_free hD hS hA
                    refine va_callv (va_runV (As := []) (rest := []) ⟨hx, hb, hml, hown, hts⟩ (m_ahead l dC dI ad kc x0 x1 x2 x3 x4 x_298 x_299 x_300 x_292 x_293 x10 x_294 x12 x13 x14 x15 x16 x17 x18 x19 x20 x21 f_295 f1 f2 f3 f4 f5 f6 f7 f8 f9 f10 f11 f12 f13 f14 f15 f16 f17 f18 f19 f20 f21 fL fN fP fM fO H.size (by first | omega | assumption | decide | (have l0 := Int32.toInt_zero; omega)) (by first | omega | assumption | decide | (have l0 := Int32.toInt_zero; omega)) (by first | omega | assumption | decide | (have l0 := Int32.toInt_zero; omega))) (cwV 0 hts mg_X10_aLinem_X10_ahead_184 rfl rfl rfl (by decide +kernel) ⟨Nat.le_of_ble_eq_true rfl, Nat.le_of_ble_eq_true rfl⟩) ⟨fun a U g mk q => by obtain ⟨q0, q1, qP, qK, qD⟩ := q; exact ⟨q0, q1, qP, va_K.moved (u := U) (U := U.calling g mk a) (Vm.Alike.refl U.vm) qK, qD⟩, va_recv hK hP (ci := 10) (q0 := 0) rfl rfl, fun U hU hW => ⟨rfl, by rw [hU], by rw [hU]; exact hP, va_K.moved hW.alike hK, hD.weaken (fun _ _ _ _ => trivial)⟩⟩ rfl rfl hl.1 rfl (lv_room (Nat.le_of_ble_eq_true rfl)) dX10_aLine_122 ⟨Nat.le_of_ble_eq_true rfl, Nat.le_of_ble_eq_true rfl⟩) hS (fun q _ h => hFc q h) hFc (fun u t H1 locs ht hvm hw hB hz1 hk1 hS => ?_)
                    obtain ⟨x_303, x_304, x_305, hr_302_0, hr_302_1, hr_302_2, hr_302_3, hr_302_4, hP, hK1, hD1⟩ := hB
                    rw [ht] at hP
                    have hD := hD1.weaken (fun k q _ h => hFc q.1 h)
                    clear hz1 hk1 hFc hD1 hK1 hvm
                    generalize H1 = H at hP hS ⊢
                    have rg_x_303 := i_rng x_303
                    have rg_x_304 := i_rng x_304
                    have rg_x_305 := i_rng x_305
                    have hP : va_P (dC, dI) vwCl (mW ad kc x0 x1 x2 x3 x4 x_303 x_304 x_305 x_292 x_293 x10 x_294 x12 x13 x14 x15 x16 x17 x18 x19 x20 x21 f_295 f1 f2 f3 f4 f5 f6 f7 f8 f9 f10 f11 f12 f13 f14 f15 f16 f17 f18 f19 f20 f21 fL fN fP fM fO) H := hP
                    have hD : va_D A (mW ad kc x0 x1 x2 x3 x4 x_303 x_304 x_305 x_292 x_293 x10 x_294 x12 x13 x14 x15 x16 x17 x18 x19 x20 x21 f_295 f1 f2 f3 f4 f5 f6 f7 f8 f9 f10 f11 f12 f13 f14 f15 f16 f17 f18 f19 f20 f21 fL fN fP fM fO) := hD
                    refine lv_iconst (v := 1) hx hb dX10_aLine_125 (by decide) ?_
                    have lit_305 : (1 : Int32).toInt = 1 := by decide
                    exact W.zret hx hb hr (z_nar (by first | assumption | decide | exact z_of (by omega))) (fun t ht hW => ⟨⟨_, _, rfl, rfl, x_303, x_304, x_305, x_292, x_293, x_294, f_295, hq9, hq8, (by first | omega | assumption | rfl | decide), (by first | omega | assumption | rfl | decide), (by first | omega | assumption | rfl | decide), (fun h9 => by omega), by rw [ht]; exact hP, va_K.moved hW.alike hK, hD⟩, hS.F ht⟩) hS.2.2 dX10_aLine_126
                  · have tk_301 := c_ne (a := x_298.toInt) (b := 4) rfl (by decide) k_301
                    refine lv_aload_n hx hb dX10_aLine_115 rfl (lv_at hl 1 rfl) ?_
                    refine lv_iconst (v := 2) hx hb dX10_aLine_116 (by decide) ?_
                    have hFc := m_free hD hS hA
                    refine va_calli (va_runV (As := [.int 2]) (rest := []) ⟨hx, hb, hml, hown, hts⟩ (m_fails l dC dI ad kc x0 x1 x2 x3 x4 x_298 x_299 x_300 x_292 x_293 x10 x_294 x12 x13 x14 x15 x16 x17 x18 x19 x20 x21 f_295 f1 f2 f3 f4 f5 f6 f7 f8 f9 f10 f11 f12 f13 f14 f15 f16 f17 f18 f19 f20 f21 fL fN fP fM fO H.size 2 ) (cwV 1 hts mg_X10_aLinem_X10_fails_181 rfl rfl rfl (by decide +kernel) ⟨Nat.le_of_ble_eq_true rfl, Nat.le_of_ble_eq_true rfl⟩) ⟨fun a U g mk q => by obtain ⟨q0, q1, qP, qK, qD⟩ := q; exact ⟨q0, q1, qP, va_K.moved (u := U) (U := U.calling g mk a) (Vm.Alike.refl U.vm) qK, qD⟩, va_recv hK hP (ci := 10) (q0 := 0) rfl rfl, fun U hU hW => ⟨rfl, by rw [hU], by rw [hU]; exact hP, va_K.moved hW.alike hK, hD.weaken (fun _ _ _ _ => trivial)⟩⟩ rfl rfl hl.1 rfl (lv_room (Nat.le_of_ble_eq_true rfl)) dX10_aLine_117 ⟨Nat.le_of_ble_eq_true rfl, Nat.le_of_ble_eq_true rfl⟩) hS (fun q _ h => hFc q h) hFc (fun r_307 u t H1 locs ht hvm hw hB hz1 hk1 hS => ?_)
                    subst hw
                    obtain ⟨x_308, x_309, hr_307_0, hP, hK1, hD1⟩ := hB
                    rw [ht] at hP
                    have hD := hD1.weaken (fun k q _ h => hFc q.1 h)
                    clear hz1 hk1 hFc hD1 hK1 hvm
                    generalize H1 = H at hP hS ⊢
                    have rg_x_308 := i_rng x_308
                    have rg_x_309 := i_rng x_309
                    have rg_r_307 := i_rng r_307
                    have hP : va_P (dC, dI) vwCl (mW ad kc x0 x1 x2 x3 x4 x_298 x_299 x_300 x_308 x_309 x10 x_294 x12 x13 x14 x15 x16 x17 x18 x19 x20 x21 f_295 f1 f2 f3 f4 f5 f6 f7 f8 f9 f10 f11 f12 f13 f14 f15 f16 f17 f18 f19 f20 f21 fL fN fP fM fO) H := hP
                    have hD : va_D A (mW ad kc x0 x1 x2 x3 x4 x_298 x_299 x_300 x_308 x_309 x10 x_294 x12 x13 x14 x15 x16 x17 x18 x19 x20 x21 f_295 f1 f2 f3 f4 f5 f6 f7 f8 f9 f10 f11 f12 f13 f14 f15 f16 f17 f18 f19 f20 f21 fL fN fP fM fO) := hD
                    exact W.zret hx hb hr (z_nar (by first | assumption | decide | exact z_of (by omega))) (fun t ht hW => ⟨⟨_, _, rfl, rfl, x_298, x_299, x_300, x_308, x_309, x_294, f_295, hq9, hq8, (by first | omega | assumption | rfl | decide), (by first | omega | assumption | rfl | decide), (by first | omega | assumption | rfl | decide), (fun h9 => by omega), by rw [ht]; exact hP, va_K.moved hW.alike hK, hD⟩, hS.F ht⟩) hS.2.2 dX10_aLine_120
                · have tk_296 := c_eq (a := r_290.toInt) (b := 0) rfl (by decide) k_296
                  refine lv_iconst (v := 0) hx hb dX10_aLine_101 (by decide) ?_
                  have lit_309 : (0 : Int32).toInt = 0 := by decide
                  exact W.zret hx hb hr (z_nar (by first | assumption | decide | exact z_of (by omega))) (fun t ht hW => ⟨⟨_, _, rfl, rfl, x_285, x_286, x_291, x_292, x_293, x_294, f_295, hq9, hq8, (by first | omega | assumption | rfl | decide), (by first | omega | assumption | rfl | decide), (by first | omega | assumption | rfl | decide), (fun h9 => by omega), by rw [ht]; exact hP, va_K.moved hW.alike hK, hD⟩, hS.F ht⟩) hS.2.2 dX10_aLine_102
              · have tk_289 := c_ne (a := r_1.toInt) (b := 0) rfl (by decide) k_289
                refine lv_aload_n hx hb dX10_aLine_84 rfl (lv_at hl 1 rfl) ?_
                have hFc := m_free hD hS hA
                refine va_calli (va_runV (As := []) (rest := []) ⟨hx, hb, hml, hown, hts⟩ (m_docQuote l dC dI ad kc x0 x1 x2 x3 x4 x_285 x_286 x_287 x8 x9 x10 x11 x12 x13 x14 x15 x16 x17 x18 x19 x20 x21 f0 f1 f2 f3 f4 f5 f6 f7 f8 f9 f10 f11 f12 f13 f14 f15 f16 f17 f18 f19 f20 f21 fL fN fP fM fO H.size (by first | omega | assumption | decide | (have l0 := Int32.toInt_zero; omega)) (by first | omega | assumption | decide | (have l0 := Int32.toInt_zero; omega)) (by first | omega | assumption | decide | (have l0 := Int32.toInt_zero; omega)) (by first | omega | assumption | decide | (have l0 := Int32.toInt_zero; omega)) (by first | omega | assumption | decide | (have l0 := Int32.toInt_zero; omega))) (cwV 0 hts mg_X10_aLinem_X10_docQuote_187 rfl rfl rfl (by decide +kernel) ⟨Nat.le_of_ble_eq_true rfl, Nat.le_of_ble_eq_true rfl⟩) ⟨fun a U g mk q => by obtain ⟨q0, q1, qP, qK, qD⟩ := q; exact ⟨q0, q1, qP, va_K.moved (u := U) (U := U.calling g mk a) (Vm.Alike.refl U.vm) qK, qD⟩, va_recv hK hP (ci := 10) (q0 := 0) rfl rfl, fun U hU hW => ⟨rfl, by rw [hU], by rw [hU]; exact hP, va_K.moved hW.alike hK, hD.weaken (fun _ _ _ _ => trivial)⟩⟩ rfl rfl hl.1 rfl (lv_room (Nat.le_of_ble_eq_true rfl)) dX10_aLine_85 ⟨Nat.le_of_ble_eq_true rfl, Nat.le_of_ble_eq_true rfl⟩) hS (fun q _ h => hFc q h) hFc (fun r_311 u t H1 locs ht hvm hw hB hz1 hk1 hS => ?_)
                subst hw
                obtain ⟨x_312, x_313, x_314, f_315, hr_311_0, hr_311_1, hr_311_2, hr_311_3, hr_311_4, hP, hK1, hD1⟩ := hB
                rw [ht] at hP
                have hD := hD1.weaken (fun k q _ h => hFc q.1 h)
                clear hz1 hk1 hFc hD1 hK1 hvm
                generalize H1 = H at hP hS ⊢
                have rg_x_312 := i_rng x_312
                have rg_x_313 := i_rng x_313
                have rg_x_314 := i_rng x_314
                have rg_r_311 := i_rng r_311
                have hP : va_P (dC, dI) vwCl (mW ad kc x0 x1 x2 x3 x4 x_285 x_286 x_312 x_313 x_314 x10 x11 x12 x13 x14 x15 x16 x17 x18 x19 x20 x21 f_315 f1 f2 f3 f4 f5 f6 f7 f8 f9 f10 f11 f12 f13 f14 f15 f16 f17 f18 f19 f20 f21 fL fN fP fM fO) H := hP
                have hD : va_D A (mW ad kc x0 x1 x2 x3 x4 x_285 x_286 x_312 x_313 x_314 x10 x11 x12 x13 x14 x15 x16 x17 x18 x19 x20 x21 f_315 f1 f2 f3 f4 f5 f6 f7 f8 f9 f10 f11 f12 f13 f14 f15 f16 f17 f18 f19 f20 f21 fL fN fP fM fO) := hD
                have hq9 := hr_311_0
                have hq8 := hr_311_1
                refine lv_if_eq (tgt := 101) hx hb dX10_aLine_88 (by decide) (fun k_316 => ?_) (fun k_316 => ?_)
                · have tk_316 := c_eq (a := r_311.toInt) (b := 0) rfl (by decide) k_316
                  refine lv_iconst (v := 0) hx hb dX10_aLine_101 (by decide) ?_
                  have lit_316 : (0 : Int32).toInt = 0 := by decide
                  exact W.zret hx hb hr (z_nar (by first | assumption | decide | exact z_of (by omega))) (fun t ht hW => ⟨⟨_, _, rfl, rfl, x_285, x_286, x_312, x_313, x_314, x11, f_315, hq9, hq8, (by first | omega | assumption | rfl | decide), (by first | omega | assumption | rfl | decide), (by first | omega | assumption | rfl | decide), (fun h9 => by omega), by rw [ht]; exact hP, va_K.moved hW.alike hK, hD⟩, hS.F ht⟩) hS.2.2 dX10_aLine_102
                · have tk_316 := c_ne (a := r_311.toInt) (b := 0) rfl (by decide) k_316
                  refine lv_goto (tgt := 103) hx hb dX10_aLine_91 (by decide) ?_
                  refine lv_aload_n hx hb dX10_aLine_103 rfl (lv_at hl 1 rfl) ?_
                  have hFc := m_free hD hS hA
                  refine va_callv (va_runV (As := []) (rest := []) ⟨hx, hb, hml, hown, hts⟩ (m_ahead l dC dI ad kc x0 x1 x2 x3 x4 x_285 x_286 x_312 x_313 x_314 x10 x11 x12 x13 x14 x15 x16 x17 x18 x19 x20 x21 f_315 f1 f2 f3 f4 f5 f6 f7 f8 f9 f10 f11 f12 f13 f14 f15 f16 f17 f18 f19 f20 f21 fL fN fP fM fO H.size (by first | omega | assumption | decide | (have l0 := Int32.toInt_zero; omega)) (by first | omega | assumption | decide | (have l0 := Int32.toInt_zero; omega)) (by first | omega | assumption | decide | (have l0 := Int32.toInt_zero; omega))) (cwV 0 hts mg_X10_aLinem_X10_ahead_184 rfl rfl rfl (by decide +kernel) ⟨Nat.le_of_ble_eq_true rfl, Nat.le_of_ble_eq_true rfl⟩) ⟨fun a U g mk q => by obtain ⟨q0, q1, qP, qK, qD⟩ := q; exact ⟨q0, q1, qP, va_K.moved (u := U) (U := U.calling g mk a) (Vm.Alike.refl U.vm) qK, qD⟩, va_recv hK hP (ci := 10) (q0 := 0) rfl rfl, fun U hU hW => ⟨rfl, by rw [hU], by rw [hU]; exact hP, va_K.moved hW.alike hK, hD.weaken (fun _ _ _ _ => trivial)⟩⟩ rfl rfl hl.1 rfl (lv_room (Nat.le_of_ble_eq_true rfl)) dX10_aLine_104 ⟨Nat.le_of_ble_eq_true rfl, Nat.le_of_ble_eq_true rfl⟩) hS (fun q _ h => hFc q h) hFc (fun u t H1 locs ht hvm hw hB hz1 hk1 hS => ?_)
                  obtain ⟨x_319, x_320, x_321, hr_318_0, hr_318_1, hr_318_2, hr_318_3, hr_318_4, hP, hK1, hD1⟩ := hB
                  rw [ht] at hP
                  have hD := hD1.weaken (fun k q _ h => hFc q.1 h)
                  clear hz1 hk1 hFc hD1 hK1 hvm
                  generalize H1 = H at hP hS ⊢
                  have rg_x_319 := i_rng x_319
                  have rg_x_320 := i_rng x_320
                  have rg_x_321 := i_rng x_321
                  have hP : va_P (dC, dI) vwCl (mW ad kc x0 x1 x2 x3 x4 x_319 x_320 x_321 x_313 x_314 x10 x11 x12 x13 x14 x15 x16 x17 x18 x19 x20 x21 f_315 f1 f2 f3 f4 f5 f6 f7 f8 f9 f10 f11 f12 f13 f14 f15 f16 f17 f18 f19 f20 f21 fL fN fP fM fO) H := hP
                  have hD : va_D A (mW ad kc x0 x1 x2 x3 x4 x_319 x_320 x_321 x_313 x_314 x10 x11 x12 x13 x14 x15 x16 x17 x18 x19 x20 x21 f_315 f1 f2 f3 f4 f5 f6 f7 f8 f9 f10 f11 f12 f13 f14 f15 f16 f17 f18 f19 f20 f21 fL fN fP fM fO) := hD
                  refine lv_aload_n hx hb dX10_aLine_107 rfl (lv_at hl 1 rfl) ?_
                  refine va_get (D := (dC, dI)) (ci := 10) (v := .int x_319) (C := RX10) (T := TX10) (N := 48) hx hb hts fin_X10_aLinem_X10 hown hK hP 0 rfl rfl 8 (by decide) (hts (.fieldLink RX10 120 "PatternGateModel" "token" "I") (List.mem_of_getElem? (i := 9) (by decide +kernel))) (fun _ h9 => h9) rfl dX10_aLine_108 ?_
                  refine lv_iconst (v := 4) hx hb dX10_aLine_111 (by decide) ?_
                  refine lv_icmp_eq (tgt := 121) hx hb dX10_aLine_112 (by decide) (fun k_322 => ?_) (fun k_322 => ?_)
                  · have tk_322 := c_eq (a := x_319.toInt) (b := 4) rfl (by decide) k_322
                    refine lv_aload_n hx hb dX10_aLine_121 rfl (lv_at hl 1 rfl) ?_
                    have hFc := m_free hD hS hA
                    refine va_callv (va_runV (As := []) (rest := []) ⟨hx, hb, hml, hown, hts⟩ (m_ahead l dC dI ad kc x0 x1 x2 x3 x4 x_319 x_320 x_321 x_313 x_314 x10 x11 x12 x13 x14 x15 x16 x17 x18 x19 x20 x21 f_315 f1 f2 f3 f4 f5 f6 f7 f8 f9 f10 f11 f12 f13 f14 f15 f16 f17 f18 f19 f20 f21 fL fN fP fM fO H.size (by first | omega | assumption | decide | (have l0 := Int32.toInt_zero; omega)) (by first | omega | assumption | decide | (have l0 := Int32.toInt_zero; omega)) (by first | omega | assumption | decide | (have l0 := Int32.toInt_zero; omega))) (cwV 0 hts mg_X10_aLinem_X10_ahead_184 rfl rfl rfl (by decide +kernel) ⟨Nat.le_of_ble_eq_true rfl, Nat.le_of_ble_eq_true rfl⟩) ⟨fun a U g mk q => by obtain ⟨q0, q1, qP, qK, qD⟩ := q; exact ⟨q0, q1, qP, va_K.moved (u := U) (U := U.calling g mk a) (Vm.Alike.refl U.vm) qK, qD⟩, va_recv hK hP (ci := 10) (q0 := 0) rfl rfl, fun U hU hW => ⟨rfl, by rw [hU], by rw [hU]; exact hP, va_K.moved hW.alike hK, hD.weaken (fun _ _ _ _ => trivial)⟩⟩ rfl rfl hl.1 rfl (lv_room (Nat.le_of_ble_eq_true rfl)) dX10_aLine_122 ⟨Nat.le_of_ble_eq_true rfl, Nat.le_of_ble_eq_true rfl⟩) hS (fun q _ h => hFc q h) hFc (fun u t H1 locs ht hvm hw hB hz1 hk1 hS => ?_)
                    obtain ⟨x_324, x_325, x_326, hr_323_0, hr_323_1, hr_323_2, hr_323_3, hr_323_4, hP, hK1, hD1⟩ := hB
                    rw [ht] at hP
                    have hD := hD1.weaken (fun k q _ h => hFc q.1 h)
                    clear hz1 hk1 hFc hD1 hK1 hvm
                    generalize H1 = H at hP hS ⊢
                    have rg_x_324 := i_rng x_324
                    have rg_x_325 := i_rng x_325
                    have rg_x_326 := i_rng x_326
                    have hP : va_P (dC, dI) vwCl (mW ad kc x0 x1 x2 x3 x4 x_324 x_325 x_326 x_313 x_314 x10 x11 x12 x13 x14 x15 x16 x17 x18 x19 x20 x21 f_315 f1 f2 f3 f4 f5 f6 f7 f8 f9 f10 f11 f12 f13 f14 f15 f16 f17 f18 f19 f20 f21 fL fN fP fM fO) H := hP
                    have hD : va_D A (mW ad kc x0 x1 x2 x3 x4 x_324 x_325 x_326 x_313 x_314 x10 x11 x12 x13 x14 x15 x16 x17 x18 x19 x20 x21 f_315 f1 f2 f3 f4 f5 f6 f7 f8 f9 f10 f11 f12 f13 f14 f15 f16 f17 f18 f19 f20 f21 fL fN fP fM fO) := hD
                    refine lv_iconst (v := 1) hx hb dX10_aLine_125 (by decide) ?_
                    have lit_326 : (1 : Int32).toInt = 1 := by decide
                    exact W.zret hx hb hr (z_nar (by first | assumption | decide | exact z_of (by omega))) (fun t ht hW => ⟨⟨_, _, rfl, rfl, x_324, x_325, x_326, x_313, x_314, x11, f_315, hq9, hq8, (by first | omega | assumption | rfl | decide), (by first | omega | assumption | rfl | decide), (by first | omega | assumption | rfl | decide), (fun h9 => by omega), by rw [ht]; exact hP, va_K.moved hW.alike hK, hD⟩, hS.F ht⟩) hS.2.2 dX10_aLine_126
                  · have tk_322 := c_ne (a := x_319.toInt) (b := 4) rfl (by decide) k_322
                    refine lv_aload_n hx hb dX10_aLine_115 rfl (lv_at hl 1 rfl) ?_
                    refine lv_iconst (v := 2) hx hb dX10_aLine_116 (by decide) ?_
                    have hFc := m_free hD hS hA
                    refine va_calli (va_runV (As := [.int 2]) (rest := []) ⟨hx, hb, hml, hown, hts⟩ (m_fails l dC dI ad kc x0 x1 x2 x3 x4 x_319 x_320 x_321 x_313 x_314 x10 x11 x12 x13 x14 x15 x16 x17 x18 x19 x20 x21 f_315 f1 f2 f3 f4 f5 f6 f7 f8 f9 f10 f11 f12 f13 f14 f15 f16 f17 f18 f19 f20 f21 fL fN fP fM fO H.size 2 ) (cwV 1 hts mg_X10_aLinem_X10_fails_181 rfl rfl rfl (by decide +kernel) ⟨Nat.le_of_ble_eq_true rfl, Nat.le_of_ble_eq_true rfl⟩) ⟨fun a U g mk q => by obtain ⟨q0, q1, qP, qK, qD⟩ := q; exact ⟨q0, q1, qP, va_K.moved (u := U) (U := U.calling g mk a) (Vm.Alike.refl U.vm) qK, qD⟩, va_recv hK hP (ci := 10) (q0 := 0) rfl rfl, fun U hU hW => ⟨rfl, by rw [hU], by rw [hU]; exact hP, va_K.moved hW.alike hK, hD.weaken (fun _ _ _ _ => trivial)⟩⟩ rfl rfl hl.1 rfl (lv_room (Nat.le_of_ble_eq_true rfl)) dX10_aLine_117 ⟨Nat.le_of_ble_eq_true rfl, Nat.le_of_ble_eq_true rfl⟩) hS (fun q _ h => hFc q h) hFc (fun r_328 u t H1 locs ht hvm hw hB hz1 hk1 hS => ?_)
                    subst hw
                    obtain ⟨x_329, x_330, hr_328_0, hP, hK1, hD1⟩ := hB
                    rw [ht] at hP
                    have hD := hD1.weaken (fun k q _ h => hFc q.1 h)
                    clear hz1 hk1 hFc hD1 hK1 hvm
                    generalize H1 = H at hP hS ⊢
                    have rg_x_329 := i_rng x_329
                    have rg_x_330 := i_rng x_330
                    have rg_r_328 := i_rng r_328
                    have hP : va_P (dC, dI) vwCl (mW ad kc x0 x1 x2 x3 x4 x_319 x_320 x_321 x_329 x_330 x10 x11 x12 x13 x14 x15 x16 x17 x18 x19 x20 x21 f_315 f1 f2 f3 f4 f5 f6 f7 f8 f9 f10 f11 f12 f13 f14 f15 f16 f17 f18 f19 f20 f21 fL fN fP fM fO) H := hP
                    have hD : va_D A (mW ad kc x0 x1 x2 x3 x4 x_319 x_320 x_321 x_329 x_330 x10 x11 x12 x13 x14 x15 x16 x17 x18 x19 x20 x21 f_315 f1 f2 f3 f4 f5 f6 f7 f8 f9 f10 f11 f12 f13 f14 f15 f16 f17 f18 f19 f20 f21 fL fN fP fM fO) := hD
                    exact W.zret hx hb hr (z_nar (by first | assumption | decide | exact z_of (by omega))) (fun t ht hW => ⟨⟨_, _, rfl, rfl, x_319, x_320, x_321, x_329, x_330, x11, f_315, hq9, hq8, (by first | omega | assumption | rfl | decide), (by first | omega | assumption | rfl | decide), (by first | omega | assumption | rfl | decide), (fun h9 => by omega), by rw [ht]; exact hP, va_K.moved hW.alike hK, hD⟩, hS.F ht⟩) hS.2.2 dX10_aLine_120
            · have tk_288 := c_ne (a := x_285.toInt) (b := 3) rfl (by decide) k_288
              refine lv_aload_n hx hb dX10_aLine_74 rfl (lv_at hl 1 rfl) ?_
              refine lv_iconst (v := 2) hx hb dX10_aLine_75 (by decide) ?_
              have hFc := m_free hD hS hA
              refine va_calli (va_runV (As := [.int 2]) (rest := []) ⟨hx, hb, hml, hown, hts⟩ (m_fails l dC dI ad kc x0 x1 x2 x3 x4 x_285 x_286 x_287 x8 x9 x10 x11 x12 x13 x14 x15 x16 x17 x18 x19 x20 x21 f0 f1 f2 f3 f4 f5 f6 f7 f8 f9 f10 f11 f12 f13 f14 f15 f16 f17 f18 f19 f20 f21 fL fN fP fM fO H.size 2 ) (cwV 1 hts mg_X10_aLinem_X10_fails_181 rfl rfl rfl (by decide +kernel) ⟨Nat.le_of_ble_eq_true rfl, Nat.le_of_ble_eq_true rfl⟩) ⟨fun a U g mk q => by obtain ⟨q0, q1, qP, qK, qD⟩ := q; exact ⟨q0, q1, qP, va_K.moved (u := U) (U := U.calling g mk a) (Vm.Alike.refl U.vm) qK, qD⟩, va_recv hK hP (ci := 10) (q0 := 0) rfl rfl, fun U hU hW => ⟨rfl, by rw [hU], by rw [hU]; exact hP, va_K.moved hW.alike hK, hD.weaken (fun _ _ _ _ => trivial)⟩⟩ rfl rfl hl.1 rfl (lv_room (Nat.le_of_ble_eq_true rfl)) dX10_aLine_76 ⟨Nat.le_of_ble_eq_true rfl, Nat.le_of_ble_eq_true rfl⟩) hS (fun q _ h => hFc q h) hFc (fun r_331 u t H1 locs ht hvm hw hB hz1 hk1 hS => ?_)
              subst hw
              obtain ⟨x_332, x_333, hr_331_0, hP, hK1, hD1⟩ := hB
              rw [ht] at hP
              have hD := hD1.weaken (fun k q _ h => hFc q.1 h)
              clear hz1 hk1 hFc hD1 hK1 hvm
              generalize H1 = H at hP hS ⊢
              have rg_x_332 := i_rng x_332
              have rg_x_333 := i_rng x_333
              have rg_r_331 := i_rng r_331
              have hP : va_P (dC, dI) vwCl (mW ad kc x0 x1 x2 x3 x4 x_285 x_286 x_287 x_332 x_333 x10 x11 x12 x13 x14 x15 x16 x17 x18 x19 x20 x21 f0 f1 f2 f3 f4 f5 f6 f7 f8 f9 f10 f11 f12 f13 f14 f15 f16 f17 f18 f19 f20 f21 fL fN fP fM fO) H := hP
              have hD : va_D A (mW ad kc x0 x1 x2 x3 x4 x_285 x_286 x_287 x_332 x_333 x10 x11 x12 x13 x14 x15 x16 x17 x18 x19 x20 x21 f0 f1 f2 f3 f4 f5 f6 f7 f8 f9 f10 f11 f12 f13 f14 f15 f16 f17 f18 f19 f20 f21 fL fN fP fM fO) := hD
              exact W.zret hx hb hr (z_nar (by first | assumption | decide | exact z_of (by omega))) (fun t ht hW => ⟨⟨_, _, rfl, rfl, x_285, x_286, x_287, x_332, x_333, x11, f0, q0, (fun _ _ => rfl), (by first | omega | assumption | rfl | decide), (by first | omega | assumption | rfl | decide), (by first | omega | assumption | rfl | decide), (fun h9 => by omega), by rw [ht]; exact hP, va_K.moved hW.alike hK, hD⟩, hS.F ht⟩) hS.2.2 dX10_aLine_79
          · have tk_283 := c_eq (a := y_227.toInt) (b := 10) rfl (by decide) k_283
            refine lv_aload_n hx hb dX10_aLine_56 rfl (lv_at hl 1 rfl) ?_
            refine lv_iconst (v := 3) hx hb dX10_aLine_57 (by decide) ?_
            have hFc := m_free hD hS hA
            refine va_calli (va_runV (As := [.int 3]) (rest := []) ⟨hx, hb, hml, hown, hts⟩ (m_fails l dC dI ad kc x0 x1 x2 x3 x4 x5 x6 x7 x8 x9 x10 x11 x12 x13 x14 x15 x16 x17 x18 x19 x20 x21 f0 f1 f2 f3 f4 f5 f6 f7 f8 f9 f10 f11 f12 f13 f14 f15 f16 f17 f18 f19 f20 f21 fL fN fP fM fO H.size 3 ) (cwV 1 hts mg_X10_aLinem_X10_fails_181 rfl rfl rfl (by decide +kernel) ⟨Nat.le_of_ble_eq_true rfl, Nat.le_of_ble_eq_true rfl⟩) ⟨fun a U g mk q => by obtain ⟨q0, q1, qP, qK, qD⟩ := q; exact ⟨q0, q1, qP, va_K.moved (u := U) (U := U.calling g mk a) (Vm.Alike.refl U.vm) qK, qD⟩, va_recv hK hP (ci := 10) (q0 := 0) rfl rfl, fun U hU hW => ⟨rfl, by rw [hU], by rw [hU]; exact hP, va_K.moved hW.alike hK, hD.weaken (fun _ _ _ _ => trivial)⟩⟩ rfl rfl hl.1 rfl (lv_room (Nat.le_of_ble_eq_true rfl)) dX10_aLine_58 ⟨Nat.le_of_ble_eq_true rfl, Nat.le_of_ble_eq_true rfl⟩) hS (fun q _ h => hFc q h) hFc (fun r_334 u t H1 locs ht hvm hw hB hz1 hk1 hS => ?_)
            subst hw
            obtain ⟨x_335, x_336, hr_334_0, hP, hK1, hD1⟩ := hB
            rw [ht] at hP
            have hD := hD1.weaken (fun k q _ h => hFc q.1 h)
            clear hz1 hk1 hFc hD1 hK1 hvm
            generalize H1 = H at hP hS ⊢
            have rg_x_335 := i_rng x_335
            have rg_x_336 := i_rng x_336
            have rg_r_334 := i_rng r_334
            have hP : va_P (dC, dI) vwCl (mW ad kc x0 x1 x2 x3 x4 x5 x6 x7 x_335 x_336 x10 x11 x12 x13 x14 x15 x16 x17 x18 x19 x20 x21 f0 f1 f2 f3 f4 f5 f6 f7 f8 f9 f10 f11 f12 f13 f14 f15 f16 f17 f18 f19 f20 f21 fL fN fP fM fO) H := hP
            have hD : va_D A (mW ad kc x0 x1 x2 x3 x4 x5 x6 x7 x_335 x_336 x10 x11 x12 x13 x14 x15 x16 x17 x18 x19 x20 x21 f0 f1 f2 f3 f4 f5 f6 f7 f8 f9 f10 f11 f12 f13 f14 f15 f16 f17 f18 f19 f20 f21 fL fN fP fM fO) := hD
            exact W.zret hx hb hr (z_nar (by first | assumption | decide | exact z_of (by omega))) (fun t ht hW => ⟨⟨_, _, rfl, rfl, x5, x6, x7, x_335, x_336, x11, f0, q0, (fun _ _ => rfl), (by first | omega | assumption | rfl | decide), (by first | omega | assumption | rfl | decide), (by first | omega | assumption | rfl | decide), (fun h9 => by omega), by rw [ht]; exact hP, va_K.moved hW.alike hK, hD⟩, hS.F ht⟩) hS.2.2 dX10_aLine_61
      · have tk_226 := c_ne (a := r_1.toInt) (b := 0) rfl (by decide) k_226
        refine lv_iconst (v := 0) hx hb dX10_aLine_34 (by decide) ?_
        refine lv_goto (tgt := 41) hx hb dX10_aLine_35 (by decide) ?_
        refine va_iald hx hb hK hP 1 0 rfl rfl (i := 0) (by unfold vp_in; decide +kernel) dX10_aLine_41 ?_
        refine lv_topi (fun y_337 ey_337 => ?_)
        have rg_y_337 := i_rng y_337
        have vy_337 := vI_lda (f := f0) (i := 0) (a := 0) ey_337 (by first | omega | decide)
        have rg_y_337 := i_rng y_337
        refine lv_iload_n hx hb dX10_aLine_42 rfl (lv_at hl 0 rfl) ?_
        refine lv_if_eq (tgt := 51) hx hb dX10_aLine_43 (by decide) (fun k_338 => ?_) (fun k_338 => ?_)
        · have tk_338 := c_eq (a := r_1.toInt) (b := 0) rfl (by decide) k_338
          refine lv_bipush (v := 8) hx hb dX10_aLine_51 (by decide) ?_
          refine lv_icmp_ne (tgt := 62) hx hb dX10_aLine_53 (by decide) (fun k_339 => ?_) (fun k_339 => ?_)
          · have tk_339 := c_ne (a := y_337.toInt) (b := 8) rfl (by decide) k_339
            refine lv_aload_n hx hb dX10_aLine_62 rfl (lv_at hl 1 rfl) ?_
            have hFc := m_free hD hS hA
            refine va_callv (va_runV (As := []) (rest := []) ⟨hx, hb, hml, hown, hts⟩ (m_ahead l dC dI ad kc x0 x1 x2 x3 x4 x5 x6 x7 x8 x9 x10 x11 x12 x13 x14 x15 x16 x17 x18 x19 x20 x21 f0 f1 f2 f3 f4 f5 f6 f7 f8 f9 f10 f11 f12 f13 f14 f15 f16 f17 f18 f19 f20 f21 fL fN fP fM fO H.size (by first | omega | assumption | decide | (have l0 := Int32.toInt_zero; omega)) (by first | omega | assumption | decide | (have l0 := Int32.toInt_zero; omega)) (by first | omega | assumption | decide | (have l0 := Int32.toInt_zero; omega))) (cwV 0 hts mg_X10_aLinem_X10_ahead_184 rfl rfl rfl (by decide +kernel) ⟨Nat.le_of_ble_eq_true rfl, Nat.le_of_ble_eq_true rfl⟩) ⟨fun a U g mk q => by obtain ⟨q0, q1, qP, qK, qD⟩ := q; exact ⟨q0, q1, qP, va_K.moved (u := U) (U := U.calling g mk a) (Vm.Alike.refl U.vm) qK, qD⟩, va_recv hK hP (ci := 10) (q0 := 0) rfl rfl, fun U hU hW => ⟨rfl, by rw [hU], by rw [hU]; exact hP, va_K.moved hW.alike hK, hD.weaken (fun _ _ _ _ => trivial)⟩⟩ rfl rfl hl.1 rfl (lv_room (Nat.le_of_ble_eq_true rfl)) dX10_aLine_63 ⟨Nat.le_of_ble_eq_true rfl, Nat.le_of_ble_eq_true rfl⟩) hS (fun q _ h => hFc q h) hFc (fun u t H1 locs ht hvm hw hB hz1 hk1 hS => ?_)
            obtain ⟨x_341, x_342, x_343, hr_340_0, hr_340_1, hr_340_2, hr_340_3, hr_340_4, hP, hK1, hD1⟩ := hB
            rw [ht] at hP
            have hD := hD1.weaken (fun k q _ h => hFc q.1 h)
            clear hz1 hk1 hFc hD1 hK1 hvm
            generalize H1 = H at hP hS ⊢
            have rg_x_341 := i_rng x_341
            have rg_x_342 := i_rng x_342
            have rg_x_343 := i_rng x_343
            have hP : va_P (dC, dI) vwCl (mW ad kc x0 x1 x2 x3 x4 x_341 x_342 x_343 x8 x9 x10 x11 x12 x13 x14 x15 x16 x17 x18 x19 x20 x21 f0 f1 f2 f3 f4 f5 f6 f7 f8 f9 f10 f11 f12 f13 f14 f15 f16 f17 f18 f19 f20 f21 fL fN fP fM fO) H := hP
            have hD : va_D A (mW ad kc x0 x1 x2 x3 x4 x_341 x_342 x_343 x8 x9 x10 x11 x12 x13 x14 x15 x16 x17 x18 x19 x20 x21 f0 f1 f2 f3 f4 f5 f6 f7 f8 f9 f10 f11 f12 f13 f14 f15 f16 f17 f18 f19 f20 f21 fL fN fP fM fO) := hD
            refine lv_aload_n hx hb dX10_aLine_66 rfl (lv_at hl 1 rfl) ?_
            refine va_get (D := (dC, dI)) (ci := 10) (v := .int x_341) (C := RX10) (T := TX10) (N := 48) hx hb hts fin_X10_aLinem_X10 hown hK hP 0 rfl rfl 8 (by decide) (hts (.fieldLink RX10 120 "PatternGateModel" "token" "I") (List.mem_of_getElem? (i := 9) (by decide +kernel))) (fun _ h9 => h9) rfl dX10_aLine_67 ?_
            refine lv_iconst (v := 3) hx hb dX10_aLine_70 (by decide) ?_
            refine lv_icmp_eq (tgt := 80) hx hb dX10_aLine_71 (by decide) (fun k_344 => ?_) (fun k_344 => ?_)
            · have tk_344 := c_eq (a := x_341.toInt) (b := 3) rfl (by decide) k_344
              refine lv_iload_n hx hb dX10_aLine_80 rfl (lv_at hl 0 rfl) ?_
              refine lv_if_eq (tgt := 94) hx hb dX10_aLine_81 (by decide) (fun k_345 => ?_) (fun k_345 => ?_)
              · have tk_345 := c_eq (a := r_1.toInt) (b := 0) rfl (by decide) k_345
                refine lv_aload_n hx hb dX10_aLine_94 rfl (lv_at hl 1 rfl) ?_
                have hFc := m_free hD hS hA
                refine va_calli (va_runV (As := []) (rest := []) ⟨hx, hb, hml, hown, hts⟩ (m_patternQuote l dC dI ad kc x0 x1 x2 x3 x4 x_341 x_342 x_343 x8 x9 x10 x11 x12 x13 x14 x15 x16 x17 x18 x19 x20 x21 f0 f1 f2 f3 f4 f5 f6 f7 f8 f9 f10 f11 f12 f13 f14 f15 f16 f17 f18 f19 f20 f21 fL fN fP fM fO H.size (by first | omega | assumption | decide | (have l0 := Int32.toInt_zero; omega)) (by first | omega | assumption | decide | (have l0 := Int32.toInt_zero; omega)) (by first | omega | assumption | decide | (have l0 := Int32.toInt_zero; omega)) (by first | omega | assumption | decide | (have l0 := Int32.toInt_zero; omega)) (by first | omega | assumption | decide | (have l0 := Int32.toInt_zero; omega))) (cwV 0 hts mg_X10_aLinem_X10_patternQuote_190 rfl rfl rfl (by decide +kernel) ⟨Nat.le_of_ble_eq_true rfl, Nat.le_of_ble_eq_true rfl⟩) ⟨fun a U g mk q => by obtain ⟨q0, q1, qP, qK, qD⟩ := q; exact ⟨q0, q1, qP, va_K.moved (u := U) (U := U.calling g mk a) (Vm.Alike.refl U.vm) qK, qD⟩, va_recv hK hP (ci := 10) (q0 := 0) rfl rfl, fun U hU hW => ⟨rfl, by rw [hU], by rw [hU]; exact hP, va_K.moved hW.alike hK, hD.weaken (fun _ _ _ _ => trivial)⟩⟩ rfl rfl hl.1 rfl (lv_room (Nat.le_of_ble_eq_true rfl)) dX10_aLine_95 ⟨Nat.le_of_ble_eq_true rfl, Nat.le_of_ble_eq_true rfl⟩) hS (fun q _ h => hFc q h) hFc (fun r_346 u t H1 locs ht hvm hw hB hz1 hk1 hS => ?_)
                subst hw
                obtain ⟨x_347, x_348, x_349, x_350, f_351, hr_346_0, hr_346_1, hr_346_2, hr_346_3, hr_346_4, hP, hK1, hD1⟩ := hB
                rw [ht] at hP
                have hD := hD1.weaken (fun k q _ h => hFc q.1 h)
                clear hz1 hk1 hFc hD1 hK1 hvm
                generalize H1 = H at hP hS ⊢
                have rg_x_347 := i_rng x_347
                have rg_x_348 := i_rng x_348
                have rg_x_349 := i_rng x_349
                have rg_x_350 := i_rng x_350
                have rg_r_346 := i_rng r_346
                have hP : va_P (dC, dI) vwCl (mW ad kc x0 x1 x2 x3 x4 x_341 x_342 x_347 x_348 x_349 x10 x_350 x12 x13 x14 x15 x16 x17 x18 x19 x20 x21 f_351 f1 f2 f3 f4 f5 f6 f7 f8 f9 f10 f11 f12 f13 f14 f15 f16 f17 f18 f19 f20 f21 fL fN fP fM fO) H := hP
                have hD : va_D A (mW ad kc x0 x1 x2 x3 x4 x_341 x_342 x_347 x_348 x_349 x10 x_350 x12 x13 x14 x15 x16 x17 x18 x19 x20 x21 f_351 f1 f2 f3 f4 f5 f6 f7 f8 f9 f10 f11 f12 f13 f14 f15 f16 f17 f18 f19 f20 f21 fL fN fP fM fO) := hD
                have hq9 := hr_346_0
                have hq8 := hr_346_1
                refine lv_if_ne (tgt := 103) hx hb dX10_aLine_98 (by decide) (fun k_352 => ?_) (fun k_352 => ?_)
                · have tk_352 := c_ne (a := r_346.toInt) (b := 0) rfl (by decide) k_352
                  refine lv_aload_n hx hb dX10_aLine_103 rfl (lv_at hl 1 rfl) ?_
                  have hFc := m_free hD hS hA
                  refine va_callv (va_runV (As := []) (rest := []) ⟨hx, hb, hml, hown, hts⟩ (m_ahead l dC dI ad kc x0 x1 x2 x3 x4 x_341 x_342 x_347 x_348 x_349 x10 x_350 x12 x13 x14 x15 x16 x17 x18 x19 x20 x21 f_351 f1 f2 f3 f4 f5 f6 f7 f8 f9 f10 f11 f12 f13 f14 f15 f16 f17 f18 f19 f20 f21 fL fN fP fM fO H.size (by first | omega | assumption | decide | (have l0 := Int32.toInt_zero; omega)) (by first | omega | assumption | decide | (have l0 := Int32.toInt_zero; omega)) (by first | omega | assumption | decide | (have l0 := Int32.toInt_zero; omega))) (cwV 0 hts mg_X10_aLinem_X10_ahead_184 rfl rfl rfl (by decide +kernel) ⟨Nat.le_of_ble_eq_true rfl, Nat.le_of_ble_eq_true rfl⟩) ⟨fun a U g mk q => by obtain ⟨q0, q1, qP, qK, qD⟩ := q; exact ⟨q0, q1, qP, va_K.moved (u := U) (U := U.calling g mk a) (Vm.Alike.refl U.vm) qK, qD⟩, va_recv hK hP (ci := 10) (q0 := 0) rfl rfl, fun U hU hW => ⟨rfl, by rw [hU], by rw [hU]; exact hP, va_K.moved hW.alike hK, hD.weaken (fun _ _ _ _ => trivial)⟩⟩ rfl rfl hl.1 rfl (lv_room (Nat.le_of_ble_eq_true rfl)) dX10_aLine_104 ⟨Nat.le_of_ble_eq_true rfl, Nat.le_of_ble_eq_true rfl⟩) hS (fun q _ h => hFc q h) hFc (fun u t H1 locs ht hvm hw hB hz1 hk1 hS => ?_)
                  obtain ⟨x_354, x_355, x_356, hr_353_0, hr_353_1, hr_353_2, hr_353_3, hr_353_4, hP, hK1, hD1⟩ := hB
                  rw [ht] at hP
                  have hD := hD1.weaken (fun k q _ h => hFc q.1 h)
                  clear hz1 hk1 hFc hD1 hK1 hvm
                  generalize H1 = H at hP hS ⊢
                  have rg_x_354 := i_rng x_354
                  have rg_x_355 := i_rng x_355
                  have rg_x_356 := i_rng x_356
                  have hP : va_P (dC, dI) vwCl (mW ad kc x0 x1 x2 x3 x4 x_354 x_355 x_356 x_348 x_349 x10 x_350 x12 x13 x14 x15 x16 x17 x18 x19 x20 x21 f_351 f1 f2 f3 f4 f5 f6 f7 f8 f9 f10 f11 f12 f13 f14 f15 f16 f17 f18 f19 f20 f21 fL fN fP fM fO) H := hP
                  have hD : va_D A (mW ad kc x0 x1 x2 x3 x4 x_354 x_355 x_356 x_348 x_349 x10 x_350 x12 x13 x14 x15 x16 x17 x18 x19 x20 x21 f_351 f1 f2 f3 f4 f5 f6 f7 f8 f9 f10 f11 f12 f13 f14 f15 f16 f17 f18 f19 f20 f21 fL fN fP fM fO) := hD
                  refine lv_aload_n hx hb dX10_aLine_107 rfl (lv_at hl 1 rfl) ?_
                  refine va_get (D := (dC, dI)) (ci := 10) (v := .int x_354) (C := RX10) (T := TX10) (N := 48) hx hb hts fin_X10_aLinem_X10 hown hK hP 0 rfl rfl 8 (by decide) (hts (.fieldLink RX10 120 "PatternGateModel" "token" "I") (List.mem_of_getElem? (i := 9) (by decide +kernel))) (fun _ h9 => h9) rfl dX10_aLine_108 ?_
                  refine lv_iconst (v := 4) hx hb dX10_aLine_111 (by decide) ?_
                  refine lv_icmp_eq (tgt := 121) hx hb dX10_aLine_112 (by decide) (fun k_357 => ?_) (fun k_357 => ?_)
                  · have tk_357 := c_eq (a := x_354.toInt) (b := 4) rfl (by decide) k_357
                    refine lv_aload_n hx hb dX10_aLine_121 rfl (lv_at hl 1 rfl) ?_
                    have hFc := m_free hD hS hA
                    refine va_callv (va_runV (As := []) (rest := []) ⟨hx, hb, hml, hown, hts⟩ (m_ahead l dC dI ad kc x0 x1 x2 x3 x4 x_354 x_355 x_356 x_348 x_349 x10 x_350 x12 x13 x14 x15 x16 x17 x18 x19 x20 x21 f_351 f1 f2 f3 f4 f5 f6 f7 f8 f9 f10 f11 f12 f13 f14 f15 f16 f17 f18 f19 f20 f21 fL fN fP fM fO H.size (by first | omega | assumption | decide | (have l0 := Int32.toInt_zero; omega)) (by first | omega | assumption | decide | (have l0 := Int32.toInt_zero; omega)) (by first | omega | assumption | decide | (have l0 := Int32.toInt_zero; omega))) (cwV 0 hts mg_X10_aLinem_X10_ahead_184 rfl rfl rfl (by decide +kernel) ⟨Nat.le_of_ble_eq_true rfl, Nat.le_of_ble_eq_true rfl⟩) ⟨fun a U g mk q => by obtain ⟨q0, q1, qP, qK, qD⟩ := q; exact ⟨q0, q1, qP, va_K.moved (u := U) (U := U.calling g mk a) (Vm.Alike.refl U.vm) qK, qD⟩, va_recv hK hP (ci := 10) (q0 := 0) rfl rfl, fun U hU hW => ⟨rfl, by rw [hU], by rw [hU]; exact hP, va_K.moved hW.alike hK, hD.weaken (fun _ _ _ _ => trivial)⟩⟩ rfl rfl hl.1 rfl (lv_room (Nat.le_of_ble_eq_true rfl)) dX10_aLine_122 ⟨Nat.le_of_ble_eq_true rfl, Nat.le_of_ble_eq_true rfl⟩) hS (fun q _ h => hFc q h) hFc (fun u t H1 locs ht hvm hw hB hz1 hk1 hS => ?_)
                    obtain ⟨x_359, x_360, x_361, hr_358_0, hr_358_1, hr_358_2, hr_358_3, hr_358_4, hP, hK1, hD1⟩ := hB
                    rw [ht] at hP
                    have hD := hD1.weaken (fun k q _ h => hFc q.1 h)
                    clear hz1 hk1 hFc hD1 hK1 hvm
                    generalize H1 = H at hP hS ⊢
                    have rg_x_359 := i_rng x_359
                    have rg_x_360 := i_rng x_360
                    have rg_x_361 := i_rng x_361
                    have hP : va_P (dC, dI) vwCl (mW ad kc x0 x1 x2 x3 x4 x_359 x_360 x_361 x_348 x_349 x10 x_350 x12 x13 x14 x15 x16 x17 x18 x19 x20 x21 f_351 f1 f2 f3 f4 f5 f6 f7 f8 f9 f10 f11 f12 f13 f14 f15 f16 f17 f18 f19 f20 f21 fL fN fP fM fO) H := hP
                    have hD : va_D A (mW ad kc x0 x1 x2 x3 x4 x_359 x_360 x_361 x_348 x_349 x10 x_350 x12 x13 x14 x15 x16 x17 x18 x19 x20 x21 f_351 f1 f2 f3 f4 f5 f6 f7 f8 f9 f10 f11 f12 f13 f14 f15 f16 f17 f18 f19 f20 f21 fL fN fP fM fO) := hD
                    refine lv_iconst (v := 1) hx hb dX10_aLine_125 (by decide) ?_
                    have lit_361 : (1 : Int32).toInt = 1 := by decide
                    exact W.zret hx hb hr (z_nar (by first | assumption | decide | exact z_of (by omega))) (fun t ht hW => ⟨⟨_, _, rfl, rfl, x_359, x_360, x_361, x_348, x_349, x_350, f_351, hq9, hq8, (by first | omega | assumption | rfl | decide), (by first | omega | assumption | rfl | decide), (by first | omega | assumption | rfl | decide), (fun h9 => by omega), by rw [ht]; exact hP, va_K.moved hW.alike hK, hD⟩, hS.F ht⟩) hS.2.2 dX10_aLine_126
                  · have tk_357 := c_ne (a := x_354.toInt) (b := 4) rfl (by decide) k_357
                    refine lv_aload_n hx hb dX10_aLine_115 rfl (lv_at hl 1 rfl) ?_
                    refine lv_iconst (v := 2) hx hb dX10_aLine_116 (by decide) ?_
                    have hFc := m_free hD hS hA
                    refine va_calli (va_runV (As := [.int 2]) (rest := []) ⟨hx, hb, hml, hown, hts⟩ (m_fails l dC dI ad kc x0 x1 x2 x3 x4 x_354 x_355 x_356 x_348 x_349 x10 x_350 x12 x13 x14 x15 x16 x17 x18 x19 x20 x21 f_351 f1 f2 f3 f4 f5 f6 f7 f8 f9 f10 f11 f12 f13 f14 f15 f16 f17 f18 f19 f20 f21 fL fN fP fM fO H.size 2 ) (cwV 1 hts mg_X10_aLinem_X10_fails_181 rfl rfl rfl (by decide +kernel) ⟨Nat.le_of_ble_eq_true rfl, Nat.le_of_ble_eq_true rfl⟩) ⟨fun a U g mk q => by obtain ⟨q0, q1, qP, qK, qD⟩ := q; exact ⟨q0, q1, qP, va_K.moved (u := U) (U := U.calling g mk a) (Vm.Alike.refl U.vm) qK, qD⟩, va_recv hK hP (ci := 10) (q0 := 0) rfl rfl, fun U hU hW => ⟨rfl, by rw [hU], by rw [hU]; exact hP, va_K.moved hW.alike hK, hD.weaken (fun _ _ _ _ => trivial)⟩⟩ rfl rfl hl.1 rfl (lv_room (Nat.le_of_ble_eq_true rfl)) dX10_aLine_117 ⟨Nat.le_of_ble_eq_true rfl, Nat.le_of_ble_eq_true rfl⟩) hS (fun q _ h => hFc q h) hFc (fun r_363 u t H1 locs ht hvm hw hB hz1 hk1 hS => ?_)
                    subst hw
                    obtain ⟨x_364, x_365, hr_363_0, hP, hK1, hD1⟩ := hB
                    rw [ht] at hP
                    have hD := hD1.weaken (fun k q _ h => hFc q.1 h)
                    clear hz1 hk1 hFc hD1 hK1 hvm
                    generalize H1 = H at hP hS ⊢
                    have rg_x_364 := i_rng x_364
                    have rg_x_365 := i_rng x_365
                    have rg_r_363 := i_rng r_363
                    have hP : va_P (dC, dI) vwCl (mW ad kc x0 x1 x2 x3 x4 x_354 x_355 x_356 x_364 x_365 x10 x_350 x12 x13 x14 x15 x16 x17 x18 x19 x20 x21 f_351 f1 f2 f3 f4 f5 f6 f7 f8 f9 f10 f11 f12 f13 f14 f15 f16 f17 f18 f19 f20 f21 fL fN fP fM fO) H := hP
                    have hD : va_D A (mW ad kc x0 x1 x2 x3 x4 x_354 x_355 x_356 x_364 x_365 x10 x_350 x12 x13 x14 x15 x16 x17 x18 x19 x20 x21 f_351 f1 f2 f3 f4 f5 f6 f7 f8 f9 f10 f11 f12 f13 f14 f15 f16 f17 f18 f19 f20 f21 fL fN fP fM fO) := hD
                    exact W.zret hx hb hr (z_nar (by first | assumption | decide | exact z_of (by omega))) (fun t ht hW => ⟨⟨_, _, rfl, rfl, x_354, x_355, x_356, x_364, x_365, x_350, f_351, hq9, hq8, (by first | omega | assumption | rfl | decide), (by first | omega | assumption | rfl | decide), (by first | omega | assumption | rfl | decide), (fun h9 => by omega), by rw [ht]; exact hP, va_K.moved hW.alike hK, hD⟩, hS.F ht⟩) hS.2.2 dX10_aLine_120
                · have tk_352 := c_eq (a := r_346.toInt) (b := 0) rfl (by decide) k_352
                  refine lv_iconst (v := 0) hx hb dX10_aLine_101 (by decide) ?_
                  have lit_365 : (0 : Int32).toInt = 0 := by decide
                  exact W.zret hx hb hr (z_nar (by first | assumption | decide | exact z_of (by omega))) (fun t ht hW => ⟨⟨_, _, rfl, rfl, x_341, x_342, x_347, x_348, x_349, x_350, f_351, hq9, hq8, (by first | omega | assumption | rfl | decide), (by first | omega | assumption | rfl | decide), (by first | omega | assumption | rfl | decide), (fun h9 => by omega), by rw [ht]; exact hP, va_K.moved hW.alike hK, hD⟩, hS.F ht⟩) hS.2.2 dX10_aLine_102
              · have tk_345 := c_ne (a := r_1.toInt) (b := 0) rfl (by decide) k_345
                refine lv_aload_n hx hb dX10_aLine_84 rfl (lv_at hl 1 rfl) ?_
                have hFc := m_free hD hS hA
                refine va_calli (va_runV (As := []) (rest := []) ⟨hx, hb, hml, hown, hts⟩ (m_docQuote l dC dI ad kc x0 x1 x2 x3 x4 x_341 x_342 x_343 x8 x9 x10 x11 x12 x13 x14 x15 x16 x17 x18 x19 x20 x21 f0 f1 f2 f3 f4 f5 f6 f7 f8 f9 f10 f11 f12 f13 f14 f15 f16 f17 f18 f19 f20 f21 fL fN fP fM fO H.size (by first | omega | assumption | decide | (have l0 := Int32.toInt_zero; omega)) (by first | omega | assumption | decide | (have l0 := Int32.toInt_zero; omega)) (by first | omega | assumption | decide | (have l0 := Int32.toInt_zero; omega)) (by first | omega | assumption | decide | (have l0 := Int32.toInt_zero; omega)) (by first | omega | assumption | decide | (have l0 := Int32.toInt_zero; omega))) (cwV 0 hts mg_X10_aLinem_X10_docQuote_187 rfl rfl rfl (by decide +kernel) ⟨Nat.le_of_ble_eq_true rfl, Nat.le_of_ble_eq_true rfl⟩) ⟨fun a U g mk q => by obtain ⟨q0, q1, qP, qK, qD⟩ := q; exact ⟨q0, q1, qP, va_K.moved (u := U) (U := U.calling g mk a) (Vm.Alike.refl U.vm) qK, qD⟩, va_recv hK hP (ci := 10) (q0 := 0) rfl rfl, fun U hU hW => ⟨rfl, by rw [hU], by rw [hU]; exact hP, va_K.moved hW.alike hK, hD.weaken (fun _ _ _ _ => trivial)⟩⟩ rfl rfl hl.1 rfl (lv_room (Nat.le_of_ble_eq_true rfl)) dX10_aLine_85 ⟨Nat.le_of_ble_eq_true rfl, Nat.le_of_ble_eq_true rfl⟩) hS (fun q _ h => hFc q h) hFc (fun r_367 u t H1 locs ht hvm hw hB hz1 hk1 hS => ?_)
                subst hw
                obtain ⟨x_368, x_369, x_370, f_371, hr_367_0, hr_367_1, hr_367_2, hr_367_3, hr_367_4, hP, hK1, hD1⟩ := hB
                rw [ht] at hP
                have hD := hD1.weaken (fun k q _ h => hFc q.1 h)
                clear hz1 hk1 hFc hD1 hK1 hvm
                generalize H1 = H at hP hS ⊢
                have rg_x_368 := i_rng x_368
                have rg_x_369 := i_rng x_369
                have rg_x_370 := i_rng x_370
                have rg_r_367 := i_rng r_367
                have hP : va_P (dC, dI) vwCl (mW ad kc x0 x1 x2 x3 x4 x_341 x_342 x_368 x_369 x_370 x10 x11 x12 x13 x14 x15 x16 x17 x18 x19 x20 x21 f_371 f1 f2 f3 f4 f5 f6 f7 f8 f9 f10 f11 f12 f13 f14 f15 f16 f17 f18 f19 f20 f21 fL fN fP fM fO) H := hP
                have hD : va_D A (mW ad kc x0 x1 x2 x3 x4 x_341 x_342 x_368 x_369 x_370 x10 x11 x12 x13 x14 x15 x16 x17 x18 x19 x20 x21 f_371 f1 f2 f3 f4 f5 f6 f7 f8 f9 f10 f11 f12 f13 f14 f15 f16 f17 f18 f19 f20 f21 fL fN fP fM fO) := hD
                have hq9 := hr_367_0
                have hq8 := hr_367_1
                refine lv_if_eq (tgt := 101) hx hb dX10_aLine_88 (by decide) (fun k_372 => ?_) (fun k_372 => ?_)
                · have tk_372 := c_eq (a := r_367.toInt) (b := 0) rfl (by decide) k_372
                  refine lv_iconst (v := 0) hx hb dX10_aLine_101 (by decide) ?_
                  have lit_372 : (0 : Int32).toInt = 0 := by decide
                  exact W.zret hx hb hr (z_nar (by first | assumption | decide | exact z_of (by omega))) (fun t ht hW => ⟨⟨_, _, rfl, rfl, x_341, x_342, x_368, x_369, x_370, x11, f_371, hq9, hq8, (by first | omega | assumption | rfl | decide), (by first | omega | assumption | rfl | decide), (by first | omega | assumption | rfl | decide), (fun h9 => by omega), by rw [ht]; exact hP, va_K.moved hW.alike hK, hD⟩, hS.F ht⟩) hS.2.2 dX10_aLine_102
                · have tk_372 := c_ne (a := r_367.toInt) (b := 0) rfl (by decide) k_372
                  refine lv_goto (tgt := 103) hx hb dX10_aLine_91 (by decide) ?_
                  refine lv_aload_n hx hb dX10_aLine_103 rfl (lv_at hl 1 rfl) ?_
                  have hFc := m_free hD hS hA
                  refine va_callv (va_runV (As := []) (rest := []) ⟨hx, hb, hml, hown, hts⟩ (m_ahead l dC dI ad kc x0 x1 x2 x3 x4 x_341 x_342 x_368 x_369 x_370 x10 x11 x12 x13 x14 x15 x16 x17 x18 x19 x20 x21 f_371 f1 f2 f3 f4 f5 f6 f7 f8 f9 f10 f11 f12 f13 f14 f15 f16 f17 f18 f19 f20 f21 fL fN fP fM fO H.size (by first | omega | assumption | decide | (have l0 := Int32.toInt_zero; omega)) (by first | omega | assumption | decide | (have l0 := Int32.toInt_zero; omega)) (by first | omega | assumption | decide | (have l0 := Int32.toInt_zero; omega))) (cwV 0 hts mg_X10_aLinem_X10_ahead_184 rfl rfl rfl (by decide +kernel) ⟨Nat.le_of_ble_eq_true rfl, Nat.le_of_ble_eq_true rfl⟩) ⟨fun a U g mk q => by obtain ⟨q0, q1, qP, qK, qD⟩ := q; exact ⟨q0, q1, qP, va_K.moved (u := U) (U := U.calling g mk a) (Vm.Alike.refl U.vm) qK, qD⟩, va_recv hK hP (ci := 10) (q0 := 0) rfl rfl, fun U hU hW => ⟨rfl, by rw [hU], by rw [hU]; exact hP, va_K.moved hW.alike hK, hD.weaken (fun _ _ _ _ => trivial)⟩⟩ rfl rfl hl.1 rfl (lv_room (Nat.le_of_ble_eq_true rfl)) dX10_aLine_104 ⟨Nat.le_of_ble_eq_true rfl, Nat.le_of_ble_eq_true rfl⟩) hS (fun q _ h => hFc q h) hFc (fun u t H1 locs ht hvm hw hB hz1 hk1 hS => ?_)
                  obtain ⟨x_375, x_376, x_377, hr_374_0, hr_374_1, hr_374_2, hr_374_3, hr_374_4, hP, hK1, hD1⟩ := hB
                  rw [ht] at hP
                  have hD := hD1.weaken (fun k q _ h => hFc q.1 h)
                  clear hz1 hk1 hFc hD1 hK1 hvm
                  generalize H1 = H at hP hS ⊢
                  have rg_x_375 := i_rng x_375
                  have rg_x_376 := i_rng x_376
                  have rg_x_377 := i_rng x_377
                  have hP : va_P (dC, dI) vwCl (mW ad kc x0 x1 x2 x3 x4 x_375 x_376 x_377 x_369 x_370 x10 x11 x12 x13 x14 x15 x16 x17 x18 x19 x20 x21 f_371 f1 f2 f3 f4 f5 f6 f7 f8 f9 f10 f11 f12 f13 f14 f15 f16 f17 f18 f19 f20 f21 fL fN fP fM fO) H := hP
                  have hD : va_D A (mW ad kc x0 x1 x2 x3 x4 x_375 x_376 x_377 x_369 x_370 x10 x11 x12 x13 x14 x15 x16 x17 x18 x19 x20 x21 f_371 f1 f2 f3 f4 f5 f6 f7 f8 f9 f10 f11 f12 f13 f14 f15 f16 f17 f18 f19 f20 f21 fL fN fP fM fO) := hD
                  refine lv_aload_n hx hb dX10_aLine_107 rfl (lv_at hl 1 rfl) ?_
                  refine va_get (D := (dC, dI)) (ci := 10) (v := .int x_375) (C := RX10) (T := TX10) (N := 48) hx hb hts fin_X10_aLinem_X10 hown hK hP 0 rfl rfl 8 (by decide) (hts (.fieldLink RX10 120 "PatternGateModel" "token" "I") (List.mem_of_getElem? (i := 9) (by decide +kernel))) (fun _ h9 => h9) rfl dX10_aLine_108 ?_
                  refine lv_iconst (v := 4) hx hb dX10_aLine_111 (by decide) ?_
                  refine lv_icmp_eq (tgt := 121) hx hb dX10_aLine_112 (by decide) (fun k_378 => ?_) (fun k_378 => ?_)
                  · have tk_378 := c_eq (a := x_375.toInt) (b := 4) rfl (by decide) k_378
                    refine lv_aload_n hx hb dX10_aLine_121 rfl (lv_at hl 1 rfl) ?_
                    have hFc := m_free hD hS hA
                    refine va_callv (va_runV (As := []) (rest := []) ⟨hx, hb, hml, hown, hts⟩ (m_ahead l dC dI ad kc x0 x1 x2 x3 x4 x_375 x_376 x_377 x_369 x_370 x10 x11 x12 x13 x14 x15 x16 x17 x18 x19 x20 x21 f_371 f1 f2 f3 f4 f5 f6 f7 f8 f9 f10 f11 f12 f13 f14 f15 f16 f17 f18 f19 f20 f21 fL fN fP fM fO H.size (by first | omega | assumption | decide | (have l0 := Int32.toInt_zero; omega)) (by first | omega | assumption | decide | (have l0 := Int32.toInt_zero; omega)) (by first | omega | assumption | decide | (have l0 := Int32.toInt_zero; omega))) (cwV 0 hts mg_X10_aLinem_X10_ahead_184 rfl rfl rfl (by decide +kernel) ⟨Nat.le_of_ble_eq_true rfl, Nat.le_of_ble_eq_true rfl⟩) ⟨fun a U g mk q => by obtain ⟨q0, q1, qP, qK, qD⟩ := q; exact ⟨q0, q1, qP, va_K.moved (u := U) (U := U.calling g mk a) (Vm.Alike.refl U.vm) qK, qD⟩, va_recv hK hP (ci := 10) (q0 := 0) rfl rfl, fun U hU hW => ⟨rfl, by rw [hU], by rw [hU]; exact hP, va_K.moved hW.alike hK, hD.weaken (fun _ _ _ _ => trivial)⟩⟩ rfl rfl hl.1 rfl (lv_room (Nat.le_of_ble_eq_true rfl)) dX10_aLine_122 ⟨Nat.le_of_ble_eq_true rfl, Nat.le_of_ble_eq_true rfl⟩) hS (fun q _ h => hFc q h) hFc (fun u t H1 locs ht hvm hw hB hz1 hk1 hS => ?_)
                    obtain ⟨x_380, x_381, x_382, hr_379_0, hr_379_1, hr_379_2, hr_379_3, hr_379_4, hP, hK1, hD1⟩ := hB
                    rw [ht] at hP
                    have hD := hD1.weaken (fun k q _ h => hFc q.1 h)
                    clear hz1 hk1 hFc hD1 hK1 hvm
                    generalize H1 = H at hP hS ⊢
                    have rg_x_380 := i_rng x_380
                    have rg_x_381 := i_rng x_381
                    have rg_x_382 := i_rng x_382
                    have hP : va_P (dC, dI) vwCl (mW ad kc x0 x1 x2 x3 x4 x_380 x_381 x_382 x_369 x_370 x10 x11 x12 x13 x14 x15 x16 x17 x18 x19 x20 x21 f_371 f1 f2 f3 f4 f5 f6 f7 f8 f9 f10 f11 f12 f13 f14 f15 f16 f17 f18 f19 f20 f21 fL fN fP fM fO) H := hP
                    have hD : va_D A (mW ad kc x0 x1 x2 x3 x4 x_380 x_381 x_382 x_369 x_370 x10 x11 x12 x13 x14 x15 x16 x17 x18 x19 x20 x21 f_371 f1 f2 f3 f4 f5 f6 f7 f8 f9 f10 f11 f12 f13 f14 f15 f16 f17 f18 f19 f20 f21 fL fN fP fM fO) := hD
                    refine lv_iconst (v := 1) hx hb dX10_aLine_125 (by decide) ?_
                    have lit_382 : (1 : Int32).toInt = 1 := by decide
                    exact W.zret hx hb hr (z_nar (by first | assumption | decide | exact z_of (by omega))) (fun t ht hW => ⟨⟨_, _, rfl, rfl, x_380, x_381, x_382, x_369, x_370, x11, f_371, hq9, hq8, (by first | omega | assumption | rfl | decide), (by first | omega | assumption | rfl | decide), (by first | omega | assumption | rfl | decide), (fun h9 => by omega), by rw [ht]; exact hP, va_K.moved hW.alike hK, hD⟩, hS.F ht⟩) hS.2.2 dX10_aLine_126
                  · have tk_378 := c_ne (a := x_375.toInt) (b := 4) rfl (by decide) k_378
                    refine lv_aload_n hx hb dX10_aLine_115 rfl (lv_at hl 1 rfl) ?_
                    refine lv_iconst (v := 2) hx hb dX10_aLine_116 (by decide) ?_
                    have hFc := m_free hD hS hA
                    refine va_calli (va_runV (As := [.int 2]) (rest := []) ⟨hx, hb, hml, hown, hts⟩ (m_fails l dC dI ad kc x0 x1 x2 x3 x4 x_375 x_376 x_377 x_369 x_370 x10 x11 x12 x13 x14 x15 x16 x17 x18 x19 x20 x21 f_371 f1 f2 f3 f4 f5 f6 f7 f8 f9 f10 f11 f12 f13 f14 f15 f16 f17 f18 f19 f20 f21 fL fN fP fM fO H.size 2 ) (cwV 1 hts mg_X10_aLinem_X10_fails_181 rfl rfl rfl (by decide +kernel) ⟨Nat.le_of_ble_eq_true rfl, Nat.le_of_ble_eq_true rfl⟩) ⟨fun a U g mk q => by obtain ⟨q0, q1, qP, qK, qD⟩ := q; exact ⟨q0, q1, qP, va_K.moved (u := U) (U := U.calling g mk a) (Vm.Alike.refl U.vm) qK, qD⟩, va_recv hK hP (ci := 10) (q0 := 0) rfl rfl, fun U hU hW => ⟨rfl, by rw [hU], by rw [hU]; exact hP, va_K.moved hW.alike hK, hD.weaken (fun _ _ _ _ => trivial)⟩⟩ rfl rfl hl.1 rfl (lv_room (Nat.le_of_ble_eq_true rfl)) dX10_aLine_117 ⟨Nat.le_of_ble_eq_true rfl, Nat.le_of_ble_eq_true rfl⟩) hS (fun q _ h => hFc q h) hFc (fun r_384 u t H1 locs ht hvm hw hB hz1 hk1 hS => ?_)
                    subst hw
                    obtain ⟨x_385, x_386, hr_384_0, hP, hK1, hD1⟩ := hB
                    rw [ht] at hP
                    have hD := hD1.weaken (fun k q _ h => hFc q.1 h)
                    clear hz1 hk1 hFc hD1 hK1 hvm
                    generalize H1 = H at hP hS ⊢
                    have rg_x_385 := i_rng x_385
                    have rg_x_386 := i_rng x_386
                    have rg_r_384 := i_rng r_384
                    have hP : va_P (dC, dI) vwCl (mW ad kc x0 x1 x2 x3 x4 x_375 x_376 x_377 x_385 x_386 x10 x11 x12 x13 x14 x15 x16 x17 x18 x19 x20 x21 f_371 f1 f2 f3 f4 f5 f6 f7 f8 f9 f10 f11 f12 f13 f14 f15 f16 f17 f18 f19 f20 f21 fL fN fP fM fO) H := hP
                    have hD : va_D A (mW ad kc x0 x1 x2 x3 x4 x_375 x_376 x_377 x_385 x_386 x10 x11 x12 x13 x14 x15 x16 x17 x18 x19 x20 x21 f_371 f1 f2 f3 f4 f5 f6 f7 f8 f9 f10 f11 f12 f13 f14 f15 f16 f17 f18 f19 f20 f21 fL fN fP fM fO) := hD
                    exact W.zret hx hb hr (z_nar (by first | assumption | decide | exact z_of (by omega))) (fun t ht hW => ⟨⟨_, _, rfl, rfl, x_375, x_376, x_377, x_385, x_386, x11, f_371, hq9, hq8, (by first | omega | assumption | rfl | decide), (by first | omega | assumption | rfl | decide), (by first | omega | assumption | rfl | decide), (fun h9 => by omega), by rw [ht]; exact hP, va_K.moved hW.alike hK, hD⟩, hS.F ht⟩) hS.2.2 dX10_aLine_120
            · have tk_344 := c_ne (a := x_341.toInt) (b := 3) rfl (by decide) k_344
              refine lv_aload_n hx hb dX10_aLine_74 rfl (lv_at hl 1 rfl) ?_
              refine lv_iconst (v := 2) hx hb dX10_aLine_75 (by decide) ?_
              have hFc := m_free hD hS hA
              refine va_calli (va_runV (As := [.int 2]) (rest := []) ⟨hx, hb, hml, hown, hts⟩ (m_fails l dC dI ad kc x0 x1 x2 x3 x4 x_341 x_342 x_343 x8 x9 x10 x11 x12 x13 x14 x15 x16 x17 x18 x19 x20 x21 f0 f1 f2 f3 f4 f5 f6 f7 f8 f9 f10 f11 f12 f13 f14 f15 f16 f17 f18 f19 f20 f21 fL fN fP fM fO H.size 2 ) (cwV 1 hts mg_X10_aLinem_X10_fails_181 rfl rfl rfl (by decide +kernel) ⟨Nat.le_of_ble_eq_true rfl, Nat.le_of_ble_eq_true rfl⟩) ⟨fun a U g mk q => by obtain ⟨q0, q1, qP, qK, qD⟩ := q; exact ⟨q0, q1, qP, va_K.moved (u := U) (U := U.calling g mk a) (Vm.Alike.refl U.vm) qK, qD⟩, va_recv hK hP (ci := 10) (q0 := 0) rfl rfl, fun U hU hW => ⟨rfl, by rw [hU], by rw [hU]; exact hP, va_K.moved hW.alike hK, hD.weaken (fun _ _ _ _ => trivial)⟩⟩ rfl rfl hl.1 rfl (lv_room (Nat.le_of_ble_eq_true rfl)) dX10_aLine_76 ⟨Nat.le_of_ble_eq_true rfl, Nat.le_of_ble_eq_true rfl⟩) hS (fun q _ h => hFc q h) hFc (fun r_387 u t H1 locs ht hvm hw hB hz1 hk1 hS => ?_)
              subst hw
              obtain ⟨x_388, x_389, hr_387_0, hP, hK1, hD1⟩ := hB
              rw [ht] at hP
              have hD := hD1.weaken (fun k q _ h => hFc q.1 h)
              clear hz1 hk1 hFc hD1 hK1 hvm
              generalize H1 = H at hP hS ⊢
              have rg_x_388 := i_rng x_388
              have rg_x_389 := i_rng x_389
              have rg_r_387 := i_rng r_387
              have hP : va_P (dC, dI) vwCl (mW ad kc x0 x1 x2 x3 x4 x_341 x_342 x_343 x_388 x_389 x10 x11 x12 x13 x14 x15 x16 x17 x18 x19 x20 x21 f0 f1 f2 f3 f4 f5 f6 f7 f8 f9 f10 f11 f12 f13 f14 f15 f16 f17 f18 f19 f20 f21 fL fN fP fM fO) H := hP
              have hD : va_D A (mW ad kc x0 x1 x2 x3 x4 x_341 x_342 x_343 x_388 x_389 x10 x11 x12 x13 x14 x15 x16 x17 x18 x19 x20 x21 f0 f1 f2 f3 f4 f5 f6 f7 f8 f9 f10 f11 f12 f13 f14 f15 f16 f17 f18 f19 f20 f21 fL fN fP fM fO) := hD
              exact W.zret hx hb hr (z_nar (by first | assumption | decide | exact z_of (by omega))) (fun t ht hW => ⟨⟨_, _, rfl, rfl, x_341, x_342, x_343, x_388, x_389, x11, f0, q0, (fun _ _ => rfl), (by first | omega | assumption | rfl | decide), (by first | omega | assumption | rfl | decide), (by first | omega | assumption | rfl | decide), (fun h9 => by omega), by rw [ht]; exact hP, va_K.moved hW.alike hK, hD⟩, hS.F ht⟩) hS.2.2 dX10_aLine_79
          · have tk_339 := c_eq (a := y_337.toInt) (b := 8) rfl (by decide) k_339
            refine lv_aload_n hx hb dX10_aLine_56 rfl (lv_at hl 1 rfl) ?_
            refine lv_iconst (v := 3) hx hb dX10_aLine_57 (by decide) ?_
            have hFc := m_free hD hS hA
            refine va_calli (va_runV (As := [.int 3]) (rest := []) ⟨hx, hb, hml, hown, hts⟩ (m_fails l dC dI ad kc x0 x1 x2 x3 x4 x5 x6 x7 x8 x9 x10 x11 x12 x13 x14 x15 x16 x17 x18 x19 x20 x21 f0 f1 f2 f3 f4 f5 f6 f7 f8 f9 f10 f11 f12 f13 f14 f15 f16 f17 f18 f19 f20 f21 fL fN fP fM fO H.size 3 ) (cwV 1 hts mg_X10_aLinem_X10_fails_181 rfl rfl rfl (by decide +kernel) ⟨Nat.le_of_ble_eq_true rfl, Nat.le_of_ble_eq_true rfl⟩) ⟨fun a U g mk q => by obtain ⟨q0, q1, qP, qK, qD⟩ := q; exact ⟨q0, q1, qP, va_K.moved (u := U) (U := U.calling g mk a) (Vm.Alike.refl U.vm) qK, qD⟩, va_recv hK hP (ci := 10) (q0 := 0) rfl rfl, fun U hU hW => ⟨rfl, by rw [hU], by rw [hU]; exact hP, va_K.moved hW.alike hK, hD.weaken (fun _ _ _ _ => trivial)⟩⟩ rfl rfl hl.1 rfl (lv_room (Nat.le_of_ble_eq_true rfl)) dX10_aLine_58 ⟨Nat.le_of_ble_eq_true rfl, Nat.le_of_ble_eq_true rfl⟩) hS (fun q _ h => hFc q h) hFc (fun r_390 u t H1 locs ht hvm hw hB hz1 hk1 hS => ?_)
            subst hw
            obtain ⟨x_391, x_392, hr_390_0, hP, hK1, hD1⟩ := hB
            rw [ht] at hP
            have hD := hD1.weaken (fun k q _ h => hFc q.1 h)
            clear hz1 hk1 hFc hD1 hK1 hvm
            generalize H1 = H at hP hS ⊢
            have rg_x_391 := i_rng x_391
            have rg_x_392 := i_rng x_392
            have rg_r_390 := i_rng r_390
            have hP : va_P (dC, dI) vwCl (mW ad kc x0 x1 x2 x3 x4 x5 x6 x7 x_391 x_392 x10 x11 x12 x13 x14 x15 x16 x17 x18 x19 x20 x21 f0 f1 f2 f3 f4 f5 f6 f7 f8 f9 f10 f11 f12 f13 f14 f15 f16 f17 f18 f19 f20 f21 fL fN fP fM fO) H := hP
            have hD : va_D A (mW ad kc x0 x1 x2 x3 x4 x5 x6 x7 x_391 x_392 x10 x11 x12 x13 x14 x15 x16 x17 x18 x19 x20 x21 f0 f1 f2 f3 f4 f5 f6 f7 f8 f9 f10 f11 f12 f13 f14 f15 f16 f17 f18 f19 f20 f21 fL fN fP fM fO) := hD
            exact W.zret hx hb hr (z_nar (by first | assumption | decide | exact z_of (by omega))) (fun t ht hW => ⟨⟨_, _, rfl, rfl, x5, x6, x7, x_391, x_392, x11, f0, q0, (fun _ _ => rfl), (by first | omega | assumption | rfl | decide), (by first | omega | assumption | rfl | decide), (by first | omega | assumption | rfl | decide), (fun h9 => by omega), by rw [ht]; exact hP, va_K.moved hW.alike hK, hD⟩, hS.F ht⟩) hS.2.2 dX10_aLine_61
        · have tk_338 := c_ne (a := r_1.toInt) (b := 0) rfl (by decide) k_338
          refine lv_bipush (v := 10) hx hb dX10_aLine_46 (by decide) ?_
          refine lv_goto (tgt := 53) hx hb dX10_aLine_48 (by decide) ?_
          refine lv_icmp_ne (tgt := 62) hx hb dX10_aLine_53 (by decide) (fun k_393 => ?_) (fun k_393 => ?_)
          · have tk_393 := c_ne (a := y_337.toInt) (b := 10) rfl (by decide) k_393
            refine lv_aload_n hx hb dX10_aLine_62 rfl (lv_at hl 1 rfl) ?_
            have hFc := m_free hD hS hA
            refine va_callv (va_runV (As := []) (rest := []) ⟨hx, hb, hml, hown, hts⟩ (m_ahead l dC dI ad kc x0 x1 x2 x3 x4 x5 x6 x7 x8 x9 x10 x11 x12 x13 x14 x15 x16 x17 x18 x19 x20 x21 f0 f1 f2 f3 f4 f5 f6 f7 f8 f9 f10 f11 f12 f13 f14 f15 f16 f17 f18 f19 f20 f21 fL fN fP fM fO H.size (by first | omega | assumption | decide | (have l0 := Int32.toInt_zero; omega)) (by first | omega | assumption | decide | (have l0 := Int32.toInt_zero; omega)) (by first | omega | assumption | decide | (have l0 := Int32.toInt_zero; omega))) (cwV 0 hts mg_X10_aLinem_X10_ahead_184 rfl rfl rfl (by decide +kernel) ⟨Nat.le_of_ble_eq_true rfl, Nat.le_of_ble_eq_true rfl⟩) ⟨fun a U g mk q => by obtain ⟨q0, q1, qP, qK, qD⟩ := q; exact ⟨q0, q1, qP, va_K.moved (u := U) (U := U.calling g mk a) (Vm.Alike.refl U.vm) qK, qD⟩, va_recv hK hP (ci := 10) (q0 := 0) rfl rfl, fun U hU hW => ⟨rfl, by rw [hU], by rw [hU]; exact hP, va_K.moved hW.alike hK, hD.weaken (fun _ _ _ _ => trivial)⟩⟩ rfl rfl hl.1 rfl (lv_room (Nat.le_of_ble_eq_true rfl)) dX10_aLine_63 ⟨Nat.le_of_ble_eq_true rfl, Nat.le_of_ble_eq_true rfl⟩) hS (fun q _ h => hFc q h) hFc (fun u t H1 locs ht hvm hw hB hz1 hk1 hS => ?_)
            obtain ⟨x_395, x_396, x_397, hr_394_0, hr_394_1, hr_394_2, hr_394_3, hr_394_4, hP, hK1, hD1⟩ := hB
            rw [ht] at hP
            have hD := hD1.weaken (fun k q _ h => hFc q.1 h)
            clear hz1 hk1 hFc hD1 hK1 hvm
            generalize H1 = H at hP hS ⊢
            have rg_x_395 := i_rng x_395
            have rg_x_396 := i_rng x_396
            have rg_x_397 := i_rng x_397
            have hP : va_P (dC, dI) vwCl (mW ad kc x0 x1 x2 x3 x4 x_395 x_396 x_397 x8 x9 x10 x11 x12 x13 x14 x15 x16 x17 x18 x19 x20 x21 f0 f1 f2 f3 f4 f5 f6 f7 f8 f9 f10 f11 f12 f13 f14 f15 f16 f17 f18 f19 f20 f21 fL fN fP fM fO) H := hP
            have hD : va_D A (mW ad kc x0 x1 x2 x3 x4 x_395 x_396 x_397 x8 x9 x10 x11 x12 x13 x14 x15 x16 x17 x18 x19 x20 x21 f0 f1 f2 f3 f4 f5 f6 f7 f8 f9 f10 f11 f12 f13 f14 f15 f16 f17 f18 f19 f20 f21 fL fN fP fM fO) := hD
            refine lv_aload_n hx hb dX10_aLine_66 rfl (lv_at hl 1 rfl) ?_
            refine va_get (D := (dC, dI)) (ci := 10) (v := .int x_395) (C := RX10) (T := TX10) (N := 48) hx hb hts fin_X10_aLinem_X10 hown hK hP 0 rfl rfl 8 (by decide) (hts (.fieldLink RX10 120 "PatternGateModel" "token" "I") (List.mem_of_getElem? (i := 9) (by decide +kernel))) (fun _ h9 => h9) rfl dX10_aLine_67 ?_
            refine lv_iconst (v := 3) hx hb dX10_aLine_70 (by decide) ?_
            refine lv_icmp_eq (tgt := 80) hx hb dX10_aLine_71 (by decide) (fun k_398 => ?_) (fun k_398 => ?_)
            · have tk_398 := c_eq (a := x_395.toInt) (b := 3) rfl (by decide) k_398
              refine lv_iload_n hx hb dX10_aLine_80 rfl (lv_at hl 0 rfl) ?_
              refine lv_if_eq (tgt := 94) hx hb dX10_aLine_81 (by decide) (fun k_399 => ?_) (fun k_399 => ?_)
              · have tk_399 := c_eq (a := r_1.toInt) (b := 0) rfl (by decide) k_399
                refine lv_aload_n hx hb dX10_aLine_94 rfl (lv_at hl 1 rfl) ?_
                have hFc := m_free hD hS hA
                refine va_calli (va_runV (As := []) (rest := []) ⟨hx, hb, hml, hown, hts⟩ (m_patternQuote l dC dI ad kc x0 x1 x2 x3 x4 x_395 x_396 x_397 x8 x9 x10 x11 x12 x13 x14 x15 x16 x17 x18 x19 x20 x21 f0 f1 f2 f3 f4 f5 f6 f7 f8 f9 f10 f11 f12 f13 f14 f15 f16 f17 f18 f19 f20 f21 fL fN fP fM fO H.size (by first | omega | assumption | decide | (have l0 := Int32.toInt_zero; omega)) (by first | omega | assumption | decide | (have l0 := Int32.toInt_zero; omega)) (by first | omega | assumption | decide | (have l0 := Int32.toInt_zero; omega)) (by first | omega | assumption | decide | (have l0 := Int32.toInt_zero; omega)) (by first | omega | assumption | decide | (have l0 := Int32.toInt_zero; omega))) (cwV 0 hts mg_X10_aLinem_X10_patternQuote_190 rfl rfl rfl (by decide +kernel) ⟨Nat.le_of_ble_eq_true rfl, Nat.le_of_ble_eq_true rfl⟩) ⟨fun a U g mk q => by obtain ⟨q0, q1, qP, qK, qD⟩ := q; exact ⟨q0, q1, qP, va_K.moved (u := U) (U := U.calling g mk a) (Vm.Alike.refl U.vm) qK, qD⟩, va_recv hK hP (ci := 10) (q0 := 0) rfl rfl, fun U hU hW => ⟨rfl, by rw [hU], by rw [hU]; exact hP, va_K.moved hW.alike hK, hD.weaken (fun _ _ _ _ => trivial)⟩⟩ rfl rfl hl.1 rfl (lv_room (Nat.le_of_ble_eq_true rfl)) dX10_aLine_95 ⟨Nat.le_of_ble_eq_true rfl, Nat.le_of_ble_eq_true rfl⟩) hS (fun q _ h => hFc q h) hFc (fun r_400 u t H1 locs ht hvm hw hB hz1 hk1 hS => ?_)
                subst hw
                obtain ⟨x_401, x_402, x_403, x_404, f_405, hr_400_0, hr_400_1, hr_400_2, hr_400_3, hr_400_4, hP, hK1, hD1⟩ := hB
                rw [ht] at hP
                have hD := hD1.weaken (fun k q _ h => hFc q.1 h)
                clear hz1 hk1 hFc hD1 hK1 hvm
                generalize H1 = H at hP hS ⊢
                have rg_x_401 := i_rng x_401
                have rg_x_402 := i_rng x_402
                have rg_x_403 := i_rng x_403
                have rg_x_404 := i_rng x_404
                have rg_r_400 := i_rng r_400
                have hP : va_P (dC, dI) vwCl (mW ad kc x0 x1 x2 x3 x4 x_395 x_396 x_401 x_402 x_403 x10 x_404 x12 x13 x14 x15 x16 x17 x18 x19 x20 x21 f_405 f1 f2 f3 f4 f5 f6 f7 f8 f9 f10 f11 f12 f13 f14 f15 f16 f17 f18 f19 f20 f21 fL fN fP fM fO) H := hP
                have hD : va_D A (mW ad kc x0 x1 x2 x3 x4 x_395 x_396 x_401 x_402 x_403 x10 x_404 x12 x13 x14 x15 x16 x17 x18 x19 x20 x21 f_405 f1 f2 f3 f4 f5 f6 f7 f8 f9 f10 f11 f12 f13 f14 f15 f16 f17 f18 f19 f20 f21 fL fN fP fM fO) := hD
                have hq9 := hr_400_0
                have hq8 := hr_400_1
                refine lv_if_ne (tgt := 103) hx hb dX10_aLine_98 (by decide) (fun k_406 => ?_) (fun k_406 => ?_)
                · have tk_406 := c_ne (a := r_400.toInt) (b := 0) rfl (by decide) k_406
                  refine lv_aload_n hx hb dX10_aLine_103 rfl (lv_at hl 1 rfl) ?_
                  have hFc := m_free hD hS hA
                  refine va_callv (va_runV (As := []) (rest := []) ⟨hx, hb, hml, hown, hts⟩ (m_ahead l dC dI ad kc x0 x1 x2 x3 x4 x_395 x_396 x_401 x_402 x_403 x10 x_404 x12 x13 x14 x15 x16 x17 x18 x19 x20 x21 f_405 f1 f2 f3 f4 f5 f6 f7 f8 f9 f10 f11 f12 f13 f14 f15 f16 f17 f18 f19 f20 f21 fL fN fP fM fO H.size (by first | omega | assumption | decide | (have l0 := Int32.toInt_zero; omega)) (by first | omega | assumption | decide | (have l0 := Int32.toInt_zero; omega)) (by first | omega | assumption | decide | (have l0 := Int32.toInt_zero; omega))) (cwV 0 hts mg_X10_aLinem_X10_ahead_184 rfl rfl rfl (by decide +kernel) ⟨Nat.le_of_ble_eq_true rfl, Nat.le_of_ble_eq_true rfl⟩) ⟨fun a U g mk q => by obtain ⟨q0, q1, qP, qK, qD⟩ := q; exact ⟨q0, q1, qP, va_K.moved (u := U) (U := U.calling g mk a) (Vm.Alike.refl U.vm) qK, qD⟩, va_recv hK hP (ci := 10) (q0 := 0) rfl rfl, fun U hU hW => ⟨rfl, by rw [hU], by rw [hU]; exact hP, va_K.moved hW.alike hK, hD.weaken (fun _ _ _ _ => trivial)⟩⟩ rfl rfl hl.1 rfl (lv_room (Nat.le_of_ble_eq_true rfl)) dX10_aLine_104 ⟨Nat.le_of_ble_eq_true rfl, Nat.le_of_ble_eq_true rfl⟩) hS (fun q _ h => hFc q h) hFc (fun u t H1 locs ht hvm hw hB hz1 hk1 hS => ?_)
                  obtain ⟨x_408, x_409, x_410, hr_407_0, hr_407_1, hr_407_2, hr_407_3, hr_407_4, hP, hK1, hD1⟩ := hB
                  rw [ht] at hP
                  have hD := hD1.weaken (fun k q _ h => hFc q.1 h)
                  clear hz1 hk1 hFc hD1 hK1 hvm
                  generalize H1 = H at hP hS ⊢
                  have rg_x_408 := i_rng x_408
                  have rg_x_409 := i_rng x_409
                  have rg_x_410 := i_rng x_410
                  have hP : va_P (dC, dI) vwCl (mW ad kc x0 x1 x2 x3 x4 x_408 x_409 x_410 x_402 x_403 x10 x_404 x12 x13 x14 x15 x16 x17 x18 x19 x20 x21 f_405 f1 f2 f3 f4 f5 f6 f7 f8 f9 f10 f11 f12 f13 f14 f15 f16 f17 f18 f19 f20 f21 fL fN fP fM fO) H := hP
                  have hD : va_D A (mW ad kc x0 x1 x2 x3 x4 x_408 x_409 x_410 x_402 x_403 x10 x_404 x12 x13 x14 x15 x16 x17 x18 x19 x20 x21 f_405 f1 f2 f3 f4 f5 f6 f7 f8 f9 f10 f11 f12 f13 f14 f15 f16 f17 f18 f19 f20 f21 fL fN fP fM fO) := hD
                  refine lv_aload_n hx hb dX10_aLine_107 rfl (lv_at hl 1 rfl) ?_
                  refine va_get (D := (dC, dI)) (ci := 10) (v := .int x_408) (C := RX10) (T := TX10) (N := 48) hx hb hts fin_X10_aLinem_X10 hown hK hP 0 rfl rfl 8 (by decide) (hts (.fieldLink RX10 120 "PatternGateModel" "token" "I") (List.mem_of_getElem? (i := 9) (by decide +kernel))) (fun _ h9 => h9) rfl dX10_aLine_108 ?_
                  refine lv_iconst (v := 4) hx hb dX10_aLine_111 (by decide) ?_
                  refine lv_icmp_eq (tgt := 121) hx hb dX10_aLine_112 (by decide) (fun k_411 => ?_) (fun k_411 => ?_)
                  · have tk_411 := c_eq (a := x_408.toInt) (b := 4) rfl (by decide) k_411
                    refine lv_aload_n hx hb dX10_aLine_121 rfl (lv_at hl 1 rfl) ?_
                    have hFc := m_free hD hS hA
                    refine va_callv (va_runV (As := []) (rest := []) ⟨hx, hb, hml, hown, hts⟩ (m_ahead l dC dI ad kc x0 x1 x2 x3 x4 x_408 x_409 x_410 x_402 x_403 x10 x_404 x12 x13 x14 x15 x16 x17 x18 x19 x20 x21 f_405 f1 f2 f3 f4 f5 f6 f7 f8 f9 f10 f11 f12 f13 f14 f15 f16 f17 f18 f19 f20 f21 fL fN fP fM fO H.size (by first | omega | assumption | decide | (have l0 := Int32.toInt_zero; omega)) (by first | omega | assumption | decide | (have l0 := Int32.toInt_zero; omega)) (by first | omega | assumption | decide | (have l0 := Int32.toInt_zero; omega))) (cwV 0 hts mg_X10_aLinem_X10_ahead_184 rfl rfl rfl (by decide +kernel) ⟨Nat.le_of_ble_eq_true rfl, Nat.le_of_ble_eq_true rfl⟩) ⟨fun a U g mk q => by obtain ⟨q0, q1, qP, qK, qD⟩ := q; exact ⟨q0, q1, qP, va_K.moved (u := U) (U := U.calling g mk a) (Vm.Alike.refl U.vm) qK, qD⟩, va_recv hK hP (ci := 10) (q0 := 0) rfl rfl, fun U hU hW => ⟨rfl, by rw [hU], by rw [hU]; exact hP, va_K.moved hW.alike hK, hD.weaken (fun _ _ _ _ => trivial)⟩⟩ rfl rfl hl.1 rfl (lv_room (Nat.le_of_ble_eq_true rfl)) dX10_aLine_122 ⟨Nat.le_of_ble_eq_true rfl, Nat.le_of_ble_eq_true rfl⟩) hS (fun q _ h => hFc q h) hFc (fun u t H1 locs ht hvm hw hB hz1 hk1 hS => ?_)
                    obtain ⟨x_413, x_414, x_415, hr_412_0, hr_412_1, hr_412_2, hr_412_3, hr_412_4, hP, hK1, hD1⟩ := hB
                    rw [ht] at hP
                    have hD := hD1.weaken (fun k q _ h => hFc q.1 h)
                    clear hz1 hk1 hFc hD1 hK1 hvm
                    generalize H1 = H at hP hS ⊢
                    have rg_x_413 := i_rng x_413
                    have rg_x_414 := i_rng x_414
                    have rg_x_415 := i_rng x_415
                    have hP : va_P (dC, dI) vwCl (mW ad kc x0 x1 x2 x3 x4 x_413 x_414 x_415 x_402 x_403 x10 x_404 x12 x13 x14 x15 x16 x17 x18 x19 x20 x21 f_405 f1 f2 f3 f4 f5 f6 f7 f8 f9 f10 f11 f12 f13 f14 f15 f16 f17 f18 f19 f20 f21 fL fN fP fM fO) H := hP
                    have hD : va_D A (mW ad kc x0 x1 x2 x3 x4 x_413 x_414 x_415 x_402 x_403 x10 x_404 x12 x13 x14 x15 x16 x17 x18 x19 x20 x21 f_405 f1 f2 f3 f4 f5 f6 f7 f8 f9 f10 f11 f12 f13 f14 f15 f16 f17 f18 f19 f20 f21 fL fN fP fM fO) := hD
                    refine lv_iconst (v := 1) hx hb dX10_aLine_125 (by decide) ?_
                    have lit_415 : (1 : Int32).toInt = 1 := by decide
                    exact W.zret hx hb hr (z_nar (by first | assumption | decide | exact z_of (by omega))) (fun t ht hW => ⟨⟨_, _, rfl, rfl, x_413, x_414, x_415, x_402, x_403, x_404, f_405, hq9, hq8, (by first | omega | assumption | rfl | decide), (by first | omega | assumption | rfl | decide), (by first | omega | assumption | rfl | decide), (fun h9 => by omega), by rw [ht]; exact hP, va_K.moved hW.alike hK, hD⟩, hS.F ht⟩) hS.2.2 dX10_aLine_126
                  · have tk_411 := c_ne (a := x_408.toInt) (b := 4) rfl (by decide) k_411
                    refine lv_aload_n hx hb dX10_aLine_115 rfl (lv_at hl 1 rfl) ?_
                    refine lv_iconst (v := 2) hx hb dX10_aLine_116 (by decide) ?_
                    have hFc := m_free hD hS hA
                    refine va_calli (va_runV (As := [.int 2]) (rest := []) ⟨hx, hb, hml, hown, hts⟩ (m_fails l dC dI ad kc x0 x1 x2 x3 x4 x_408 x_409 x_410 x_402 x_403 x10 x_404 x12 x13 x14 x15 x16 x17 x18 x19 x20 x21 f_405 f1 f2 f3 f4 f5 f6 f7 f8 f9 f10 f11 f12 f13 f14 f15 f16 f17 f18 f19 f20 f21 fL fN fP fM fO H.size 2 ) (cwV 1 hts mg_X10_aLinem_X10_fails_181 rfl rfl rfl (by decide +kernel) ⟨Nat.le_of_ble_eq_true rfl, Nat.le_of_ble_eq_true rfl⟩) ⟨fun a U g mk q => by obtain ⟨q0, q1, qP, qK, qD⟩ := q; exact ⟨q0, q1, qP, va_K.moved (u := U) (U := U.calling g mk a) (Vm.Alike.refl U.vm) qK, qD⟩, va_recv hK hP (ci := 10) (q0 := 0) rfl rfl, fun U hU hW => ⟨rfl, by rw [hU], by rw [hU]; exact hP, va_K.moved hW.alike hK, hD.weaken (fun _ _ _ _ => trivial)⟩⟩ rfl rfl hl.1 rfl (lv_room (Nat.le_of_ble_eq_true rfl)) dX10_aLine_117 ⟨Nat.le_of_ble_eq_true rfl, Nat.le_of_ble_eq_true rfl⟩) hS (fun q _ h => hFc q h) hFc (fun r_417 u t H1 locs ht hvm hw hB hz1 hk1 hS => ?_)
                    subst hw
                    obtain ⟨x_418, x_419, hr_417_0, hP, hK1, hD1⟩ := hB
                    rw [ht] at hP
                    have hD := hD1.weaken (fun k q _ h => hFc q.1 h)
                    clear hz1 hk1 hFc hD1 hK1 hvm
                    generalize H1 = H at hP hS ⊢
                    have rg_x_418 := i_rng x_418
                    have rg_x_419 := i_rng x_419
                    have rg_r_417 := i_rng r_417
                    have hP : va_P (dC, dI) vwCl (mW ad kc x0 x1 x2 x3 x4 x_408 x_409 x_410 x_418 x_419 x10 x_404 x12 x13 x14 x15 x16 x17 x18 x19 x20 x21 f_405 f1 f2 f3 f4 f5 f6 f7 f8 f9 f10 f11 f12 f13 f14 f15 f16 f17 f18 f19 f20 f21 fL fN fP fM fO) H := hP
                    have hD : va_D A (mW ad kc x0 x1 x2 x3 x4 x_408 x_409 x_410 x_418 x_419 x10 x_404 x12 x13 x14 x15 x16 x17 x18 x19 x20 x21 f_405 f1 f2 f3 f4 f5 f6 f7 f8 f9 f10 f11 f12 f13 f14 f15 f16 f17 f18 f19 f20 f21 fL fN fP fM fO) := hD
                    exact W.zret hx hb hr (z_nar (by first | assumption | decide | exact z_of (by omega))) (fun t ht hW => ⟨⟨_, _, rfl, rfl, x_408, x_409, x_410, x_418, x_419, x_404, f_405, hq9, hq8, (by first | omega | assumption | rfl | decide), (by first | omega | assumption | rfl | decide), (by first | omega | assumption | rfl | decide), (fun h9 => by omega), by rw [ht]; exact hP, va_K.moved hW.alike hK, hD⟩, hS.F ht⟩) hS.2.2 dX10_aLine_120
                · have tk_406 := c_eq (a := r_400.toInt) (b := 0) rfl (by decide) k_406
                  refine lv_iconst (v := 0) hx hb dX10_aLine_101 (by decide) ?_
                  have lit_419 : (0 : Int32).toInt = 0 := by decide
                  exact W.zret hx hb hr (z_nar (by first | assumption | decide | exact z_of (by omega))) (fun t ht hW => ⟨⟨_, _, rfl, rfl, x_395, x_396, x_401, x_402, x_403, x_404, f_405, hq9, hq8, (by first | omega | assumption | rfl | decide), (by first | omega | assumption | rfl | decide), (by first | omega | assumption | rfl | decide), (fun h9 => by omega), by rw [ht]; exact hP, va_K.moved hW.alike hK, hD⟩, hS.F ht⟩) hS.2.2 dX10_aLine_102
              · have tk_399 := c_ne (a := r_1.toInt) (b := 0) rfl (by decide) k_399
                refine lv_aload_n hx hb dX10_aLine_84 rfl (lv_at hl 1 rfl) ?_
                have hFc := m_free hD hS hA
                refine va_calli (va_runV (As := []) (rest := []) ⟨hx, hb, hml, hown, hts⟩ (m_docQuote l dC dI ad kc x0 x1 x2 x3 x4 x_395 x_396 x_397 x8 x9 x10 x11 x12 x13 x14 x15 x16 x17 x18 x19 x20 x21 f0 f1 f2 f3 f4 f5 f6 f7 f8 f9 f10 f11 f12 f13 f14 f15 f16 f17 f18 f19 f20 f21 fL fN fP fM fO H.size (by first | omega | assumption | decide | (have l0 := Int32.toInt_zero; omega)) (by first | omega | assumption | decide | (have l0 := Int32.toInt_zero; omega)) (by first | omega | assumption | decide | (have l0 := Int32.toInt_zero; omega)) (by first | omega | assumption | decide | (have l0 := Int32.toInt_zero; omega)) (by first | omega | assumption | decide | (have l0 := Int32.toInt_zero; omega))) (cwV 0 hts mg_X10_aLinem_X10_docQuote_187 rfl rfl rfl (by decide +kernel) ⟨Nat.le_of_ble_eq_true rfl, Nat.le_of_ble_eq_true rfl⟩) ⟨fun a U g mk q => by obtain ⟨q0, q1, qP, qK, qD⟩ := q; exact ⟨q0, q1, qP, va_K.moved (u := U) (U := U.calling g mk a) (Vm.Alike.refl U.vm) qK, qD⟩, va_recv hK hP (ci := 10) (q0 := 0) rfl rfl, fun U hU hW => ⟨rfl, by rw [hU], by rw [hU]; exact hP, va_K.moved hW.alike hK, hD.weaken (fun _ _ _ _ => trivial)⟩⟩ rfl rfl hl.1 rfl (lv_room (Nat.le_of_ble_eq_true rfl)) dX10_aLine_85 ⟨Nat.le_of_ble_eq_true rfl, Nat.le_of_ble_eq_true rfl⟩) hS (fun q _ h => hFc q h) hFc (fun r_421 u t H1 locs ht hvm hw hB hz1 hk1 hS => ?_)
                subst hw
                obtain ⟨x_422, x_423, x_424, f_425, hr_421_0, hr_421_1, hr_421_2, hr_421_3, hr_421_4, hP, hK1, hD1⟩ := hB
                rw [ht] at hP
                have hD := hD1.weaken (fun k q _ h => hFc q.1 h)
                clear hz1 hk1 hFc hD1 hK1 hvm
                generalize H1 = H at hP hS ⊢
                have rg_x_422 := i_rng x_422
                have rg_x_423 := i_rng x_423
                have rg_x_424 := i_rng x_424
                have rg_r_421 := i_rng r_421
                have hP : va_P (dC, dI) vwCl (mW ad kc x0 x1 x2 x3 x4 x_395 x_396 x_422 x_423 x_424 x10 x11 x12 x13 x14 x15 x16 x17 x18 x19 x20 x21 f_425 f1 f2 f3 f4 f5 f6 f7 f8 f9 f10 f11 f12 f13 f14 f15 f16 f17 f18 f19 f20 f21 fL fN fP fM fO) H := hP
                have hD : va_D A (mW ad kc x0 x1 x2 x3 x4 x_395 x_396 x_422 x_423 x_424 x10 x11 x12 x13 x14 x15 x16 x17 x18 x19 x20 x21 f_425 f1 f2 f3 f4 f5 f6 f7 f8 f9 f10 f11 f12 f13 f14 f15 f16 f17 f18 f19 f20 f21 fL fN fP fM fO) := hD
                have hq9 := hr_421_0
                have hq8 := hr_421_1
                refine lv_if_eq (tgt := 101) hx hb dX10_aLine_88 (by decide) (fun k_426 => ?_) (fun k_426 => ?_)
                · have tk_426 := c_eq (a := r_421.toInt) (b := 0) rfl (by decide) k_426
                  refine lv_iconst (v := 0) hx hb dX10_aLine_101 (by decide) ?_
                  have lit_426 : (0 : Int32).toInt = 0 := by decide
                  exact W.zret hx hb hr (z_nar (by first | assumption | decide | exact z_of (by omega))) (fun t ht hW => ⟨⟨_, _, rfl, rfl, x_395, x_396, x_422, x_423, x_424, x11, f_425, hq9, hq8, (by first | omega | assumption | rfl | decide), (by first | omega | assumption | rfl | decide), (by first | omega | assumption | rfl | decide), (fun h9 => by omega), by rw [ht]; exact hP, va_K.moved hW.alike hK, hD⟩, hS.F ht⟩) hS.2.2 dX10_aLine_102
                · have tk_426 := c_ne (a := r_421.toInt) (b := 0) rfl (by decide) k_426
                  refine lv_goto (tgt := 103) hx hb dX10_aLine_91 (by decide) ?_
                  refine lv_aload_n hx hb dX10_aLine_103 rfl (lv_at hl 1 rfl) ?_
                  have hFc := m_free hD hS hA
                  refine va_callv (va_runV (As := []) (rest := []) ⟨hx, hb, hml, hown, hts⟩ (m_ahead l dC dI ad kc x0 x1 x2 x3 x4 x_395 x_396 x_422 x_423 x_424 x10 x11 x12 x13 x14 x15 x16 x17 x18 x19 x20 x21 f_425 f1 f2 f3 f4 f5 f6 f7 f8 f9 f10 f11 f12 f13 f14 f15 f16 f17 f18 f19 f20 f21 fL fN fP fM fO H.size (by first | omega | assumption | decide | (have l0 := Int32.toInt_zero; omega)) (by first | omega | assumption | decide | (have l0 := Int32.toInt_zero; omega)) (by first | omega | assumption | decide | (have l0 := Int32.toInt_zero; omega))) (cwV 0 hts mg_X10_aLinem_X10_ahead_184 rfl rfl rfl (by decide +kernel) ⟨Nat.le_of_ble_eq_true rfl, Nat.le_of_ble_eq_true rfl⟩) ⟨fun a U g mk q => by obtain ⟨q0, q1, qP, qK, qD⟩ := q; exact ⟨q0, q1, qP, va_K.moved (u := U) (U := U.calling g mk a) (Vm.Alike.refl U.vm) qK, qD⟩, va_recv hK hP (ci := 10) (q0 := 0) rfl rfl, fun U hU hW => ⟨rfl, by rw [hU], by rw [hU]; exact hP, va_K.moved hW.alike hK, hD.weaken (fun _ _ _ _ => trivial)⟩⟩ rfl rfl hl.1 rfl (lv_room (Nat.le_of_ble_eq_true rfl)) dX10_aLine_104 ⟨Nat.le_of_ble_eq_true rfl, Nat.le_of_ble_eq_true rfl⟩) hS (fun q _ h => hFc q h) hFc (fun u t H1 locs ht hvm hw hB hz1 hk1 hS => ?_)
                  obtain ⟨x_429, x_430, x_431, hr_428_0, hr_428_1, hr_428_2, hr_428_3, hr_428_4, hP, hK1, hD1⟩ := hB
                  rw [ht] at hP
                  have hD := hD1.weaken (fun k q _ h => hFc q.1 h)
                  clear hz1 hk1 hFc hD1 hK1 hvm
                  generalize H1 = H at hP hS ⊢
                  have rg_x_429 := i_rng x_429
                  have rg_x_430 := i_rng x_430
                  have rg_x_431 := i_rng x_431
                  have hP : va_P (dC, dI) vwCl (mW ad kc x0 x1 x2 x3 x4 x_429 x_430 x_431 x_423 x_424 x10 x11 x12 x13 x14 x15 x16 x17 x18 x19 x20 x21 f_425 f1 f2 f3 f4 f5 f6 f7 f8 f9 f10 f11 f12 f13 f14 f15 f16 f17 f18 f19 f20 f21 fL fN fP fM fO) H := hP
                  have hD : va_D A (mW ad kc x0 x1 x2 x3 x4 x_429 x_430 x_431 x_423 x_424 x10 x11 x12 x13 x14 x15 x16 x17 x18 x19 x20 x21 f_425 f1 f2 f3 f4 f5 f6 f7 f8 f9 f10 f11 f12 f13 f14 f15 f16 f17 f18 f19 f20 f21 fL fN fP fM fO) := hD
                  refine lv_aload_n hx hb dX10_aLine_107 rfl (lv_at hl 1 rfl) ?_
                  refine va_get (D := (dC, dI)) (ci := 10) (v := .int x_429) (C := RX10) (T := TX10) (N := 48) hx hb hts fin_X10_aLinem_X10 hown hK hP 0 rfl rfl 8 (by decide) (hts (.fieldLink RX10 120 "PatternGateModel" "token" "I") (List.mem_of_getElem? (i := 9) (by decide +kernel))) (fun _ h9 => h9) rfl dX10_aLine_108 ?_
                  refine lv_iconst (v := 4) hx hb dX10_aLine_111 (by decide) ?_
                  refine lv_icmp_eq (tgt := 121) hx hb dX10_aLine_112 (by decide) (fun k_432 => ?_) (fun k_432 => ?_)
                  · have tk_432 := c_eq (a := x_429.toInt) (b := 4) rfl (by decide) k_432
                    refine lv_aload_n hx hb dX10_aLine_121 rfl (lv_at hl 1 rfl) ?_
                    have hFc := m_free hD hS hA
                    refine va_callv (va_runV (As := []) (rest := []) ⟨hx, hb, hml, hown, hts⟩ (m_ahead l dC dI ad kc x0 x1 x2 x3 x4 x_429 x_430 x_431 x_423 x_424 x10 x11 x12 x13 x14 x15 x16 x17 x18 x19 x20 x21 f_425 f1 f2 f3 f4 f5 f6 f7 f8 f9 f10 f11 f12 f13 f14 f15 f16 f17 f18 f19 f20 f21 fL fN fP fM fO H.size (by first | omega | assumption | decide | (have l0 := Int32.toInt_zero; omega)) (by first | omega | assumption | decide | (have l0 := Int32.toInt_zero; omega)) (by first | omega | assumption | decide | (have l0 := Int32.toInt_zero; omega))) (cwV 0 hts mg_X10_aLinem_X10_ahead_184 rfl rfl rfl (by decide +kernel) ⟨Nat.le_of_ble_eq_true rfl, Nat.le_of_ble_eq_true rfl⟩) ⟨fun a U g mk q => by obtain ⟨q0, q1, qP, qK, qD⟩ := q; exact ⟨q0, q1, qP, va_K.moved (u := U) (U := U.calling g mk a) (Vm.Alike.refl U.vm) qK, qD⟩, va_recv hK hP (ci := 10) (q0 := 0) rfl rfl, fun U hU hW => ⟨rfl, by rw [hU], by rw [hU]; exact hP, va_K.moved hW.alike hK, hD.weaken (fun _ _ _ _ => trivial)⟩⟩ rfl rfl hl.1 rfl (lv_room (Nat.le_of_ble_eq_true rfl)) dX10_aLine_122 ⟨Nat.le_of_ble_eq_true rfl, Nat.le_of_ble_eq_true rfl⟩) hS (fun q _ h => hFc q h) hFc (fun u t H1 locs ht hvm hw hB hz1 hk1 hS => ?_)
                    obtain ⟨x_434, x_435, x_436, hr_433_0, hr_433_1, hr_433_2, hr_433_3, hr_433_4, hP, hK1, hD1⟩ := hB
                    rw [ht] at hP
                    have hD := hD1.weaken (fun k q _ h => hFc q.1 h)
                    clear hz1 hk1 hFc hD1 hK1 hvm
                    generalize H1 = H at hP hS ⊢
                    have rg_x_434 := i_rng x_434
                    have rg_x_435 := i_rng x_435
                    have rg_x_436 := i_rng x_436
                    have hP : va_P (dC, dI) vwCl (mW ad kc x0 x1 x2 x3 x4 x_434 x_435 x_436 x_423 x_424 x10 x11 x12 x13 x14 x15 x16 x17 x18 x19 x20 x21 f_425 f1 f2 f3 f4 f5 f6 f7 f8 f9 f10 f11 f12 f13 f14 f15 f16 f17 f18 f19 f20 f21 fL fN fP fM fO) H := hP
                    have hD : va_D A (mW ad kc x0 x1 x2 x3 x4 x_434 x_435 x_436 x_423 x_424 x10 x11 x12 x13 x14 x15 x16 x17 x18 x19 x20 x21 f_425 f1 f2 f3 f4 f5 f6 f7 f8 f9 f10 f11 f12 f13 f14 f15 f16 f17 f18 f19 f20 f21 fL fN fP fM fO) := hD
                    refine lv_iconst (v := 1) hx hb dX10_aLine_125 (by decide) ?_
                    have lit_436 : (1 : Int32).toInt = 1 := by decide
                    exact W.zret hx hb hr (z_nar (by first | assumption | decide | exact z_of (by omega))) (fun t ht hW => ⟨⟨_, _, rfl, rfl, x_434, x_435, x_436, x_423, x_424, x11, f_425, hq9, hq8, (by first | omega | assumption | rfl | decide), (by first | omega | assumption | rfl | decide), (by first | omega | assumption | rfl | decide), (fun h9 => by omega), by rw [ht]; exact hP, va_K.moved hW.alike hK, hD⟩, hS.F ht⟩) hS.2.2 dX10_aLine_126
                  · have tk_432 := c_ne (a := x_429.toInt) (b := 4) rfl (by decide) k_432
                    refine lv_aload_n hx hb dX10_aLine_115 rfl (lv_at hl 1 rfl) ?_
                    refine lv_iconst (v := 2) hx hb dX10_aLine_116 (by decide) ?_
                    have hFc := m_free hD hS hA
                    refine va_calli (va_runV (As := [.int 2]) (rest := []) ⟨hx, hb, hml, hown, hts⟩ (m_fails l dC dI ad kc x0 x1 x2 x3 x4 x_429 x_430 x_431 x_423 x_424 x10 x11 x12 x13 x14 x15 x16 x17 x18 x19 x20 x21 f_425 f1 f2 f3 f4 f5 f6 f7 f8 f9 f10 f11 f12 f13 f14 f15 f16 f17 f18 f19 f20 f21 fL fN fP fM fO H.size 2 ) (cwV 1 hts mg_X10_aLinem_X10_fails_181 rfl rfl rfl (by decide +kernel) ⟨Nat.le_of_ble_eq_true rfl, Nat.le_of_ble_eq_true rfl⟩) ⟨fun a U g mk q => by obtain ⟨q0, q1, qP, qK, qD⟩ := q; exact ⟨q0, q1, qP, va_K.moved (u := U) (U := U.calling g mk a) (Vm.Alike.refl U.vm) qK, qD⟩, va_recv hK hP (ci := 10) (q0 := 0) rfl rfl, fun U hU hW => ⟨rfl, by rw [hU], by rw [hU]; exact hP, va_K.moved hW.alike hK, hD.weaken (fun _ _ _ _ => trivial)⟩⟩ rfl rfl hl.1 rfl (lv_room (Nat.le_of_ble_eq_true rfl)) dX10_aLine_117 ⟨Nat.le_of_ble_eq_true rfl, Nat.le_of_ble_eq_true rfl⟩) hS (fun q _ h => hFc q h) hFc (fun r_438 u t H1 locs ht hvm hw hB hz1 hk1 hS => ?_)
                    subst hw
                    obtain ⟨x_439, x_440, hr_438_0, hP, hK1, hD1⟩ := hB
                    rw [ht] at hP
                    have hD := hD1.weaken (fun k q _ h => hFc q.1 h)
                    clear hz1 hk1 hFc hD1 hK1 hvm
                    generalize H1 = H at hP hS ⊢
                    have rg_x_439 := i_rng x_439
                    have rg_x_440 := i_rng x_440
                    have rg_r_438 := i_rng r_438
                    have hP : va_P (dC, dI) vwCl (mW ad kc x0 x1 x2 x3 x4 x_429 x_430 x_431 x_439 x_440 x10 x11 x12 x13 x14 x15 x16 x17 x18 x19 x20 x21 f_425 f1 f2 f3 f4 f5 f6 f7 f8 f9 f10 f11 f12 f13 f14 f15 f16 f17 f18 f19 f20 f21 fL fN fP fM fO) H := hP
                    have hD : va_D A (mW ad kc x0 x1 x2 x3 x4 x_429 x_430 x_431 x_439 x_440 x10 x11 x12 x13 x14 x15 x16 x17 x18 x19 x20 x21 f_425 f1 f2 f3 f4 f5 f6 f7 f8 f9 f10 f11 f12 f13 f14 f15 f16 f17 f18 f19 f20 f21 fL fN fP fM fO) := hD
                    exact W.zret hx hb hr (z_nar (by first | assumption | decide | exact z_of (by omega))) (fun t ht hW => ⟨⟨_, _, rfl, rfl, x_429, x_430, x_431, x_439, x_440, x11, f_425, hq9, hq8, (by first | omega | assumption | rfl | decide), (by first | omega | assumption | rfl | decide), (by first | omega | assumption | rfl | decide), (fun h9 => by omega), by rw [ht]; exact hP, va_K.moved hW.alike hK, hD⟩, hS.F ht⟩) hS.2.2 dX10_aLine_120
            · have tk_398 := c_ne (a := x_395.toInt) (b := 3) rfl (by decide) k_398
              refine lv_aload_n hx hb dX10_aLine_74 rfl (lv_at hl 1 rfl) ?_
              refine lv_iconst (v := 2) hx hb dX10_aLine_75 (by decide) ?_
              have hFc := m_free hD hS hA
              refine va_calli (va_runV (As := [.int 2]) (rest := []) ⟨hx, hb, hml, hown, hts⟩ (m_fails l dC dI ad kc x0 x1 x2 x3 x4 x_395 x_396 x_397 x8 x9 x10 x11 x12 x13 x14 x15 x16 x17 x18 x19 x20 x21 f0 f1 f2 f3 f4 f5 f6 f7 f8 f9 f10 f11 f12 f13 f14 f15 f16 f17 f18 f19 f20 f21 fL fN fP fM fO H.size 2 ) (cwV 1 hts mg_X10_aLinem_X10_fails_181 rfl rfl rfl (by decide +kernel) ⟨Nat.le_of_ble_eq_true rfl, Nat.le_of_ble_eq_true rfl⟩) ⟨fun a U g mk q => by obtain ⟨q0, q1, qP, qK, qD⟩ := q; exact ⟨q0, q1, qP, va_K.moved (u := U) (U := U.calling g mk a) (Vm.Alike.refl U.vm) qK, qD⟩, va_recv hK hP (ci := 10) (q0 := 0) rfl rfl, fun U hU hW => ⟨rfl, by rw [hU], by rw [hU]; exact hP, va_K.moved hW.alike hK, hD.weaken (fun _ _ _ _ => trivial)⟩⟩ rfl rfl hl.1 rfl (lv_room (Nat.le_of_ble_eq_true rfl)) dX10_aLine_76 ⟨Nat.le_of_ble_eq_true rfl, Nat.le_of_ble_eq_true rfl⟩) hS (fun q _ h => hFc q h) hFc (fun r_441 u t H1 locs ht hvm hw hB hz1 hk1 hS => ?_)
              subst hw
              obtain ⟨x_442, x_443, hr_441_0, hP, hK1, hD1⟩ := hB
              rw [ht] at hP
              have hD := hD1.weaken (fun k q _ h => hFc q.1 h)
              clear hz1 hk1 hFc hD1 hK1 hvm
              generalize H1 = H at hP hS ⊢
              have rg_x_442 := i_rng x_442
              have rg_x_443 := i_rng x_443
              have rg_r_441 := i_rng r_441
              have hP : va_P (dC, dI) vwCl (mW ad kc x0 x1 x2 x3 x4 x_395 x_396 x_397 x_442 x_443 x10 x11 x12 x13 x14 x15 x16 x17 x18 x19 x20 x21 f0 f1 f2 f3 f4 f5 f6 f7 f8 f9 f10 f11 f12 f13 f14 f15 f16 f17 f18 f19 f20 f21 fL fN fP fM fO) H := hP
              have hD : va_D A (mW ad kc x0 x1 x2 x3 x4 x_395 x_396 x_397 x_442 x_443 x10 x11 x12 x13 x14 x15 x16 x17 x18 x19 x20 x21 f0 f1 f2 f3 f4 f5 f6 f7 f8 f9 f10 f11 f12 f13 f14 f15 f16 f17 f18 f19 f20 f21 fL fN fP fM fO) := hD
              exact W.zret hx hb hr (z_nar (by first | assumption | decide | exact z_of (by omega))) (fun t ht hW => ⟨⟨_, _, rfl, rfl, x_395, x_396, x_397, x_442, x_443, x11, f0, q0, (fun _ _ => rfl), (by first | omega | assumption | rfl | decide), (by first | omega | assumption | rfl | decide), (by first | omega | assumption | rfl | decide), (fun h9 => by omega), by rw [ht]; exact hP, va_K.moved hW.alike hK, hD⟩, hS.F ht⟩) hS.2.2 dX10_aLine_79
          · have tk_393 := c_eq (a := y_337.toInt) (b := 10) rfl (by decide) k_393
            refine lv_aload_n hx hb dX10_aLine_56 rfl (lv_at hl 1 rfl) ?_
            refine lv_iconst (v := 3) hx hb dX10_aLine_57 (by decide) ?_
            have hFc := m_free hD hS hA
            refine va_calli (va_runV (As := [.int 3]) (rest := []) ⟨hx, hb, hml, hown, hts⟩ (m_fails l dC dI ad kc x0 x1 x2 x3 x4 x5 x6 x7 x8 x9 x10 x11 x12 x13 x14 x15 x16 x17 x18 x19 x20 x21 f0 f1 f2 f3 f4 f5 f6 f7 f8 f9 f10 f11 f12 f13 f14 f15 f16 f17 f18 f19 f20 f21 fL fN fP fM fO H.size 3 ) (cwV 1 hts mg_X10_aLinem_X10_fails_181 rfl rfl rfl (by decide +kernel) ⟨Nat.le_of_ble_eq_true rfl, Nat.le_of_ble_eq_true rfl⟩) ⟨fun a U g mk q => by obtain ⟨q0, q1, qP, qK, qD⟩ := q; exact ⟨q0, q1, qP, va_K.moved (u := U) (U := U.calling g mk a) (Vm.Alike.refl U.vm) qK, qD⟩, va_recv hK hP (ci := 10) (q0 := 0) rfl rfl, fun U hU hW => ⟨rfl, by rw [hU], by rw [hU]; exact hP, va_K.moved hW.alike hK, hD.weaken (fun _ _ _ _ => trivial)⟩⟩ rfl rfl hl.1 rfl (lv_room (Nat.le_of_ble_eq_true rfl)) dX10_aLine_58 ⟨Nat.le_of_ble_eq_true rfl, Nat.le_of_ble_eq_true rfl⟩) hS (fun q _ h => hFc q h) hFc (fun r_444 u t H1 locs ht hvm hw hB hz1 hk1 hS => ?_)
            subst hw
            obtain ⟨x_445, x_446, hr_444_0, hP, hK1, hD1⟩ := hB
            rw [ht] at hP
            have hD := hD1.weaken (fun k q _ h => hFc q.1 h)
            clear hz1 hk1 hFc hD1 hK1 hvm
            generalize H1 = H at hP hS ⊢
            have rg_x_445 := i_rng x_445
            have rg_x_446 := i_rng x_446
            have rg_r_444 := i_rng r_444
            have hP : va_P (dC, dI) vwCl (mW ad kc x0 x1 x2 x3 x4 x5 x6 x7 x_445 x_446 x10 x11 x12 x13 x14 x15 x16 x17 x18 x19 x20 x21 f0 f1 f2 f3 f4 f5 f6 f7 f8 f9 f10 f11 f12 f13 f14 f15 f16 f17 f18 f19 f20 f21 fL fN fP fM fO) H := hP
            have hD : va_D A (mW ad kc x0 x1 x2 x3 x4 x5 x6 x7 x_445 x_446 x10 x11 x12 x13 x14 x15 x16 x17 x18 x19 x20 x21 f0 f1 f2 f3 f4 f5 f6 f7 f8 f9 f10 f11 f12 f13 f14 f15 f16 f17 f18 f19 f20 f21 fL fN fP fM fO) := hD
            exact W.zret hx hb hr (z_nar (by first | assumption | decide | exact z_of (by omega))) (fun t ht hW => ⟨⟨_, _, rfl, rfl, x5, x6, x7, x_445, x_446, x11, f0, q0, (fun _ _ => rfl), (by first | omega | assumption | rfl | decide), (by first | omega | assumption | rfl | decide), (by first | omega | assumption | rfl | decide), (fun h9 => by omega), by rw [ht]; exact hP, va_K.moved hW.alike hK, hD⟩, hS.F ht⟩) hS.2.2 dX10_aLine_61
    · have tk_225 := c_eq (a := r_224.toInt) (b := 0) rfl (by decide) k_225
      refine lv_aload_n hx hb dX10_aLine_20 rfl (lv_at hl 1 rfl) ?_
      refine lv_iconst (v := 2) hx hb dX10_aLine_21 (by decide) ?_
      have hFc := m_free hD hS hA
      refine va_calli (va_runV (As := [.int 2]) (rest := []) ⟨hx, hb, hml, hown, hts⟩ (m_fails l dC dI ad kc x0 x1 x2 x3 x4 x5 x6 x7 x8 x9 x10 x11 x12 x13 x14 x15 x16 x17 x18 x19 x20 x21 f0 f1 f2 f3 f4 f5 f6 f7 f8 f9 f10 f11 f12 f13 f14 f15 f16 f17 f18 f19 f20 f21 fL fN fP fM fO H.size 2 ) (cwV 1 hts mg_X10_aLinem_X10_fails_181 rfl rfl rfl (by decide +kernel) ⟨Nat.le_of_ble_eq_true rfl, Nat.le_of_ble_eq_true rfl⟩) ⟨fun a U g mk q => by obtain ⟨q0, q1, qP, qK, qD⟩ := q; exact ⟨q0, q1, qP, va_K.moved (u := U) (U := U.calling g mk a) (Vm.Alike.refl U.vm) qK, qD⟩, va_recv hK hP (ci := 10) (q0 := 0) rfl rfl, fun U hU hW => ⟨rfl, by rw [hU], by rw [hU]; exact hP, va_K.moved hW.alike hK, hD.weaken (fun _ _ _ _ => trivial)⟩⟩ rfl rfl hl.1 rfl (lv_room (Nat.le_of_ble_eq_true rfl)) dX10_aLine_22 ⟨Nat.le_of_ble_eq_true rfl, Nat.le_of_ble_eq_true rfl⟩) hS (fun q _ h => hFc q h) hFc (fun r_447 u t H1 locs ht hvm hw hB hz1 hk1 hS => ?_)
      subst hw
      obtain ⟨x_448, x_449, hr_447_0, hP, hK1, hD1⟩ := hB
      rw [ht] at hP
      have hD := hD1.weaken (fun k q _ h => hFc q.1 h)
      clear hz1 hk1 hFc hD1 hK1 hvm
      generalize H1 = H at hP hS ⊢
      have rg_x_448 := i_rng x_448
      have rg_x_449 := i_rng x_449
      have rg_r_447 := i_rng r_447
      have hP : va_P (dC, dI) vwCl (mW ad kc x0 x1 x2 x3 x4 x5 x6 x7 x_448 x_449 x10 x11 x12 x13 x14 x15 x16 x17 x18 x19 x20 x21 f0 f1 f2 f3 f4 f5 f6 f7 f8 f9 f10 f11 f12 f13 f14 f15 f16 f17 f18 f19 f20 f21 fL fN fP fM fO) H := hP
      have hD : va_D A (mW ad kc x0 x1 x2 x3 x4 x5 x6 x7 x_448 x_449 x10 x11 x12 x13 x14 x15 x16 x17 x18 x19 x20 x21 f0 f1 f2 f3 f4 f5 f6 f7 f8 f9 f10 f11 f12 f13 f14 f15 f16 f17 f18 f19 f20 f21 fL fN fP fM fO) := hD
      exact W.zret hx hb hr (z_nar (by first | assumption | decide | exact z_of (by omega))) (fun t ht hW => ⟨⟨_, _, rfl, rfl, x5, x6, x7, x_448, x_449, x11, f0, q0, (fun _ _ => rfl), (by first | omega | assumption | rfl | decide), (by first | omega | assumption | rfl | decide), (by first | omega | assumption | rfl | decide), (fun h9 => by omega), by rw [ht]; exact hP, va_K.moved hW.alike hK, hD⟩, hS.F ht⟩) hS.2.2 dX10_aLine_25
theorem OKd.anew {f g h : Nat → Int32} (q : OKd f 0) (h1 : U1 f g 0 0) (h2 : U1 g h 611 0) : OKd h 0 := by
  have e0 : vI h 0 = 0 := (h2.2 0 (by omega) (by omega)).trans h1.1
  have e1 : vI h (0 + 611) = 0 := h2.1
  exact ⟨by omega, fun d a b => by omega, by omega, fun p a b => by omega⟩
theorem dX10_reads_0 : decode cX10_reads 0 = .ok (.aload_n 0, 1) := by decide +kernel
theorem dX10_reads_1 : decode cX10_reads 1 = .ok (.iload_n 1, 1) := by decide +kernel
theorem dX10_reads_2 : decode cX10_reads 2 = .ok (.putfield 114, 3) := by decide +kernel
theorem dX10_reads_5 : decode cX10_reads 5 = .ok (.iconst 0, 1) := by decide +kernel
theorem dX10_reads_6 : decode cX10_reads 6 = .ok (.istore_n 3, 1) := by decide +kernel
theorem dX10_reads_7 : decode cX10_reads 7 = .ok (.iload_n 3, 1) := by decide +kernel
theorem dX10_reads_8 : decode cX10_reads 8 = .ok (.iload_n 1, 1) := by decide +kernel
theorem dX10_reads_9 : decode cX10_reads 9 = .ok (.if_icmp .ge 21, 3) := by decide +kernel
theorem dX10_reads_12 : decode cX10_reads 12 = .ok (.aload_n 0, 1) := by decide +kernel
theorem dX10_reads_13 : decode cX10_reads 13 = .ok (.getfield 18, 3) := by decide +kernel
theorem dX10_reads_16 : decode cX10_reads 16 = .ok (.iload_n 3, 1) := by decide +kernel
theorem dX10_reads_17 : decode cX10_reads 17 = .ok (.aload_n 0, 1) := by decide +kernel
theorem dX10_reads_18 : decode cX10_reads 18 = .ok (.getfield 14, 3) := by decide +kernel
theorem dX10_reads_21 : decode cX10_reads 21 = .ok (.iload_n 3, 1) := by decide +kernel
theorem dX10_reads_22 : decode cX10_reads 22 = .ok (.baload, 1) := by decide +kernel
theorem dX10_reads_23 : decode cX10_reads 23 = .ok (.bastore, 1) := by decide +kernel
theorem dX10_reads_24 : decode cX10_reads 24 = .ok (.iinc 3 1, 3) := by decide +kernel
theorem dX10_reads_27 : decode cX10_reads 27 = .ok (.goto (-20), 3) := by decide +kernel
theorem dX10_reads_30 : decode cX10_reads 30 = .ok (.aload_n 0, 1) := by decide +kernel
theorem dX10_reads_31 : decode cX10_reads 31 = .ok (.iconst 0, 1) := by decide +kernel
theorem dX10_reads_32 : decode cX10_reads 32 = .ok (.putfield 107, 3) := by decide +kernel
theorem dX10_reads_35 : decode cX10_reads 35 = .ok (.aload_n 0, 1) := by decide +kernel
theorem dX10_reads_36 : decode cX10_reads 36 = .ok (.iconst 0, 1) := by decide +kernel
theorem dX10_reads_37 : decode cX10_reads 37 = .ok (.putfield 117, 3) := by decide +kernel
theorem dX10_reads_40 : decode cX10_reads 40 = .ok (.aload_n 0, 1) := by decide +kernel
theorem dX10_reads_41 : decode cX10_reads 41 = .ok (.iconst (-1), 1) := by decide +kernel
theorem dX10_reads_42 : decode cX10_reads 42 = .ok (.putfield 21, 3) := by decide +kernel
theorem dX10_reads_45 : decode cX10_reads 45 = .ok (.aload_n 0, 1) := by decide +kernel
theorem dX10_reads_46 : decode cX10_reads 46 = .ok (.iconst 0, 1) := by decide +kernel
theorem dX10_reads_47 : decode cX10_reads 47 = .ok (.putfield 130, 3) := by decide +kernel
theorem dX10_reads_50 : decode cX10_reads 50 = .ok (.aload_n 0, 1) := by decide +kernel
theorem dX10_reads_51 : decode cX10_reads 51 = .ok (.iconst 0, 1) := by decide +kernel
theorem dX10_reads_52 : decode cX10_reads 52 = .ok (.sipush 7820, 3) := by decide +kernel
theorem dX10_reads_55 : decode cX10_reads 55 = .ok (.invokevirtual 193, 3) := by decide +kernel
theorem dX10_reads_58 : decode cX10_reads 58 = .ok (.iload_n 2, 1) := by decide +kernel
theorem dX10_reads_59 : decode cX10_reads 59 = .ok (.ifCond .eq 19, 3) := by decide +kernel
theorem dX10_reads_62 : decode cX10_reads 62 = .ok (.aload_n 0, 1) := by decide +kernel
theorem dX10_reads_63 : decode cX10_reads 63 = .ok (.getfield 8, 3) := by decide +kernel
theorem dX10_reads_66 : decode cX10_reads 66 = .ok (.iconst 0, 1) := by decide +kernel
theorem dX10_reads_67 : decode cX10_reads 67 = .ok (.iconst 0, 1) := by decide +kernel
theorem dX10_reads_68 : decode cX10_reads 68 = .ok (.iastore, 1) := by decide +kernel
theorem dX10_reads_69 : decode cX10_reads 69 = .ok (.aload_n 0, 1) := by decide +kernel
theorem dX10_reads_70 : decode cX10_reads 70 = .ok (.getfield 8, 3) := by decide +kernel
theorem dX10_reads_73 : decode cX10_reads 73 = .ok (.sipush 611, 3) := by decide +kernel
theorem dX10_reads_76 : decode cX10_reads 76 = .ok (.iconst 0, 1) := by decide +kernel
theorem dX10_reads_77 : decode cX10_reads 77 = .ok (.iastore, 1) := by decide +kernel
theorem dX10_reads_78 : decode cX10_reads 78 = .ok (.aload_n 0, 1) := by decide +kernel
theorem dX10_reads_79 : decode cX10_reads 79 = .ok (.invokevirtual 184, 3) := by decide +kernel
theorem dX10_reads_82 : decode cX10_reads 82 = .ok (.iconst 1, 1) := by decide +kernel
theorem dX10_reads_83 : decode cX10_reads 83 = .ok (.istore_n 3, 1) := by decide +kernel
theorem dX10_reads_84 : decode cX10_reads 84 = .ok (.iload_n 3, 1) := by decide +kernel
theorem dX10_reads_85 : decode cX10_reads 85 = .ok (.ifCond .eq 18, 3) := by decide +kernel
theorem dX10_reads_88 : decode cX10_reads 88 = .ok (.aload_n 0, 1) := by decide +kernel
theorem dX10_reads_89 : decode cX10_reads 89 = .ok (.getfield 120, 3) := by decide +kernel
theorem dX10_reads_92 : decode cX10_reads 92 = .ok (.ifCond .eq 11, 3) := by decide +kernel
theorem dX10_reads_95 : decode cX10_reads 95 = .ok (.aload_n 0, 1) := by decide +kernel
theorem dX10_reads_96 : decode cX10_reads 96 = .ok (.invokevirtual 197, 3) := by decide +kernel
theorem dX10_reads_99 : decode cX10_reads 99 = .ok (.istore_n 3, 1) := by decide +kernel
theorem dX10_reads_100 : decode cX10_reads 100 = .ok (.goto (-16), 3) := by decide +kernel
theorem dX10_reads_103 : decode cX10_reads 103 = .ok (.aload_n 0, 1) := by decide +kernel
theorem dX10_reads_104 : decode cX10_reads 104 = .ok (.aload_n 0, 1) := by decide +kernel
theorem dX10_reads_105 : decode cX10_reads 105 = .ok (.getfield 117, 3) := by decide +kernel
theorem dX10_reads_108 : decode cX10_reads 108 = .ok (.putfield 25, 3) := by decide +kernel
theorem dX10_reads_111 : decode cX10_reads 111 = .ok (.aload_n 0, 1) := by decide +kernel
theorem dX10_reads_112 : decode cX10_reads 112 = .ok (.getfield 117, 3) := by decide +kernel
theorem dX10_reads_115 : decode cX10_reads 115 = .ok (.ifCond .le 11, 3) := by decide +kernel
theorem dX10_reads_118 : decode cX10_reads 118 = .ok (.aload_n 0, 1) := by decide +kernel
theorem dX10_reads_119 : decode cX10_reads 119 = .ok (.sipush 7820, 3) := by decide +kernel
theorem dX10_reads_122 : decode cX10_reads 122 = .ok (.iconst 0, 1) := by decide +kernel
theorem dX10_reads_123 : decode cX10_reads 123 = .ok (.invokevirtual 193, 3) := by decide +kernel
theorem dX10_reads_126 : decode cX10_reads 126 = .ok (.aload_n 0, 1) := by decide +kernel
theorem dX10_reads_127 : decode cX10_reads 127 = .ok (.getfield 117, 3) := by decide +kernel
theorem dX10_reads_130 : decode cX10_reads 130 = .ok (.ifCond .ne 7, 3) := by decide +kernel
theorem dX10_reads_133 : decode cX10_reads 133 = .ok (.iconst 1, 1) := by decide +kernel
theorem dX10_reads_134 : decode cX10_reads 134 = .ok (.goto 4, 3) := by decide +kernel
theorem dX10_reads_137 : decode cX10_reads 137 = .ok (.iconst 0, 1) := by decide +kernel
theorem dX10_reads_138 : decode cX10_reads 138 = .ok (.ireturn, 1) := by decide +kernel
def mwX10_readsm : List Cond := .code yX10_reads cX10_reads 4 (some .boolean) :: (([.fieldLink RX10 114 "PatternGateModel" "size" "I", .fieldLink RX10 107 "PatternGateModel" "taped" "I", .fieldLink RX10 117 "PatternGateModel" "faults" "I", .fieldLink RX10 21 "PatternGateModel" "faultPlace" "I", .fieldLink RX10 130 "PatternGateModel" "end" "I", .methodLink RX10 193 yX10_copies, .instanceMethod yX10_copies, .selects RX10 yX10_copies yX10_copies, .initialized RX10, .methodLink RX10 184 yX10_ahead, .instanceMethod yX10_ahead, .selects RX10 yX10_ahead yX10_ahead, .fieldLink RX10 25 "PatternGateModel" "faultKind" "I", .fieldLink RX10 120 "PatternGateModel" "token" "I", .methodLink RX10 197 yX10_aLine, .instanceMethod yX10_aLine, .selects RX10 yX10_aLine yX10_aLine, .fieldLink RX10 8 "PatternGateModel" "all" "[I", .fieldLink RX10 18 "PatternGateModel" "text" "[B", .fieldLink RX10 14 "PatternGateModel" "tape" "[B"] : List Cond) ++ (wsX100 ++ (mwX10_copiesm ++ (mwX10_aheadm ++ (mwX10_aLinem)))))
theorem fin_X10_readsm_X10 : ∀ w ∈ wsX100, w ∈ mwX10_readsm := fun w h => List.mem_cons_of_mem _ (List.mem_append_right _ (List.mem_append_left _ h))
set_option maxRecDepth 100000 in
theorem gd_mwX10_aLinem : mwX10_aLinem.all goodWord = true := by decide +kernel
set_option maxRecDepth 20000 in
theorem mg_X10_readsm_X10_copies_193 : GoodIn mwX10_readsm (wsV RX10 193 RX10 yX10_copies mwX10_copiesm) := gi_app (A := [.methodLink RX10 193 yX10_copies, .instanceMethod yX10_copies, .selects RX10 yX10_copies yX10_copies, .initialized RX10]) (goodIn_r _ [6, 7, 8, 9] (by decide +kernel) (by decide +kernel)) (gi_sub gd_mwX10_copiesm (fun w h => List.mem_cons_of_mem _ (List.mem_append_right _ (List.mem_append_right _ (List.mem_append_left _ h)))))
set_option maxRecDepth 20000 in
theorem mg_X10_readsm_X10_ahead_184 : GoodIn mwX10_readsm (wsV RX10 184 RX10 yX10_ahead mwX10_aheadm) := gi_app (A := [.methodLink RX10 184 yX10_ahead, .instanceMethod yX10_ahead, .selects RX10 yX10_ahead yX10_ahead, .initialized RX10]) (goodIn_r _ [10, 11, 12, 9] (by decide +kernel) (by decide +kernel)) (gi_sub gd_mwX10_aheadm (fun w h => List.mem_cons_of_mem _ (List.mem_append_right _ (List.mem_append_right _ (List.mem_append_right _ (List.mem_append_left _ h))))))
set_option maxRecDepth 20000 in
theorem mg_X10_readsm_X10_aLine_197 : GoodIn mwX10_readsm (wsV RX10 197 RX10 yX10_aLine mwX10_aLinem) := gi_app (A := [.methodLink RX10 197 yX10_aLine, .instanceMethod yX10_aLine, .selects RX10 yX10_aLine yX10_aLine, .initialized RX10]) (goodIn_r _ [15, 16, 17, 9] (by decide +kernel) (by decide +kernel)) (gi_sub gd_mwX10_aLinem (fun w h => List.mem_cons_of_mem _ (List.mem_append_right _ (List.mem_append_right _ (List.mem_append_right _ (List.mem_append_right _ (h)))))))
set_option maxHeartbeats 4000000 in
set_option maxRecDepth 100000 in
theorem m_reads (l : Launch) (dC : Nat → ClassId) (dI : Nat → Nat → Nat) (ad : Nat → Nat) (kc : Nat → ClassId) (x0 x1 x2 x3 x4 x5 x6 x7 x8 x9 x10 x11 x12 x13 x14 x15 x16 x17 x18 x19 x20 x21 : Int32) (f0 f1 f2 f3 f4 f5 f6 f7 f8 f9 f10 f11 f12 f13 f14 f15 f16 f17 f18 f19 f20 f21 : Nat → Int32) (fL : Nat → Nat → Int64) (fN : Nat → Nat → Int32) (fP : Nat → Nat → Nat) (fM : Nat → Nat → Int32) (fO : Nat → Nat → Int32) (sz : Nat) (i1 i2 : Int32) (q0 : mI x1.toInt x2.toInt x3.toInt f0 fP) (q1 : 0 ≤ i1.toInt ∧ i1.toInt ≤ 900) (q2 : i2.toInt = 0 ∨ i2.toInt = 1) : Met l yX10_reads mwX10_readsm ({ frames := 23, cells := 0, slots := 0, locals := 1380 }) (va_Pc [.ref (ad 0), .int i1, .int i2] (fun U => U.heap.size = sz ∧ va_P (dC, dI) vwCl (mW ad kc x0 x1 x2 x3 x4 x5 x6 x7 x8 x9 x10 x11 x12 x13 x14 x15 x16 x17 x18 x19 x20 x21 f0 f1 f2 f3 f4 f5 f6 f7 f8 f9 f10 f11 f12 f13 f14 f15 f16 f17 f18 f19 f20 f21 fL fN fP fM fO) U.heap ∧ va_K (dC, dI) vwCl (mT kc) U ∧ va_D (fun _ => True) (mW ad kc x0 x1 x2 x3 x4 x5 x6 x7 x8 x9 x10 x11 x12 x13 x14 x15 x16 x17 x18 x19 x20 x21 f0 f1 f2 f3 f4 f5 f6 f7 f8 f9 f10 f11 f12 f13 f14 f15 f16 f17 f18 f19 f20 f21 fL fN fP fM fO) ∧ sW (va_A (mW ad kc x0 x1 x2 x3 x4 x5 x6 x7 x8 x9 x10 x11 x12 x13 x14 x15 x16 x17 x18 x19 x20 x21 f0 f1 f2 f3 f4 f5 f6 f7 f8 f9 f10 f11 f12 f13 f14 f15 f16 f17 f18 f19 f20 f21 fL fN fP fM fO) sz) U U.heap)) (va_Qi (fun (o9 u9 : Int32) => o9 = u9) (fun (o9 : Int32) t => ∃ (y3 y4 y5 y6 y7 y8 y9 y10 y11 : Int32) (g0 g2 : Nat → Int32), (OKd g0 0) ∧ (mC x1.toInt x2.toInt g0) ∧ (y3.toInt = 0) ∧ (o9.toInt = 0 ∨ o9.toInt = 1) ∧ va_P (dC, dI) vwCl (mW ad kc x0 x1 x2 y3 y4 y5 y6 y7 y8 y9 y10 y11 x12 x13 x14 x15 x16 x17 x18 x19 x20 x21 g0 f1 g2 f3 f4 f5 f6 f7 f8 f9 f10 f11 f12 f13 f14 f15 f16 f17 f18 f19 f20 f21 fL fN fP fM fO) t.heap ∧ va_K (dC, dI) vwCl (mT kc) t ∧ va_D (va_A (mW ad kc x0 x1 x2 x3 x4 x5 x6 x7 x8 x9 x10 x11 x12 x13 x14 x15 x16 x17 x18 x19 x20 x21 f0 f1 f2 f3 f4 f5 f6 f7 f8 f9 f10 f11 f12 f13 f14 f15 f16 f17 f18 f19 f20 f21 fL fN fP fM fO) sz) (mW ad kc x0 x1 x2 y3 y4 y5 y6 y7 y8 y9 y10 y11 x12 x13 x14 x15 x16 x17 x18 x19 x20 x21 g0 f1 g2 f3 f4 f5 f6 f7 f8 f9 f10 f11 f12 f13 f14 f15 f16 f17 f18 f19 f20 f21 fL fN fP fM fO)) (va_A (mW ad kc x0 x1 x2 x3 x4 x5 x6 x7 x8 x9 x10 x11 x12 x13 x14 x15 x16 x17 x18 x19 x20 x21 f0 f1 f2 f3 f4 f5 f6 f7 f8 f9 f10 f11 f12 f13 f14 f15 f16 f17 f18 f19 f20 f21 fL fN fP fM fO) sz)) 0 0 (va_A (mW ad kc x0 x1 x2 x3 x4 x5 x6 x7 x8 x9 x10 x11 x12 x13 x14 x15 x16 x17 x18 x19 x20 x21 f0 f1 f2 f3 f4 f5 f6 f7 f8 f9 f10 f11 f12 f13 f14 f15 f16 f17 f18 f19 f20 f21 fL fN fP fM fO) sz) := by
  refine Met.ofW (cc := cX10_reads) (maxL := 4) (ret := (some .boolean)) (by decide +kernel) rfl ?_
  intro p e s m args below meth c s₁ B hml hv
  obtain ⟨rfl, hsz, hP, hK, hD0, hSW⟩ := hv
  have hx := B.exec
  have hb := B.bytes
  have hr := B.returns
  have hts := atoms_spec (ws := mwX10_readsm) B.pre
  have hown : s.vm.findClass RX10 = some m.cls := findClass_of_methodNamed B.named
  have hlocks := B.notSynchronized
  subst hsz
  have hD := hD0.self (sz := s.heap.size)
  generalize hAe : va_A (mW ad kc x0 x1 x2 x3 x4 x5 x6 x7 x8 x9 x10 x11 x12 x13 x14 x15 x16 x17 x18 x19 x20 x21 f0 f1 f2 f3 f4 f5 f6 f7 f8 f9 f10 f11 f12 f13 f14 f15 f16 f17 f18 f19 f20 f21 fL fN fP fM fO) s.heap.size = A at hD hSW ⊢
  have hA : ∀ q : Nat, s.heap.size ≤ q → A q := fun q h => by rw [← hAe]; exact Or.inr h
  have hP : va_P (dC, dI) vwCl (mW ad kc x0 x1 x2 x3 x4 x5 x6 x7 x8 x9 x10 x11 x12 x13 x14 x15 x16 x17 x18 x19 x20 x21 f0 f1 f2 f3 f4 f5 f6 f7 f8 f9 f10 f11 f12 f13 f14 f15 f16 f17 f18 f19 f20 f21 fL fN fP fM fO) s.heap := hP
  have hD : va_D A (mW ad kc x0 x1 x2 x3 x4 x5 x6 x7 x8 x9 x10 x11 x12 x13 x14 x15 x16 x17 x18 x19 x20 x21 f0 f1 f2 f3 f4 f5 f6 f7 f8 f9 f10 f11 f12 f13 f14 f15 f16 f17 f18 f19 f20 f21 fL fN fP fM fO) := hD
  have hK : va_K (dC, dI) vwCl (mT kc) s := hK
  generalize hH : s.heap = H at hP ⊢
  have hS : va_S A s.heap H [] := by rw [← hH]; exact va_S.rf
  have hl := lv_entry ([.ref (ad 0), .int i1, .int i2]) (n := 4) (Nat.le_of_ble_eq_true rfl)
  rw [lg_entry_eq]
  generalize (lg_sl ([.ref (ad 0), .int i1, .int i2]) ++ List.replicate (4 - (lg_sl ([.ref (ad 0), .int i1, .int i2])).length) Slot.unset).toArray = ls at hl ⊢
  have hl : lv_has ls 4 [(0, .ref (ad 0)), (1, .int i1), (2, .int i2)] := hl
  have rg_i1 := i_rng i1
  have rg_i2 := i_rng i2
  have hd := q0.d
  have hpi := q0.p
  have hq1 := q0.1
  have hq2 := q0.2.1
  have hq3 := q0.2.2.1
  have hd10 := hd.n0
  have hp8 := hd.P0
  refine lv_aload_n hx hb dX10_reads_0 rfl (lv_at hl 0 rfl) ?_
  refine lv_iload_n hx hb dX10_reads_1 rfl (lv_at hl 1 rfl) ?_
  refine va_put (D := (dC, dI)) (ci := 10) (v := .int i1) (ty := .int) (C := RX10) (T := TX10) (N := 48) hx hb hts fin_X10_readsm_X10 tyX10 tyX10_ok nmX10 hown hK hP hD hS 0 rfl rfl 7 (by decide) (hts (.fieldLink RX10 114 "PatternGateModel" "size" "I") (List.mem_of_getElem? (i := 1) (by decide +kernel))) (fun _ h9 => h9) rfl (by decide +kernel) rfl rfl (Nat.le_of_ble_eq_true rfl) dX10_reads_2 (fun H locs hP hD hS => ?_)
  have hP : va_P (dC, dI) vwCl (mW ad kc x0 x1 x2 x3 i1 x5 x6 x7 x8 x9 x10 x11 x12 x13 x14 x15 x16 x17 x18 x19 x20 x21 f0 f1 f2 f3 f4 f5 f6 f7 f8 f9 f10 f11 f12 f13 f14 f15 f16 f17 f18 f19 f20 f21 fL fN fP fM fO) H := hP
  have hD : va_D A (mW ad kc x0 x1 x2 x3 i1 x5 x6 x7 x8 x9 x10 x11 x12 x13 x14 x15 x16 x17 x18 x19 x20 x21 f0 f1 f2 f3 f4 f5 f6 f7 f8 f9 f10 f11 f12 f13 f14 f15 f16 f17 f18 f19 f20 f21 fL fN fP fM fO) := hD
  refine lv_iconst (v := 0) hx hb dX10_reads_5 (by decide) ?_
  refine lv_istore_n (lv' := [(3, .int 0), (0, .ref (ad 0)), (1, .int i1), (2, .int i2)]) hx hb dX10_reads_6 rfl hl (by decide) rfl (fun ls hl => ?_)
  have loop7 : ∀ (lm7 : Nat) (kk : Int32) (gt : Nat → Int32), (0 ≤ kk.toInt ∧ kk.toInt ≤ i1.toInt) → ((i1.toInt - kk.toInt).toNat) < lm7 → ∀ (H : Heap) (locs : List Loc) (ls : Array Slot), va_P (dC, dI) vwCl (mW ad kc x0 x1 x2 x3 i1 x5 x6 x7 x8 x9 x10 x11 x12 x13 x14 x15 x16 x17 x18 x19 x20 x21 f0 f1 gt f3 f4 f5 f6 f7 f8 f9 f10 f11 f12 f13 f14 f15 f16 f17 f18 f19 f20 f21 fL fN fP fM fO) H → va_D A (mW ad kc x0 x1 x2 x3 i1 x5 x6 x7 x8 x9 x10 x11 x12 x13 x14 x15 x16 x17 x18 x19 x20 x21 f0 f1 gt f3 f4 f5 f6 f7 f8 f9 f10 f11 f12 f13 f14 f15 f16 f17 f18 f19 f20 f21 fL fN fP fM fO) → va_S A s.heap H locs → lv_has ls 4 [(3, .int kk), (0, .ref (ad 0)), (1, .int i1), (2, .int i2)] → W p l e (headSpec mwX10_readsm ({ frames := 23, cells := 0, slots := 0, locals := 1380 })).room s m ([.ref (ad 0), .int i1, .int i2]).toArray below meth c H locs 0 0 (MQ below (va_Qi (fun (o9 u9 : Int32) => o9 = u9) (fun (o9 : Int32) t => ∃ (y3 y4 y5 y6 y7 y8 y9 y10 y11 : Int32) (g0 g2 : Nat → Int32), (OKd g0 0) ∧ (mC x1.toInt x2.toInt g0) ∧ (y3.toInt = 0) ∧ (o9.toInt = 0 ∨ o9.toInt = 1) ∧ va_P (dC, dI) vwCl (mW ad kc x0 x1 x2 y3 y4 y5 y6 y7 y8 y9 y10 y11 x12 x13 x14 x15 x16 x17 x18 x19 x20 x21 g0 f1 g2 f3 f4 f5 f6 f7 f8 f9 f10 f11 f12 f13 f14 f15 f16 f17 f18 f19 f20 f21 fL fN fP fM fO) t.heap ∧ va_K (dC, dI) vwCl (mT kc) t ∧ va_D A (mW ad kc x0 x1 x2 y3 y4 y5 y6 y7 y8 y9 y10 y11 x12 x13 x14 x15 x16 x17 x18 x19 x20 x21 g0 f1 g2 f3 f4 f5 f6 f7 f8 f9 f10 f11 f12 f13 f14 f15 f16 f17 f18 f19 f20 f21 fL fN fP fM fO)) A) ([.ref (ad 0), .int i1, .int i2]).toArray s 0 0 A) (F0 m 7 ls []) := by
    intro lm7
    induction lm7 with
    | zero => intro kk gt v7_0 hm7; exact absurd hm7 (Nat.not_lt_zero _)
    | succ lm7 ih7 =>
      intro kk gt v7_0 hm7 H locs ls hP hD hS hl
      have rg_kk := i_rng kk
      refine lv_iload_n hx hb dX10_reads_7 rfl (lv_at hl 0 rfl) ?_
      refine lv_iload_n hx hb dX10_reads_8 rfl (lv_at hl 2 rfl) ?_
      refine lv_icmp_ge (tgt := 30) hx hb dX10_reads_9 (by decide) (fun k_1 => ?_) (fun k_1 => ?_)
      · have tk_1 := c_ge (a := kk.toInt) (b := i1.toInt) rfl rfl k_1
        refine lv_aload_n hx hb dX10_reads_30 rfl (lv_at hl 1 rfl) ?_
        refine lv_iconst (v := 0) hx hb dX10_reads_31 (by decide) ?_
        refine va_put (D := (dC, dI)) (ci := 10) (v := .int 0) (ty := .int) (C := RX10) (T := TX10) (N := 48) hx hb hts fin_X10_readsm_X10 tyX10 tyX10_ok nmX10 hown hK hP hD hS 0 rfl rfl 6 (by decide) (hts (.fieldLink RX10 107 "PatternGateModel" "taped" "I") (List.mem_of_getElem? (i := 2) (by decide +kernel))) (fun _ h9 => h9) rfl (by decide +kernel) rfl rfl (Nat.le_of_ble_eq_true rfl) dX10_reads_32 (fun H locs hP hD hS => ?_)
        have hP : va_P (dC, dI) vwCl (mW ad kc x0 x1 x2 0 i1 x5 x6 x7 x8 x9 x10 x11 x12 x13 x14 x15 x16 x17 x18 x19 x20 x21 f0 f1 gt f3 f4 f5 f6 f7 f8 f9 f10 f11 f12 f13 f14 f15 f16 f17 f18 f19 f20 f21 fL fN fP fM fO) H := hP
        have hD : va_D A (mW ad kc x0 x1 x2 0 i1 x5 x6 x7 x8 x9 x10 x11 x12 x13 x14 x15 x16 x17 x18 x19 x20 x21 f0 f1 gt f3 f4 f5 f6 f7 f8 f9 f10 f11 f12 f13 f14 f15 f16 f17 f18 f19 f20 f21 fL fN fP fM fO) := hD
        have lit_1 : (0 : Int32).toInt = 0 := by decide
        refine lv_aload_n hx hb dX10_reads_35 rfl (lv_at hl 1 rfl) ?_
        refine lv_iconst (v := 0) hx hb dX10_reads_36 (by decide) ?_
        refine va_put (D := (dC, dI)) (ci := 10) (v := .int 0) (ty := .int) (C := RX10) (T := TX10) (N := 48) hx hb hts fin_X10_readsm_X10 tyX10 tyX10_ok nmX10 hown hK hP hD hS 0 rfl rfl 11 (by decide) (hts (.fieldLink RX10 117 "PatternGateModel" "faults" "I") (List.mem_of_getElem? (i := 3) (by decide +kernel))) (fun _ h9 => h9) rfl (by decide +kernel) rfl rfl (Nat.le_of_ble_eq_true rfl) dX10_reads_37 (fun H locs hP hD hS => ?_)
        have hP : va_P (dC, dI) vwCl (mW ad kc x0 x1 x2 0 i1 x5 x6 x7 0 x9 x10 x11 x12 x13 x14 x15 x16 x17 x18 x19 x20 x21 f0 f1 gt f3 f4 f5 f6 f7 f8 f9 f10 f11 f12 f13 f14 f15 f16 f17 f18 f19 f20 f21 fL fN fP fM fO) H := hP
        have hD : va_D A (mW ad kc x0 x1 x2 0 i1 x5 x6 x7 0 x9 x10 x11 x12 x13 x14 x15 x16 x17 x18 x19 x20 x21 f0 f1 gt f3 f4 f5 f6 f7 f8 f9 f10 f11 f12 f13 f14 f15 f16 f17 f18 f19 f20 f21 fL fN fP fM fO) := hD
        have lit_2 : (0 : Int32).toInt = 0 := by decide
        refine lv_aload_n hx hb dX10_reads_40 rfl (lv_at hl 1 rfl) ?_
        refine lv_iconst (v := (-1)) hx hb dX10_reads_41 (by decide) ?_
        refine va_put (D := (dC, dI)) (ci := 10) (v := .int (-1)) (ty := .int) (C := RX10) (T := TX10) (N := 48) hx hb hts fin_X10_readsm_X10 tyX10 tyX10_ok nmX10 hown hK hP hD hS 0 rfl rfl 12 (by decide) (hts (.fieldLink RX10 21 "PatternGateModel" "faultPlace" "I") (List.mem_of_getElem? (i := 4) (by decide +kernel))) (fun _ h9 => h9) rfl (by decide +kernel) rfl rfl (Nat.le_of_ble_eq_true rfl) dX10_reads_42 (fun H locs hP hD hS => ?_)
        have hP : va_P (dC, dI) vwCl (mW ad kc x0 x1 x2 0 i1 x5 x6 x7 0 (-1) x10 x11 x12 x13 x14 x15 x16 x17 x18 x19 x20 x21 f0 f1 gt f3 f4 f5 f6 f7 f8 f9 f10 f11 f12 f13 f14 f15 f16 f17 f18 f19 f20 f21 fL fN fP fM fO) H := hP
        have hD : va_D A (mW ad kc x0 x1 x2 0 i1 x5 x6 x7 0 (-1) x10 x11 x12 x13 x14 x15 x16 x17 x18 x19 x20 x21 f0 f1 gt f3 f4 f5 f6 f7 f8 f9 f10 f11 f12 f13 f14 f15 f16 f17 f18 f19 f20 f21 fL fN fP fM fO) := hD
        have lit_3 : ((-1) : Int32).toInt = (-1) := by decide
        refine lv_aload_n hx hb dX10_reads_45 rfl (lv_at hl 1 rfl) ?_
        refine lv_iconst (v := 0) hx hb dX10_reads_46 (by decide) ?_
        refine va_put (D := (dC, dI)) (ci := 10) (v := .int 0) (ty := .int) (C := RX10) (T := TX10) (N := 48) hx hb hts fin_X10_readsm_X10 tyX10 tyX10_ok nmX10 hown hK hP hD hS 0 rfl rfl 10 (by decide) (hts (.fieldLink RX10 130 "PatternGateModel" "end" "I") (List.mem_of_getElem? (i := 5) (by decide +kernel))) (fun _ h9 => h9) rfl (by decide +kernel) rfl rfl (Nat.le_of_ble_eq_true rfl) dX10_reads_47 (fun H locs hP hD hS => ?_)
        have hP : va_P (dC, dI) vwCl (mW ad kc x0 x1 x2 0 i1 x5 x6 0 0 (-1) x10 x11 x12 x13 x14 x15 x16 x17 x18 x19 x20 x21 f0 f1 gt f3 f4 f5 f6 f7 f8 f9 f10 f11 f12 f13 f14 f15 f16 f17 f18 f19 f20 f21 fL fN fP fM fO) H := hP
        have hD : va_D A (mW ad kc x0 x1 x2 0 i1 x5 x6 0 0 (-1) x10 x11 x12 x13 x14 x15 x16 x17 x18 x19 x20 x21 f0 f1 gt f3 f4 f5 f6 f7 f8 f9 f10 f11 f12 f13 f14 f15 f16 f17 f18 f19 f20 f21 fL fN fP fM fO) := hD
        have lit_4 : (0 : Int32).toInt = 0 := by decide
        refine lv_aload_n hx hb dX10_reads_50 rfl (lv_at hl 1 rfl) ?_
        refine lv_iconst (v := 0) hx hb dX10_reads_51 (by decide) ?_
        refine lv_sipush (v := 7820) hx hb dX10_reads_52 (by decide) ?_
        have hFc := m_free hD hS hA
        refine va_callv (va_runV (As := [.int 0, .int 7820]) (rest := []) ⟨hx, hb, hml, hown, hts⟩ (m_copies l dC dI ad kc x0 x1 x2 0 i1 x5 x6 0 0 (-1) x10 x11 x12 x13 x14 x15 x16 x17 x18 x19 x20 x21 f0 f1 gt f3 f4 f5 f6 f7 f8 f9 f10 f11 f12 f13 f14 f15 f16 f17 f18 f19 f20 f21 fL fN fP fM fO H.size 0 7820 (by first | omega | assumption | decide | (have l0 := Int32.toInt_zero; omega)) (by first | omega | assumption | decide | (have l0 := Int32.toInt_zero; omega)) (by first | omega | assumption | decide | (have l0 := Int32.toInt_zero; omega)) (by first | omega | assumption | decide | (have l0 := Int32.toInt_zero; omega)) (by first | omega | assumption | decide | (have l0 := Int32.toInt_zero; omega))) (cwV 2 hts mg_X10_readsm_X10_copies_193 rfl rfl rfl (by decide +kernel) ⟨Nat.le_of_ble_eq_true rfl, Nat.le_of_ble_eq_true rfl⟩) ⟨fun a U g mk q => by obtain ⟨q0, q1, qP, qK, qD⟩ := q; exact ⟨q0, q1, qP, va_K.moved (u := U) (U := U.calling g mk a) (Vm.Alike.refl U.vm) qK, qD⟩, va_recv hK hP (ci := 10) (q0 := 0) rfl rfl, fun U hU hW => ⟨rfl, by rw [hU], by rw [hU]; exact hP, va_K.moved hW.alike hK, hD.weaken (fun _ _ _ _ => trivial)⟩⟩ rfl rfl hl.1 rfl (lv_room (Nat.le_of_ble_eq_true rfl)) dX10_reads_55 ⟨Nat.le_of_ble_eq_true rfl, Nat.le_of_ble_eq_true rfl⟩) hS (fun q _ h => hFc q h) hFc (fun u t H1 locs ht hvm hw hB hz1 hk1 hS => ?_)
        obtain ⟨f_7, hr_6_0, hP, hK1, hD1⟩ := hB
        rw [ht] at hP
        have hD := hD1.weaken (fun k q _ h => hFc q.1 h)
        clear hz1 hk1 hFc hD1 hK1 hvm
        generalize H1 = H at hP hS ⊢
        have hP : va_P (dC, dI) vwCl (mW ad kc x0 x1 x2 0 i1 x5 x6 0 0 (-1) x10 x11 x12 x13 x14 x15 x16 x17 x18 x19 x20 x21 f_7 f1 gt f3 f4 f5 f6 f7 f8 f9 f10 f11 f12 f13 f14 f15 f16 f17 f18 f19 f20 f21 fL fN fP fM fO) H := hP
        have hD : va_D A (mW ad kc x0 x1 x2 0 i1 x5 x6 0 0 (-1) x10 x11 x12 x13 x14 x15 x16 x17 x18 x19 x20 x21 f_7 f1 gt f3 f4 f5 f6 f7 f8 f9 f10 f11 f12 f13 f14 f15 f16 f17 f18 f19 f20 f21 fL fN fP fM fO) := hD
        refine lv_iload_n hx hb dX10_reads_58 rfl (lv_at hl 3 rfl) ?_
        refine lv_if_eq (tgt := 78) hx hb dX10_reads_59 (by decide) (fun k_8 => ?_) (fun k_8 => ?_)
        · have tk_8 := c_eq (a := i2.toInt) (b := 0) rfl (by decide) k_8
          have hdA := hd9
          have hmA := hm9
          refine lv_aload_n hx hb dX10_reads_78 rfl (lv_at hl 1 rfl) ?_
          have hFc := m_free hD hS hA
          refine va_callv (va_runV (As := []) (rest := []) ⟨hx, hb, hml, hown, hts⟩ (m_ahead l dC dI ad kc x0 x1 x2 0 i1 x5 x6 0 0 (-1) x10 x11 x12 x13 x14 x15 x16 x17 x18 x19 x20 x21 f_7 f1 gt f3 f4 f5 f6 f7 f8 f9 f10 f11 f12 f13 f14 f15 f16 f17 f18 f19 f20 f21 fL fN fP fM fO H.size (by first | omega | assumption | decide | (have l0 := Int32.toInt_zero; omega)) (by first | omega | assumption | decide | (have l0 := Int32.toInt_zero; omega)) (by first | omega | assumption | decide | (have l0 := Int32.toInt_zero; omega))) (cwV 0 hts mg_X10_readsm_X10_ahead_184 rfl rfl rfl (by decide +kernel) ⟨Nat.le_of_ble_eq_true rfl, Nat.le_of_ble_eq_true rfl⟩) ⟨fun a U g mk q => by obtain ⟨q0, q1, qP, qK, qD⟩ := q; exact ⟨q0, q1, qP, va_K.moved (u := U) (U := U.calling g mk a) (Vm.Alike.refl U.vm) qK, qD⟩, va_recv hK hP (ci := 10) (q0 := 0) rfl rfl, fun U hU hW => ⟨rfl, by rw [hU], by rw [hU]; exact hP, va_K.moved hW.alike hK, hD.weaken (fun _ _ _ _ => trivial)⟩⟩ rfl rfl hl.1 rfl (lv_room (Nat.le_of_ble_eq_true rfl)) dX10_reads_79 ⟨Nat.le_of_ble_eq_true rfl, Nat.le_of_ble_eq_true rfl⟩) hS (fun q _ h => hFc q h) hFc (fun u t H1 locs ht hvm hw hB hz1 hk1 hS => ?_)
          obtain ⟨x_10, x_11, x_12, hr_9_0, hr_9_1, hr_9_2, hr_9_3, hr_9_4, hP, hK1, hD1⟩ := hB
          rw [ht] at hP
          have hD := hD1.weaken (fun k q _ h => hFc q.1 h)
          clear hz1 hk1 hFc hD1 hK1 hvm
          generalize H1 = H at hP hS ⊢
          have rg_x_10 := i_rng x_10
          have rg_x_11 := i_rng x_11
          have rg_x_12 := i_rng x_12
          have hP : va_P (dC, dI) vwCl (mW ad kc x0 x1 x2 0 i1 x_10 x_11 x_12 0 (-1) x10 x11 x12 x13 x14 x15 x16 x17 x18 x19 x20 x21 f_7 f1 gt f3 f4 f5 f6 f7 f8 f9 f10 f11 f12 f13 f14 f15 f16 f17 f18 f19 f20 f21 fL fN fP fM fO) H := hP
          have hD : va_D A (mW ad kc x0 x1 x2 0 i1 x_10 x_11 x_12 0 (-1) x10 x11 x12 x13 x14 x15 x16 x17 x18 x19 x20 x21 f_7 f1 gt f3 f4 f5 f6 f7 f8 f9 f10 f11 f12 f13 f14 f15 f16 f17 f18 f19 f20 f21 fL fN fP fM fO) := hD
          refine lv_iconst (v := 1) hx hb dX10_reads_82 (by decide) ?_
          refine lv_istore_n (lv' := [(3, .int 1), (0, .ref (ad 0)), (1, .int i1), (2, .int i2)]) hx hb dX10_reads_83 rfl hl (by decide) rfl (fun ls hl => ?_)
          have loop84 : ∀ (lm84 : Nat) (go to be en fa fp sp : Int32) (ga : Nat → Int32), (go.toInt = 0 ∨ go.toInt = 1) → (OKd ga 0) → (mC x1.toInt x2.toInt ga) → (0 ≤ be.toInt ∧ be.toInt ≤ en.toInt) → (en.toInt ≤ i1.toInt) → ((if go.toInt = 0 then 0 else (i1.toInt + 1 - en.toInt)).toNat) < lm84 → ∀ (H : Heap) (locs : List Loc) (ls : Array Slot), va_P (dC, dI) vwCl (mW ad kc x0 x1 x2 0 i1 to be en fa fp x10 sp x12 x13 x14 x15 x16 x17 x18 x19 x20 x21 ga f1 gt f3 f4 f5 f6 f7 f8 f9 f10 f11 f12 f13 f14 f15 f16 f17 f18 f19 f20 f21 fL fN fP fM fO) H → va_D A (mW ad kc x0 x1 x2 0 i1 to be en fa fp x10 sp x12 x13 x14 x15 x16 x17 x18 x19 x20 x21 ga f1 gt f3 f4 f5 f6 f7 f8 f9 f10 f11 f12 f13 f14 f15 f16 f17 f18 f19 f20 f21 fL fN fP fM fO) → va_S A s.heap H locs → lv_has ls 4 [(3, .int go), (0, .ref (ad 0)), (1, .int i1), (2, .int i2)] → W p l e (headSpec mwX10_readsm ({ frames := 23, cells := 0, slots := 0, locals := 1380 })).room s m ([.ref (ad 0), .int i1, .int i2]).toArray below meth c H locs 0 0 (MQ below (va_Qi (fun (o9 u9 : Int32) => o9 = u9) (fun (o9 : Int32) t => ∃ (y3 y4 y5 y6 y7 y8 y9 y10 y11 : Int32) (g0 g2 : Nat → Int32), (OKd g0 0) ∧ (mC x1.toInt x2.toInt g0) ∧ (y3.toInt = 0) ∧ (o9.toInt = 0 ∨ o9.toInt = 1) ∧ va_P (dC, dI) vwCl (mW ad kc x0 x1 x2 y3 y4 y5 y6 y7 y8 y9 y10 y11 x12 x13 x14 x15 x16 x17 x18 x19 x20 x21 g0 f1 g2 f3 f4 f5 f6 f7 f8 f9 f10 f11 f12 f13 f14 f15 f16 f17 f18 f19 f20 f21 fL fN fP fM fO) t.heap ∧ va_K (dC, dI) vwCl (mT kc) t ∧ va_D A (mW ad kc x0 x1 x2 y3 y4 y5 y6 y7 y8 y9 y10 y11 x12 x13 x14 x15 x16 x17 x18 x19 x20 x21 g0 f1 g2 f3 f4 f5 f6 f7 f8 f9 f10 f11 f12 f13 f14 f15 f16 f17 f18 f19 f20 f21 fL fN fP fM fO)) A) ([.ref (ad 0), .int i1, .int i2]).toArray s 0 0 A) (F0 m 84 ls []) := by
            intro lm84
            induction lm84 with
            | zero => intro go to be en fa fp sp ga v84_0 v84_1 v84_2 v84_3 v84_4 hm84; exact absurd hm84 (Nat.not_lt_zero _)
            | succ lm84 ih84 =>
              intro go to be en fa fp sp ga v84_0 v84_1 v84_2 v84_3 v84_4 hm84 H locs ls hP hD hS hl
              have rg_go := i_rng go
              have rg_to := i_rng to
              have rg_be := i_rng be
              have rg_en := i_rng en
              have rg_fa := i_rng fa
              have rg_fp := i_rng fp
              have rg_sp := i_rng sp
              refine lv_iload_n hx hb dX10_reads_84 rfl (lv_at hl 0 rfl) ?_
              refine lv_if_eq (tgt := 103) hx hb dX10_reads_85 (by decide) (fun k_13 => ?_) (fun k_13 => ?_)
              · have tk_13 := c_eq (a := go.toInt) (b := 0) rfl (by decide) k_13
                refine lv_aload_n hx hb dX10_reads_103 rfl (lv_at hl 1 rfl) ?_
                refine lv_aload_n hx hb dX10_reads_104 rfl (lv_at hl 1 rfl) ?_
                refine va_get (D := (dC, dI)) (ci := 10) (v := .int fa) (C := RX10) (T := TX10) (N := 48) hx hb hts fin_X10_readsm_X10 hown hK hP 0 rfl rfl 11 (by decide) (hts (.fieldLink RX10 117 "PatternGateModel" "faults" "I") (List.mem_of_getElem? (i := 3) (by decide +kernel))) (fun _ h9 => h9) rfl dX10_reads_105 ?_
                refine va_put (D := (dC, dI)) (ci := 10) (v := .int fa) (ty := .int) (C := RX10) (T := TX10) (N := 48) hx hb hts fin_X10_readsm_X10 tyX10 tyX10_ok nmX10 hown hK hP hD hS 0 rfl rfl 13 (by decide) (hts (.fieldLink RX10 25 "PatternGateModel" "faultKind" "I") (List.mem_of_getElem? (i := 13) (by decide +kernel))) (fun _ h9 => h9) rfl (by decide +kernel) rfl rfl (Nat.le_of_ble_eq_true rfl) dX10_reads_108 (fun H locs hP hD hS => ?_)
                have hP : va_P (dC, dI) vwCl (mW ad kc x0 x1 x2 0 i1 to be en fa fp fa sp x12 x13 x14 x15 x16 x17 x18 x19 x20 x21 ga f1 gt f3 f4 f5 f6 f7 f8 f9 f10 f11 f12 f13 f14 f15 f16 f17 f18 f19 f20 f21 fL fN fP fM fO) H := hP
                have hD : va_D A (mW ad kc x0 x1 x2 0 i1 to be en fa fp fa sp x12 x13 x14 x15 x16 x17 x18 x19 x20 x21 ga f1 gt f3 f4 f5 f6 f7 f8 f9 f10 f11 f12 f13 f14 f15 f16 f17 f18 f19 f20 f21 fL fN fP fM fO) := hD
                refine lv_aload_n hx hb dX10_reads_111 rfl (lv_at hl 1 rfl) ?_
                refine va_get (D := (dC, dI)) (ci := 10) (v := .int fa) (C := RX10) (T := TX10) (N := 48) hx hb hts fin_X10_readsm_X10 hown hK hP 0 rfl rfl 11 (by decide) (hts (.fieldLink RX10 117 "PatternGateModel" "faults" "I") (List.mem_of_getElem? (i := 3) (by decide +kernel))) (fun _ h9 => h9) rfl dX10_reads_112 ?_
                refine lv_if_le (tgt := 126) hx hb dX10_reads_115 (by decide) (fun k_14 => ?_) (fun k_14 => ?_)
                · have tk_14 := c_le (a := fa.toInt) (b := 0) rfl (by decide) k_14
                  refine lv_aload_n hx hb dX10_reads_126 rfl (lv_at hl 1 rfl) ?_
                  refine va_get (D := (dC, dI)) (ci := 10) (v := .int fa) (C := RX10) (T := TX10) (N := 48) hx hb hts fin_X10_readsm_X10 hown hK hP 0 rfl rfl 11 (by decide) (hts (.fieldLink RX10 117 "PatternGateModel" "faults" "I") (List.mem_of_getElem? (i := 3) (by decide +kernel))) (fun _ h9 => h9) rfl dX10_reads_127 ?_
                  refine lv_if_ne (tgt := 137) hx hb dX10_reads_130 (by decide) (fun k_15 => ?_) (fun k_15 => ?_)
                  · have tk_15 := c_ne (a := fa.toInt) (b := 0) rfl (by decide) k_15
                    refine lv_iconst (v := 0) hx hb dX10_reads_137 (by decide) ?_
                    have lit_15 : (0 : Int32).toInt = 0 := by decide
                    have lit_16 : (0 : Int32).toInt = 0 := by decide
                    exact W.zret hx hb hr (z_nar (by first | assumption | decide | exact z_of (by omega))) (fun t ht hW => ⟨⟨_, _, rfl, rfl, 0, i1, to, be, en, fa, fp, fa, sp, ga, gt, v84_1, v84_2, (by first | omega | assumption | rfl | decide), (by first | omega | assumption | rfl | decide), by rw [ht]; exact hP, va_K.moved hW.alike hK, hD⟩, hS.F ht⟩) hS.2.2 dX10_reads_138
                  · have tk_15 := c_eq (a := fa.toInt) (b := 0) rfl (by decide) k_15
                    refine lv_iconst (v := 1) hx hb dX10_reads_133 (by decide) ?_
                    refine lv_goto (tgt := 138) hx hb dX10_reads_134 (by decide) ?_
                    have lit_17 : (1 : Int32).toInt = 1 := by decide
                    have lit_18 : (0 : Int32).toInt = 0 := by decide
                    exact W.zret hx hb hr (z_nar (by first | assumption | decide | exact z_of (by omega))) (fun t ht hW => ⟨⟨_, _, rfl, rfl, 0, i1, to, be, en, fa, fp, fa, sp, ga, gt, v84_1, v84_2, (by first | omega | assumption | rfl | decide), (by first | omega | assumption | rfl | decide), by rw [ht]; exact hP, va_K.moved hW.alike hK, hD⟩, hS.F ht⟩) hS.2.2 dX10_reads_138
                · have tk_14 := c_nle (a := fa.toInt) (b := 0) rfl (by decide) k_14
                  refine lv_aload_n hx hb dX10_reads_118 rfl (lv_at hl 1 rfl) ?_
                  refine lv_sipush (v := 7820) hx hb dX10_reads_119 (by decide) ?_
                  refine lv_iconst (v := 0) hx hb dX10_reads_122 (by decide) ?_
                  have hFc := m_free hD hS hA
                  refine va_callv (va_runV (As := [.int 7820, .int 0]) (rest := []) ⟨hx, hb, hml, hown, hts⟩ (m_copies l dC dI ad kc x0 x1 x2 0 i1 to be en fa fp fa sp x12 x13 x14 x15 x16 x17 x18 x19 x20 x21 ga f1 gt f3 f4 f5 f6 f7 f8 f9 f10 f11 f12 f13 f14 f15 f16 f17 f18 f19 f20 f21 fL fN fP fM fO H.size 7820 0 (by first | omega | assumption | decide | (have l0 := Int32.toInt_zero; omega)) (by first | omega | assumption | decide | (have l0 := Int32.toInt_zero; omega)) (by first | omega | assumption | decide | (have l0 := Int32.toInt_zero; omega)) (by first | omega | assumption | decide | (have l0 := Int32.toInt_zero; omega)) (by first | omega | assumption | decide | (have l0 := Int32.toInt_zero; omega))) (cwV 2 hts mg_X10_readsm_X10_copies_193 rfl rfl rfl (by decide +kernel) ⟨Nat.le_of_ble_eq_true rfl, Nat.le_of_ble_eq_true rfl⟩) ⟨fun a U g mk q => by obtain ⟨q0, q1, qP, qK, qD⟩ := q; exact ⟨q0, q1, qP, va_K.moved (u := U) (U := U.calling g mk a) (Vm.Alike.refl U.vm) qK, qD⟩, va_recv hK hP (ci := 10) (q0 := 0) rfl rfl, fun U hU hW => ⟨rfl, by rw [hU], by rw [hU]; exact hP, va_K.moved hW.alike hK, hD.weaken (fun _ _ _ _ => trivial)⟩⟩ rfl rfl hl.1 rfl (lv_room (Nat.le_of_ble_eq_true rfl)) dX10_reads_123 ⟨Nat.le_of_ble_eq_true rfl, Nat.le_of_ble_eq_true rfl⟩) hS (fun q _ h => hFc q h) hFc (fun u t H1 locs ht hvm hw hB hz1 hk1 hS => ?_)
                  obtain ⟨f_21, hr_20_0, hP, hK1, hD1⟩ := hB
                  rw [ht] at hP
                  have hD := hD1.weaken (fun k q _ h => hFc q.1 h)
                  clear hz1 hk1 hFc hD1 hK1 hvm
                  generalize H1 = H at hP hS ⊢
                  have hP : va_P (dC, dI) vwCl (mW ad kc x0 x1 x2 0 i1 to be en fa fp fa sp x12 x13 x14 x15 x16 x17 x18 x19 x20 x21 f_21 f1 gt f3 f4 f5 f6 f7 f8 f9 f10 f11 f12 f13 f14 f15 f16 f17 f18 f19 f20 f21 fL fN fP fM fO) H := hP
                  have hD : va_D A (mW ad kc x0 x1 x2 0 i1 to be en fa fp fa sp x12 x13 x14 x15 x16 x17 x18 x19 x20 x21 f_21 f1 gt f3 f4 f5 f6 f7 f8 f9 f10 f11 f12 f13 f14 f15 f16 f17 f18 f19 f20 f21 fL fN fP fM fO) := hD
                  have hc8 : CP ga f_21 7820 0 := by have h9 := hr_20_0; rw [(show (7820 : Int32).toInt = 7820 by decide), (show (0 : Int32).toInt = 0 by decide)] at h9; exact h9
                  have hdZ := hc8.there (by omega) v84_2.1
                  have hmZ : mC x1.toInt x2.toInt f_21 := ⟨hc8.else_ (by omega) (by omega) v84_2.1, fun j a1 a2 => hc8.else_ (by omega) (by omega) (v84_2.2.1 j a1 a2), fun j a1 a2 => hc8.else_ (by omega) (by omega) (v84_2.2.2 j a1 a2)⟩
                  refine lv_aload_n hx hb dX10_reads_126 rfl (lv_at hl 1 rfl) ?_
                  refine va_get (D := (dC, dI)) (ci := 10) (v := .int fa) (C := RX10) (T := TX10) (N := 48) hx hb hts fin_X10_readsm_X10 hown hK hP 0 rfl rfl 11 (by decide) (hts (.fieldLink RX10 117 "PatternGateModel" "faults" "I") (List.mem_of_getElem? (i := 3) (by decide +kernel))) (fun _ h9 => h9) rfl dX10_reads_127 ?_
                  refine lv_if_ne (tgt := 137) hx hb dX10_reads_130 (by decide) (fun k_22 => ?_) (fun k_22 => ?_)
                  · have tk_22 := c_ne (a := fa.toInt) (b := 0) rfl (by decide) k_22
                    refine lv_iconst (v := 0) hx hb dX10_reads_137 (by decide) ?_
                    have lit_22 : (0 : Int32).toInt = 0 := by decide
                    have lit_23 : (0 : Int32).toInt = 0 := by decide
                    exact W.zret hx hb hr (z_nar (by first | assumption | decide | exact z_of (by omega))) (fun t ht hW => ⟨⟨_, _, rfl, rfl, 0, i1, to, be, en, fa, fp, fa, sp, f_21, gt, hdZ, hmZ, (by first | omega | assumption | rfl | decide), (by first | omega | assumption | rfl | decide), by rw [ht]; exact hP, va_K.moved hW.alike hK, hD⟩, hS.F ht⟩) hS.2.2 dX10_reads_138
                  · have tk_22 := c_eq (a := fa.toInt) (b := 0) rfl (by decide) k_22
                    refine lv_iconst (v := 1) hx hb dX10_reads_133 (by decide) ?_
                    refine lv_goto (tgt := 138) hx hb dX10_reads_134 (by decide) ?_
                    have lit_24 : (1 : Int32).toInt = 1 := by decide
                    have lit_25 : (0 : Int32).toInt = 0 := by decide
                    exact W.zret hx hb hr (z_nar (by first | assumption | decide | exact z_of (by omega))) (fun t ht hW => ⟨⟨_, _, rfl, rfl, 0, i1, to, be, en, fa, fp, fa, sp, f_21, gt, hdZ, hmZ, (by first | omega | assumption | rfl | decide), (by first | omega | assumption | rfl | decide), by rw [ht]; exact hP, va_K.moved hW.alike hK, hD⟩, hS.F ht⟩) hS.2.2 dX10_reads_138
              · have tk_13 := c_ne (a := go.toInt) (b := 0) rfl (by decide) k_13
                refine lv_aload_n hx hb dX10_reads_88 rfl (lv_at hl 1 rfl) ?_
                refine va_get (D := (dC, dI)) (ci := 10) (v := .int to) (C := RX10) (T := TX10) (N := 48) hx hb hts fin_X10_readsm_X10 hown hK hP 0 rfl rfl 8 (by decide) (hts (.fieldLink RX10 120 "PatternGateModel" "token" "I") (List.mem_of_getElem? (i := 14) (by decide +kernel))) (fun _ h9 => h9) rfl dX10_reads_89 ?_
                refine lv_if_eq (tgt := 103) hx hb dX10_reads_92 (by decide) (fun k_27 => ?_) (fun k_27 => ?_)
                · have tk_27 := c_eq (a := to.toInt) (b := 0) rfl (by decide) k_27
                  refine lv_aload_n hx hb dX10_reads_103 rfl (lv_at hl 1 rfl) ?_
                  refine lv_aload_n hx hb dX10_reads_104 rfl (lv_at hl 1 rfl) ?_
                  refine va_get (D := (dC, dI)) (ci := 10) (v := .int fa) (C := RX10) (T := TX10) (N := 48) hx hb hts fin_X10_readsm_X10 hown hK hP 0 rfl rfl 11 (by decide) (hts (.fieldLink RX10 117 "PatternGateModel" "faults" "I") (List.mem_of_getElem? (i := 3) (by decide +kernel))) (fun _ h9 => h9) rfl dX10_reads_105 ?_
                  refine va_put (D := (dC, dI)) (ci := 10) (v := .int fa) (ty := .int) (C := RX10) (T := TX10) (N := 48) hx hb hts fin_X10_readsm_X10 tyX10 tyX10_ok nmX10 hown hK hP hD hS 0 rfl rfl 13 (by decide) (hts (.fieldLink RX10 25 "PatternGateModel" "faultKind" "I") (List.mem_of_getElem? (i := 13) (by decide +kernel))) (fun _ h9 => h9) rfl (by decide +kernel) rfl rfl (Nat.le_of_ble_eq_true rfl) dX10_reads_108 (fun H locs hP hD hS => ?_)
                  have hP : va_P (dC, dI) vwCl (mW ad kc x0 x1 x2 0 i1 to be en fa fp fa sp x12 x13 x14 x15 x16 x17 x18 x19 x20 x21 ga f1 gt f3 f4 f5 f6 f7 f8 f9 f10 f11 f12 f13 f14 f15 f16 f17 f18 f19 f20 f21 fL fN fP fM fO) H := hP
                  have hD : va_D A (mW ad kc x0 x1 x2 0 i1 to be en fa fp fa sp x12 x13 x14 x15 x16 x17 x18 x19 x20 x21 ga f1 gt f3 f4 f5 f6 f7 f8 f9 f10 f11 f12 f13 f14 f15 f16 f17 f18 f19 f20 f21 fL fN fP fM fO) := hD
                  refine lv_aload_n hx hb dX10_reads_111 rfl (lv_at hl 1 rfl) ?_
                  refine va_get (D := (dC, dI)) (ci := 10) (v := .int fa) (C := RX10) (T := TX10) (N := 48) hx hb hts fin_X10_readsm_X10 hown hK hP 0 rfl rfl 11 (by decide) (hts (.fieldLink RX10 117 "PatternGateModel" "faults" "I") (List.mem_of_getElem? (i := 3) (by decide +kernel))) (fun _ h9 => h9) rfl dX10_reads_112 ?_
                  refine lv_if_le (tgt := 126) hx hb dX10_reads_115 (by decide) (fun k_28 => ?_) (fun k_28 => ?_)
                  · have tk_28 := c_le (a := fa.toInt) (b := 0) rfl (by decide) k_28
                    refine lv_aload_n hx hb dX10_reads_126 rfl (lv_at hl 1 rfl) ?_
                    refine va_get (D := (dC, dI)) (ci := 10) (v := .int fa) (C := RX10) (T := TX10) (N := 48) hx hb hts fin_X10_readsm_X10 hown hK hP 0 rfl rfl 11 (by decide) (hts (.fieldLink RX10 117 "PatternGateModel" "faults" "I") (List.mem_of_getElem? (i := 3) (by decide +kernel))) (fun _ h9 => h9) rfl dX10_reads_127 ?_
                    refine lv_if_ne (tgt := 137) hx hb dX10_reads_130 (by decide) (fun k_29 => ?_) (fun k_29 => ?_)
                    · have tk_29 := c_ne (a := fa.toInt) (b := 0) rfl (by decide) k_29
                      refine lv_iconst (v := 0) hx hb dX10_reads_137 (by decide) ?_
                      have lit_29 : (0 : Int32).toInt = 0 := by decide
                      have lit_30 : (0 : Int32).toInt = 0 := by decide
                      exact W.zret hx hb hr (z_nar (by first | assumption | decide | exact z_of (by omega))) (fun t ht hW => ⟨⟨_, _, rfl, rfl, 0, i1, to, be, en, fa, fp, fa, sp, ga, gt, v84_1, v84_2, (by first | omega | assumption | rfl | decide), (by first | omega | assumption | rfl | decide), by rw [ht]; exact hP, va_K.moved hW.alike hK, hD⟩, hS.F ht⟩) hS.2.2 dX10_reads_138
                    · have tk_29 := c_eq (a := fa.toInt) (b := 0) rfl (by decide) k_29
                      refine lv_iconst (v := 1) hx hb dX10_reads_133 (by decide) ?_
                      refine lv_goto (tgt := 138) hx hb dX10_reads_134 (by decide) ?_
                      have lit_31 : (1 : Int32).toInt = 1 := by decide
                      have lit_32 : (0 : Int32).toInt = 0 := by decide
                      exact W.zret hx hb hr (z_nar (by first | assumption | decide | exact z_of (by omega))) (fun t ht hW => ⟨⟨_, _, rfl, rfl, 0, i1, to, be, en, fa, fp, fa, sp, ga, gt, v84_1, v84_2, (by first | omega | assumption | rfl | decide), (by first | omega | assumption | rfl | decide), by rw [ht]; exact hP, va_K.moved hW.alike hK, hD⟩, hS.F ht⟩) hS.2.2 dX10_reads_138
                  · have tk_28 := c_nle (a := fa.toInt) (b := 0) rfl (by decide) k_28
                    refine lv_aload_n hx hb dX10_reads_118 rfl (lv_at hl 1 rfl) ?_
                    refine lv_sipush (v := 7820) hx hb dX10_reads_119 (by decide) ?_
                    refine lv_iconst (v := 0) hx hb dX10_reads_122 (by decide) ?_
                    have hFc := m_free hD hS hA
                    refine va_callv (va_runV (As := [.int 7820, .int 0]) (rest := []) ⟨hx, hb, hml, hown, hts⟩ (m_copies l dC dI ad kc x0 x1 x2 0 i1 to be en fa fp fa sp x12 x13 x14 x15 x16 x17 x18 x19 x20 x21 ga f1 gt f3 f4 f5 f6 f7 f8 f9 f10 f11 f12 f13 f14 f15 f16 f17 f18 f19 f20 f21 fL fN fP fM fO H.size 7820 0 (by first | omega | assumption | decide | (have l0 := Int32.toInt_zero; omega)) (by first | omega | assumption | decide | (have l0 := Int32.toInt_zero; omega)) (by first | omega | assumption | decide | (have l0 := Int32.toInt_zero; omega)) (by first | omega | assumption | decide | (have l0 := Int32.toInt_zero; omega)) (by first | omega | assumption | decide | (have l0 := Int32.toInt_zero; omega))) (cwV 2 hts mg_X10_readsm_X10_copies_193 rfl rfl rfl (by decide +kernel) ⟨Nat.le_of_ble_eq_true rfl, Nat.le_of_ble_eq_true rfl⟩) ⟨fun a U g mk q => by obtain ⟨q0, q1, qP, qK, qD⟩ := q; exact ⟨q0, q1, qP, va_K.moved (u := U) (U := U.calling g mk a) (Vm.Alike.refl U.vm) qK, qD⟩, va_recv hK hP (ci := 10) (q0 := 0) rfl rfl, fun U hU hW => ⟨rfl, by rw [hU], by rw [hU]; exact hP, va_K.moved hW.alike hK, hD.weaken (fun _ _ _ _ => trivial)⟩⟩ rfl rfl hl.1 rfl (lv_room (Nat.le_of_ble_eq_true rfl)) dX10_reads_123 ⟨Nat.le_of_ble_eq_true rfl, Nat.le_of_ble_eq_true rfl⟩) hS (fun q _ h => hFc q h) hFc (fun u t H1 locs ht hvm hw hB hz1 hk1 hS => ?_)
                    obtain ⟨f_35, hr_34_0, hP, hK1, hD1⟩ := hB
                    rw [ht] at hP
                    have hD := hD1.weaken (fun k q _ h => hFc q.1 h)
                    clear hz1 hk1 hFc hD1 hK1 hvm
                    generalize H1 = H at hP hS ⊢
                    have hP : va_P (dC, dI) vwCl (mW ad kc x0 x1 x2 0 i1 to be en fa fp fa sp x12 x13 x14 x15 x16 x17 x18 x19 x20 x21 f_35 f1 gt f3 f4 f5 f6 f7 f8 f9 f10 f11 f12 f13 f14 f15 f16 f17 f18 f19 f20 f21 fL fN fP fM fO) H := hP
                    have hD : va_D A (mW ad kc x0 x1 x2 0 i1 to be en fa fp fa sp x12 x13 x14 x15 x16 x17 x18 x19 x20 x21 f_35 f1 gt f3 f4 f5 f6 f7 f8 f9 f10 f11 f12 f13 f14 f15 f16 f17 f18 f19 f20 f21 fL fN fP fM fO) := hD
                    have hc8 : CP ga f_35 7820 0 := by have h9 := hr_34_0; rw [(show (7820 : Int32).toInt = 7820 by decide), (show (0 : Int32).toInt = 0 by decide)] at h9; exact h9
                    have hdZ := hc8.there (by omega) v84_2.1
                    have hmZ : mC x1.toInt x2.toInt f_35 := ⟨hc8.else_ (by omega) (by omega) v84_2.1, fun j a1 a2 => hc8.else_ (by omega) (by omega) (v84_2.2.1 j a1 a2), fun j a1 a2 => hc8.else_ (by omega) (by omega) (v84_2.2.2 j a1 a2)⟩
                    refine lv_aload_n hx hb dX10_reads_126 rfl (lv_at hl 1 rfl) ?_
                    refine va_get (D := (dC, dI)) (ci := 10) (v := .int fa) (C := RX10) (T := TX10) (N := 48) hx hb hts fin_X10_readsm_X10 hown hK hP 0 rfl rfl 11 (by decide) (hts (.fieldLink RX10 117 "PatternGateModel" "faults" "I") (List.mem_of_getElem? (i := 3) (by decide +kernel))) (fun _ h9 => h9) rfl dX10_reads_127 ?_
                    refine lv_if_ne (tgt := 137) hx hb dX10_reads_130 (by decide) (fun k_36 => ?_) (fun k_36 => ?_)
                    · have tk_36 := c_ne (a := fa.toInt) (b := 0) rfl (by decide) k_36
                      refine lv_iconst (v := 0) hx hb dX10_reads_137 (by decide) ?_
                      have lit_36 : (0 : Int32).toInt = 0 := by decide
                      have lit_37 : (0 : Int32).toInt = 0 := by decide
                      exact W.zret hx hb hr (z_nar (by first | assumption | decide | exact z_of (by omega))) (fun t ht hW => ⟨⟨_, _, rfl, rfl, 0, i1, to, be, en, fa, fp, fa, sp, f_35, gt, hdZ, hmZ, (by first | omega | assumption | rfl | decide), (by first | omega | assumption | rfl | decide), by rw [ht]; exact hP, va_K.moved hW.alike hK, hD⟩, hS.F ht⟩) hS.2.2 dX10_reads_138
                    · have tk_36 := c_eq (a := fa.toInt) (b := 0) rfl (by decide) k_36
                      refine lv_iconst (v := 1) hx hb dX10_reads_133 (by decide) ?_
                      refine lv_goto (tgt := 138) hx hb dX10_reads_134 (by decide) ?_
                      have lit_38 : (1 : Int32).toInt = 1 := by decide
                      have lit_39 : (0 : Int32).toInt = 0 := by decide
                      exact W.zret hx hb hr (z_nar (by first | assumption | decide | exact z_of (by omega))) (fun t ht hW => ⟨⟨_, _, rfl, rfl, 0, i1, to, be, en, fa, fp, fa, sp, f_35, gt, hdZ, hmZ, (by first | omega | assumption | rfl | decide), (by first | omega | assumption | rfl | decide), by rw [ht]; exact hP, va_K.moved hW.alike hK, hD⟩, hS.F ht⟩) hS.2.2 dX10_reads_138
                · have tk_27 := c_ne (a := to.toInt) (b := 0) rfl (by decide) k_27
                  refine lv_aload_n hx hb dX10_reads_95 rfl (lv_at hl 1 rfl) ?_
                  have hFc := m_free hD hS hA
                  refine va_calli (va_runV (As := []) (rest := []) ⟨hx, hb, hml, hown, hts⟩ (m_aLine l dC dI ad kc x0 x1 x2 0 i1 to be en fa fp x10 sp x12 x13 x14 x15 x16 x17 x18 x19 x20 x21 ga f1 gt f3 f4 f5 f6 f7 f8 f9 f10 f11 f12 f13 f14 f15 f16 f17 f18 f19 f20 f21 fL fN fP fM fO H.size (by first | omega | assumption | decide | (have l0 := Int32.toInt_zero; omega)) (by first | omega | assumption | decide | (have l0 := Int32.toInt_zero; omega)) (by first | omega | assumption | decide | (have l0 := Int32.toInt_zero; omega))) (cwV 0 hts mg_X10_readsm_X10_aLine_197 rfl rfl rfl (by decide +kernel) ⟨Nat.le_of_ble_eq_true rfl, Nat.le_of_ble_eq_true rfl⟩) ⟨fun a U g mk q => by obtain ⟨q0, q1, qP, qK, qD, qE0⟩ := q; exact ⟨q0, q1, qP, va_K.moved (u := U) (U := U.calling g mk a) (Vm.Alike.refl U.vm) qK, qD, sW.call qE0⟩, va_recv hK hP (ci := 10) (q0 := 0) rfl rfl, fun U hU hW => ⟨rfl, by rw [hU], by rw [hU]; exact hP, va_K.moved hW.alike hK, hD.weaken (fun _ _ _ _ => trivial), sW.to hSW hS hFc hW hU⟩⟩ rfl rfl hl.1 rfl (lv_room (Nat.le_of_ble_eq_true rfl)) dX10_reads_96 ⟨Nat.le_of_ble_eq_true rfl, Nat.le_of_ble_eq_true rfl⟩) hS (fun q _ h => hFc q h) hFc (fun r_41 u t H1 locs ht hvm hw hB hz1 hk1 hS => ?_)
                  subst hw
                  obtain ⟨x_42, x_43, x_44, x_45, x_46, x_47, f_48, hr_41_0, hr_41_1, hr_41_2, hr_41_3, hr_41_4, hr_41_5, hP, hK1, hD1⟩ := hB
                  rw [ht] at hP
                  have hD := hD1.weaken (fun k q _ h => hFc q.1 h)
                  clear hz1 hk1 hFc hD1 hK1 hvm
                  generalize H1 = H at hP hS ⊢
                  have rg_x_42 := i_rng x_42
                  have rg_x_43 := i_rng x_43
                  have rg_x_44 := i_rng x_44
                  have rg_x_45 := i_rng x_45
                  have rg_x_46 := i_rng x_46
                  have rg_x_47 := i_rng x_47
                  have rg_r_41 := i_rng r_41
                  have hP : va_P (dC, dI) vwCl (mW ad kc x0 x1 x2 0 i1 x_42 x_43 x_44 x_45 x_46 x10 x_47 x12 x13 x14 x15 x16 x17 x18 x19 x20 x21 f_48 f1 gt f3 f4 f5 f6 f7 f8 f9 f10 f11 f12 f13 f14 f15 f16 f17 f18 f19 f20 f21 fL fN fP fM fO) H := hP
                  have hD : va_D A (mW ad kc x0 x1 x2 0 i1 x_42 x_43 x_44 x_45 x_46 x10 x_47 x12 x13 x14 x15 x16 x17 x18 x19 x20 x21 f_48 f1 gt f3 f4 f5 f6 f7 f8 f9 f10 f11 f12 f13 f14 f15 f16 f17 f18 f19 f20 f21 fL fN fP fM fO) := hD
                  refine lv_istore_n (lv' := [(3, .int r_41), (0, .ref (ad 0)), (1, .int i1), (2, .int i2)]) hx hb dX10_reads_99 rfl hl (by decide) rfl (fun ls hl => ?_)
                  refine lv_goto (tgt := 84) hx hb dX10_reads_100 (by decide) ?_
                  exact ih84 r_41 x_42 x_43 x_44 x_45 x_46 x_47 f_48 (by first | omega | assumption | decide) hr_41_0 (v84_2.far hr_41_1) (by first | omega | assumption | decide) (by first | omega | assumption | decide) (by omega) _ _ ls hP hD hS (lv_sub hl [0, 1, 2, 3] rfl)
          have lit_48 : (1 : Int32).toInt = 1 := by decide
          have lit_49 : (0 : Int32).toInt = 0 := by decide
          have lit_50 : ((-1) : Int32).toInt = (-1) := by decide
          exact loop84 _ 1 x_10 x_11 x_12 0 (-1) x11 f_7 (by first | omega | assumption | decide) hdA hmA (by first | omega | assumption | decide) (by first | omega | assumption | decide) (Nat.lt_succ_self _) _ _ ls hP hD hS (lv_sub hl [0, 1, 2, 3] rfl)
        · have tk_8 := c_ne (a := i2.toInt) (b := 0) rfl (by decide) k_8
          refine lv_aload_n hx hb dX10_reads_62 rfl (lv_at hl 1 rfl) ?_
          refine va_get (D := (dC, dI)) (ci := 10) (v := .ref (ad 1)) (C := RX10) (T := TX10) (N := 48) hx hb hts fin_X10_readsm_X10 hown hK hP 0 rfl rfl 0 (by decide) (hts (.fieldLink RX10 8 "PatternGateModel" "all" "[I") (List.mem_of_getElem? (i := 18) (by decide +kernel))) (fun _ h9 => h9) rfl dX10_reads_63 ?_
          refine lv_iconst (v := 0) hx hb dX10_reads_66 (by decide) ?_
          refine lv_iconst (v := 0) hx hb dX10_reads_67 (by decide) ?_
          refine va_iast hx hb hK hP hD hS 1 0 rfl rfl (i := 0) (by unfold vp_in; decide +kernel) dX10_reads_68 (fun H locs hP hD hS => ?_)
          generalize hf_f_52 : upd f_7 _ _ = f_52 at hP hD
          have uf_52 := vI_up (a := 0) (b := 0) hf_f_52 (by first | omega | decide) (by omega) (by decide)
          have hP : va_P (dC, dI) vwCl (mW ad kc x0 x1 x2 0 i1 x5 x6 0 0 (-1) x10 x11 x12 x13 x14 x15 x16 x17 x18 x19 x20 x21 f_52 f1 gt f3 f4 f5 f6 f7 f8 f9 f10 f11 f12 f13 f14 f15 f16 f17 f18 f19 f20 f21 fL fN fP fM fO) H := hP
          have hD : va_D A (mW ad kc x0 x1 x2 0 i1 x5 x6 0 0 (-1) x10 x11 x12 x13 x14 x15 x16 x17 x18 x19 x20 x21 f_52 f1 gt f3 f4 f5 f6 f7 f8 f9 f10 f11 f12 f13 f14 f15 f16 f17 f18 f19 f20 f21 fL fN fP fM fO) := hD
          refine lv_aload_n hx hb dX10_reads_69 rfl (lv_at hl 1 rfl) ?_
          refine va_get (D := (dC, dI)) (ci := 10) (v := .ref (ad 1)) (C := RX10) (T := TX10) (N := 48) hx hb hts fin_X10_readsm_X10 hown hK hP 0 rfl rfl 0 (by decide) (hts (.fieldLink RX10 8 "PatternGateModel" "all" "[I") (List.mem_of_getElem? (i := 18) (by decide +kernel))) (fun _ h9 => h9) rfl dX10_reads_70 ?_
          refine lv_sipush (v := 611) hx hb dX10_reads_73 (by decide) ?_
          refine lv_iconst (v := 0) hx hb dX10_reads_76 (by decide) ?_
          refine va_iast hx hb hK hP hD hS 1 0 rfl rfl (i := 611) (by unfold vp_in; decide +kernel) dX10_reads_77 (fun H locs hP hD hS => ?_)
          generalize hf_f_53 : upd f_52 _ _ = f_53 at hP hD
          have uf_53 := vI_up (a := 611) (b := 0) hf_f_53 (by first | omega | decide) (by omega) (by decide)
          have hP : va_P (dC, dI) vwCl (mW ad kc x0 x1 x2 0 i1 x5 x6 0 0 (-1) x10 x11 x12 x13 x14 x15 x16 x17 x18 x19 x20 x21 f_53 f1 gt f3 f4 f5 f6 f7 f8 f9 f10 f11 f12 f13 f14 f15 f16 f17 f18 f19 f20 f21 fL fN fP fM fO) H := hP
          have hD : va_D A (mW ad kc x0 x1 x2 0 i1 x5 x6 0 0 (-1) x10 x11 x12 x13 x14 x15 x16 x17 x18 x19 x20 x21 f_53 f1 gt f3 f4 f5 f6 f7 f8 f9 f10 f11 f12 f13 f14 f15 f16 f17 f18 f19 f20 f21 fL fN fP fM fO) := hD
          have hdA := hd9.anew (show U1 _ _ 0 0 from uf_52) (show U1 _ _ 611 0 from uf_53)
          have hmA := hm9.far (fun z hz => (uf_53.2 z (by omega) (by omega)).trans (uf_52.2 z (by omega) (by omega)))
          refine lv_aload_n hx hb dX10_reads_78 rfl (lv_at hl 1 rfl) ?_
          have hFc := m_free hD hS hA
          refine va_callv (va_runV (As := []) (rest := []) ⟨hx, hb, hml, hown, hts⟩ (m_ahead l dC dI ad kc x0 x1 x2 0 i1 x5 x6 0 0 (-1) x10 x11 x12 x13 x14 x15 x16 x17 x18 x19 x20 x21 f_53 f1 gt f3 f4 f5 f6 f7 f8 f9 f10 f11 f12 f13 f14 f15 f16 f17 f18 f19 f20 f21 fL fN fP fM fO H.size (by first | omega | assumption | decide | (have l0 := Int32.toInt_zero; omega)) (by first | omega | assumption | decide | (have l0 := Int32.toInt_zero; omega)) (by first | omega | assumption | decide | (have l0 := Int32.toInt_zero; omega))) (cwV 0 hts mg_X10_readsm_X10_ahead_184 rfl rfl rfl (by decide +kernel) ⟨Nat.le_of_ble_eq_true rfl, Nat.le_of_ble_eq_true rfl⟩) ⟨fun a U g mk q => by obtain ⟨q0, q1, qP, qK, qD⟩ := q; exact ⟨q0, q1, qP, va_K.moved (u := U) (U := U.calling g mk a) (Vm.Alike.refl U.vm) qK, qD⟩, va_recv hK hP (ci := 10) (q0 := 0) rfl rfl, fun U hU hW => ⟨rfl, by rw [hU], by rw [hU]; exact hP, va_K.moved hW.alike hK, hD.weaken (fun _ _ _ _ => trivial)⟩⟩ rfl rfl hl.1 rfl (lv_room (Nat.le_of_ble_eq_true rfl)) dX10_reads_79 ⟨Nat.le_of_ble_eq_true rfl, Nat.le_of_ble_eq_true rfl⟩) hS (fun q _ h => hFc q h) hFc (fun u t H1 locs ht hvm hw hB hz1 hk1 hS => ?_)
          obtain ⟨x_55, x_56, x_57, hr_54_0, hr_54_1, hr_54_2, hr_54_3, hr_54_4, hP, hK1, hD1⟩ := hB
          rw [ht] at hP
          have hD := hD1.weaken (fun k q _ h => hFc q.1 h)
          clear hz1 hk1 hFc hD1 hK1 hvm
          generalize H1 = H at hP hS ⊢
          have rg_x_55 := i_rng x_55
          have rg_x_56 := i_rng x_56
          have rg_x_57 := i_rng x_57
          have hP : va_P (dC, dI) vwCl (mW ad kc x0 x1 x2 0 i1 x_55 x_56 x_57 0 (-1) x10 x11 x12 x13 x14 x15 x16 x17 x18 x19 x20 x21 f_53 f1 gt f3 f4 f5 f6 f7 f8 f9 f10 f11 f12 f13 f14 f15 f16 f17 f18 f19 f20 f21 fL fN fP fM fO) H := hP
          have hD : va_D A (mW ad kc x0 x1 x2 0 i1 x_55 x_56 x_57 0 (-1) x10 x11 x12 x13 x14 x15 x16 x17 x18 x19 x20 x21 f_53 f1 gt f3 f4 f5 f6 f7 f8 f9 f10 f11 f12 f13 f14 f15 f16 f17 f18 f19 f20 f21 fL fN fP fM fO) := hD
          refine lv_iconst (v := 1) hx hb dX10_reads_82 (by decide) ?_
          refine lv_istore_n (lv' := [(3, .int 1), (0, .ref (ad 0)), (1, .int i1), (2, .int i2)]) hx hb dX10_reads_83 rfl hl (by decide) rfl (fun ls hl => ?_)
          have loop84 : ∀ (lm84 : Nat) (go to be en fa fp sp : Int32) (ga : Nat → Int32), (go.toInt = 0 ∨ go.toInt = 1) → (OKd ga 0) → (mC x1.toInt x2.toInt ga) → (0 ≤ be.toInt ∧ be.toInt ≤ en.toInt) → (en.toInt ≤ i1.toInt) → ((if go.toInt = 0 then 0 else (i1.toInt + 1 - en.toInt)).toNat) < lm84 → ∀ (H : Heap) (locs : List Loc) (ls : Array Slot), va_P (dC, dI) vwCl (mW ad kc x0 x1 x2 0 i1 to be en fa fp x10 sp x12 x13 x14 x15 x16 x17 x18 x19 x20 x21 ga f1 gt f3 f4 f5 f6 f7 f8 f9 f10 f11 f12 f13 f14 f15 f16 f17 f18 f19 f20 f21 fL fN fP fM fO) H → va_D A (mW ad kc x0 x1 x2 0 i1 to be en fa fp x10 sp x12 x13 x14 x15 x16 x17 x18 x19 x20 x21 ga f1 gt f3 f4 f5 f6 f7 f8 f9 f10 f11 f12 f13 f14 f15 f16 f17 f18 f19 f20 f21 fL fN fP fM fO) → va_S A s.heap H locs → lv_has ls 4 [(3, .int go), (0, .ref (ad 0)), (1, .int i1), (2, .int i2)] → W p l e (headSpec mwX10_readsm ({ frames := 23, cells := 0, slots := 0, locals := 1380 })).room s m ([.ref (ad 0), .int i1, .int i2]).toArray below meth c H locs 0 0 (MQ below (va_Qi (fun (o9 u9 : Int32) => o9 = u9) (fun (o9 : Int32) t => ∃ (y3 y4 y5 y6 y7 y8 y9 y10 y11 : Int32) (g0 g2 : Nat → Int32), (OKd g0 0) ∧ (mC x1.toInt x2.toInt g0) ∧ (y3.toInt = 0) ∧ (o9.toInt = 0 ∨ o9.toInt = 1) ∧ va_P (dC, dI) vwCl (mW ad kc x0 x1 x2 y3 y4 y5 y6 y7 y8 y9 y10 y11 x12 x13 x14 x15 x16 x17 x18 x19 x20 x21 g0 f1 g2 f3 f4 f5 f6 f7 f8 f9 f10 f11 f12 f13 f14 f15 f16 f17 f18 f19 f20 f21 fL fN fP fM fO) t.heap ∧ va_K (dC, dI) vwCl (mT kc) t ∧ va_D A (mW ad kc x0 x1 x2 y3 y4 y5 y6 y7 y8 y9 y10 y11 x12 x13 x14 x15 x16 x17 x18 x19 x20 x21 g0 f1 g2 f3 f4 f5 f6 f7 f8 f9 f10 f11 f12 f13 f14 f15 f16 f17 f18 f19 f20 f21 fL fN fP fM fO)) A) ([.ref (ad 0), .int i1, .int i2]).toArray s 0 0 A) (F0 m 84 ls []) := by
            intro lm84
            induction lm84 with
            | zero => intro go to be en fa fp sp ga v84_0 v84_1 v84_2 v84_3 v84_4 hm84; exact absurd hm84 (Nat.not_lt_zero _)
            | succ lm84 ih84 =>
              intro go to be en fa fp sp ga v84_0 v84_1 v84_2 v84_3 v84_4 hm84 H locs ls hP hD hS hl
              have rg_go := i_rng go
              have rg_to := i_rng to
              have rg_be := i_rng be
              have rg_en := i_rng en
              have rg_fa := i_rng fa
              have rg_fp := i_rng fp
              have rg_sp := i_rng sp
              refine lv_iload_n hx hb dX10_reads_84 rfl (lv_at hl 0 rfl) ?_
              refine lv_if_eq (tgt := 103) hx hb dX10_reads_85 (by decide) (fun k_58 => ?_) (fun k_58 => ?_)
              · have tk_58 := c_eq (a := go.toInt) (b := 0) rfl (by decide) k_58
                refine lv_aload_n hx hb dX10_reads_103 rfl (lv_at hl 1 rfl) ?_
                refine lv_aload_n hx hb dX10_reads_104 rfl (lv_at hl 1 rfl) ?_
                refine va_get (D := (dC, dI)) (ci := 10) (v := .int fa) (C := RX10) (T := TX10) (N := 48) hx hb hts fin_X10_readsm_X10 hown hK hP 0 rfl rfl 11 (by decide) (hts (.fieldLink RX10 117 "PatternGateModel" "faults" "I") (List.mem_of_getElem? (i := 3) (by decide +kernel))) (fun _ h9 => h9) rfl dX10_reads_105 ?_
                refine va_put (D := (dC, dI)) (ci := 10) (v := .int fa) (ty := .int) (C := RX10) (T := TX10) (N := 48) hx hb hts fin_X10_readsm_X10 tyX10 tyX10_ok nmX10 hown hK hP hD hS 0 rfl rfl 13 (by decide) (hts (.fieldLink RX10 25 "PatternGateModel" "faultKind" "I") (List.mem_of_getElem? (i := 13) (by decide +kernel))) (fun _ h9 => h9) rfl (by decide +kernel) rfl rfl (Nat.le_of_ble_eq_true rfl) dX10_reads_108 (fun H locs hP hD hS => ?_)
                have hP : va_P (dC, dI) vwCl (mW ad kc x0 x1 x2 0 i1 to be en fa fp fa sp x12 x13 x14 x15 x16 x17 x18 x19 x20 x21 ga f1 gt f3 f4 f5 f6 f7 f8 f9 f10 f11 f12 f13 f14 f15 f16 f17 f18 f19 f20 f21 fL fN fP fM fO) H := hP
                have hD : va_D A (mW ad kc x0 x1 x2 0 i1 to be en fa fp fa sp x12 x13 x14 x15 x16 x17 x18 x19 x20 x21 ga f1 gt f3 f4 f5 f6 f7 f8 f9 f10 f11 f12 f13 f14 f15 f16 f17 f18 f19 f20 f21 fL fN fP fM fO) := hD
                refine lv_aload_n hx hb dX10_reads_111 rfl (lv_at hl 1 rfl) ?_
                refine va_get (D := (dC, dI)) (ci := 10) (v := .int fa) (C := RX10) (T := TX10) (N := 48) hx hb hts fin_X10_readsm_X10 hown hK hP 0 rfl rfl 11 (by decide) (hts (.fieldLink RX10 117 "PatternGateModel" "faults" "I") (List.mem_of_getElem? (i := 3) (by decide +kernel))) (fun _ h9 => h9) rfl dX10_reads_112 ?_
                refine lv_if_le (tgt := 126) hx hb dX10_reads_115 (by decide) (fun k_59 => ?_) (fun k_59 => ?_)
                · have tk_59 := c_le (a := fa.toInt) (b := 0) rfl (by decide) k_59
                  refine lv_aload_n hx hb dX10_reads_126 rfl (lv_at hl 1 rfl) ?_
                  refine va_get (D := (dC, dI)) (ci := 10) (v := .int fa) (C := RX10) (T := TX10) (N := 48) hx hb hts fin_X10_readsm_X10 hown hK hP 0 rfl rfl 11 (by decide) (hts (.fieldLink RX10 117 "PatternGateModel" "faults" "I") (List.mem_of_getElem? (i := 3) (by decide +kernel))) (fun _ h9 => h9) rfl dX10_reads_127 ?_
                  refine lv_if_ne (tgt := 137) hx hb dX10_reads_130 (by decide) (fun k_60 => ?_) (fun k_60 => ?_)
                  · have tk_60 := c_ne (a := fa.toInt) (b := 0) rfl (by decide) k_60
                    refine lv_iconst (v := 0) hx hb dX10_reads_137 (by decide) ?_
                    have lit_60 : (0 : Int32).toInt = 0 := by decide
                    have lit_61 : (0 : Int32).toInt = 0 := by decide
                    exact W.zret hx hb hr (z_nar (by first | assumption | decide | exact z_of (by omega))) (fun t ht hW => ⟨⟨_, _, rfl, rfl, 0, i1, to, be, en, fa, fp, fa, sp, ga, gt, v84_1, v84_2, (by first | omega | assumption | rfl | decide), (by first | omega | assumption | rfl | decide), by rw [ht]; exact hP, va_K.moved hW.alike hK, hD⟩, hS.F ht⟩) hS.2.2 dX10_reads_138
                  · have tk_60 := c_eq (a := fa.toInt) (b := 0) rfl (by decide) k_60
                    refine lv_iconst (v := 1) hx hb dX10_reads_133 (by decide) ?_
                    refine lv_goto (tgt := 138) hx hb dX10_reads_134 (by decide) ?_
                    have lit_62 : (1 : Int32).toInt = 1 := by decide
                    have lit_63 : (0 : Int32).toInt = 0 := by decide
                    exact W.zret hx hb hr (z_nar (by first | assumption | decide | exact z_of (by omega))) (fun t ht hW => ⟨⟨_, _, rfl, rfl, 0, i1, to, be, en, fa, fp, fa, sp, ga, gt, v84_1, v84_2, (by first | omega | assumption | rfl | decide), (by first | omega | assumption | rfl | decide), by rw [ht]; exact hP, va_K.moved hW.alike hK, hD⟩, hS.F ht⟩) hS.2.2 dX10_reads_138
                · have tk_59 := c_nle (a := fa.toInt) (b := 0) rfl (by decide) k_59
                  refine lv_aload_n hx hb dX10_reads_118 rfl (lv_at hl 1 rfl) ?_
                  refine lv_sipush (v := 7820) hx hb dX10_reads_119 (by decide) ?_
                  refine lv_iconst (v := 0) hx hb dX10_reads_122 (by decide) ?_
                  have hFc := m_free hD hS hA
                  refine va_callv (va_runV (As := [.int 7820, .int 0]) (rest := []) ⟨hx, hb, hml, hown, hts⟩ (m_copies l dC dI ad kc x0 x1 x2 0 i1 to be en fa fp fa sp x12 x13 x14 x15 x16 x17 x18 x19 x20 x21 ga f1 gt f3 f4 f5 f6 f7 f8 f9 f10 f11 f12 f13 f14 f15 f16 f17 f18 f19 f20 f21 fL fN fP fM fO H.size 7820 0 (by first | omega | assumption | decide | (have l0 := Int32.toInt_zero; omega)) (by first | omega | assumption | decide | (have l0 := Int32.toInt_zero; omega)) (by first | omega | assumption | decide | (have l0 := Int32.toInt_zero; omega)) (by first | omega | assumption | decide | (have l0 := Int32.toInt_zero; omega)) (by first | omega | assumption | decide | (have l0 := Int32.toInt_zero; omega))) (cwV 2 hts mg_X10_readsm_X10_copies_193 rfl rfl rfl (by decide +kernel) ⟨Nat.le_of_ble_eq_true rfl, Nat.le_of_ble_eq_true rfl⟩) ⟨fun a U g mk q => by obtain ⟨q0, q1, qP, qK, qD⟩ := q; exact ⟨q0, q1, qP, va_K.moved (u := U) (U := U.calling g mk a) (Vm.Alike.refl U.vm) qK, qD⟩, va_recv hK hP (ci := 10) (q0 := 0) rfl rfl, fun U hU hW => ⟨rfl, by rw [hU], by rw [hU]; exact hP, va_K.moved hW.alike hK, hD.weaken (fun _ _ _ _ => trivial)⟩⟩ rfl rfl hl.1 rfl (lv_room (Nat.le_of_ble_eq_true rfl)) dX10_reads_123 ⟨Nat.le_of_ble_eq_true rfl, Nat.le_of_ble_eq_true rfl⟩) hS (fun q _ h => hFc q h) hFc (fun u t H1 locs ht hvm hw hB hz1 hk1 hS => ?_)
                  obtain ⟨f_66, hr_65_0, hP, hK1, hD1⟩ := hB
                  rw [ht] at hP
                  have hD := hD1.weaken (fun k q _ h => hFc q.1 h)
                  clear hz1 hk1 hFc hD1 hK1 hvm
                  generalize H1 = H at hP hS ⊢
                  have hP : va_P (dC, dI) vwCl (mW ad kc x0 x1 x2 0 i1 to be en fa fp fa sp x12 x13 x14 x15 x16 x17 x18 x19 x20 x21 f_66 f1 gt f3 f4 f5 f6 f7 f8 f9 f10 f11 f12 f13 f14 f15 f16 f17 f18 f19 f20 f21 fL fN fP fM fO) H := hP
                  have hD : va_D A (mW ad kc x0 x1 x2 0 i1 to be en fa fp fa sp x12 x13 x14 x15 x16 x17 x18 x19 x20 x21 f_66 f1 gt f3 f4 f5 f6 f7 f8 f9 f10 f11 f12 f13 f14 f15 f16 f17 f18 f19 f20 f21 fL fN fP fM fO) := hD
                  have hc8 : CP ga f_66 7820 0 := by have h9 := hr_65_0; rw [(show (7820 : Int32).toInt = 7820 by decide), (show (0 : Int32).toInt = 0 by decide)] at h9; exact h9
                  have hdZ := hc8.there (by omega) v84_2.1
                  have hmZ : mC x1.toInt x2.toInt f_66 := ⟨hc8.else_ (by omega) (by omega) v84_2.1, fun j a1 a2 => hc8.else_ (by omega) (by omega) (v84_2.2.1 j a1 a2), fun j a1 a2 => hc8.else_ (by omega) (by omega) (v84_2.2.2 j a1 a2)⟩
                  refine lv_aload_n hx hb dX10_reads_126 rfl (lv_at hl 1 rfl) ?_
                  refine va_get (D := (dC, dI)) (ci := 10) (v := .int fa) (C := RX10) (T := TX10) (N := 48) hx hb hts fin_X10_readsm_X10 hown hK hP 0 rfl rfl 11 (by decide) (hts (.fieldLink RX10 117 "PatternGateModel" "faults" "I") (List.mem_of_getElem? (i := 3) (by decide +kernel))) (fun _ h9 => h9) rfl dX10_reads_127 ?_
                  refine lv_if_ne (tgt := 137) hx hb dX10_reads_130 (by decide) (fun k_67 => ?_) (fun k_67 => ?_)
                  · have tk_67 := c_ne (a := fa.toInt) (b := 0) rfl (by decide) k_67
                    refine lv_iconst (v := 0) hx hb dX10_reads_137 (by decide) ?_
                    have lit_67 : (0 : Int32).toInt = 0 := by decide
                    have lit_68 : (0 : Int32).toInt = 0 := by decide
                    exact W.zret hx hb hr (z_nar (by first | assumption | decide | exact z_of (by omega))) (fun t ht hW => ⟨⟨_, _, rfl, rfl, 0, i1, to, be, en, fa, fp, fa, sp, f_66, gt, hdZ, hmZ, (by first | omega | assumption | rfl | decide), (by first | omega | assumption | rfl | decide), by rw [ht]; exact hP, va_K.moved hW.alike hK, hD⟩, hS.F ht⟩) hS.2.2 dX10_reads_138
                  · have tk_67 := c_eq (a := fa.toInt) (b := 0) rfl (by decide) k_67
                    refine lv_iconst (v := 1) hx hb dX10_reads_133 (by decide) ?_
                    refine lv_goto (tgt := 138) hx hb dX10_reads_134 (by decide) ?_
                    have lit_69 : (1 : Int32).toInt = 1 := by decide
                    have lit_70 : (0 : Int32).toInt = 0 := by decide
                    exact W.zret hx hb hr (z_nar (by first | assumption | decide | exact z_of (by omega))) (fun t ht hW => ⟨⟨_, _, rfl, rfl, 0, i1, to, be, en, fa, fp, fa, sp, f_66, gt, hdZ, hmZ, (by first | omega | assumption | rfl | decide), (by first | omega | assumption | rfl | decide), by rw [ht]; exact hP, va_K.moved hW.alike hK, hD⟩, hS.F ht⟩) hS.2.2 dX10_reads_138
              · have tk_58 := c_ne (a := go.toInt) (b := 0) rfl (by decide) k_58
                refine lv_aload_n hx hb dX10_reads_88 rfl (lv_at hl 1 rfl) ?_
                refine va_get (D := (dC, dI)) (ci := 10) (v := .int to) (C := RX10) (T := TX10) (N := 48) hx hb hts fin_X10_readsm_X10 hown hK hP 0 rfl rfl 8 (by decide) (hts (.fieldLink RX10 120 "PatternGateModel" "token" "I") (List.mem_of_getElem? (i := 14) (by decide +kernel))) (fun _ h9 => h9) rfl dX10_reads_89 ?_
                refine lv_if_eq (tgt := 103) hx hb dX10_reads_92 (by decide) (fun k_72 => ?_) (fun k_72 => ?_)
                · have tk_72 := c_eq (a := to.toInt) (b := 0) rfl (by decide) k_72
                  refine lv_aload_n hx hb dX10_reads_103 rfl (lv_at hl 1 rfl) ?_
                  refine lv_aload_n hx hb dX10_reads_104 rfl (lv_at hl 1 rfl) ?_
                  refine va_get (D := (dC, dI)) (ci := 10) (v := .int fa) (C := RX10) (T := TX10) (N := 48) hx hb hts fin_X10_readsm_X10 hown hK hP 0 rfl rfl 11 (by decide) (hts (.fieldLink RX10 117 "PatternGateModel" "faults" "I") (List.mem_of_getElem? (i := 3) (by decide +kernel))) (fun _ h9 => h9) rfl dX10_reads_105 ?_
                  refine va_put (D := (dC, dI)) (ci := 10) (v := .int fa) (ty := .int) (C := RX10) (T := TX10) (N := 48) hx hb hts fin_X10_readsm_X10 tyX10 tyX10_ok nmX10 hown hK hP hD hS 0 rfl rfl 13 (by decide) (hts (.fieldLink RX10 25 "PatternGateModel" "faultKind" "I") (List.mem_of_getElem? (i := 13) (by decide +kernel))) (fun _ h9 => h9) rfl (by decide +kernel) rfl rfl (Nat.le_of_ble_eq_true rfl) dX10_reads_108 (fun H locs hP hD hS => ?_)
                  have hP : va_P (dC, dI) vwCl (mW ad kc x0 x1 x2 0 i1 to be en fa fp fa sp x12 x13 x14 x15 x16 x17 x18 x19 x20 x21 ga f1 gt f3 f4 f5 f6 f7 f8 f9 f10 f11 f12 f13 f14 f15 f16 f17 f18 f19 f20 f21 fL fN fP fM fO) H := hP
                  have hD : va_D A (mW ad kc x0 x1 x2 0 i1 to be en fa fp fa sp x12 x13 x14 x15 x16 x17 x18 x19 x20 x21 ga f1 gt f3 f4 f5 f6 f7 f8 f9 f10 f11 f12 f13 f14 f15 f16 f17 f18 f19 f20 f21 fL fN fP fM fO) := hD
                  refine lv_aload_n hx hb dX10_reads_111 rfl (lv_at hl 1 rfl) ?_
                  refine va_get (D := (dC, dI)) (ci := 10) (v := .int fa) (C := RX10) (T := TX10) (N := 48) hx hb hts fin_X10_readsm_X10 hown hK hP 0 rfl rfl 11 (by decide) (hts (.fieldLink RX10 117 "PatternGateModel" "faults" "I") (List.mem_of_getElem? (i := 3) (by decide +kernel))) (fun _ h9 => h9) rfl dX10_reads_112 ?_
                  refine lv_if_le (tgt := 126) hx hb dX10_reads_115 (by decide) (fun k_73 => ?_) (fun k_73 => ?_)
                  · have tk_73 := c_le (a := fa.toInt) (b := 0) rfl (by decide) k_73
                    refine lv_aload_n hx hb dX10_reads_126 rfl (lv_at hl 1 rfl) ?_
                    refine va_get (D := (dC, dI)) (ci := 10) (v := .int fa) (C := RX10) (T := TX10) (N := 48) hx hb hts fin_X10_readsm_X10 hown hK hP 0 rfl rfl 11 (by decide) (hts (.fieldLink RX10 117 "PatternGateModel" "faults" "I") (List.mem_of_getElem? (i := 3) (by decide +kernel))) (fun _ h9 => h9) rfl dX10_reads_127 ?_
                    refine lv_if_ne (tgt := 137) hx hb dX10_reads_130 (by decide) (fun k_74 => ?_) (fun k_74 => ?_)
                    · have tk_74 := c_ne (a := fa.toInt) (b := 0) rfl (by decide) k_74
                      refine lv_iconst (v := 0) hx hb dX10_reads_137 (by decide) ?_
                      have lit_74 : (0 : Int32).toInt = 0 := by decide
                      have lit_75 : (0 : Int32).toInt = 0 := by decide
                      exact W.zret hx hb hr (z_nar (by first | assumption | decide | exact z_of (by omega))) (fun t ht hW => ⟨⟨_, _, rfl, rfl, 0, i1, to, be, en, fa, fp, fa, sp, ga, gt, v84_1, v84_2, (by first | omega | assumption | rfl | decide), (by first | omega | assumption | rfl | decide), by rw [ht]; exact hP, va_K.moved hW.alike hK, hD⟩, hS.F ht⟩) hS.2.2 dX10_reads_138
                    · have tk_74 := c_eq (a := fa.toInt) (b := 0) rfl (by decide) k_74
                      refine lv_iconst (v := 1) hx hb dX10_reads_133 (by decide) ?_
                      refine lv_goto (tgt := 138) hx hb dX10_reads_134 (by decide) ?_
                      have lit_76 : (1 : Int32).toInt = 1 := by decide
                      have lit_77 : (0 : Int32).toInt = 0 := by decide
                      exact W.zret hx hb hr (z_nar (by first | assumption | decide | exact z_of (by omega))) (fun t ht hW => ⟨⟨_, _, rfl, rfl, 0, i1, to, be, en, fa, fp, fa, sp, ga, gt, v84_1, v84_2, (by first | omega | assumption | rfl | decide), (by first | omega | assumption | rfl | decide), by rw [ht]; exact hP, va_K.moved hW.alike hK, hD⟩, hS.F ht⟩) hS.2.2 dX10_reads_138
                  · have tk_73 := c_nle (a := fa.toInt) (b := 0) rfl (by decide) k_73
                    refine lv_aload_n hx hb dX10_reads_118 rfl (lv_at hl 1 rfl) ?_
                    refine lv_sipush (v := 7820) hx hb dX10_reads_119 (by decide) ?_
                    refine lv_iconst (v := 0) hx hb dX10_reads_122 (by decide) ?_
                    have hFc := m_free hD hS hA
                    refine va_callv (va_runV (As := [.int 7820, .int 0]) (rest := []) ⟨hx, hb, hml, hown, hts⟩ (m_copies l dC dI ad kc x0 x1 x2 0 i1 to be en fa fp fa sp x12 x13 x14 x15 x16 x17 x18 x19 x20 x21 ga f1 gt f3 f4 f5 f6 f7 f8 f9 f10 f11 f12 f13 f14 f15 f16 f17 f18 f19 f20 f21 fL fN fP fM fO H.size 7820 0 (by first | omega | assumption | decide | (have l0 := Int32.toInt_zero; omega)) (by first | omega | assumption | decide | (have l0 := Int32.toInt_zero; omega)) (by first | omega | assumption | decide | (have l0 := Int32.toInt_zero; omega)) (by first | omega | assumption | decide | (have l0 := Int32.toInt_zero; omega)) (by first | omega | assumption | decide | (have l0 := Int32.toInt_zero; omega))) (cwV 2 hts mg_X10_readsm_X10_copies_193 rfl rfl rfl (by decide +kernel) ⟨Nat.le_of_ble_eq_true rfl, Nat.le_of_ble_eq_true rfl⟩) ⟨fun a U g mk q => by obtain ⟨q0, q1, qP, qK, qD⟩ := q; exact ⟨q0, q1, qP, va_K.moved (u := U) (U := U.calling g mk a) (Vm.Alike.refl U.vm) qK, qD⟩, va_recv hK hP (ci := 10) (q0 := 0) rfl rfl, fun U hU hW => ⟨rfl, by rw [hU], by rw [hU]; exact hP, va_K.moved hW.alike hK, hD.weaken (fun _ _ _ _ => trivial)⟩⟩ rfl rfl hl.1 rfl (lv_room (Nat.le_of_ble_eq_true rfl)) dX10_reads_123 ⟨Nat.le_of_ble_eq_true rfl, Nat.le_of_ble_eq_true rfl⟩) hS (fun q _ h => hFc q h) hFc (fun u t H1 locs ht hvm hw hB hz1 hk1 hS => ?_)
                    obtain ⟨f_80, hr_79_0, hP, hK1, hD1⟩ := hB
                    rw [ht] at hP
                    have hD := hD1.weaken (fun k q _ h => hFc q.1 h)
                    clear hz1 hk1 hFc hD1 hK1 hvm
                    generalize H1 = H at hP hS ⊢
                    have hP : va_P (dC, dI) vwCl (mW ad kc x0 x1 x2 0 i1 to be en fa fp fa sp x12 x13 x14 x15 x16 x17 x18 x19 x20 x21 f_80 f1 gt f3 f4 f5 f6 f7 f8 f9 f10 f11 f12 f13 f14 f15 f16 f17 f18 f19 f20 f21 fL fN fP fM fO) H := hP
                    have hD : va_D A (mW ad kc x0 x1 x2 0 i1 to be en fa fp fa sp x12 x13 x14 x15 x16 x17 x18 x19 x20 x21 f_80 f1 gt f3 f4 f5 f6 f7 f8 f9 f10 f11 f12 f13 f14 f15 f16 f17 f18 f19 f20 f21 fL fN fP fM fO) := hD
                    have hc8 : CP ga f_80 7820 0 := by have h9 := hr_79_0; rw [(show (7820 : Int32).toInt = 7820 by decide), (show (0 : Int32).toInt = 0 by decide)] at h9; exact h9
                    have hdZ := hc8.there (by omega) v84_2.1
                    have hmZ : mC x1.toInt x2.toInt f_80 := ⟨hc8.else_ (by omega) (by omega) v84_2.1, fun j a1 a2 => hc8.else_ (by omega) (by omega) (v84_2.2.1 j a1 a2), fun j a1 a2 => hc8.else_ (by omega) (by omega) (v84_2.2.2 j a1 a2)⟩
                    refine lv_aload_n hx hb dX10_reads_126 rfl (lv_at hl 1 rfl) ?_
                    refine va_get (D := (dC, dI)) (ci := 10) (v := .int fa) (C := RX10) (T := TX10) (N := 48) hx hb hts fin_X10_readsm_X10 hown hK hP 0 rfl rfl 11 (by decide) (hts (.fieldLink RX10 117 "PatternGateModel" "faults" "I") (List.mem_of_getElem? (i := 3) (by decide +kernel))) (fun _ h9 => h9) rfl dX10_reads_127 ?_
                    refine lv_if_ne (tgt := 137) hx hb dX10_reads_130 (by decide) (fun k_81 => ?_) (fun k_81 => ?_)
                    · have tk_81 := c_ne (a := fa.toInt) (b := 0) rfl (by decide) k_81
                      refine lv_iconst (v := 0) hx hb dX10_reads_137 (by decide) ?_
                      have lit_81 : (0 : Int32).toInt = 0 := by decide
                      have lit_82 : (0 : Int32).toInt = 0 := by decide
                      exact W.zret hx hb hr (z_nar (by first | assumption | decide | exact z_of (by omega))) (fun t ht hW => ⟨⟨_, _, rfl, rfl, 0, i1, to, be, en, fa, fp, fa, sp, f_80, gt, hdZ, hmZ, (by first | omega | assumption | rfl | decide), (by first | omega | assumption | rfl | decide), by rw [ht]; exact hP, va_K.moved hW.alike hK, hD⟩, hS.F ht⟩) hS.2.2 dX10_reads_138
                    · have tk_81 := c_eq (a := fa.toInt) (b := 0) rfl (by decide) k_81
                      refine lv_iconst (v := 1) hx hb dX10_reads_133 (by decide) ?_
                      refine lv_goto (tgt := 138) hx hb dX10_reads_134 (by decide) ?_
                      have lit_83 : (1 : Int32).toInt = 1 := by decide
                      have lit_84 : (0 : Int32).toInt = 0 := by decide
                      exact W.zret hx hb hr (z_nar (by first | assumption | decide | exact z_of (by omega))) (fun t ht hW => ⟨⟨_, _, rfl, rfl, 0, i1, to, be, en, fa, fp, fa, sp, f_80, gt, hdZ, hmZ, (by first | omega | assumption | rfl | decide), (by first | omega | assumption | rfl | decide), by rw [ht]; exact hP, va_K.moved hW.alike hK, hD⟩, hS.F ht⟩) hS.2.2 dX10_reads_138
                · have tk_72 := c_ne (a := to.toInt) (b := 0) rfl (by decide) k_72
                  refine lv_aload_n hx hb dX10_reads_95 rfl (lv_at hl 1 rfl) ?_
                  have hFc := m_free hD hS hA
                  refine va_calli (va_runV (As := []) (rest := []) ⟨hx, hb, hml, hown, hts⟩ (m_aLine l dC dI ad kc x0 x1 x2 0 i1 to be en fa fp x10 sp x12 x13 x14 x15 x16 x17 x18 x19 x20 x21 ga f1 gt f3 f4 f5 f6 f7 f8 f9 f10 f11 f12 f13 f14 f15 f16 f17 f18 f19 f20 f21 fL fN fP fM fO H.size (by first | omega | assumption | decide | (have l0 := Int32.toInt_zero; omega)) (by first | omega | assumption | decide | (have l0 := Int32.toInt_zero; omega)) (by first | omega | assumption | decide | (have l0 := Int32.toInt_zero; omega))) (cwV 0 hts mg_X10_readsm_X10_aLine_197 rfl rfl rfl (by decide +kernel) ⟨Nat.le_of_ble_eq_true rfl, Nat.le_of_ble_eq_true rfl⟩) ⟨fun a U g mk q => by obtain ⟨q0, q1, qP, qK, qD, qE0⟩ := q; exact ⟨q0, q1, qP, va_K.moved (u := U) (U := U.calling g mk a) (Vm.Alike.refl U.vm) qK, qD, sW.call qE0⟩, va_recv hK hP (ci := 10) (q0 := 0) rfl rfl, fun U hU hW => ⟨rfl, by rw [hU], by rw [hU]; exact hP, va_K.moved hW.alike hK, hD.weaken (fun _ _ _ _ => trivial), sW.to hSW hS hFc hW hU⟩⟩ rfl rfl hl.1 rfl (lv_room (Nat.le_of_ble_eq_true rfl)) dX10_reads_96 ⟨Nat.le_of_ble_eq_true rfl, Nat.le_of_ble_eq_true rfl⟩) hS (fun q _ h => hFc q h) hFc (fun r_86 u t H1 locs ht hvm hw hB hz1 hk1 hS => ?_)
                  subst hw
                  obtain ⟨x_87, x_88, x_89, x_90, x_91, x_92, f_93, hr_86_0, hr_86_1, hr_86_2, hr_86_3, hr_86_4, hr_86_5, hP, hK1, hD1⟩ := hB
                  rw [ht] at hP
                  have hD := hD1.weaken (fun k q _ h => hFc q.1 h)
                  clear hz1 hk1 hFc hD1 hK1 hvm
                  generalize H1 = H at hP hS ⊢
                  have rg_x_87 := i_rng x_87
                  have rg_x_88 := i_rng x_88
                  have rg_x_89 := i_rng x_89
                  have rg_x_90 := i_rng x_90
                  have rg_x_91 := i_rng x_91
                  have rg_x_92 := i_rng x_92
                  have rg_r_86 := i_rng r_86
                  have hP : va_P (dC, dI) vwCl (mW ad kc x0 x1 x2 0 i1 x_87 x_88 x_89 x_90 x_91 x10 x_92 x12 x13 x14 x15 x16 x17 x18 x19 x20 x21 f_93 f1 gt f3 f4 f5 f6 f7 f8 f9 f10 f11 f12 f13 f14 f15 f16 f17 f18 f19 f20 f21 fL fN fP fM fO) H := hP
                  have hD : va_D A (mW ad kc x0 x1 x2 0 i1 x_87 x_88 x_89 x_90 x_91 x10 x_92 x12 x13 x14 x15 x16 x17 x18 x19 x20 x21 f_93 f1 gt f3 f4 f5 f6 f7 f8 f9 f10 f11 f12 f13 f14 f15 f16 f17 f18 f19 f20 f21 fL fN fP fM fO) := hD
                  refine lv_istore_n (lv' := [(3, .int r_86), (0, .ref (ad 0)), (1, .int i1), (2, .int i2)]) hx hb dX10_reads_99 rfl hl (by decide) rfl (fun ls hl => ?_)
                  refine lv_goto (tgt := 84) hx hb dX10_reads_100 (by decide) ?_
                  exact ih84 r_86 x_87 x_88 x_89 x_90 x_91 x_92 f_93 (by first | omega | assumption | decide) hr_86_0 (v84_2.far hr_86_1) (by first | omega | assumption | decide) (by first | omega | assumption | decide) (by omega) _ _ ls hP hD hS (lv_sub hl [0, 1, 2, 3] rfl)
          have lit_93 : (1 : Int32).toInt = 1 := by decide
          have lit_94 : (0 : Int32).toInt = 0 := by decide
          have lit_95 : ((-1) : Int32).toInt = (-1) := by decide
          exact loop84 _ 1 x_55 x_56 x_57 0 (-1) x11 f_53 (by first | omega | assumption | decide) hdA hmA (by first | omega | assumption | decide) (by first | omega | assumption | decide) (Nat.lt_succ_self _) _ _ ls hP hD hS (lv_sub hl [0, 1, 2, 3] rfl)
      · have tk_1 := c_nge (a := kk.toInt) (b := i1.toInt) rfl rfl k_1
        refine lv_aload_n hx hb dX10_reads_12 rfl (lv_at hl 1 rfl) ?_
        refine va_get (D := (dC, dI)) (ci := 10) (v := .ref (ad 3)) (C := RX10) (T := TX10) (N := 48) hx hb hts fin_X10_readsm_X10 hown hK hP 0 rfl rfl 5 (by decide) (hts (.fieldLink RX10 18 "PatternGateModel" "text" "[B") (List.mem_of_getElem? (i := 19) (by decide +kernel))) (fun _ h9 => h9) rfl dX10_reads_13 ?_
        refine lv_iload_n hx hb dX10_reads_16 rfl (lv_at hl 0 rfl) ?_
        refine lv_aload_n hx hb dX10_reads_17 rfl (lv_at hl 1 rfl) ?_
        refine va_get (D := (dC, dI)) (ci := 10) (v := .ref (ad 2)) (C := RX10) (T := TX10) (N := 48) hx hb hts fin_X10_readsm_X10 hown hK hP 0 rfl rfl 4 (by decide) (hts (.fieldLink RX10 14 "PatternGateModel" "tape" "[B") (List.mem_of_getElem? (i := 20) (by decide +kernel))) (fun _ h9 => h9) rfl dX10_reads_18 ?_
        refine lv_iload_n hx hb dX10_reads_21 rfl (lv_at hl 0 rfl) ?_
        refine va_bald hx hb hK hP 2 1 rfl rfl (i := kk) (vp_of (a := kk.toInt) rfl (by omega) (by omega)) dX10_reads_22 ?_
        refine lv_topi (fun y_97 ey_97 => ?_)
        have rg_y_97 := i_rng y_97
        refine va_bast hx hb hK hP hD hS 3 2 rfl rfl (i := kk) (vp_of (a := kk.toInt) rfl (by omega) (by omega)) dX10_reads_23 (fun H locs hP hD hS => ?_)
        generalize hf_f_98 : upd gt _ _ = f_98 at hP hD
        have hP : va_P (dC, dI) vwCl (mW ad kc x0 x1 x2 x3 i1 x5 x6 x7 x8 x9 x10 x11 x12 x13 x14 x15 x16 x17 x18 x19 x20 x21 f0 f1 f_98 f3 f4 f5 f6 f7 f8 f9 f10 f11 f12 f13 f14 f15 f16 f17 f18 f19 f20 f21 fL fN fP fM fO) H := hP
        have hD : va_D A (mW ad kc x0 x1 x2 x3 i1 x5 x6 x7 x8 x9 x10 x11 x12 x13 x14 x15 x16 x17 x18 x19 x20 x21 f0 f1 f_98 f3 f4 f5 f6 f7 f8 f9 f10 f11 f12 f13 f14 f15 f16 f17 f18 f19 f20 f21 fL fN fP fM fO) := hD
        obtain ⟨y_99, ey_99⟩ : ∃ y : Int32, y = kk + 1 := ⟨_, rfl⟩
        first | have ty_99 := i_add (a := kk.toInt) (b := 1) rfl (by decide) ey_99 (by omega) (by omega) | skip
        refine lv_iinc (v := y_99) (lv' := [(3, .int y_99), (0, .ref (ad 0)), (1, .int i1), (2, .int i2)]) hx hb dX10_reads_24 hl (k := 0) rfl (by rw [ey_99]; rfl) (by decide) rfl (fun ls hl => ?_)
        refine lv_goto (tgt := 7) hx hb dX10_reads_27 (by decide) ?_
        exact ih7 y_99 f_98 (by first | omega | assumption | decide) (by omega) _ _ ls hP hD hS (lv_sub hl [0, 1, 2, 3] rfl)
  have lit_99 : (0 : Int32).toInt = 0 := by decide
  exact loop7 _ 0 f2 (by first | omega | assumption | decide) (Nat.lt_succ_self _) _ _ ls hP hD hS (lv_sub hl [0, 1, 2, 3] rfl)
theorem dX10_load_0 : decode cX10_load 0 = .ok (.iload_n 1, 1) := by decide +kernel
theorem dX10_load_1 : decode cX10_load 1 = .ok (.iconst 0, 1) := by decide +kernel
theorem dX10_load_2 : decode cX10_load 2 = .ok (.aload_n 0, 1) := by decide +kernel
theorem dX10_load_3 : decode cX10_load 3 = .ok (.getfield 107, 3) := by decide +kernel
theorem dX10_load_6 : decode cX10_load 6 = .ok (.invokestatic 200, 3) := by decide +kernel
theorem dX10_load_9 : decode cX10_load 9 = .ok (.ifCond .ne 9, 3) := by decide +kernel
theorem dX10_load_12 : decode cX10_load 12 = .ok (.aload_n 0, 1) := by decide +kernel
theorem dX10_load_13 : decode cX10_load 13 = .ok (.iconst 1, 1) := by decide +kernel
theorem dX10_load_14 : decode cX10_load 14 = .ok (.invokevirtual 204, 3) := by decide +kernel
theorem dX10_load_17 : decode cX10_load 17 = .ok (.ireturn, 1) := by decide +kernel
theorem dX10_load_18 : decode cX10_load 18 = .ok (.aload_n 0, 1) := by decide +kernel
theorem dX10_load_19 : decode cX10_load 19 = .ok (.iload_n 1, 1) := by decide +kernel
theorem dX10_load_20 : decode cX10_load 20 = .ok (.iconst 1, 1) := by decide +kernel
theorem dX10_load_21 : decode cX10_load 21 = .ok (.invokevirtual 207, 3) := by decide +kernel
theorem dX10_load_24 : decode cX10_load 24 = .ok (.ifCond .ne 10, 3) := by decide +kernel
theorem dX10_load_27 : decode cX10_load 27 = .ok (.aload_n 0, 1) := by decide +kernel
theorem dX10_load_28 : decode cX10_load 28 = .ok (.bipush 9, 2) := by decide +kernel
theorem dX10_load_30 : decode cX10_load 30 = .ok (.invokevirtual 204, 3) := by decide +kernel
theorem dX10_load_33 : decode cX10_load 33 = .ok (.ireturn, 1) := by decide +kernel
theorem dX10_load_34 : decode cX10_load 34 = .ok (.aload_n 0, 1) := by decide +kernel
theorem dX10_load_35 : decode cX10_load 35 = .ok (.invokevirtual 211, 3) := by decide +kernel
theorem dX10_load_38 : decode cX10_load 38 = .ok (.aload_n 0, 1) := by decide +kernel
theorem dX10_load_39 : decode cX10_load 39 = .ok (.aload_n 0, 1) := by decide +kernel
theorem dX10_load_40 : decode cX10_load 40 = .ok (.getfield 8, 3) := by decide +kernel
theorem dX10_load_43 : decode cX10_load 43 = .ok (.iconst 0, 1) := by decide +kernel
theorem dX10_load_44 : decode cX10_load 44 = .ok (.iaload, 1) := by decide +kernel
theorem dX10_load_45 : decode cX10_load 45 = .ok (.invokevirtual 214, 3) := by decide +kernel
theorem dX10_load_48 : decode cX10_load 48 = .ok (.ireturn, 1) := by decide +kernel
def mwX10_loadm : List Cond := .code yX10_load cX10_load 2 (some .int) :: (([.fieldLink RX10 107 "PatternGateModel" "taped" "I", .methodLink RX10 200 yX10_isFrom, .static yX10_isFrom, .initialized RX10, .methodLink RX10 207 yX10_reads, .instanceMethod yX10_reads, .selects RX10 yX10_reads yX10_reads, .methodLink RX10 211 yX10_acted, .instanceMethod yX10_acted, .selects RX10 yX10_acted yX10_acted, .fieldLink RX10 8 "PatternGateModel" "all" "[I", .methodLink RX10 214 yX10_gives, .instanceMethod yX10_gives, .selects RX10 yX10_gives yX10_gives, .methodLink RX10 204 yX10_refuse, .instanceMethod yX10_refuse, .selects RX10 yX10_refuse yX10_refuse] : List Cond) ++ (wsX100 ++ (mwX10_isFromm ++ (mwX10_readsm ++ (mwX10_actedm ++ (mwX10_givesm ++ (mwX10_refusem)))))))
theorem fin_X10_loadm_X10 : ∀ w ∈ wsX100, w ∈ mwX10_loadm := fun w h => List.mem_cons_of_mem _ (List.mem_append_right _ (List.mem_append_left _ h))
set_option maxRecDepth 100000 in
theorem gd_mwX10_readsm : mwX10_readsm.all goodWord = true := by decide +kernel
set_option maxRecDepth 20000 in
theorem mg_X10_loadm_X10_isFrom_200 : GoodIn mwX10_loadm (va_wsS RX10 200 yX10_isFrom mwX10_isFromm) := gi_app (A := [.methodLink RX10 200 yX10_isFrom, .static yX10_isFrom, .initialized RX10]) (goodIn_r _ [2, 3, 4] (by decide +kernel) (by decide +kernel)) (gi_sub gd_mwX10_isFromm (fun w h => List.mem_cons_of_mem _ (List.mem_append_right _ (List.mem_append_right _ (List.mem_append_left _ h)))))
set_option maxRecDepth 20000 in
theorem mg_X10_loadm_X10_reads_207 : GoodIn mwX10_loadm (wsV RX10 207 RX10 yX10_reads mwX10_readsm) := gi_app (A := [.methodLink RX10 207 yX10_reads, .instanceMethod yX10_reads, .selects RX10 yX10_reads yX10_reads, .initialized RX10]) (goodIn_r _ [5, 6, 7, 4] (by decide +kernel) (by decide +kernel)) (gi_sub gd_mwX10_readsm (fun w h => List.mem_cons_of_mem _ (List.mem_append_right _ (List.mem_append_right _ (List.mem_append_right _ (List.mem_append_left _ h))))))
set_option maxRecDepth 20000 in
theorem mg_X10_loadm_X10_acted_211 : GoodIn mwX10_loadm (wsV RX10 211 RX10 yX10_acted mwX10_actedm) := gi_app (A := [.methodLink RX10 211 yX10_acted, .instanceMethod yX10_acted, .selects RX10 yX10_acted yX10_acted, .initialized RX10]) (goodIn_r _ [8, 9, 10, 4] (by decide +kernel) (by decide +kernel)) (gi_sub gd_mwX10_actedm (fun w h => List.mem_cons_of_mem _ (List.mem_append_right _ (List.mem_append_right _ (List.mem_append_right _ (List.mem_append_right _ (List.mem_append_left _ h)))))))
set_option maxRecDepth 20000 in
theorem mg_X10_loadm_X10_gives_214 : GoodIn mwX10_loadm (wsV RX10 214 RX10 yX10_gives mwX10_givesm) := gi_app (A := [.methodLink RX10 214 yX10_gives, .instanceMethod yX10_gives, .selects RX10 yX10_gives yX10_gives, .initialized RX10]) (goodIn_r _ [12, 13, 14, 4] (by decide +kernel) (by decide +kernel)) (gi_sub gd_mwX10_givesm (fun w h => List.mem_cons_of_mem _ (List.mem_append_right _ (List.mem_append_right _ (List.mem_append_right _ (List.mem_append_right _ (List.mem_append_right _ (List.mem_append_left _ h))))))))
set_option maxRecDepth 20000 in
theorem mg_X10_loadm_X10_refuse_204 : GoodIn mwX10_loadm (wsV RX10 204 RX10 yX10_refuse mwX10_refusem) := gi_app (A := [.methodLink RX10 204 yX10_refuse, .instanceMethod yX10_refuse, .selects RX10 yX10_refuse yX10_refuse, .initialized RX10]) (goodIn_r _ [15, 16, 17, 4] (by decide +kernel) (by decide +kernel)) (gi_sub gd_mwX10_refusem (fun w h => List.mem_cons_of_mem _ (List.mem_append_right _ (List.mem_append_right _ (List.mem_append_right _ (List.mem_append_right _ (List.mem_append_right _ (List.mem_append_right _ (h)))))))))
set_option maxHeartbeats 4000000 in
set_option maxRecDepth 100000 in
theorem m_load (l : Launch) (dC : Nat → ClassId) (dI : Nat → Nat → Nat) (ad : Nat → Nat) (kc : Nat → ClassId) (x0 x1 x2 x3 x4 x5 x6 x7 x8 x9 x10 x11 x12 x13 x14 x15 x16 x17 x18 x19 x20 x21 : Int32) (f0 f1 f2 f3 f4 f5 f6 f7 f8 f9 f10 f11 f12 f13 f14 f15 f16 f17 f18 f19 f20 f21 : Nat → Int32) (fL : Nat → Nat → Int64) (fN : Nat → Nat → Int32) (fP : Nat → Nat → Nat) (fM : Nat → Nat → Int32) (fO : Nat → Nat → Int32) (sz : Nat) (i1 : Int32) (q0 : mI x1.toInt x2.toInt x3.toInt f0 fP) : Met l yX10_load mwX10_loadm ({ frames := 24, cells := 0, slots := 0, locals := 1440 }) (va_Pc [.ref (ad 0), .int i1] (fun U => U.heap.size = sz ∧ va_P (dC, dI) vwCl (mW ad kc x0 x1 x2 x3 x4 x5 x6 x7 x8 x9 x10 x11 x12 x13 x14 x15 x16 x17 x18 x19 x20 x21 f0 f1 f2 f3 f4 f5 f6 f7 f8 f9 f10 f11 f12 f13 f14 f15 f16 f17 f18 f19 f20 f21 fL fN fP fM fO) U.heap ∧ va_K (dC, dI) vwCl (mT kc) U ∧ va_D (fun _ => True) (mW ad kc x0 x1 x2 x3 x4 x5 x6 x7 x8 x9 x10 x11 x12 x13 x14 x15 x16 x17 x18 x19 x20 x21 f0 f1 f2 f3 f4 f5 f6 f7 f8 f9 f10 f11 f12 f13 f14 f15 f16 f17 f18 f19 f20 f21 fL fN fP fM fO) ∧ sW (va_A (mW ad kc x0 x1 x2 x3 x4 x5 x6 x7 x8 x9 x10 x11 x12 x13 x14 x15 x16 x17 x18 x19 x20 x21 f0 f1 f2 f3 f4 f5 f6 f7 f8 f9 f10 f11 f12 f13 f14 f15 f16 f17 f18 f19 f20 f21 fL fN fP fM fO) sz) U U.heap)) (va_Qi (fun (o9 u9 : Int32) => o9 = u9) (fun (o9 : Int32) t => ∃ (y0 y1 y3 y4 y5 y6 y7 y8 y9 y10 y11 : Int32) (g0 g2 : Nat → Int32), (mI y1.toInt x2.toInt y3.toInt g0 fP) ∧ ((0 ≤ i1.toInt ∧ i1.toInt ≤ x3.toInt ∧ y3.toInt = 0) ∨ ((i1.toInt < 0 ∨ x3.toInt < i1.toInt) ∧ y3.toInt = x3.toInt)) ∧ va_P (dC, dI) vwCl (mW ad kc y0 y1 x2 y3 y4 y5 y6 y7 y8 y9 y10 y11 x12 x13 x14 x15 x16 x17 x18 x19 x20 x21 g0 f1 g2 f3 f4 f5 f6 f7 f8 f9 f10 f11 f12 f13 f14 f15 f16 f17 f18 f19 f20 f21 fL fN fP fM fO) t.heap ∧ va_K (dC, dI) vwCl (mT kc) t ∧ va_D (va_A (mW ad kc x0 x1 x2 x3 x4 x5 x6 x7 x8 x9 x10 x11 x12 x13 x14 x15 x16 x17 x18 x19 x20 x21 f0 f1 f2 f3 f4 f5 f6 f7 f8 f9 f10 f11 f12 f13 f14 f15 f16 f17 f18 f19 f20 f21 fL fN fP fM fO) sz) (mW ad kc y0 y1 x2 y3 y4 y5 y6 y7 y8 y9 y10 y11 x12 x13 x14 x15 x16 x17 x18 x19 x20 x21 g0 f1 g2 f3 f4 f5 f6 f7 f8 f9 f10 f11 f12 f13 f14 f15 f16 f17 f18 f19 f20 f21 fL fN fP fM fO)) (va_A (mW ad kc x0 x1 x2 x3 x4 x5 x6 x7 x8 x9 x10 x11 x12 x13 x14 x15 x16 x17 x18 x19 x20 x21 f0 f1 f2 f3 f4 f5 f6 f7 f8 f9 f10 f11 f12 f13 f14 f15 f16 f17 f18 f19 f20 f21 fL fN fP fM fO) sz)) 0 0 (va_A (mW ad kc x0 x1 x2 x3 x4 x5 x6 x7 x8 x9 x10 x11 x12 x13 x14 x15 x16 x17 x18 x19 x20 x21 f0 f1 f2 f3 f4 f5 f6 f7 f8 f9 f10 f11 f12 f13 f14 f15 f16 f17 f18 f19 f20 f21 fL fN fP fM fO) sz) := by
  refine Met.ofW (cc := cX10_load) (maxL := 2) (ret := (some .int)) (by decide +kernel) rfl ?_
  intro p e s m args below meth c s₁ B hml hv
  obtain ⟨rfl, hsz, hP, hK, hD0, hSW⟩ := hv
  have hx := B.exec
  have hb := B.bytes
  have hr := B.returns
  have hts := atoms_spec (ws := mwX10_loadm) B.pre
  have hown : s.vm.findClass RX10 = some m.cls := findClass_of_methodNamed B.named
  have hlocks := B.notSynchronized
  subst hsz
  have hD := hD0.self (sz := s.heap.size)
  generalize hAe : va_A (mW ad kc x0 x1 x2 x3 x4 x5 x6 x7 x8 x9 x10 x11 x12 x13 x14 x15 x16 x17 x18 x19 x20 x21 f0 f1 f2 f3 f4 f5 f6 f7 f8 f9 f10 f11 f12 f13 f14 f15 f16 f17 f18 f19 f20 f21 fL fN fP fM fO) s.heap.size = A at hD hSW ⊢
  have hA : ∀ q : Nat, s.heap.size ≤ q → A q := fun q h => by rw [← hAe]; exact Or.inr h
  have hP : va_P (dC, dI) vwCl (mW ad kc x0 x1 x2 x3 x4 x5 x6 x7 x8 x9 x10 x11 x12 x13 x14 x15 x16 x17 x18 x19 x20 x21 f0 f1 f2 f3 f4 f5 f6 f7 f8 f9 f10 f11 f12 f13 f14 f15 f16 f17 f18 f19 f20 f21 fL fN fP fM fO) s.heap := hP
  have hD : va_D A (mW ad kc x0 x1 x2 x3 x4 x5 x6 x7 x8 x9 x10 x11 x12 x13 x14 x15 x16 x17 x18 x19 x20 x21 f0 f1 f2 f3 f4 f5 f6 f7 f8 f9 f10 f11 f12 f13 f14 f15 f16 f17 f18 f19 f20 f21 fL fN fP fM fO) := hD
  have hK : va_K (dC, dI) vwCl (mT kc) s := hK
  generalize hH : s.heap = H at hP ⊢
  have hS : va_S A s.heap H [] := by rw [← hH]; exact va_S.rf
  have hl := lv_entry ([.ref (ad 0), .int i1]) (n := 2) (Nat.le_of_ble_eq_true rfl)
  rw [lg_entry_eq]
  generalize (lg_sl ([.ref (ad 0), .int i1]) ++ List.replicate (2 - (lg_sl ([.ref (ad 0), .int i1])).length) Slot.unset).toArray = ls at hl ⊢
  have hl : lv_has ls 2 [(0, .ref (ad 0)), (1, .int i1)] := hl
  have rg_i1 := i_rng i1
  have hd := q0.d
  have hpi := q0.p
  have hq1 := q0.1
  have hq2 := q0.2.1
  have hq3 := q0.2.2.1
  have hd10 := hd.n0
  have hp8 := hd.P0
  refine lv_iload_n hx hb dX10_load_0 rfl (lv_at hl 1 rfl) ?_
  refine lv_iconst (v := 0) hx hb dX10_load_1 (by decide) ?_
  refine lv_aload_n hx hb dX10_load_2 rfl (lv_at hl 0 rfl) ?_
  refine va_get (D := (dC, dI)) (ci := 10) (v := .int x3) (C := RX10) (T := TX10) (N := 48) hx hb hts fin_X10_loadm_X10 hown hK hP 0 rfl rfl 6 (by decide) (hts (.fieldLink RX10 107 "PatternGateModel" "taped" "I") (List.mem_of_getElem? (i := 1) (by decide +kernel))) (fun _ h9 => h9) rfl dX10_load_3 ?_
  refine vp_callSi (W.runS (As := [.int i1, .int 0, .int x3]) (rest := []) ⟨hx, hb, hml, hown, hts⟩ (m_isFrom l dC dI  i1 0 x3 ) (va_cwS 3 hts mg_X10_loadm_X10_isFrom_200 rfl rfl rfl (by decide +kernel) ⟨Nat.le_of_ble_eq_true rfl, Nat.le_of_ble_eq_true rfl⟩) ⟨fun a U g mk q => ⟨q.1, trivial⟩, fun U hU hW => ⟨rfl, trivial⟩⟩ rfl rfl hl.1 rfl (lv_room (Nat.le_of_ble_eq_true rfl)) dX10_load_6 ⟨Nat.le_of_ble_eq_true rfl, Nat.le_of_ble_eq_true rfl⟩) (fun r_1 hr_1 => ?_)
  have rg_r_1 := i_rng r_1
  refine lv_if_ne (tgt := 18) hx hb dX10_load_9 (by decide) (fun k_2 => ?_) (fun k_2 => ?_)
  · have tk_2 := c_ne (a := r_1.toInt) (b := 0) rfl (by decide) k_2
    refine lv_aload_n hx hb dX10_load_18 rfl (lv_at hl 0 rfl) ?_
    refine lv_iload_n hx hb dX10_load_19 rfl (lv_at hl 1 rfl) ?_
    refine lv_iconst (v := 1) hx hb dX10_load_20 (by decide) ?_
    have hFc := m_free hD hS hA
    refine va_calli (va_runV (As := [.int i1, .int 1]) (rest := []) ⟨hx, hb, hml, hown, hts⟩ (m_reads l dC dI ad kc x0 x1 x2 x3 x4 x5 x6 x7 x8 x9 x10 x11 x12 x13 x14 x15 x16 x17 x18 x19 x20 x21 f0 f1 f2 f3 f4 f5 f6 f7 f8 f9 f10 f11 f12 f13 f14 f15 f16 f17 f18 f19 f20 f21 fL fN fP fM fO H.size i1 1 (by first | omega | assumption | decide | (have l0 := Int32.toInt_zero; omega)) (by first | omega | assumption | decide | (have l0 := Int32.toInt_zero; omega)) (by first | omega | assumption | decide | (have l0 := Int32.toInt_zero; omega))) (cwV 2 hts mg_X10_loadm_X10_reads_207 rfl rfl rfl (by decide +kernel) ⟨Nat.le_of_ble_eq_true rfl, Nat.le_of_ble_eq_true rfl⟩) ⟨fun a U g mk q => by obtain ⟨q0, q1, qP, qK, qD, qE0⟩ := q; exact ⟨q0, q1, qP, va_K.moved (u := U) (U := U.calling g mk a) (Vm.Alike.refl U.vm) qK, qD, sW.call qE0⟩, va_recv hK hP (ci := 10) (q0 := 0) rfl rfl, fun U hU hW => ⟨rfl, by rw [hU], by rw [hU]; exact hP, va_K.moved hW.alike hK, hD.weaken (fun _ _ _ _ => trivial), sW.to hSW hS hFc hW hU⟩⟩ rfl rfl hl.1 rfl (lv_room (Nat.le_of_ble_eq_true rfl)) dX10_load_21 ⟨Nat.le_of_ble_eq_true rfl, Nat.le_of_ble_eq_true rfl⟩) hS (fun q _ h => hFc q h) hFc (fun r_3 u t H1 locs ht hvm hw hB hz1 hk1 hS => ?_)
    subst hw
    obtain ⟨x_4, x_5, x_6, x_7, x_8, x_9, x_10, x_11, x_12, f_13, f_14, hr_3_0, hr_3_1, hr_3_2, hr_3_3, hP, hK1, hD1⟩ := hB
    rw [ht] at hP
    have hD := hD1.weaken (fun k q _ h => hFc q.1 h)
    clear hz1 hk1 hFc hD1 hK1 hvm
    generalize H1 = H at hP hS ⊢
    have rg_x_4 := i_rng x_4
    have rg_x_5 := i_rng x_5
    have rg_x_6 := i_rng x_6
    have rg_x_7 := i_rng x_7
    have rg_x_8 := i_rng x_8
    have rg_x_9 := i_rng x_9
    have rg_x_10 := i_rng x_10
    have rg_x_11 := i_rng x_11
    have rg_x_12 := i_rng x_12
    have rg_r_3 := i_rng r_3
    have hP : va_P (dC, dI) vwCl (mW ad kc x0 x1 x2 x_4 x_5 x_6 x_7 x_8 x_9 x_10 x_11 x_12 x12 x13 x14 x15 x16 x17 x18 x19 x20 x21 f_13 f1 f_14 f3 f4 f5 f6 f7 f8 f9 f10 f11 f12 f13 f14 f15 f16 f17 f18 f19 f20 f21 fL fN fP fM fO) H := hP
    have hD : va_D A (mW ad kc x0 x1 x2 x_4 x_5 x_6 x_7 x_8 x_9 x_10 x_11 x_12 x12 x13 x14 x15 x16 x17 x18 x19 x20 x21 f_13 f1 f_14 f3 f4 f5 f6 f7 f8 f9 f10 f11 f12 f13 f14 f15 f16 f17 f18 f19 f20 f21 fL fN fP fM fO) := hD
    have hdR := hr_3_0
    have hmR := hr_3_1
    refine lv_if_ne (tgt := 34) hx hb dX10_load_24 (by decide) (fun k_15 => ?_) (fun k_15 => ?_)
    · have tk_15 := c_ne (a := r_3.toInt) (b := 0) rfl (by decide) k_15
      refine lv_aload_n hx hb dX10_load_34 rfl (lv_at hl 0 rfl) ?_
      have hFc := m_free hD hS hA
      refine va_callv (va_runV (As := []) (rest := []) ⟨hx, hb, hml, hown, hts⟩ (m_acted l dC dI ad kc x0 x1 x2 x_4 x_5 x_6 x_7 x_8 x_9 x_10 x_11 x_12 x12 x13 x14 x15 x16 x17 x18 x19 x20 x21 f_13 f1 f_14 f3 f4 f5 f6 f7 f8 f9 f10 f11 f12 f13 f14 f15 f16 f17 f18 f19 f20 f21 fL fN fP fM fO H.size (by first | omega | assumption | decide | (have l0 := Int32.toInt_zero; omega)) (by first | omega | assumption | decide | (have l0 := Int32.toInt_zero; omega)) (by first | omega | assumption | decide | (have l0 := Int32.toInt_zero; omega)) (by first | omega | assumption | decide | (have l0 := Int32.toInt_zero; omega))) (cwV 0 hts mg_X10_loadm_X10_acted_211 rfl rfl rfl (by decide +kernel) ⟨Nat.le_of_ble_eq_true rfl, Nat.le_of_ble_eq_true rfl⟩) ⟨fun a U g mk q => by obtain ⟨q0, q1, qP, qK, qD⟩ := q; exact ⟨q0, q1, qP, va_K.moved (u := U) (U := U.calling g mk a) (Vm.Alike.refl U.vm) qK, qD⟩, va_recv hK hP (ci := 10) (q0 := 0) rfl rfl, fun U hU hW => ⟨rfl, by rw [hU], by rw [hU]; exact hP, va_K.moved hW.alike hK, hD.weaken (fun _ _ _ _ => trivial)⟩⟩ rfl rfl hl.1 rfl (lv_room (Nat.le_of_ble_eq_true rfl)) dX10_load_35 ⟨Nat.le_of_ble_eq_true rfl, Nat.le_of_ble_eq_true rfl⟩) hS (fun q _ h => hFc q h) hFc (fun u t H1 locs ht hvm hw hB hz1 hk1 hS => ?_)
      obtain ⟨x_17, f_18, hr_16_0, hr_16_1, hr_16_2, hP, hK1, hD1⟩ := hB
      rw [ht] at hP
      have hD := hD1.weaken (fun k q _ h => hFc q.1 h)
      clear hz1 hk1 hFc hD1 hK1 hvm
      generalize H1 = H at hP hS ⊢
      have rg_x_17 := i_rng x_17
      have hP : va_P (dC, dI) vwCl (mW ad kc x0 x_17 x2 x_4 x_5 x_6 x_7 x_8 x_9 x_10 x_11 x_12 x12 x13 x14 x15 x16 x17 x18 x19 x20 x21 f_18 f1 f_14 f3 f4 f5 f6 f7 f8 f9 f10 f11 f12 f13 f14 f15 f16 f17 f18 f19 f20 f21 fL fN fP fM fO) H := hP
      have hD : va_D A (mW ad kc x0 x_17 x2 x_4 x_5 x_6 x_7 x_8 x_9 x_10 x_11 x_12 x12 x13 x14 x15 x16 x17 x18 x19 x20 x21 f_18 f1 f_14 f3 f4 f5 f6 f7 f8 f9 f10 f11 f12 f13 f14 f15 f16 f17 f18 f19 f20 f21 fL fN fP fM fO) := hD
      refine lv_aload_n hx hb dX10_load_38 rfl (lv_at hl 0 rfl) ?_
      refine lv_aload_n hx hb dX10_load_39 rfl (lv_at hl 0 rfl) ?_
      refine va_get (D := (dC, dI)) (ci := 10) (v := .ref (ad 1)) (C := RX10) (T := TX10) (N := 48) hx hb hts fin_X10_loadm_X10 hown hK hP 0 rfl rfl 0 (by decide) (hts (.fieldLink RX10 8 "PatternGateModel" "all" "[I") (List.mem_of_getElem? (i := 11) (by decide +kernel))) (fun _ h9 => h9) rfl dX10_load_40 ?_
      refine lv_iconst (v := 0) hx hb dX10_load_43 (by decide) ?_
      refine va_iald hx hb hK hP 1 0 rfl rfl (i := 0) (by unfold vp_in; decide +kernel) dX10_load_44 ?_
      refine lv_topi (fun y_19 ey_19 => ?_)
      have rg_y_19 := i_rng y_19
      have vy_19 := vI_lda (f := f_18) (i := 0) (a := 0) ey_19 (by first | omega | decide)
      have rg_y_19 := i_rng y_19
      have hFc := m_free hD hS hA
      refine va_calli (va_runV (As := [.int y_19]) (rest := []) ⟨hx, hb, hml, hown, hts⟩ (m_gives l dC dI ad kc x0 x_17 x2 x_4 x_5 x_6 x_7 x_8 x_9 x_10 x_11 x_12 x12 x13 x14 x15 x16 x17 x18 x19 x20 x21 f_18 f1 f_14 f3 f4 f5 f6 f7 f8 f9 f10 f11 f12 f13 f14 f15 f16 f17 f18 f19 f20 f21 fL fN fP fM fO H.size y_19 ) (cwV 1 hts mg_X10_loadm_X10_gives_214 rfl rfl rfl (by decide +kernel) ⟨Nat.le_of_ble_eq_true rfl, Nat.le_of_ble_eq_true rfl⟩) ⟨fun a U g mk q => by obtain ⟨q0, q1, qP, qK, qD⟩ := q; exact ⟨q0, q1, qP, va_K.moved (u := U) (U := U.calling g mk a) (Vm.Alike.refl U.vm) qK, qD⟩, va_recv hK hP (ci := 10) (q0 := 0) rfl rfl, fun U hU hW => ⟨rfl, by rw [hU], by rw [hU]; exact hP, va_K.moved hW.alike hK, hD.weaken (fun _ _ _ _ => trivial)⟩⟩ rfl rfl hl.1 rfl (lv_room (Nat.le_of_ble_eq_true rfl)) dX10_load_45 ⟨Nat.le_of_ble_eq_true rfl, Nat.le_of_ble_eq_true rfl⟩) hS (fun q _ h => hFc q h) hFc (fun r_20 u t H1 locs ht hvm hw hB hz1 hk1 hS => ?_)
      subst hw
      obtain ⟨hr_20_0, hP, hK1, hD1⟩ := hB
      rw [ht] at hP
      have hD := hD1.weaken (fun k q _ h => hFc q.1 h)
      clear hz1 hk1 hFc hD1 hK1 hvm
      generalize H1 = H at hP hS ⊢
      have rg_r_20 := i_rng r_20
      have hP : va_P (dC, dI) vwCl (mW ad kc 0 x_17 x2 x_4 x_5 x_6 x_7 x_8 x_9 x_10 x_11 x_12 x12 x13 x14 x15 x16 x17 x18 x19 x20 x21 f_18 f1 f_14 f3 f4 f5 f6 f7 f8 f9 f10 f11 f12 f13 f14 f15 f16 f17 f18 f19 f20 f21 fL fN fP fM fO) H := hP
      have hD : va_D A (mW ad kc 0 x_17 x2 x_4 x_5 x_6 x_7 x_8 x_9 x_10 x_11 x_12 x12 x13 x14 x15 x16 x17 x18 x19 x20 x21 f_18 f1 f_14 f3 f4 f5 f6 f7 f8 f9 f10 f11 f12 f13 f14 f15 f16 f17 f18 f19 f20 f21 fL fN fP fM fO) := hD
      have lit_20 : (0 : Int32).toInt = 0 := by decide
      exact W.iret hx hb hr (fun t ht hW => ⟨⟨_, _, rfl, rfl, 0, x_17, x_4, x_5, x_6, x_7, x_8, x_9, x_10, x_11, x_12, f_18, f_14, (mC.mI hr_16_1 hr_16_0 (by have h9 := hr_16_2; omega) hq2 (by omega) hpi), (by first | omega | assumption | rfl | decide), by rw [ht]; exact hP, va_K.moved hW.alike hK, hD⟩, hS.F ht⟩) hS.2.2 dX10_load_48
    · have tk_15 := c_eq (a := r_3.toInt) (b := 0) rfl (by decide) k_15
      refine lv_aload_n hx hb dX10_load_27 rfl (lv_at hl 0 rfl) ?_
      refine lv_bipush (v := 9) hx hb dX10_load_28 (by decide) ?_
      have hFc := m_free hD hS hA
      refine va_calli (va_runV (As := [.int 9]) (rest := []) ⟨hx, hb, hml, hown, hts⟩ (m_refuse l dC dI ad kc x0 x1 x2 x_4 x_5 x_6 x_7 x_8 x_9 x_10 x_11 x_12 x12 x13 x14 x15 x16 x17 x18 x19 x20 x21 f_13 f1 f_14 f3 f4 f5 f6 f7 f8 f9 f10 f11 f12 f13 f14 f15 f16 f17 f18 f19 f20 f21 fL fN fP fM fO H.size 9 ) (cwV 1 hts mg_X10_loadm_X10_refuse_204 rfl rfl rfl (by decide +kernel) ⟨Nat.le_of_ble_eq_true rfl, Nat.le_of_ble_eq_true rfl⟩) ⟨fun a U g mk q => by obtain ⟨q0, q1, qP, qK, qD⟩ := q; exact ⟨q0, q1, qP, va_K.moved (u := U) (U := U.calling g mk a) (Vm.Alike.refl U.vm) qK, qD⟩, va_recv hK hP (ci := 10) (q0 := 0) rfl rfl, fun U hU hW => ⟨rfl, by rw [hU], by rw [hU]; exact hP, va_K.moved hW.alike hK, hD.weaken (fun _ _ _ _ => trivial)⟩⟩ rfl rfl hl.1 rfl (lv_room (Nat.le_of_ble_eq_true rfl)) dX10_load_30 ⟨Nat.le_of_ble_eq_true rfl, Nat.le_of_ble_eq_true rfl⟩) hS (fun q _ h => hFc q h) hFc (fun r_22 u t H1 locs ht hvm hw hB hz1 hk1 hS => ?_)
      subst hw
      obtain ⟨hr_22_0, hP, hK1, hD1⟩ := hB
      rw [ht] at hP
      have hD := hD1.weaken (fun k q _ h => hFc q.1 h)
      clear hz1 hk1 hFc hD1 hK1 hvm
      generalize H1 = H at hP hS ⊢
      have rg_r_22 := i_rng r_22
      have hP : va_P (dC, dI) vwCl (mW ad kc 9 x1 x2 x_4 x_5 x_6 x_7 x_8 x_9 x_10 x_11 x_12 x12 x13 x14 x15 x16 x17 x18 x19 x20 x21 f_13 f1 f_14 f3 f4 f5 f6 f7 f8 f9 f10 f11 f12 f13 f14 f15 f16 f17 f18 f19 f20 f21 fL fN fP fM fO) H := hP
      have hD : va_D A (mW ad kc 9 x1 x2 x_4 x_5 x_6 x_7 x_8 x_9 x_10 x_11 x_12 x12 x13 x14 x15 x16 x17 x18 x19 x20 x21 f_13 f1 f_14 f3 f4 f5 f6 f7 f8 f9 f10 f11 f12 f13 f14 f15 f16 f17 f18 f19 f20 f21 fL fN fP fM fO) := hD
      have lit_22 : (9 : Int32).toInt = 9 := by decide
      exact W.iret hx hb hr (fun t ht hW => ⟨⟨_, _, rfl, rfl, 9, x1, x_4, x_5, x_6, x_7, x_8, x_9, x_10, x_11, x_12, f_13, f_14, (mC.mI hmR hdR hq1 hq2 (by omega) hpi), (by first | omega | assumption | rfl | decide), by rw [ht]; exact hP, va_K.moved hW.alike hK, hD⟩, hS.F ht⟩) hS.2.2 dX10_load_33
  · have tk_2 := c_eq (a := r_1.toInt) (b := 0) rfl (by decide) k_2
    refine lv_aload_n hx hb dX10_load_12 rfl (lv_at hl 0 rfl) ?_
    refine lv_iconst (v := 1) hx hb dX10_load_13 (by decide) ?_
    have hFc := m_free hD hS hA
    refine va_calli (va_runV (As := [.int 1]) (rest := []) ⟨hx, hb, hml, hown, hts⟩ (m_refuse l dC dI ad kc x0 x1 x2 x3 x4 x5 x6 x7 x8 x9 x10 x11 x12 x13 x14 x15 x16 x17 x18 x19 x20 x21 f0 f1 f2 f3 f4 f5 f6 f7 f8 f9 f10 f11 f12 f13 f14 f15 f16 f17 f18 f19 f20 f21 fL fN fP fM fO H.size 1 ) (cwV 1 hts mg_X10_loadm_X10_refuse_204 rfl rfl rfl (by decide +kernel) ⟨Nat.le_of_ble_eq_true rfl, Nat.le_of_ble_eq_true rfl⟩) ⟨fun a U g mk q => by obtain ⟨q0, q1, qP, qK, qD⟩ := q; exact ⟨q0, q1, qP, va_K.moved (u := U) (U := U.calling g mk a) (Vm.Alike.refl U.vm) qK, qD⟩, va_recv hK hP (ci := 10) (q0 := 0) rfl rfl, fun U hU hW => ⟨rfl, by rw [hU], by rw [hU]; exact hP, va_K.moved hW.alike hK, hD.weaken (fun _ _ _ _ => trivial)⟩⟩ rfl rfl hl.1 rfl (lv_room (Nat.le_of_ble_eq_true rfl)) dX10_load_14 ⟨Nat.le_of_ble_eq_true rfl, Nat.le_of_ble_eq_true rfl⟩) hS (fun q _ h => hFc q h) hFc (fun r_24 u t H1 locs ht hvm hw hB hz1 hk1 hS => ?_)
    subst hw
    obtain ⟨hr_24_0, hP, hK1, hD1⟩ := hB
    rw [ht] at hP
    have hD := hD1.weaken (fun k q _ h => hFc q.1 h)
    clear hz1 hk1 hFc hD1 hK1 hvm
    generalize H1 = H at hP hS ⊢
    have rg_r_24 := i_rng r_24
    have hP : va_P (dC, dI) vwCl (mW ad kc 1 x1 x2 x3 x4 x5 x6 x7 x8 x9 x10 x11 x12 x13 x14 x15 x16 x17 x18 x19 x20 x21 f0 f1 f2 f3 f4 f5 f6 f7 f8 f9 f10 f11 f12 f13 f14 f15 f16 f17 f18 f19 f20 f21 fL fN fP fM fO) H := hP
    have hD : va_D A (mW ad kc 1 x1 x2 x3 x4 x5 x6 x7 x8 x9 x10 x11 x12 x13 x14 x15 x16 x17 x18 x19 x20 x21 f0 f1 f2 f3 f4 f5 f6 f7 f8 f9 f10 f11 f12 f13 f14 f15 f16 f17 f18 f19 f20 f21 fL fN fP fM fO) := hD
    have lit_24 : (1 : Int32).toInt = 1 := by decide
    exact W.iret hx hb hr (fun t ht hW => ⟨⟨_, _, rfl, rfl, 1, x1, x3, x4, x5, x6, x7, x8, x9, x10, x11, f0, f2, q0, (by first | omega | assumption | rfl | decide), by rw [ht]; exact hP, va_K.moved hW.alike hK, hD⟩, hS.F ht⟩) hS.2.2 dX10_load_17
theorem dX10_more_0 : decode cX10_more 0 = .ok (.iload_n 1, 1) := by decide +kernel
theorem dX10_more_1 : decode cX10_more 1 = .ok (.iconst 0, 1) := by decide +kernel
theorem dX10_more_2 : decode cX10_more 2 = .ok (.aload_n 0, 1) := by decide +kernel
theorem dX10_more_3 : decode cX10_more 3 = .ok (.getfield 107, 3) := by decide +kernel
theorem dX10_more_6 : decode cX10_more 6 = .ok (.invokestatic 200, 3) := by decide +kernel
theorem dX10_more_9 : decode cX10_more 9 = .ok (.ifCond .ne 9, 3) := by decide +kernel
theorem dX10_more_12 : decode cX10_more 12 = .ok (.aload_n 0, 1) := by decide +kernel
theorem dX10_more_13 : decode cX10_more 13 = .ok (.iconst 1, 1) := by decide +kernel
theorem dX10_more_14 : decode cX10_more 14 = .ok (.invokevirtual 204, 3) := by decide +kernel
theorem dX10_more_17 : decode cX10_more 17 = .ok (.ireturn, 1) := by decide +kernel
theorem dX10_more_18 : decode cX10_more 18 = .ok (.aload_n 0, 1) := by decide +kernel
theorem dX10_more_19 : decode cX10_more 19 = .ok (.iload_n 1, 1) := by decide +kernel
theorem dX10_more_20 : decode cX10_more 20 = .ok (.iconst 0, 1) := by decide +kernel
theorem dX10_more_21 : decode cX10_more 21 = .ok (.invokevirtual 207, 3) := by decide +kernel
theorem dX10_more_24 : decode cX10_more 24 = .ok (.ifCond .ne 10, 3) := by decide +kernel
theorem dX10_more_27 : decode cX10_more 27 = .ok (.aload_n 0, 1) := by decide +kernel
theorem dX10_more_28 : decode cX10_more 28 = .ok (.bipush 9, 2) := by decide +kernel
theorem dX10_more_30 : decode cX10_more 30 = .ok (.invokevirtual 204, 3) := by decide +kernel
theorem dX10_more_33 : decode cX10_more 33 = .ok (.ireturn, 1) := by decide +kernel
theorem dX10_more_34 : decode cX10_more 34 = .ok (.aload_n 0, 1) := by decide +kernel
theorem dX10_more_35 : decode cX10_more 35 = .ok (.invokevirtual 211, 3) := by decide +kernel
theorem dX10_more_38 : decode cX10_more 38 = .ok (.aload_n 0, 1) := by decide +kernel
theorem dX10_more_39 : decode cX10_more 39 = .ok (.aload_n 0, 1) := by decide +kernel
theorem dX10_more_40 : decode cX10_more 40 = .ok (.getfield 8, 3) := by decide +kernel
theorem dX10_more_43 : decode cX10_more 43 = .ok (.iconst 0, 1) := by decide +kernel
theorem dX10_more_44 : decode cX10_more 44 = .ok (.iaload, 1) := by decide +kernel
theorem dX10_more_45 : decode cX10_more 45 = .ok (.aload_n 0, 1) := by decide +kernel
theorem dX10_more_46 : decode cX10_more 46 = .ok (.getfield 8, 3) := by decide +kernel
theorem dX10_more_49 : decode cX10_more 49 = .ok (.sipush 611, 3) := by decide +kernel
theorem dX10_more_52 : decode cX10_more 52 = .ok (.iaload, 1) := by decide +kernel
theorem dX10_more_53 : decode cX10_more 53 = .ok (.iadd, 1) := by decide +kernel
theorem dX10_more_54 : decode cX10_more 54 = .ok (.aload_n 0, 1) := by decide +kernel
theorem dX10_more_55 : decode cX10_more 55 = .ok (.getfield 8, 3) := by decide +kernel
theorem dX10_more_58 : decode cX10_more 58 = .ok (.sipush 7820, 3) := by decide +kernel
theorem dX10_more_61 : decode cX10_more 61 = .ok (.iaload, 1) := by decide +kernel
theorem dX10_more_62 : decode cX10_more 62 = .ok (.isub, 1) := by decide +kernel
theorem dX10_more_63 : decode cX10_more 63 = .ok (.aload_n 0, 1) := by decide +kernel
theorem dX10_more_64 : decode cX10_more 64 = .ok (.getfield 8, 3) := by decide +kernel
theorem dX10_more_67 : decode cX10_more 67 = .ok (.sipush 8431, 3) := by decide +kernel
theorem dX10_more_70 : decode cX10_more 70 = .ok (.iaload, 1) := by decide +kernel
theorem dX10_more_71 : decode cX10_more 71 = .ok (.isub, 1) := by decide +kernel
theorem dX10_more_72 : decode cX10_more 72 = .ok (.invokevirtual 214, 3) := by decide +kernel
theorem dX10_more_75 : decode cX10_more 75 = .ok (.ireturn, 1) := by decide +kernel
def mwX10_morem : List Cond := .code yX10_more cX10_more 2 (some .int) :: (([.fieldLink RX10 107 "PatternGateModel" "taped" "I", .methodLink RX10 200 yX10_isFrom, .static yX10_isFrom, .initialized RX10, .methodLink RX10 207 yX10_reads, .instanceMethod yX10_reads, .selects RX10 yX10_reads yX10_reads, .methodLink RX10 211 yX10_acted, .instanceMethod yX10_acted, .selects RX10 yX10_acted yX10_acted, .fieldLink RX10 8 "PatternGateModel" "all" "[I", .methodLink RX10 214 yX10_gives, .instanceMethod yX10_gives, .selects RX10 yX10_gives yX10_gives, .methodLink RX10 204 yX10_refuse, .instanceMethod yX10_refuse, .selects RX10 yX10_refuse yX10_refuse] : List Cond) ++ (wsX100 ++ (mwX10_isFromm ++ (mwX10_readsm ++ (mwX10_actedm ++ (mwX10_givesm ++ (mwX10_refusem)))))))
theorem fin_X10_morem_X10 : ∀ w ∈ wsX100, w ∈ mwX10_morem := fun w h => List.mem_cons_of_mem _ (List.mem_append_right _ (List.mem_append_left _ h))
set_option maxRecDepth 20000 in
theorem mg_X10_morem_X10_isFrom_200 : GoodIn mwX10_morem (va_wsS RX10 200 yX10_isFrom mwX10_isFromm) := gi_app (A := [.methodLink RX10 200 yX10_isFrom, .static yX10_isFrom, .initialized RX10]) (goodIn_r _ [2, 3, 4] (by decide +kernel) (by decide +kernel)) (gi_sub gd_mwX10_isFromm (fun w h => List.mem_cons_of_mem _ (List.mem_append_right _ (List.mem_append_right _ (List.mem_append_left _ h)))))
set_option maxRecDepth 20000 in
theorem mg_X10_morem_X10_reads_207 : GoodIn mwX10_morem (wsV RX10 207 RX10 yX10_reads mwX10_readsm) := gi_app (A := [.methodLink RX10 207 yX10_reads, .instanceMethod yX10_reads, .selects RX10 yX10_reads yX10_reads, .initialized RX10]) (goodIn_r _ [5, 6, 7, 4] (by decide +kernel) (by decide +kernel)) (gi_sub gd_mwX10_readsm (fun w h => List.mem_cons_of_mem _ (List.mem_append_right _ (List.mem_append_right _ (List.mem_append_right _ (List.mem_append_left _ h))))))
set_option maxRecDepth 20000 in
theorem mg_X10_morem_X10_acted_211 : GoodIn mwX10_morem (wsV RX10 211 RX10 yX10_acted mwX10_actedm) := gi_app (A := [.methodLink RX10 211 yX10_acted, .instanceMethod yX10_acted, .selects RX10 yX10_acted yX10_acted, .initialized RX10]) (goodIn_r _ [8, 9, 10, 4] (by decide +kernel) (by decide +kernel)) (gi_sub gd_mwX10_actedm (fun w h => List.mem_cons_of_mem _ (List.mem_append_right _ (List.mem_append_right _ (List.mem_append_right _ (List.mem_append_right _ (List.mem_append_left _ h)))))))
set_option maxRecDepth 20000 in
theorem mg_X10_morem_X10_gives_214 : GoodIn mwX10_morem (wsV RX10 214 RX10 yX10_gives mwX10_givesm) := gi_app (A := [.methodLink RX10 214 yX10_gives, .instanceMethod yX10_gives, .selects RX10 yX10_gives yX10_gives, .initialized RX10]) (goodIn_r _ [12, 13, 14, 4] (by decide +kernel) (by decide +kernel)) (gi_sub gd_mwX10_givesm (fun w h => List.mem_cons_of_mem _ (List.mem_append_right _ (List.mem_append_right _ (List.mem_append_right _ (List.mem_append_right _ (List.mem_append_right _ (List.mem_append_left _ h))))))))
set_option maxRecDepth 20000 in
theorem mg_X10_morem_X10_refuse_204 : GoodIn mwX10_morem (wsV RX10 204 RX10 yX10_refuse mwX10_refusem) := gi_app (A := [.methodLink RX10 204 yX10_refuse, .instanceMethod yX10_refuse, .selects RX10 yX10_refuse yX10_refuse, .initialized RX10]) (goodIn_r _ [15, 16, 17, 4] (by decide +kernel) (by decide +kernel)) (gi_sub gd_mwX10_refusem (fun w h => List.mem_cons_of_mem _ (List.mem_append_right _ (List.mem_append_right _ (List.mem_append_right _ (List.mem_append_right _ (List.mem_append_right _ (List.mem_append_right _ (h)))))))))
set_option maxHeartbeats 4000000 in
set_option maxRecDepth 100000 in
theorem m_more (l : Launch) (dC : Nat → ClassId) (dI : Nat → Nat → Nat) (ad : Nat → Nat) (kc : Nat → ClassId) (x0 x1 x2 x3 x4 x5 x6 x7 x8 x9 x10 x11 x12 x13 x14 x15 x16 x17 x18 x19 x20 x21 : Int32) (f0 f1 f2 f3 f4 f5 f6 f7 f8 f9 f10 f11 f12 f13 f14 f15 f16 f17 f18 f19 f20 f21 : Nat → Int32) (fL : Nat → Nat → Int64) (fN : Nat → Nat → Int32) (fP : Nat → Nat → Nat) (fM : Nat → Nat → Int32) (fO : Nat → Nat → Int32) (sz : Nat) (i1 : Int32) (q0 : mI x1.toInt x2.toInt x3.toInt f0 fP) : Met l yX10_more mwX10_morem ({ frames := 24, cells := 0, slots := 0, locals := 1440 }) (va_Pc [.ref (ad 0), .int i1] (fun U => U.heap.size = sz ∧ va_P (dC, dI) vwCl (mW ad kc x0 x1 x2 x3 x4 x5 x6 x7 x8 x9 x10 x11 x12 x13 x14 x15 x16 x17 x18 x19 x20 x21 f0 f1 f2 f3 f4 f5 f6 f7 f8 f9 f10 f11 f12 f13 f14 f15 f16 f17 f18 f19 f20 f21 fL fN fP fM fO) U.heap ∧ va_K (dC, dI) vwCl (mT kc) U ∧ va_D (fun _ => True) (mW ad kc x0 x1 x2 x3 x4 x5 x6 x7 x8 x9 x10 x11 x12 x13 x14 x15 x16 x17 x18 x19 x20 x21 f0 f1 f2 f3 f4 f5 f6 f7 f8 f9 f10 f11 f12 f13 f14 f15 f16 f17 f18 f19 f20 f21 fL fN fP fM fO) ∧ sW (va_A (mW ad kc x0 x1 x2 x3 x4 x5 x6 x7 x8 x9 x10 x11 x12 x13 x14 x15 x16 x17 x18 x19 x20 x21 f0 f1 f2 f3 f4 f5 f6 f7 f8 f9 f10 f11 f12 f13 f14 f15 f16 f17 f18 f19 f20 f21 fL fN fP fM fO) sz) U U.heap)) (va_Qi (fun (o9 u9 : Int32) => o9 = u9) (fun (o9 : Int32) t => ∃ (y0 y1 y3 y4 y5 y6 y7 y8 y9 y10 y11 : Int32) (g0 g2 : Nat → Int32), (mI y1.toInt x2.toInt y3.toInt g0 fP) ∧ ((0 ≤ i1.toInt ∧ i1.toInt ≤ x3.toInt ∧ y3.toInt = 0) ∨ ((i1.toInt < 0 ∨ x3.toInt < i1.toInt) ∧ y3.toInt = x3.toInt)) ∧ va_P (dC, dI) vwCl (mW ad kc y0 y1 x2 y3 y4 y5 y6 y7 y8 y9 y10 y11 x12 x13 x14 x15 x16 x17 x18 x19 x20 x21 g0 f1 g2 f3 f4 f5 f6 f7 f8 f9 f10 f11 f12 f13 f14 f15 f16 f17 f18 f19 f20 f21 fL fN fP fM fO) t.heap ∧ va_K (dC, dI) vwCl (mT kc) t ∧ va_D (va_A (mW ad kc x0 x1 x2 x3 x4 x5 x6 x7 x8 x9 x10 x11 x12 x13 x14 x15 x16 x17 x18 x19 x20 x21 f0 f1 f2 f3 f4 f5 f6 f7 f8 f9 f10 f11 f12 f13 f14 f15 f16 f17 f18 f19 f20 f21 fL fN fP fM fO) sz) (mW ad kc y0 y1 x2 y3 y4 y5 y6 y7 y8 y9 y10 y11 x12 x13 x14 x15 x16 x17 x18 x19 x20 x21 g0 f1 g2 f3 f4 f5 f6 f7 f8 f9 f10 f11 f12 f13 f14 f15 f16 f17 f18 f19 f20 f21 fL fN fP fM fO)) (va_A (mW ad kc x0 x1 x2 x3 x4 x5 x6 x7 x8 x9 x10 x11 x12 x13 x14 x15 x16 x17 x18 x19 x20 x21 f0 f1 f2 f3 f4 f5 f6 f7 f8 f9 f10 f11 f12 f13 f14 f15 f16 f17 f18 f19 f20 f21 fL fN fP fM fO) sz)) 0 0 (va_A (mW ad kc x0 x1 x2 x3 x4 x5 x6 x7 x8 x9 x10 x11 x12 x13 x14 x15 x16 x17 x18 x19 x20 x21 f0 f1 f2 f3 f4 f5 f6 f7 f8 f9 f10 f11 f12 f13 f14 f15 f16 f17 f18 f19 f20 f21 fL fN fP fM fO) sz) := by
  refine Met.ofW (cc := cX10_more) (maxL := 2) (ret := (some .int)) (by decide +kernel) rfl ?_
  intro p e s m args below meth c s₁ B hml hv
  obtain ⟨rfl, hsz, hP, hK, hD0, hSW⟩ := hv
  have hx := B.exec
  have hb := B.bytes
  have hr := B.returns
  have hts := atoms_spec (ws := mwX10_morem) B.pre
  have hown : s.vm.findClass RX10 = some m.cls := findClass_of_methodNamed B.named
  have hlocks := B.notSynchronized
  subst hsz
  have hD := hD0.self (sz := s.heap.size)
  generalize hAe : va_A (mW ad kc x0 x1 x2 x3 x4 x5 x6 x7 x8 x9 x10 x11 x12 x13 x14 x15 x16 x17 x18 x19 x20 x21 f0 f1 f2 f3 f4 f5 f6 f7 f8 f9 f10 f11 f12 f13 f14 f15 f16 f17 f18 f19 f20 f21 fL fN fP fM fO) s.heap.size = A at hD hSW ⊢
  have hA : ∀ q : Nat, s.heap.size ≤ q → A q := fun q h => by rw [← hAe]; exact Or.inr h
  have hP : va_P (dC, dI) vwCl (mW ad kc x0 x1 x2 x3 x4 x5 x6 x7 x8 x9 x10 x11 x12 x13 x14 x15 x16 x17 x18 x19 x20 x21 f0 f1 f2 f3 f4 f5 f6 f7 f8 f9 f10 f11 f12 f13 f14 f15 f16 f17 f18 f19 f20 f21 fL fN fP fM fO) s.heap := hP
  have hD : va_D A (mW ad kc x0 x1 x2 x3 x4 x5 x6 x7 x8 x9 x10 x11 x12 x13 x14 x15 x16 x17 x18 x19 x20 x21 f0 f1 f2 f3 f4 f5 f6 f7 f8 f9 f10 f11 f12 f13 f14 f15 f16 f17 f18 f19 f20 f21 fL fN fP fM fO) := hD
  have hK : va_K (dC, dI) vwCl (mT kc) s := hK
  generalize hH : s.heap = H at hP ⊢
  have hS : va_S A s.heap H [] := by rw [← hH]; exact va_S.rf
  have hl := lv_entry ([.ref (ad 0), .int i1]) (n := 2) (Nat.le_of_ble_eq_true rfl)
  rw [lg_entry_eq]
  generalize (lg_sl ([.ref (ad 0), .int i1]) ++ List.replicate (2 - (lg_sl ([.ref (ad 0), .int i1])).length) Slot.unset).toArray = ls at hl ⊢
  have hl : lv_has ls 2 [(0, .ref (ad 0)), (1, .int i1)] := hl
  have rg_i1 := i_rng i1
  have hd := q0.d
  have hpi := q0.p
  have hq1 := q0.1
  have hq2 := q0.2.1
  have hq3 := q0.2.2.1
  have hd10 := hd.n0
  have hp8 := hd.P0
  refine lv_iload_n hx hb dX10_more_0 rfl (lv_at hl 1 rfl) ?_
  refine lv_iconst (v := 0) hx hb dX10_more_1 (by decide) ?_
  refine lv_aload_n hx hb dX10_more_2 rfl (lv_at hl 0 rfl) ?_
  refine va_get (D := (dC, dI)) (ci := 10) (v := .int x3) (C := RX10) (T := TX10) (N := 48) hx hb hts fin_X10_morem_X10 hown hK hP 0 rfl rfl 6 (by decide) (hts (.fieldLink RX10 107 "PatternGateModel" "taped" "I") (List.mem_of_getElem? (i := 1) (by decide +kernel))) (fun _ h9 => h9) rfl dX10_more_3 ?_
  refine vp_callSi (W.runS (As := [.int i1, .int 0, .int x3]) (rest := []) ⟨hx, hb, hml, hown, hts⟩ (m_isFrom l dC dI  i1 0 x3 ) (va_cwS 3 hts mg_X10_morem_X10_isFrom_200 rfl rfl rfl (by decide +kernel) ⟨Nat.le_of_ble_eq_true rfl, Nat.le_of_ble_eq_true rfl⟩) ⟨fun a U g mk q => ⟨q.1, trivial⟩, fun U hU hW => ⟨rfl, trivial⟩⟩ rfl rfl hl.1 rfl (lv_room (Nat.le_of_ble_eq_true rfl)) dX10_more_6 ⟨Nat.le_of_ble_eq_true rfl, Nat.le_of_ble_eq_true rfl⟩) (fun r_1 hr_1 => ?_)
  have rg_r_1 := i_rng r_1
  refine lv_if_ne (tgt := 18) hx hb dX10_more_9 (by decide) (fun k_2 => ?_) (fun k_2 => ?_)
  · have tk_2 := c_ne (a := r_1.toInt) (b := 0) rfl (by decide) k_2
    refine lv_aload_n hx hb dX10_more_18 rfl (lv_at hl 0 rfl) ?_
    refine lv_iload_n hx hb dX10_more_19 rfl (lv_at hl 1 rfl) ?_
    refine lv_iconst (v := 0) hx hb dX10_more_20 (by decide) ?_
    have hFc := m_free hD hS hA
    refine va_calli (va_runV (As := [.int i1, .int 0]) (rest := []) ⟨hx, hb, hml, hown, hts⟩ (m_reads l dC dI ad kc x0 x1 x2 x3 x4 x5 x6 x7 x8 x9 x10 x11 x12 x13 x14 x15 x16 x17 x18 x19 x20 x21 f0 f1 f2 f3 f4 f5 f6 f7 f8 f9 f10 f11 f12 f13 f14 f15 f16 f17 f18 f19 f20 f21 fL fN fP fM fO H.size i1 0 (by first | omega | assumption | decide | (have l0 := Int32.toInt_zero; omega)) (by first | omega | assumption | decide | (have l0 := Int32.toInt_zero; omega)) (by first | omega | assumption | decide | (have l0 := Int32.toInt_zero; omega))) (cwV 2 hts mg_X10_morem_X10_reads_207 rfl rfl rfl (by decide +kernel) ⟨Nat.le_of_ble_eq_true rfl, Nat.le_of_ble_eq_true rfl⟩) ⟨fun a U g mk q => by obtain ⟨q0, q1, qP, qK, qD, qE0⟩ := q; exact ⟨q0, q1, qP, va_K.moved (u := U) (U := U.calling g mk a) (Vm.Alike.refl U.vm) qK, qD, sW.call qE0⟩, va_recv hK hP (ci := 10) (q0 := 0) rfl rfl, fun U hU hW => ⟨rfl, by rw [hU], by rw [hU]; exact hP, va_K.moved hW.alike hK, hD.weaken (fun _ _ _ _ => trivial), sW.to hSW hS hFc hW hU⟩⟩ rfl rfl hl.1 rfl (lv_room (Nat.le_of_ble_eq_true rfl)) dX10_more_21 ⟨Nat.le_of_ble_eq_true rfl, Nat.le_of_ble_eq_true rfl⟩) hS (fun q _ h => hFc q h) hFc (fun r_3 u t H1 locs ht hvm hw hB hz1 hk1 hS => ?_)
    subst hw
    obtain ⟨x_4, x_5, x_6, x_7, x_8, x_9, x_10, x_11, x_12, f_13, f_14, hr_3_0, hr_3_1, hr_3_2, hr_3_3, hP, hK1, hD1⟩ := hB
    rw [ht] at hP
    have hD := hD1.weaken (fun k q _ h => hFc q.1 h)
    clear hz1 hk1 hFc hD1 hK1 hvm
    generalize H1 = H at hP hS ⊢
    have rg_x_4 := i_rng x_4
    have rg_x_5 := i_rng x_5
    have rg_x_6 := i_rng x_6
    have rg_x_7 := i_rng x_7
    have rg_x_8 := i_rng x_8
    have rg_x_9 := i_rng x_9
    have rg_x_10 := i_rng x_10
    have rg_x_11 := i_rng x_11
    have rg_x_12 := i_rng x_12
    have rg_r_3 := i_rng r_3
    have hP : va_P (dC, dI) vwCl (mW ad kc x0 x1 x2 x_4 x_5 x_6 x_7 x_8 x_9 x_10 x_11 x_12 x12 x13 x14 x15 x16 x17 x18 x19 x20 x21 f_13 f1 f_14 f3 f4 f5 f6 f7 f8 f9 f10 f11 f12 f13 f14 f15 f16 f17 f18 f19 f20 f21 fL fN fP fM fO) H := hP
    have hD : va_D A (mW ad kc x0 x1 x2 x_4 x_5 x_6 x_7 x_8 x_9 x_10 x_11 x_12 x12 x13 x14 x15 x16 x17 x18 x19 x20 x21 f_13 f1 f_14 f3 f4 f5 f6 f7 f8 f9 f10 f11 f12 f13 f14 f15 f16 f17 f18 f19 f20 f21 fL fN fP fM fO) := hD
    have hdR := hr_3_0
    have hmR := hr_3_1
    refine lv_if_ne (tgt := 34) hx hb dX10_more_24 (by decide) (fun k_15 => ?_) (fun k_15 => ?_)
    · have tk_15 := c_ne (a := r_3.toInt) (b := 0) rfl (by decide) k_15
      refine lv_aload_n hx hb dX10_more_34 rfl (lv_at hl 0 rfl) ?_
      have hFc := m_free hD hS hA
      refine va_callv (va_runV (As := []) (rest := []) ⟨hx, hb, hml, hown, hts⟩ (m_acted l dC dI ad kc x0 x1 x2 x_4 x_5 x_6 x_7 x_8 x_9 x_10 x_11 x_12 x12 x13 x14 x15 x16 x17 x18 x19 x20 x21 f_13 f1 f_14 f3 f4 f5 f6 f7 f8 f9 f10 f11 f12 f13 f14 f15 f16 f17 f18 f19 f20 f21 fL fN fP fM fO H.size (by first | omega | assumption | decide | (have l0 := Int32.toInt_zero; omega)) (by first | omega | assumption | decide | (have l0 := Int32.toInt_zero; omega)) (by first | omega | assumption | decide | (have l0 := Int32.toInt_zero; omega)) (by first | omega | assumption | decide | (have l0 := Int32.toInt_zero; omega))) (cwV 0 hts mg_X10_morem_X10_acted_211 rfl rfl rfl (by decide +kernel) ⟨Nat.le_of_ble_eq_true rfl, Nat.le_of_ble_eq_true rfl⟩) ⟨fun a U g mk q => by obtain ⟨q0, q1, qP, qK, qD⟩ := q; exact ⟨q0, q1, qP, va_K.moved (u := U) (U := U.calling g mk a) (Vm.Alike.refl U.vm) qK, qD⟩, va_recv hK hP (ci := 10) (q0 := 0) rfl rfl, fun U hU hW => ⟨rfl, by rw [hU], by rw [hU]; exact hP, va_K.moved hW.alike hK, hD.weaken (fun _ _ _ _ => trivial)⟩⟩ rfl rfl hl.1 rfl (lv_room (Nat.le_of_ble_eq_true rfl)) dX10_more_35 ⟨Nat.le_of_ble_eq_true rfl, Nat.le_of_ble_eq_true rfl⟩) hS (fun q _ h => hFc q h) hFc (fun u t H1 locs ht hvm hw hB hz1 hk1 hS => ?_)
      obtain ⟨x_17, f_18, hr_16_0, hr_16_1, hr_16_2, hP, hK1, hD1⟩ := hB
      rw [ht] at hP
      have hD := hD1.weaken (fun k q _ h => hFc q.1 h)
      clear hz1 hk1 hFc hD1 hK1 hvm
      generalize H1 = H at hP hS ⊢
      have rg_x_17 := i_rng x_17
      have hP : va_P (dC, dI) vwCl (mW ad kc x0 x_17 x2 x_4 x_5 x_6 x_7 x_8 x_9 x_10 x_11 x_12 x12 x13 x14 x15 x16 x17 x18 x19 x20 x21 f_18 f1 f_14 f3 f4 f5 f6 f7 f8 f9 f10 f11 f12 f13 f14 f15 f16 f17 f18 f19 f20 f21 fL fN fP fM fO) H := hP
      have hD : va_D A (mW ad kc x0 x_17 x2 x_4 x_5 x_6 x_7 x_8 x_9 x_10 x_11 x_12 x12 x13 x14 x15 x16 x17 x18 x19 x20 x21 f_18 f1 f_14 f3 f4 f5 f6 f7 f8 f9 f10 f11 f12 f13 f14 f15 f16 f17 f18 f19 f20 f21 fL fN fP fM fO) := hD
      refine lv_aload_n hx hb dX10_more_38 rfl (lv_at hl 0 rfl) ?_
      refine lv_aload_n hx hb dX10_more_39 rfl (lv_at hl 0 rfl) ?_
      refine va_get (D := (dC, dI)) (ci := 10) (v := .ref (ad 1)) (C := RX10) (T := TX10) (N := 48) hx hb hts fin_X10_morem_X10 hown hK hP 0 rfl rfl 0 (by decide) (hts (.fieldLink RX10 8 "PatternGateModel" "all" "[I") (List.mem_of_getElem? (i := 11) (by decide +kernel))) (fun _ h9 => h9) rfl dX10_more_40 ?_
      refine lv_iconst (v := 0) hx hb dX10_more_43 (by decide) ?_
      refine va_iald hx hb hK hP 1 0 rfl rfl (i := 0) (by unfold vp_in; decide +kernel) dX10_more_44 ?_
      refine lv_topi (fun y_19 ey_19 => ?_)
      have rg_y_19 := i_rng y_19
      have vy_19 := vI_lda (f := f_18) (i := 0) (a := 0) ey_19 (by first | omega | decide)
      have rg_y_19 := i_rng y_19
      refine lv_aload_n hx hb dX10_more_45 rfl (lv_at hl 0 rfl) ?_
      refine va_get (D := (dC, dI)) (ci := 10) (v := .ref (ad 1)) (C := RX10) (T := TX10) (N := 48) hx hb hts fin_X10_morem_X10 hown hK hP 0 rfl rfl 0 (by decide) (hts (.fieldLink RX10 8 "PatternGateModel" "all" "[I") (List.mem_of_getElem? (i := 11) (by decide +kernel))) (fun _ h9 => h9) rfl dX10_more_46 ?_
      refine lv_sipush (v := 611) hx hb dX10_more_49 (by decide) ?_
      refine va_iald hx hb hK hP 1 0 rfl rfl (i := 611) (by unfold vp_in; decide +kernel) dX10_more_52 ?_
      refine lv_topi (fun y_20 ey_20 => ?_)
      have rg_y_20 := i_rng y_20
      have vy_20 := vI_lda (f := f_18) (i := 611) (a := 611) ey_20 (by first | omega | decide)
      have rg_y_20 := i_rng y_20
      refine lv_iadd hx hb dX10_more_53 ?_
      refine lv_topi (fun y_21 ey_21 => ?_)
      first | have ty_21 := i_add (a := y_19.toInt) (b := y_20.toInt) rfl rfl ey_21 (by omega) (by omega) | skip
      refine lv_aload_n hx hb dX10_more_54 rfl (lv_at hl 0 rfl) ?_
      refine va_get (D := (dC, dI)) (ci := 10) (v := .ref (ad 1)) (C := RX10) (T := TX10) (N := 48) hx hb hts fin_X10_morem_X10 hown hK hP 0 rfl rfl 0 (by decide) (hts (.fieldLink RX10 8 "PatternGateModel" "all" "[I") (List.mem_of_getElem? (i := 11) (by decide +kernel))) (fun _ h9 => h9) rfl dX10_more_55 ?_
      refine lv_sipush (v := 7820) hx hb dX10_more_58 (by decide) ?_
      refine va_iald hx hb hK hP 1 0 rfl rfl (i := 7820) (by unfold vp_in; decide +kernel) dX10_more_61 ?_
      refine lv_topi (fun y_22 ey_22 => ?_)
      have rg_y_22 := i_rng y_22
      have vy_22 := vI_lda (f := f_18) (i := 7820) (a := 7820) ey_22 (by first | omega | decide)
      have rg_y_22 := i_rng y_22
      refine lv_isub hx hb dX10_more_62 ?_
      refine lv_topi (fun y_23 ey_23 => ?_)
      first | have ty_23 := i_sub (a := y_21.toInt) (b := y_22.toInt) rfl rfl ey_23 (by omega) (by omega) | skip
      refine lv_aload_n hx hb dX10_more_63 rfl (lv_at hl 0 rfl) ?_
      refine va_get (D := (dC, dI)) (ci := 10) (v := .ref (ad 1)) (C := RX10) (T := TX10) (N := 48) hx hb hts fin_X10_morem_X10 hown hK hP 0 rfl rfl 0 (by decide) (hts (.fieldLink RX10 8 "PatternGateModel" "all" "[I") (List.mem_of_getElem? (i := 11) (by decide +kernel))) (fun _ h9 => h9) rfl dX10_more_64 ?_
      refine lv_sipush (v := 8431) hx hb dX10_more_67 (by decide) ?_
      refine va_iald hx hb hK hP 1 0 rfl rfl (i := 8431) (by unfold vp_in; decide +kernel) dX10_more_70 ?_
      refine lv_topi (fun y_24 ey_24 => ?_)
      have rg_y_24 := i_rng y_24
      have vy_24 := vI_lda (f := f_18) (i := 8431) (a := 8431) ey_24 (by first | omega | decide)
      have rg_y_24 := i_rng y_24
      refine lv_isub hx hb dX10_more_71 ?_
      refine lv_topi (fun y_25 ey_25 => ?_)
      first | have ty_25 := i_sub (a := y_23.toInt) (b := y_24.toInt) rfl rfl ey_25 (by omega) (by omega) | skip
      have hFc := m_free hD hS hA
      refine va_calli (va_runV (As := [.int y_25]) (rest := []) ⟨hx, hb, hml, hown, hts⟩ (m_gives l dC dI ad kc x0 x_17 x2 x_4 x_5 x_6 x_7 x_8 x_9 x_10 x_11 x_12 x12 x13 x14 x15 x16 x17 x18 x19 x20 x21 f_18 f1 f_14 f3 f4 f5 f6 f7 f8 f9 f10 f11 f12 f13 f14 f15 f16 f17 f18 f19 f20 f21 fL fN fP fM fO H.size y_25 ) (cwV 1 hts mg_X10_morem_X10_gives_214 rfl rfl rfl (by decide +kernel) ⟨Nat.le_of_ble_eq_true rfl, Nat.le_of_ble_eq_true rfl⟩) ⟨fun a U g mk q => by obtain ⟨q0, q1, qP, qK, qD⟩ := q; exact ⟨q0, q1, qP, va_K.moved (u := U) (U := U.calling g mk a) (Vm.Alike.refl U.vm) qK, qD⟩, va_recv hK hP (ci := 10) (q0 := 0) rfl rfl, fun U hU hW => ⟨rfl, by rw [hU], by rw [hU]; exact hP, va_K.moved hW.alike hK, hD.weaken (fun _ _ _ _ => trivial)⟩⟩ rfl rfl hl.1 rfl (lv_room (Nat.le_of_ble_eq_true rfl)) dX10_more_72 ⟨Nat.le_of_ble_eq_true rfl, Nat.le_of_ble_eq_true rfl⟩) hS (fun q _ h => hFc q h) hFc (fun r_26 u t H1 locs ht hvm hw hB hz1 hk1 hS => ?_)
      subst hw
      obtain ⟨hr_26_0, hP, hK1, hD1⟩ := hB
      rw [ht] at hP
      have hD := hD1.weaken (fun k q _ h => hFc q.1 h)
      clear hz1 hk1 hFc hD1 hK1 hvm
      generalize H1 = H at hP hS ⊢
      have rg_r_26 := i_rng r_26
      have hP : va_P (dC, dI) vwCl (mW ad kc 0 x_17 x2 x_4 x_5 x_6 x_7 x_8 x_9 x_10 x_11 x_12 x12 x13 x14 x15 x16 x17 x18 x19 x20 x21 f_18 f1 f_14 f3 f4 f5 f6 f7 f8 f9 f10 f11 f12 f13 f14 f15 f16 f17 f18 f19 f20 f21 fL fN fP fM fO) H := hP
      have hD : va_D A (mW ad kc 0 x_17 x2 x_4 x_5 x_6 x_7 x_8 x_9 x_10 x_11 x_12 x12 x13 x14 x15 x16 x17 x18 x19 x20 x21 f_18 f1 f_14 f3 f4 f5 f6 f7 f8 f9 f10 f11 f12 f13 f14 f15 f16 f17 f18 f19 f20 f21 fL fN fP fM fO) := hD
      have lit_26 : (0 : Int32).toInt = 0 := by decide
      exact W.iret hx hb hr (fun t ht hW => ⟨⟨_, _, rfl, rfl, 0, x_17, x_4, x_5, x_6, x_7, x_8, x_9, x_10, x_11, x_12, f_18, f_14, (mC.mI hr_16_1 hr_16_0 (by have h9 := hr_16_2; omega) hq2 (by omega) hpi), (by first | omega | assumption | rfl | decide), by rw [ht]; exact hP, va_K.moved hW.alike hK, hD⟩, hS.F ht⟩) hS.2.2 dX10_more_75
    · have tk_15 := c_eq (a := r_3.toInt) (b := 0) rfl (by decide) k_15
      refine lv_aload_n hx hb dX10_more_27 rfl (lv_at hl 0 rfl) ?_
      refine lv_bipush (v := 9) hx hb dX10_more_28 (by decide) ?_
      have hFc := m_free hD hS hA
      refine va_calli (va_runV (As := [.int 9]) (rest := []) ⟨hx, hb, hml, hown, hts⟩ (m_refuse l dC dI ad kc x0 x1 x2 x_4 x_5 x_6 x_7 x_8 x_9 x_10 x_11 x_12 x12 x13 x14 x15 x16 x17 x18 x19 x20 x21 f_13 f1 f_14 f3 f4 f5 f6 f7 f8 f9 f10 f11 f12 f13 f14 f15 f16 f17 f18 f19 f20 f21 fL fN fP fM fO H.size 9 ) (cwV 1 hts mg_X10_morem_X10_refuse_204 rfl rfl rfl (by decide +kernel) ⟨Nat.le_of_ble_eq_true rfl, Nat.le_of_ble_eq_true rfl⟩) ⟨fun a U g mk q => by obtain ⟨q0, q1, qP, qK, qD⟩ := q; exact ⟨q0, q1, qP, va_K.moved (u := U) (U := U.calling g mk a) (Vm.Alike.refl U.vm) qK, qD⟩, va_recv hK hP (ci := 10) (q0 := 0) rfl rfl, fun U hU hW => ⟨rfl, by rw [hU], by rw [hU]; exact hP, va_K.moved hW.alike hK, hD.weaken (fun _ _ _ _ => trivial)⟩⟩ rfl rfl hl.1 rfl (lv_room (Nat.le_of_ble_eq_true rfl)) dX10_more_30 ⟨Nat.le_of_ble_eq_true rfl, Nat.le_of_ble_eq_true rfl⟩) hS (fun q _ h => hFc q h) hFc (fun r_28 u t H1 locs ht hvm hw hB hz1 hk1 hS => ?_)
      subst hw
      obtain ⟨hr_28_0, hP, hK1, hD1⟩ := hB
      rw [ht] at hP
      have hD := hD1.weaken (fun k q _ h => hFc q.1 h)
      clear hz1 hk1 hFc hD1 hK1 hvm
      generalize H1 = H at hP hS ⊢
      have rg_r_28 := i_rng r_28
      have hP : va_P (dC, dI) vwCl (mW ad kc 9 x1 x2 x_4 x_5 x_6 x_7 x_8 x_9 x_10 x_11 x_12 x12 x13 x14 x15 x16 x17 x18 x19 x20 x21 f_13 f1 f_14 f3 f4 f5 f6 f7 f8 f9 f10 f11 f12 f13 f14 f15 f16 f17 f18 f19 f20 f21 fL fN fP fM fO) H := hP
      have hD : va_D A (mW ad kc 9 x1 x2 x_4 x_5 x_6 x_7 x_8 x_9 x_10 x_11 x_12 x12 x13 x14 x15 x16 x17 x18 x19 x20 x21 f_13 f1 f_14 f3 f4 f5 f6 f7 f8 f9 f10 f11 f12 f13 f14 f15 f16 f17 f18 f19 f20 f21 fL fN fP fM fO) := hD
      have lit_28 : (9 : Int32).toInt = 9 := by decide
      exact W.iret hx hb hr (fun t ht hW => ⟨⟨_, _, rfl, rfl, 9, x1, x_4, x_5, x_6, x_7, x_8, x_9, x_10, x_11, x_12, f_13, f_14, (mC.mI hmR hdR hq1 hq2 (by omega) hpi), (by first | omega | assumption | rfl | decide), by rw [ht]; exact hP, va_K.moved hW.alike hK, hD⟩, hS.F ht⟩) hS.2.2 dX10_more_33
  · have tk_2 := c_eq (a := r_1.toInt) (b := 0) rfl (by decide) k_2
    refine lv_aload_n hx hb dX10_more_12 rfl (lv_at hl 0 rfl) ?_
    refine lv_iconst (v := 1) hx hb dX10_more_13 (by decide) ?_
    have hFc := m_free hD hS hA
    refine va_calli (va_runV (As := [.int 1]) (rest := []) ⟨hx, hb, hml, hown, hts⟩ (m_refuse l dC dI ad kc x0 x1 x2 x3 x4 x5 x6 x7 x8 x9 x10 x11 x12 x13 x14 x15 x16 x17 x18 x19 x20 x21 f0 f1 f2 f3 f4 f5 f6 f7 f8 f9 f10 f11 f12 f13 f14 f15 f16 f17 f18 f19 f20 f21 fL fN fP fM fO H.size 1 ) (cwV 1 hts mg_X10_morem_X10_refuse_204 rfl rfl rfl (by decide +kernel) ⟨Nat.le_of_ble_eq_true rfl, Nat.le_of_ble_eq_true rfl⟩) ⟨fun a U g mk q => by obtain ⟨q0, q1, qP, qK, qD⟩ := q; exact ⟨q0, q1, qP, va_K.moved (u := U) (U := U.calling g mk a) (Vm.Alike.refl U.vm) qK, qD⟩, va_recv hK hP (ci := 10) (q0 := 0) rfl rfl, fun U hU hW => ⟨rfl, by rw [hU], by rw [hU]; exact hP, va_K.moved hW.alike hK, hD.weaken (fun _ _ _ _ => trivial)⟩⟩ rfl rfl hl.1 rfl (lv_room (Nat.le_of_ble_eq_true rfl)) dX10_more_14 ⟨Nat.le_of_ble_eq_true rfl, Nat.le_of_ble_eq_true rfl⟩) hS (fun q _ h => hFc q h) hFc (fun r_30 u t H1 locs ht hvm hw hB hz1 hk1 hS => ?_)
    subst hw
    obtain ⟨hr_30_0, hP, hK1, hD1⟩ := hB
    rw [ht] at hP
    have hD := hD1.weaken (fun k q _ h => hFc q.1 h)
    clear hz1 hk1 hFc hD1 hK1 hvm
    generalize H1 = H at hP hS ⊢
    have rg_r_30 := i_rng r_30
    have hP : va_P (dC, dI) vwCl (mW ad kc 1 x1 x2 x3 x4 x5 x6 x7 x8 x9 x10 x11 x12 x13 x14 x15 x16 x17 x18 x19 x20 x21 f0 f1 f2 f3 f4 f5 f6 f7 f8 f9 f10 f11 f12 f13 f14 f15 f16 f17 f18 f19 f20 f21 fL fN fP fM fO) H := hP
    have hD : va_D A (mW ad kc 1 x1 x2 x3 x4 x5 x6 x7 x8 x9 x10 x11 x12 x13 x14 x15 x16 x17 x18 x19 x20 x21 f0 f1 f2 f3 f4 f5 f6 f7 f8 f9 f10 f11 f12 f13 f14 f15 f16 f17 f18 f19 f20 f21 fL fN fP fM fO) := hD
    have lit_30 : (1 : Int32).toInt = 1 := by decide
    exact W.iret hx hb hr (fun t ht hW => ⟨⟨_, _, rfl, rfl, 1, x1, x3, x4, x5, x6, x7, x8, x9, x10, x11, f0, f2, q0, (by first | omega | assumption | rfl | decide), by rw [ht]; exact hP, va_K.moved hW.alike hK, hD⟩, hS.F ht⟩) hS.2.2 dX10_more_17

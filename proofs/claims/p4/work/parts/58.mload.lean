/-- the reference's constant texts -/
def sW (A : Nat → Prop) (U : State) (H : Heap) : Prop := ∃ qd qp : Nat, vk_R RX10 173 "doc" qd U ∧ vk_R RX10 179 "pattern" qp U ∧ sX A U H qd 3 ∧ sX A U H qp 7 ∧ sC A U H
theorem sW.call {A : Nat → Prop} {U : State} {H : Heap} {g : JFrame} {mk : MethodId} {a : Array Value} (h : sW A U H) : sW A (U.calling g mk a) H := by
  obtain ⟨qd, qp, h1, h2, h3, h4, h5⟩ := h
  exact ⟨qd, qp, vk_R.same (u := U) rfl h1, vk_R.same (u := U) rfl h2, sX.moved (u := U) (U := U.calling g mk a) (Vm.Alike.refl U.vm) h3, sX.moved (u := U) (U := U.calling g mk a) (Vm.Alike.refl U.vm) h4, sC.moved (u := U) (U := U.calling g mk a) (Vm.Alike.refl U.vm) h5⟩
theorem sW.to {A B : Nat → Prop} {s U : State} {H : Heap} {locs : List Loc} (h : sW A s s.heap) (hS : va_S A s.heap H locs) (hF : ∀ q, B q → A q) (hW : s.WarmedH U.vm) (hU : U.heap = H) : sW B U U.heap := by
  obtain ⟨qd, qp, h1, h2, h3, h4, h5⟩ := h
  rw [hU]
  exact ⟨qd, qp, vk_R.warm hW h1, vk_R.warm hW h2, ((h3.kept hS.2.1).narrow hF).moved hW.alike, ((h4.kept hS.2.1).narrow hF).moved hW.alike, ((h5.kept hS.2.1).narrow hF).moved hW.alike⟩
theorem sX.to {A B : Nat → Prop} {s U : State} {H : Heap} {locs : List Loc} {q n : Nat} (h : sX A s s.heap q n) (hS : va_S A s.heap H locs) (hF : ∀ q, B q → A q) (hW : s.WarmedH U.vm) (hU : U.heap = H) : sX B U U.heap q n := by
  rw [hU]; exact ((h.kept hS.2.1).narrow hF).moved hW.alike
theorem sC.to {A B : Nat → Prop} {s U : State} {H : Heap} {locs : List Loc} (h : sC A s s.heap) (hS : va_S A s.heap H locs) (hF : ∀ q, B q → A q) (hW : s.WarmedH U.vm) (hU : U.heap = H) : sC B U U.heap := by
  rw [hU]; exact ((h.kept hS.2.1).narrow hF).moved hW.alike
theorem dX10_isWord_0 : decode cX10_isWord 0 = .ok (.aload_n 0, 1) := by decide +kernel
theorem dX10_isWord_1 : decode cX10_isWord 1 = .ok (.getfield 120, 3) := by decide +kernel
theorem dX10_isWord_4 : decode cX10_isWord 4 = .ok (.iconst 2, 1) := by decide +kernel
theorem dX10_isWord_5 : decode cX10_isWord 5 = .ok (.if_icmp .ne 23, 3) := by decide +kernel
theorem dX10_isWord_8 : decode cX10_isWord 8 = .ok (.aload_n 0, 1) := by decide +kernel
theorem dX10_isWord_9 : decode cX10_isWord 9 = .ok (.getfield 130, 3) := by decide +kernel
theorem dX10_isWord_12 : decode cX10_isWord 12 = .ok (.aload_n 0, 1) := by decide +kernel
theorem dX10_isWord_13 : decode cX10_isWord 13 = .ok (.getfield 123, 3) := by decide +kernel
theorem dX10_isWord_16 : decode cX10_isWord 16 = .ok (.isub, 1) := by decide +kernel
theorem dX10_isWord_17 : decode cX10_isWord 17 = .ok (.aload_n 1, 1) := by decide +kernel
theorem dX10_isWord_18 : decode cX10_isWord 18 = .ok (.invokevirtual 141, 3) := by decide +kernel
theorem dX10_isWord_21 : decode cX10_isWord 21 = .ok (.if_icmp .ne 7, 3) := by decide +kernel
theorem dX10_isWord_24 : decode cX10_isWord 24 = .ok (.iconst 1, 1) := by decide +kernel
theorem dX10_isWord_25 : decode cX10_isWord 25 = .ok (.goto 4, 3) := by decide +kernel
theorem dX10_isWord_28 : decode cX10_isWord 28 = .ok (.iconst 0, 1) := by decide +kernel
theorem dX10_isWord_29 : decode cX10_isWord 29 = .ok (.istore_n 2, 1) := by decide +kernel
theorem dX10_isWord_30 : decode cX10_isWord 30 = .ok (.iconst 0, 1) := by decide +kernel
theorem dX10_isWord_31 : decode cX10_isWord 31 = .ok (.istore_n 3, 1) := by decide +kernel
theorem dX10_isWord_32 : decode cX10_isWord 32 = .ok (.iload_n 3, 1) := by decide +kernel
theorem dX10_isWord_33 : decode cX10_isWord 33 = .ok (.aload_n 1, 1) := by decide +kernel
theorem dX10_isWord_34 : decode cX10_isWord 34 = .ok (.invokevirtual 141, 3) := by decide +kernel
theorem dX10_isWord_37 : decode cX10_isWord 37 = .ok (.if_icmp .ge 37, 3) := by decide +kernel
theorem dX10_isWord_40 : decode cX10_isWord 40 = .ok (.iload_n 2, 1) := by decide +kernel
theorem dX10_isWord_41 : decode cX10_isWord 41 = .ok (.ifCond .eq 33, 3) := by decide +kernel
theorem dX10_isWord_44 : decode cX10_isWord 44 = .ok (.aload_n 0, 1) := by decide +kernel
theorem dX10_isWord_45 : decode cX10_isWord 45 = .ok (.aload_n 0, 1) := by decide +kernel
theorem dX10_isWord_46 : decode cX10_isWord 46 = .ok (.getfield 123, 3) := by decide +kernel
theorem dX10_isWord_49 : decode cX10_isWord 49 = .ok (.iload_n 3, 1) := by decide +kernel
theorem dX10_isWord_50 : decode cX10_isWord 50 = .ok (.iadd, 1) := by decide +kernel
theorem dX10_isWord_51 : decode cX10_isWord 51 = .ok (.invokevirtual 133, 3) := by decide +kernel
theorem dX10_isWord_54 : decode cX10_isWord 54 = .ok (.aload_n 1, 1) := by decide +kernel
theorem dX10_isWord_55 : decode cX10_isWord 55 = .ok (.iload_n 3, 1) := by decide +kernel
theorem dX10_isWord_56 : decode cX10_isWord 56 = .ok (.invokevirtual 147, 3) := by decide +kernel
theorem dX10_isWord_59 : decode cX10_isWord 59 = .ok (.if_icmp .ne 7, 3) := by decide +kernel
theorem dX10_isWord_62 : decode cX10_isWord 62 = .ok (.iconst 1, 1) := by decide +kernel
theorem dX10_isWord_63 : decode cX10_isWord 63 = .ok (.goto 4, 3) := by decide +kernel
theorem dX10_isWord_66 : decode cX10_isWord 66 = .ok (.iconst 0, 1) := by decide +kernel
theorem dX10_isWord_67 : decode cX10_isWord 67 = .ok (.istore_n 2, 1) := by decide +kernel
theorem dX10_isWord_68 : decode cX10_isWord 68 = .ok (.iinc 3 1, 3) := by decide +kernel
theorem dX10_isWord_71 : decode cX10_isWord 71 = .ok (.goto (-39), 3) := by decide +kernel
theorem dX10_isWord_74 : decode cX10_isWord 74 = .ok (.iload_n 2, 1) := by decide +kernel
theorem dX10_isWord_75 : decode cX10_isWord 75 = .ok (.ireturn, 1) := by decide +kernel
def mwX10_isWordm : List Cond := .code yX10_isWord cX10_isWord 4 (some .boolean) :: (([.fieldLink RX10 120 "PatternGateModel" "token" "I", .methodLink RX10 141 yJ0_length_8abf5, .instanceMethod yJ0_length_8abf5, .selects RJ0 yJ0_length_8abf5 yJ0_length_8abf5, .initialized RJ0, .fieldLink RX10 123 "PatternGateModel" "begin" "I", .methodLink RX10 133 yX10_byteAt, .instanceMethod yX10_byteAt, .selects RX10 yX10_byteAt yX10_byteAt, .initialized RX10, .methodLink RX10 147 yJ0_charAt_5068e, .instanceMethod yJ0_charAt_5068e, .selects RJ0 yJ0_charAt_5068e yJ0_charAt_5068e, .fieldLink RX10 130 "PatternGateModel" "end" "I"] : List Cond) ++ (wsX100 ++ (mwJ0_length_8abf5j ++ (mwX10_byteAtm ++ (mwJ0_charAt_5068ej)))))
theorem fin_X10_isWordm_X10 : ∀ w ∈ wsX100, w ∈ mwX10_isWordm := fun w h => List.mem_cons_of_mem _ (List.mem_append_right _ (List.mem_append_left _ h))
set_option maxRecDepth 100000 in
theorem gd_mwJ0_length_8abf5j : mwJ0_length_8abf5j.all goodWord = true := by decide +kernel
set_option maxRecDepth 100000 in
theorem gd_mwX10_byteAtm : mwX10_byteAtm.all goodWord = true := by decide +kernel
set_option maxRecDepth 100000 in
theorem gd_mwJ0_charAt_5068ej : mwJ0_charAt_5068ej.all goodWord = true := by decide +kernel
set_option maxRecDepth 20000 in
theorem mg_X10_isWordm_J0_length_8abf5_141 : GoodIn mwX10_isWordm (wsV RX10 141 RJ0 yJ0_length_8abf5 mwJ0_length_8abf5j) := gi_app (A := [.methodLink RX10 141 yJ0_length_8abf5, .instanceMethod yJ0_length_8abf5, .selects RJ0 yJ0_length_8abf5 yJ0_length_8abf5, .initialized RJ0]) (goodIn_r _ [2, 3, 4, 5] (by decide +kernel) (by decide +kernel)) (gi_sub gd_mwJ0_length_8abf5j (fun w h => List.mem_cons_of_mem _ (List.mem_append_right _ (List.mem_append_right _ (List.mem_append_left _ h)))))
set_option maxRecDepth 20000 in
theorem mg_X10_isWordm_X10_byteAt_133 : GoodIn mwX10_isWordm (wsV RX10 133 RX10 yX10_byteAt mwX10_byteAtm) := gi_app (A := [.methodLink RX10 133 yX10_byteAt, .instanceMethod yX10_byteAt, .selects RX10 yX10_byteAt yX10_byteAt, .initialized RX10]) (goodIn_r _ [7, 8, 9, 10] (by decide +kernel) (by decide +kernel)) (gi_sub gd_mwX10_byteAtm (fun w h => List.mem_cons_of_mem _ (List.mem_append_right _ (List.mem_append_right _ (List.mem_append_right _ (List.mem_append_left _ h))))))
set_option maxRecDepth 20000 in
theorem mg_X10_isWordm_J0_charAt_5068e_147 : GoodIn mwX10_isWordm (wsV RX10 147 RJ0 yJ0_charAt_5068e mwJ0_charAt_5068ej) := gi_app (A := [.methodLink RX10 147 yJ0_charAt_5068e, .instanceMethod yJ0_charAt_5068e, .selects RJ0 yJ0_charAt_5068e yJ0_charAt_5068e, .initialized RJ0]) (goodIn_r _ [11, 12, 13, 5] (by decide +kernel) (by decide +kernel)) (gi_sub gd_mwJ0_charAt_5068ej (fun w h => List.mem_cons_of_mem _ (List.mem_append_right _ (List.mem_append_right _ (List.mem_append_right _ (List.mem_append_right _ (h)))))))
set_option maxHeartbeats 4000000 in
set_option maxRecDepth 100000 in
theorem m_isWord (l : Launch) (dC : Nat → ClassId) (dI : Nat → Nat → Nat) (ad : Nat → Nat) (kc : Nat → ClassId) (x0 x1 x2 x3 x4 x5 x6 x7 x8 x9 x10 x11 x12 x13 x14 x15 x16 x17 x18 x19 x20 x21 : Int32) (f0 f1 f2 f3 f4 f5 f6 f7 f8 f9 f10 f11 f12 f13 f14 f15 f16 f17 f18 f19 f20 f21 : Nat → Int32) (fL : Nat → Nat → Int64) (fN : Nat → Nat → Int32) (fP : Nat → Nat → Nat) (fM : Nat → Nat → Int32) (fO : Nat → Nat → Int32) (sz : Nat) (qs : Nat) (ns : Nat) (q0 : ns < 100) (q1 : 0 ≤ x6.toInt ∧ x6.toInt ≤ 900) (q2 : x4.toInt ≤ 900) : Met l yX10_isWord mwX10_isWordm ({ frames := 4, cells := 0, slots := 0, locals := 240 }) (va_Pc [.ref (ad 0), .ref qs] (fun U => U.heap.size = sz ∧ va_P (dC, dI) vwCl (mW ad kc x0 x1 x2 x3 x4 x5 x6 x7 x8 x9 x10 x11 x12 x13 x14 x15 x16 x17 x18 x19 x20 x21 f0 f1 f2 f3 f4 f5 f6 f7 f8 f9 f10 f11 f12 f13 f14 f15 f16 f17 f18 f19 f20 f21 fL fN fP fM fO) U.heap ∧ va_K (dC, dI) vwCl (mT kc) U ∧ va_D (fun _ => True) (mW ad kc x0 x1 x2 x3 x4 x5 x6 x7 x8 x9 x10 x11 x12 x13 x14 x15 x16 x17 x18 x19 x20 x21 f0 f1 f2 f3 f4 f5 f6 f7 f8 f9 f10 f11 f12 f13 f14 f15 f16 f17 f18 f19 f20 f21 fL fN fP fM fO) ∧ sX (va_A (mW ad kc x0 x1 x2 x3 x4 x5 x6 x7 x8 x9 x10 x11 x12 x13 x14 x15 x16 x17 x18 x19 x20 x21 f0 f1 f2 f3 f4 f5 f6 f7 f8 f9 f10 f11 f12 f13 f14 f15 f16 f17 f18 f19 f20 f21 fL fN fP fM fO) sz) U U.heap qs ns ∧ sC (va_A (mW ad kc x0 x1 x2 x3 x4 x5 x6 x7 x8 x9 x10 x11 x12 x13 x14 x15 x16 x17 x18 x19 x20 x21 f0 f1 f2 f3 f4 f5 f6 f7 f8 f9 f10 f11 f12 f13 f14 f15 f16 f17 f18 f19 f20 f21 fL fN fP fM fO) sz) U U.heap)) (va_Qi (fun (o9 u9 : Int32) => o9 = u9) (fun (o9 : Int32) t => (o9.toInt = 0 ∨ o9.toInt = 1) ∧ va_P (dC, dI) vwCl (mW ad kc x0 x1 x2 x3 x4 x5 x6 x7 x8 x9 x10 x11 x12 x13 x14 x15 x16 x17 x18 x19 x20 x21 f0 f1 f2 f3 f4 f5 f6 f7 f8 f9 f10 f11 f12 f13 f14 f15 f16 f17 f18 f19 f20 f21 fL fN fP fM fO) t.heap ∧ va_K (dC, dI) vwCl (mT kc) t ∧ va_D (va_A (mW ad kc x0 x1 x2 x3 x4 x5 x6 x7 x8 x9 x10 x11 x12 x13 x14 x15 x16 x17 x18 x19 x20 x21 f0 f1 f2 f3 f4 f5 f6 f7 f8 f9 f10 f11 f12 f13 f14 f15 f16 f17 f18 f19 f20 f21 fL fN fP fM fO) sz) (mW ad kc x0 x1 x2 x3 x4 x5 x6 x7 x8 x9 x10 x11 x12 x13 x14 x15 x16 x17 x18 x19 x20 x21 f0 f1 f2 f3 f4 f5 f6 f7 f8 f9 f10 f11 f12 f13 f14 f15 f16 f17 f18 f19 f20 f21 fL fN fP fM fO)) (va_A (mW ad kc x0 x1 x2 x3 x4 x5 x6 x7 x8 x9 x10 x11 x12 x13 x14 x15 x16 x17 x18 x19 x20 x21 f0 f1 f2 f3 f4 f5 f6 f7 f8 f9 f10 f11 f12 f13 f14 f15 f16 f17 f18 f19 f20 f21 fL fN fP fM fO) sz)) 0 0 (va_A (mW ad kc x0 x1 x2 x3 x4 x5 x6 x7 x8 x9 x10 x11 x12 x13 x14 x15 x16 x17 x18 x19 x20 x21 f0 f1 f2 f3 f4 f5 f6 f7 f8 f9 f10 f11 f12 f13 f14 f15 f16 f17 f18 f19 f20 f21 fL fN fP fM fO) sz) := by
  refine Met.ofW (cc := cX10_isWord) (maxL := 4) (ret := (some .boolean)) (by decide +kernel) rfl ?_
  intro p e s m args below meth c s₁ B hml hv
  obtain ⟨rfl, hsz, hP, hK, hD0, hX9, hC9⟩ := hv
  have hx := B.exec
  have hb := B.bytes
  have hr := B.returns
  have hts := atoms_spec (ws := mwX10_isWordm) B.pre
  have hown : s.vm.findClass RX10 = some m.cls := findClass_of_methodNamed B.named
  have hlocks := B.notSynchronized
  subst hsz
  have hD := hD0.self (sz := s.heap.size)
  generalize hAe : va_A (mW ad kc x0 x1 x2 x3 x4 x5 x6 x7 x8 x9 x10 x11 x12 x13 x14 x15 x16 x17 x18 x19 x20 x21 f0 f1 f2 f3 f4 f5 f6 f7 f8 f9 f10 f11 f12 f13 f14 f15 f16 f17 f18 f19 f20 f21 fL fN fP fM fO) s.heap.size = A at hD hX9 hC9 ⊢
  have hA : ∀ q : Nat, s.heap.size ≤ q → A q := fun q h => by rw [← hAe]; exact Or.inr h
  have hP : va_P (dC, dI) vwCl (mW ad kc x0 x1 x2 x3 x4 x5 x6 x7 x8 x9 x10 x11 x12 x13 x14 x15 x16 x17 x18 x19 x20 x21 f0 f1 f2 f3 f4 f5 f6 f7 f8 f9 f10 f11 f12 f13 f14 f15 f16 f17 f18 f19 f20 f21 fL fN fP fM fO) s.heap := hP
  have hD : va_D A (mW ad kc x0 x1 x2 x3 x4 x5 x6 x7 x8 x9 x10 x11 x12 x13 x14 x15 x16 x17 x18 x19 x20 x21 f0 f1 f2 f3 f4 f5 f6 f7 f8 f9 f10 f11 f12 f13 f14 f15 f16 f17 f18 f19 f20 f21 fL fN fP fM fO) := hD
  have hK : va_K (dC, dI) vwCl (mT kc) s := hK
  generalize hH : s.heap = H at hP ⊢
  have hS : va_S A s.heap H [] := by rw [← hH]; exact va_S.rf
  have hl := lv_entry ([.ref (ad 0), .ref qs]) (n := 4) (Nat.le_of_ble_eq_true rfl)
  rw [lg_entry_eq]
  generalize (lg_sl ([.ref (ad 0), .ref qs]) ++ List.replicate (4 - (lg_sl ([.ref (ad 0), .ref qs])).length) Slot.unset).toArray = ls at hl ⊢
  have hl : lv_has ls 4 [(0, .ref (ad 0)), (1, .ref qs)] := hl
  refine lv_aload_n hx hb dX10_isWord_0 rfl (lv_at hl 0 rfl) ?_
  refine va_get (D := (dC, dI)) (ci := 10) (v := .int x5) (C := RX10) (T := TX10) (N := 48) hx hb hts fin_X10_isWordm_X10 hown hK hP 0 rfl rfl 8 (by decide) (hts (.fieldLink RX10 120 "PatternGateModel" "token" "I") (List.mem_of_getElem? (i := 1) (by decide +kernel))) (fun _ h9 => h9) rfl dX10_isWord_1 ?_
  refine lv_iconst (v := 2) hx hb dX10_isWord_4 (by decide) ?_
  refine lv_icmp_ne (tgt := 28) hx hb dX10_isWord_5 (by decide) (fun k_1 => ?_) (fun k_1 => ?_)
  · have tk_1 := c_ne (a := x5.toInt) (b := 2) rfl (by decide) k_1
    refine lv_iconst (v := 0) hx hb dX10_isWord_28 (by decide) ?_
    refine lv_istore_n (lv' := [(2, .int 0), (0, .ref (ad 0)), (1, .ref qs)]) hx hb dX10_isWord_29 rfl hl (by decide) rfl (fun ls hl => ?_)
    refine lv_iconst (v := 0) hx hb dX10_isWord_30 (by decide) ?_
    refine lv_istore_n (lv' := [(3, .int 0), (2, .int 0), (0, .ref (ad 0)), (1, .ref qs)]) hx hb dX10_isWord_31 rfl hl (by decide) rfl (fun ls hl => ?_)
    have loop32 : ∀ (lm32 : Nat) (is kk : Int32), (is.toInt = 0 ∨ is.toInt = 1) → (0 ≤ kk.toInt ∧ kk.toInt ≤ ns) → (((ns : Int) - kk.toInt).toNat) < lm32 → ∀ (H : Heap) (locs : List Loc) (ls : Array Slot), va_P (dC, dI) vwCl (mW ad kc x0 x1 x2 x3 x4 x5 x6 x7 x8 x9 x10 x11 x12 x13 x14 x15 x16 x17 x18 x19 x20 x21 f0 f1 f2 f3 f4 f5 f6 f7 f8 f9 f10 f11 f12 f13 f14 f15 f16 f17 f18 f19 f20 f21 fL fN fP fM fO) H → va_D A (mW ad kc x0 x1 x2 x3 x4 x5 x6 x7 x8 x9 x10 x11 x12 x13 x14 x15 x16 x17 x18 x19 x20 x21 f0 f1 f2 f3 f4 f5 f6 f7 f8 f9 f10 f11 f12 f13 f14 f15 f16 f17 f18 f19 f20 f21 fL fN fP fM fO) → va_S A s.heap H locs → lv_has ls 4 [(3, .int kk), (2, .int is), (0, .ref (ad 0)), (1, .ref qs)] → W p l e (headSpec mwX10_isWordm ({ frames := 4, cells := 0, slots := 0, locals := 240 })).room s m ([.ref (ad 0), .ref qs]).toArray below meth c H locs 0 0 (MQ below (va_Qi (fun (o9 u9 : Int32) => o9 = u9) (fun (o9 : Int32) t => (o9.toInt = 0 ∨ o9.toInt = 1) ∧ va_P (dC, dI) vwCl (mW ad kc x0 x1 x2 x3 x4 x5 x6 x7 x8 x9 x10 x11 x12 x13 x14 x15 x16 x17 x18 x19 x20 x21 f0 f1 f2 f3 f4 f5 f6 f7 f8 f9 f10 f11 f12 f13 f14 f15 f16 f17 f18 f19 f20 f21 fL fN fP fM fO) t.heap ∧ va_K (dC, dI) vwCl (mT kc) t ∧ va_D A (mW ad kc x0 x1 x2 x3 x4 x5 x6 x7 x8 x9 x10 x11 x12 x13 x14 x15 x16 x17 x18 x19 x20 x21 f0 f1 f2 f3 f4 f5 f6 f7 f8 f9 f10 f11 f12 f13 f14 f15 f16 f17 f18 f19 f20 f21 fL fN fP fM fO)) A) ([.ref (ad 0), .ref qs]).toArray s 0 0 A) (F0 m 32 ls []) := by
      intro lm32
      induction lm32 with
      | zero => intro is kk v32_0 v32_1 hm32; exact absurd hm32 (Nat.not_lt_zero _)
      | succ lm32 ih32 =>
        intro is kk v32_0 v32_1 hm32 H locs ls hP hD hS hl
        have rg_is := i_rng is
        have rg_kk := i_rng kk
        refine lv_iload_n hx hb dX10_isWord_32 rfl (lv_at hl 0 rfl) ?_
        refine lv_aload_n hx hb dX10_isWord_33 rfl (lv_at hl 3 rfl) ?_
        refine vp_callSi (W.runV (As := []) (rest := [.int kk]) ⟨hx, hb, hml, hown, hts⟩ (j_length l qs ns (by omega)) (cwV 0 hts mg_X10_isWordm_J0_length_8abf5_141 rfl rfl rfl (by decide +kernel) ⟨Nat.le_of_ble_eq_true rfl, Nat.le_of_ble_eq_true rfl⟩) ⟨fun a U g mk q => ⟨q.1, sP.call q.2⟩, sX.recv hX9 hS, fun U hU hW => ⟨rfl, sP.of hX9 hC9 hS hW.alike hU⟩⟩ rfl rfl hl.1 rfl (lv_room (Nat.le_of_ble_eq_true rfl)) dX10_isWord_34 ⟨Nat.le_of_ble_eq_true rfl, Nat.le_of_ble_eq_true rfl⟩) (fun r_2 hw => ?_)
        have hlr_2 : r_2.toInt = (ns : Int) := hw
        refine lv_icmp_ge (tgt := 74) hx hb dX10_isWord_37 (by decide) (fun k_3 => ?_) (fun k_3 => ?_)
        · have tk_3 := c_ge (a := kk.toInt) (b := r_2.toInt) rfl rfl k_3
          refine lv_iload_n hx hb dX10_isWord_74 rfl (lv_at hl 1 rfl) ?_
          exact W.zret hx hb hr (z_nar (by first | assumption | decide | exact z_of (by omega))) (fun t ht hW => ⟨⟨_, _, rfl, rfl, (by first | omega | assumption | rfl | decide), by rw [ht]; exact hP, va_K.moved hW.alike hK, hD⟩, hS.F ht⟩) hS.2.2 dX10_isWord_75
        · have tk_3 := c_nge (a := kk.toInt) (b := r_2.toInt) rfl rfl k_3
          refine lv_iload_n hx hb dX10_isWord_40 rfl (lv_at hl 1 rfl) ?_
          refine lv_if_eq (tgt := 74) hx hb dX10_isWord_41 (by decide) (fun k_4 => ?_) (fun k_4 => ?_)
          · have tk_4 := c_eq (a := is.toInt) (b := 0) rfl (by decide) k_4
            refine lv_iload_n hx hb dX10_isWord_74 rfl (lv_at hl 1 rfl) ?_
            exact W.zret hx hb hr (z_nar (by first | assumption | decide | exact z_of (by omega))) (fun t ht hW => ⟨⟨_, _, rfl, rfl, (by first | omega | assumption | rfl | decide), by rw [ht]; exact hP, va_K.moved hW.alike hK, hD⟩, hS.F ht⟩) hS.2.2 dX10_isWord_75
          · have tk_4 := c_ne (a := is.toInt) (b := 0) rfl (by decide) k_4
            refine lv_aload_n hx hb dX10_isWord_44 rfl (lv_at hl 2 rfl) ?_
            refine lv_aload_n hx hb dX10_isWord_45 rfl (lv_at hl 2 rfl) ?_
            refine va_get (D := (dC, dI)) (ci := 10) (v := .int x6) (C := RX10) (T := TX10) (N := 48) hx hb hts fin_X10_isWordm_X10 hown hK hP 0 rfl rfl 9 (by decide) (hts (.fieldLink RX10 123 "PatternGateModel" "begin" "I") (List.mem_of_getElem? (i := 6) (by decide +kernel))) (fun _ h9 => h9) rfl dX10_isWord_46 ?_
            refine lv_iload_n hx hb dX10_isWord_49 rfl (lv_at hl 0 rfl) ?_
            refine lv_iadd hx hb dX10_isWord_50 ?_
            refine lv_topi (fun y_5 ey_5 => ?_)
            first | have ty_5 := i_add (a := x6.toInt) (b := kk.toInt) rfl rfl ey_5 (by omega) (by omega) | skip
            refine vp_callSi (W.runV (As := [.int y_5]) (rest := []) ⟨hx, hb, hml, hown, hts⟩ (m_byteAt l dC dI ad kc x0 x1 x2 x3 x4 x5 x6 x7 x8 x9 x10 x11 x12 x13 x14 x15 x16 x17 x18 x19 x20 x21 f0 f1 f2 f3 f4 f5 f6 f7 f8 f9 f10 f11 f12 f13 f14 f15 f16 f17 f18 f19 f20 f21 fL fN fP fM fO y_5 (by first | omega | assumption | decide | (have l0 := Int32.toInt_zero; omega)) (by first | omega | assumption | decide | (have l0 := Int32.toInt_zero; omega))) (cwV 1 hts mg_X10_isWordm_X10_byteAt_133 rfl rfl rfl (by decide +kernel) ⟨Nat.le_of_ble_eq_true rfl, Nat.le_of_ble_eq_true rfl⟩) ⟨fun a U g mk q => by obtain ⟨q0, qP, qK⟩ := q; exact ⟨q0, qP, va_K.moved (u := U) (U := U.calling g mk a) (Vm.Alike.refl U.vm) qK⟩, va_recv hK hP (ci := 10) (q0 := 0) rfl rfl, fun U hU hW => ⟨rfl, by rw [hU]; exact hP, va_K.moved hW.alike hK⟩⟩ rfl rfl hl.1 rfl (lv_room (Nat.le_of_ble_eq_true rfl)) dX10_isWord_51 ⟨Nat.le_of_ble_eq_true rfl, Nat.le_of_ble_eq_true rfl⟩) (fun r_6 hr_6 => ?_)
            have rg_r_6 := i_rng r_6
            refine lv_aload_n hx hb dX10_isWord_54 rfl (lv_at hl 3 rfl) ?_
            refine lv_iload_n hx hb dX10_isWord_55 rfl (lv_at hl 0 rfl) ?_
            refine vp_callSi (W.runV (As := [.int kk]) (rest := [.int r_6]) ⟨hx, hb, hml, hown, hts⟩ (j_charAt l qs ns kk (by omega) (by omega) (by omega)) (cwV 1 hts mg_X10_isWordm_J0_charAt_5068e_147 rfl rfl rfl (by decide +kernel) ⟨Nat.le_of_ble_eq_true rfl, Nat.le_of_ble_eq_true rfl⟩) ⟨fun a U g mk q => ⟨q.1, sP.call q.2⟩, sX.recv hX9 hS, fun U hU hW => ⟨rfl, sP.of hX9 hC9 hS hW.alike hU⟩⟩ rfl rfl hl.1 rfl (lv_room (Nat.le_of_ble_eq_true rfl)) dX10_isWord_56 ⟨Nat.le_of_ble_eq_true rfl, Nat.le_of_ble_eq_true rfl⟩) (fun r_7 hw => ?_)
            have rg_r_7 := i_rng r_7
            refine lv_icmp_ne (tgt := 66) hx hb dX10_isWord_59 (by decide) (fun k_8 => ?_) (fun k_8 => ?_)
            · have tk_8 := c_ne (a := r_6.toInt) (b := r_7.toInt) rfl rfl k_8
              refine lv_iconst (v := 0) hx hb dX10_isWord_66 (by decide) ?_
              refine lv_istore_n (lv' := [(2, .int 0), (3, .int kk), (0, .ref (ad 0)), (1, .ref qs)]) hx hb dX10_isWord_67 rfl hl (by decide) rfl (fun ls hl => ?_)
              obtain ⟨y_9, ey_9⟩ : ∃ y : Int32, y = kk + 1 := ⟨_, rfl⟩
              first | have ty_9 := i_add (a := kk.toInt) (b := 1) rfl (by decide) ey_9 (by omega) (by omega) | skip
              refine lv_iinc (v := y_9) (lv' := [(3, .int y_9), (2, .int 0), (0, .ref (ad 0)), (1, .ref qs)]) hx hb dX10_isWord_68 hl (k := 1) rfl (by rw [ey_9]; rfl) (by decide) rfl (fun ls hl => ?_)
              refine lv_goto (tgt := 32) hx hb dX10_isWord_71 (by decide) ?_
              have lit_9 : (0 : Int32).toInt = 0 := by decide
              exact ih32 0 y_9 (by first | omega | assumption | decide) (by first | omega | assumption | decide) (by omega) _ _ ls hP hD hS (lv_sub hl [0, 1, 2, 3] rfl)
            · have tk_8 := c_eq (a := r_6.toInt) (b := r_7.toInt) rfl rfl k_8
              refine lv_iconst (v := 1) hx hb dX10_isWord_62 (by decide) ?_
              refine lv_goto (tgt := 67) hx hb dX10_isWord_63 (by decide) ?_
              refine lv_istore_n (lv' := [(2, .int 1), (3, .int kk), (0, .ref (ad 0)), (1, .ref qs)]) hx hb dX10_isWord_67 rfl hl (by decide) rfl (fun ls hl => ?_)
              obtain ⟨y_11, ey_11⟩ : ∃ y : Int32, y = kk + 1 := ⟨_, rfl⟩
              first | have ty_11 := i_add (a := kk.toInt) (b := 1) rfl (by decide) ey_11 (by omega) (by omega) | skip
              refine lv_iinc (v := y_11) (lv' := [(3, .int y_11), (2, .int 1), (0, .ref (ad 0)), (1, .ref qs)]) hx hb dX10_isWord_68 hl (k := 1) rfl (by rw [ey_11]; rfl) (by decide) rfl (fun ls hl => ?_)
              refine lv_goto (tgt := 32) hx hb dX10_isWord_71 (by decide) ?_
              have lit_11 : (1 : Int32).toInt = 1 := by decide
              exact ih32 1 y_11 (by first | omega | assumption | decide) (by first | omega | assumption | decide) (by omega) _ _ ls hP hD hS (lv_sub hl [0, 1, 2, 3] rfl)
    have lit_12 : (0 : Int32).toInt = 0 := by decide
    have lit_13 : (0 : Int32).toInt = 0 := by decide
    exact loop32 _ 0 0 (by first | omega | assumption | decide) (by first | omega | assumption | decide) (Nat.lt_succ_self _) _ _ ls hP hD hS (lv_sub hl [0, 1, 2, 3] rfl)
  · have tk_1 := c_eq (a := x5.toInt) (b := 2) rfl (by decide) k_1
    refine lv_aload_n hx hb dX10_isWord_8 rfl (lv_at hl 0 rfl) ?_
    refine va_get (D := (dC, dI)) (ci := 10) (v := .int x7) (C := RX10) (T := TX10) (N := 48) hx hb hts fin_X10_isWordm_X10 hown hK hP 0 rfl rfl 10 (by decide) (hts (.fieldLink RX10 130 "PatternGateModel" "end" "I") (List.mem_of_getElem? (i := 14) (by decide +kernel))) (fun _ h9 => h9) rfl dX10_isWord_9 ?_
    refine lv_aload_n hx hb dX10_isWord_12 rfl (lv_at hl 0 rfl) ?_
    refine va_get (D := (dC, dI)) (ci := 10) (v := .int x6) (C := RX10) (T := TX10) (N := 48) hx hb hts fin_X10_isWordm_X10 hown hK hP 0 rfl rfl 9 (by decide) (hts (.fieldLink RX10 123 "PatternGateModel" "begin" "I") (List.mem_of_getElem? (i := 6) (by decide +kernel))) (fun _ h9 => h9) rfl dX10_isWord_13 ?_
    refine lv_isub hx hb dX10_isWord_16 ?_
    refine lv_topi (fun y_15 ey_15 => ?_)
    first | have ty_15 := i_sub (a := x7.toInt) (b := x6.toInt) rfl rfl ey_15 (by omega) (by omega) | skip
    refine lv_aload_n hx hb dX10_isWord_17 rfl (lv_at hl 1 rfl) ?_
    refine vp_callSi (W.runV (As := []) (rest := [.int y_15]) ⟨hx, hb, hml, hown, hts⟩ (j_length l qs ns (by omega)) (cwV 0 hts mg_X10_isWordm_J0_length_8abf5_141 rfl rfl rfl (by decide +kernel) ⟨Nat.le_of_ble_eq_true rfl, Nat.le_of_ble_eq_true rfl⟩) ⟨fun a U g mk q => ⟨q.1, sP.call q.2⟩, sX.recv hX9 hS, fun U hU hW => ⟨rfl, sP.of hX9 hC9 hS hW.alike hU⟩⟩ rfl rfl hl.1 rfl (lv_room (Nat.le_of_ble_eq_true rfl)) dX10_isWord_18 ⟨Nat.le_of_ble_eq_true rfl, Nat.le_of_ble_eq_true rfl⟩) (fun r_16 hw => ?_)
    have hlr_16 : r_16.toInt = (ns : Int) := hw
    refine lv_icmp_ne (tgt := 28) hx hb dX10_isWord_21 (by decide) (fun k_17 => ?_) (fun k_17 => ?_)
    · have tk_17 := c_ne (a := y_15.toInt) (b := r_16.toInt) rfl rfl k_17
      refine lv_iconst (v := 0) hx hb dX10_isWord_28 (by decide) ?_
      refine lv_istore_n (lv' := [(2, .int 0), (0, .ref (ad 0)), (1, .ref qs)]) hx hb dX10_isWord_29 rfl hl (by decide) rfl (fun ls hl => ?_)
      refine lv_iconst (v := 0) hx hb dX10_isWord_30 (by decide) ?_
      refine lv_istore_n (lv' := [(3, .int 0), (2, .int 0), (0, .ref (ad 0)), (1, .ref qs)]) hx hb dX10_isWord_31 rfl hl (by decide) rfl (fun ls hl => ?_)
      have loop32 : ∀ (lm32 : Nat) (is kk : Int32), (is.toInt = 0 ∨ is.toInt = 1) → (0 ≤ kk.toInt ∧ kk.toInt ≤ ns) → (((ns : Int) - kk.toInt).toNat) < lm32 → ∀ (H : Heap) (locs : List Loc) (ls : Array Slot), va_P (dC, dI) vwCl (mW ad kc x0 x1 x2 x3 x4 x5 x6 x7 x8 x9 x10 x11 x12 x13 x14 x15 x16 x17 x18 x19 x20 x21 f0 f1 f2 f3 f4 f5 f6 f7 f8 f9 f10 f11 f12 f13 f14 f15 f16 f17 f18 f19 f20 f21 fL fN fP fM fO) H → va_D A (mW ad kc x0 x1 x2 x3 x4 x5 x6 x7 x8 x9 x10 x11 x12 x13 x14 x15 x16 x17 x18 x19 x20 x21 f0 f1 f2 f3 f4 f5 f6 f7 f8 f9 f10 f11 f12 f13 f14 f15 f16 f17 f18 f19 f20 f21 fL fN fP fM fO) → va_S A s.heap H locs → lv_has ls 4 [(3, .int kk), (2, .int is), (0, .ref (ad 0)), (1, .ref qs)] → W p l e (headSpec mwX10_isWordm ({ frames := 4, cells := 0, slots := 0, locals := 240 })).room s m ([.ref (ad 0), .ref qs]).toArray below meth c H locs 0 0 (MQ below (va_Qi (fun (o9 u9 : Int32) => o9 = u9) (fun (o9 : Int32) t => (o9.toInt = 0 ∨ o9.toInt = 1) ∧ va_P (dC, dI) vwCl (mW ad kc x0 x1 x2 x3 x4 x5 x6 x7 x8 x9 x10 x11 x12 x13 x14 x15 x16 x17 x18 x19 x20 x21 f0 f1 f2 f3 f4 f5 f6 f7 f8 f9 f10 f11 f12 f13 f14 f15 f16 f17 f18 f19 f20 f21 fL fN fP fM fO) t.heap ∧ va_K (dC, dI) vwCl (mT kc) t ∧ va_D A (mW ad kc x0 x1 x2 x3 x4 x5 x6 x7 x8 x9 x10 x11 x12 x13 x14 x15 x16 x17 x18 x19 x20 x21 f0 f1 f2 f3 f4 f5 f6 f7 f8 f9 f10 f11 f12 f13 f14 f15 f16 f17 f18 f19 f20 f21 fL fN fP fM fO)) A) ([.ref (ad 0), .ref qs]).toArray s 0 0 A) (F0 m 32 ls []) := by
        intro lm32
        induction lm32 with
        | zero => intro is kk v32_0 v32_1 hm32; exact absurd hm32 (Nat.not_lt_zero _)
        | succ lm32 ih32 =>
          intro is kk v32_0 v32_1 hm32 H locs ls hP hD hS hl
          have rg_is := i_rng is
          have rg_kk := i_rng kk
          refine lv_iload_n hx hb dX10_isWord_32 rfl (lv_at hl 0 rfl) ?_
          refine lv_aload_n hx hb dX10_isWord_33 rfl (lv_at hl 3 rfl) ?_
          refine vp_callSi (W.runV (As := []) (rest := [.int kk]) ⟨hx, hb, hml, hown, hts⟩ (j_length l qs ns (by omega)) (cwV 0 hts mg_X10_isWordm_J0_length_8abf5_141 rfl rfl rfl (by decide +kernel) ⟨Nat.le_of_ble_eq_true rfl, Nat.le_of_ble_eq_true rfl⟩) ⟨fun a U g mk q => ⟨q.1, sP.call q.2⟩, sX.recv hX9 hS, fun U hU hW => ⟨rfl, sP.of hX9 hC9 hS hW.alike hU⟩⟩ rfl rfl hl.1 rfl (lv_room (Nat.le_of_ble_eq_true rfl)) dX10_isWord_34 ⟨Nat.le_of_ble_eq_true rfl, Nat.le_of_ble_eq_true rfl⟩) (fun r_18 hw => ?_)
          have hlr_18 : r_18.toInt = (ns : Int) := hw
          refine lv_icmp_ge (tgt := 74) hx hb dX10_isWord_37 (by decide) (fun k_19 => ?_) (fun k_19 => ?_)
          · have tk_19 := c_ge (a := kk.toInt) (b := r_18.toInt) rfl rfl k_19
            refine lv_iload_n hx hb dX10_isWord_74 rfl (lv_at hl 1 rfl) ?_
            exact W.zret hx hb hr (z_nar (by first | assumption | decide | exact z_of (by omega))) (fun t ht hW => ⟨⟨_, _, rfl, rfl, (by first | omega | assumption | rfl | decide), by rw [ht]; exact hP, va_K.moved hW.alike hK, hD⟩, hS.F ht⟩) hS.2.2 dX10_isWord_75
          · have tk_19 := c_nge (a := kk.toInt) (b := r_18.toInt) rfl rfl k_19
            refine lv_iload_n hx hb dX10_isWord_40 rfl (lv_at hl 1 rfl) ?_
            refine lv_if_eq (tgt := 74) hx hb dX10_isWord_41 (by decide) (fun k_20 => ?_) (fun k_20 => ?_)
            · have tk_20 := c_eq (a := is.toInt) (b := 0) rfl (by decide) k_20
              refine lv_iload_n hx hb dX10_isWord_74 rfl (lv_at hl 1 rfl) ?_
              exact W.zret hx hb hr (z_nar (by first | assumption | decide | exact z_of (by omega))) (fun t ht hW => ⟨⟨_, _, rfl, rfl, (by first | omega | assumption | rfl | decide), by rw [ht]; exact hP, va_K.moved hW.alike hK, hD⟩, hS.F ht⟩) hS.2.2 dX10_isWord_75
            · have tk_20 := c_ne (a := is.toInt) (b := 0) rfl (by decide) k_20
              refine lv_aload_n hx hb dX10_isWord_44 rfl (lv_at hl 2 rfl) ?_
              refine lv_aload_n hx hb dX10_isWord_45 rfl (lv_at hl 2 rfl) ?_
              refine va_get (D := (dC, dI)) (ci := 10) (v := .int x6) (C := RX10) (T := TX10) (N := 48) hx hb hts fin_X10_isWordm_X10 hown hK hP 0 rfl rfl 9 (by decide) (hts (.fieldLink RX10 123 "PatternGateModel" "begin" "I") (List.mem_of_getElem? (i := 6) (by decide +kernel))) (fun _ h9 => h9) rfl dX10_isWord_46 ?_
              refine lv_iload_n hx hb dX10_isWord_49 rfl (lv_at hl 0 rfl) ?_
              refine lv_iadd hx hb dX10_isWord_50 ?_
              refine lv_topi (fun y_21 ey_21 => ?_)
              first | have ty_21 := i_add (a := x6.toInt) (b := kk.toInt) rfl rfl ey_21 (by omega) (by omega) | skip
              refine vp_callSi (W.runV (As := [.int y_21]) (rest := []) ⟨hx, hb, hml, hown, hts⟩ (m_byteAt l dC dI ad kc x0 x1 x2 x3 x4 x5 x6 x7 x8 x9 x10 x11 x12 x13 x14 x15 x16 x17 x18 x19 x20 x21 f0 f1 f2 f3 f4 f5 f6 f7 f8 f9 f10 f11 f12 f13 f14 f15 f16 f17 f18 f19 f20 f21 fL fN fP fM fO y_21 (by first | omega | assumption | decide | (have l0 := Int32.toInt_zero; omega)) (by first | omega | assumption | decide | (have l0 := Int32.toInt_zero; omega))) (cwV 1 hts mg_X10_isWordm_X10_byteAt_133 rfl rfl rfl (by decide +kernel) ⟨Nat.le_of_ble_eq_true rfl, Nat.le_of_ble_eq_true rfl⟩) ⟨fun a U g mk q => by obtain ⟨q0, qP, qK⟩ := q; exact ⟨q0, qP, va_K.moved (u := U) (U := U.calling g mk a) (Vm.Alike.refl U.vm) qK⟩, va_recv hK hP (ci := 10) (q0 := 0) rfl rfl, fun U hU hW => ⟨rfl, by rw [hU]; exact hP, va_K.moved hW.alike hK⟩⟩ rfl rfl hl.1 rfl (lv_room (Nat.le_of_ble_eq_true rfl)) dX10_isWord_51 ⟨Nat.le_of_ble_eq_true rfl, Nat.le_of_ble_eq_true rfl⟩) (fun r_22 hr_22 => ?_)
              have rg_r_22 := i_rng r_22
              refine lv_aload_n hx hb dX10_isWord_54 rfl (lv_at hl 3 rfl) ?_
              refine lv_iload_n hx hb dX10_isWord_55 rfl (lv_at hl 0 rfl) ?_
              refine vp_callSi (W.runV (As := [.int kk]) (rest := [.int r_22]) ⟨hx, hb, hml, hown, hts⟩ (j_charAt l qs ns kk (by omega) (by omega) (by omega)) (cwV 1 hts mg_X10_isWordm_J0_charAt_5068e_147 rfl rfl rfl (by decide +kernel) ⟨Nat.le_of_ble_eq_true rfl, Nat.le_of_ble_eq_true rfl⟩) ⟨fun a U g mk q => ⟨q.1, sP.call q.2⟩, sX.recv hX9 hS, fun U hU hW => ⟨rfl, sP.of hX9 hC9 hS hW.alike hU⟩⟩ rfl rfl hl.1 rfl (lv_room (Nat.le_of_ble_eq_true rfl)) dX10_isWord_56 ⟨Nat.le_of_ble_eq_true rfl, Nat.le_of_ble_eq_true rfl⟩) (fun r_23 hw => ?_)
              have rg_r_23 := i_rng r_23
              refine lv_icmp_ne (tgt := 66) hx hb dX10_isWord_59 (by decide) (fun k_24 => ?_) (fun k_24 => ?_)
              · have tk_24 := c_ne (a := r_22.toInt) (b := r_23.toInt) rfl rfl k_24
                refine lv_iconst (v := 0) hx hb dX10_isWord_66 (by decide) ?_
                refine lv_istore_n (lv' := [(2, .int 0), (3, .int kk), (0, .ref (ad 0)), (1, .ref qs)]) hx hb dX10_isWord_67 rfl hl (by decide) rfl (fun ls hl => ?_)
                obtain ⟨y_25, ey_25⟩ : ∃ y : Int32, y = kk + 1 := ⟨_, rfl⟩
                first | have ty_25 := i_add (a := kk.toInt) (b := 1) rfl (by decide) ey_25 (by omega) (by omega) | skip
                refine lv_iinc (v := y_25) (lv' := [(3, .int y_25), (2, .int 0), (0, .ref (ad 0)), (1, .ref qs)]) hx hb dX10_isWord_68 hl (k := 1) rfl (by rw [ey_25]; rfl) (by decide) rfl (fun ls hl => ?_)
                refine lv_goto (tgt := 32) hx hb dX10_isWord_71 (by decide) ?_
                have lit_25 : (0 : Int32).toInt = 0 := by decide
                exact ih32 0 y_25 (by first | omega | assumption | decide) (by first | omega | assumption | decide) (by omega) _ _ ls hP hD hS (lv_sub hl [0, 1, 2, 3] rfl)
              · have tk_24 := c_eq (a := r_22.toInt) (b := r_23.toInt) rfl rfl k_24
                refine lv_iconst (v := 1) hx hb dX10_isWord_62 (by decide) ?_
                refine lv_goto (tgt := 67) hx hb dX10_isWord_63 (by decide) ?_
                refine lv_istore_n (lv' := [(2, .int 1), (3, .int kk), (0, .ref (ad 0)), (1, .ref qs)]) hx hb dX10_isWord_67 rfl hl (by decide) rfl (fun ls hl => ?_)
                obtain ⟨y_27, ey_27⟩ : ∃ y : Int32, y = kk + 1 := ⟨_, rfl⟩
                first | have ty_27 := i_add (a := kk.toInt) (b := 1) rfl (by decide) ey_27 (by omega) (by omega) | skip
                refine lv_iinc (v := y_27) (lv' := [(3, .int y_27), (2, .int 1), (0, .ref (ad 0)), (1, .ref qs)]) hx hb dX10_isWord_68 hl (k := 1) rfl (by rw [ey_27]; rfl) (by decide) rfl (fun ls hl => ?_)
                refine lv_goto (tgt := 32) hx hb dX10_isWord_71 (by decide) ?_
                have lit_27 : (1 : Int32).toInt = 1 := by decide
                exact ih32 1 y_27 (by first | omega | assumption | decide) (by first | omega | assumption | decide) (by omega) _ _ ls hP hD hS (lv_sub hl [0, 1, 2, 3] rfl)
      have lit_28 : (0 : Int32).toInt = 0 := by decide
      have lit_29 : (0 : Int32).toInt = 0 := by decide
      exact loop32 _ 0 0 (by first | omega | assumption | decide) (by first | omega | assumption | decide) (Nat.lt_succ_self _) _ _ ls hP hD hS (lv_sub hl [0, 1, 2, 3] rfl)
    · have tk_17 := c_eq (a := y_15.toInt) (b := r_16.toInt) rfl rfl k_17
      refine lv_iconst (v := 1) hx hb dX10_isWord_24 (by decide) ?_
      refine lv_goto (tgt := 29) hx hb dX10_isWord_25 (by decide) ?_
      refine lv_istore_n (lv' := [(2, .int 1), (0, .ref (ad 0)), (1, .ref qs)]) hx hb dX10_isWord_29 rfl hl (by decide) rfl (fun ls hl => ?_)
      refine lv_iconst (v := 0) hx hb dX10_isWord_30 (by decide) ?_
      refine lv_istore_n (lv' := [(3, .int 0), (2, .int 1), (0, .ref (ad 0)), (1, .ref qs)]) hx hb dX10_isWord_31 rfl hl (by decide) rfl (fun ls hl => ?_)
      have loop32 : ∀ (lm32 : Nat) (is kk : Int32), (is.toInt = 0 ∨ is.toInt = 1) → (0 ≤ kk.toInt ∧ kk.toInt ≤ ns) → (((ns : Int) - kk.toInt).toNat) < lm32 → ∀ (H : Heap) (locs : List Loc) (ls : Array Slot), va_P (dC, dI) vwCl (mW ad kc x0 x1 x2 x3 x4 x5 x6 x7 x8 x9 x10 x11 x12 x13 x14 x15 x16 x17 x18 x19 x20 x21 f0 f1 f2 f3 f4 f5 f6 f7 f8 f9 f10 f11 f12 f13 f14 f15 f16 f17 f18 f19 f20 f21 fL fN fP fM fO) H → va_D A (mW ad kc x0 x1 x2 x3 x4 x5 x6 x7 x8 x9 x10 x11 x12 x13 x14 x15 x16 x17 x18 x19 x20 x21 f0 f1 f2 f3 f4 f5 f6 f7 f8 f9 f10 f11 f12 f13 f14 f15 f16 f17 f18 f19 f20 f21 fL fN fP fM fO) → va_S A s.heap H locs → lv_has ls 4 [(3, .int kk), (2, .int is), (0, .ref (ad 0)), (1, .ref qs)] → W p l e (headSpec mwX10_isWordm ({ frames := 4, cells := 0, slots := 0, locals := 240 })).room s m ([.ref (ad 0), .ref qs]).toArray below meth c H locs 0 0 (MQ below (va_Qi (fun (o9 u9 : Int32) => o9 = u9) (fun (o9 : Int32) t => (o9.toInt = 0 ∨ o9.toInt = 1) ∧ va_P (dC, dI) vwCl (mW ad kc x0 x1 x2 x3 x4 x5 x6 x7 x8 x9 x10 x11 x12 x13 x14 x15 x16 x17 x18 x19 x20 x21 f0 f1 f2 f3 f4 f5 f6 f7 f8 f9 f10 f11 f12 f13 f14 f15 f16 f17 f18 f19 f20 f21 fL fN fP fM fO) t.heap ∧ va_K (dC, dI) vwCl (mT kc) t ∧ va_D A (mW ad kc x0 x1 x2 x3 x4 x5 x6 x7 x8 x9 x10 x11 x12 x13 x14 x15 x16 x17 x18 x19 x20 x21 f0 f1 f2 f3 f4 f5 f6 f7 f8 f9 f10 f11 f12 f13 f14 f15 f16 f17 f18 f19 f20 f21 fL fN fP fM fO)) A) ([.ref (ad 0), .ref qs]).toArray s 0 0 A) (F0 m 32 ls []) := by
        intro lm32
        induction lm32 with
        | zero => intro is kk v32_0 v32_1 hm32; exact absurd hm32 (Nat.not_lt_zero _)
        | succ lm32 ih32 =>
          intro is kk v32_0 v32_1 hm32 H locs ls hP hD hS hl
          have rg_is := i_rng is
          have rg_kk := i_rng kk
          refine lv_iload_n hx hb dX10_isWord_32 rfl (lv_at hl 0 rfl) ?_
          refine lv_aload_n hx hb dX10_isWord_33 rfl (lv_at hl 3 rfl) ?_
          refine vp_callSi (W.runV (As := []) (rest := [.int kk]) ⟨hx, hb, hml, hown, hts⟩ (j_length l qs ns (by omega)) (cwV 0 hts mg_X10_isWordm_J0_length_8abf5_141 rfl rfl rfl (by decide +kernel) ⟨Nat.le_of_ble_eq_true rfl, Nat.le_of_ble_eq_true rfl⟩) ⟨fun a U g mk q => ⟨q.1, sP.call q.2⟩, sX.recv hX9 hS, fun U hU hW => ⟨rfl, sP.of hX9 hC9 hS hW.alike hU⟩⟩ rfl rfl hl.1 rfl (lv_room (Nat.le_of_ble_eq_true rfl)) dX10_isWord_34 ⟨Nat.le_of_ble_eq_true rfl, Nat.le_of_ble_eq_true rfl⟩) (fun r_31 hw => ?_)
          have hlr_31 : r_31.toInt = (ns : Int) := hw
          refine lv_icmp_ge (tgt := 74) hx hb dX10_isWord_37 (by decide) (fun k_32 => ?_) (fun k_32 => ?_)
          · have tk_32 := c_ge (a := kk.toInt) (b := r_31.toInt) rfl rfl k_32
            refine lv_iload_n hx hb dX10_isWord_74 rfl (lv_at hl 1 rfl) ?_
            exact W.zret hx hb hr (z_nar (by first | assumption | decide | exact z_of (by omega))) (fun t ht hW => ⟨⟨_, _, rfl, rfl, (by first | omega | assumption | rfl | decide), by rw [ht]; exact hP, va_K.moved hW.alike hK, hD⟩, hS.F ht⟩) hS.2.2 dX10_isWord_75
          · have tk_32 := c_nge (a := kk.toInt) (b := r_31.toInt) rfl rfl k_32
            refine lv_iload_n hx hb dX10_isWord_40 rfl (lv_at hl 1 rfl) ?_
            refine lv_if_eq (tgt := 74) hx hb dX10_isWord_41 (by decide) (fun k_33 => ?_) (fun k_33 => ?_)
            · have tk_33 := c_eq (a := is.toInt) (b := 0) rfl (by decide) k_33
              refine lv_iload_n hx hb dX10_isWord_74 rfl (lv_at hl 1 rfl) ?_
              exact W.zret hx hb hr (z_nar (by first | assumption | decide | exact z_of (by omega))) (fun t ht hW => ⟨⟨_, _, rfl, rfl, (by first | omega | assumption | rfl | decide), by rw [ht]; exact hP, va_K.moved hW.alike hK, hD⟩, hS.F ht⟩) hS.2.2 dX10_isWord_75
            · have tk_33 := c_ne (a := is.toInt) (b := 0) rfl (by decide) k_33
              refine lv_aload_n hx hb dX10_isWord_44 rfl (lv_at hl 2 rfl) ?_
              refine lv_aload_n hx hb dX10_isWord_45 rfl (lv_at hl 2 rfl) ?_
              refine va_get (D := (dC, dI)) (ci := 10) (v := .int x6) (C := RX10) (T := TX10) (N := 48) hx hb hts fin_X10_isWordm_X10 hown hK hP 0 rfl rfl 9 (by decide) (hts (.fieldLink RX10 123 "PatternGateModel" "begin" "I") (List.mem_of_getElem? (i := 6) (by decide +kernel))) (fun _ h9 => h9) rfl dX10_isWord_46 ?_
              refine lv_iload_n hx hb dX10_isWord_49 rfl (lv_at hl 0 rfl) ?_
              refine lv_iadd hx hb dX10_isWord_50 ?_
              refine lv_topi (fun y_34 ey_34 => ?_)
              first | have ty_34 := i_add (a := x6.toInt) (b := kk.toInt) rfl rfl ey_34 (by omega) (by omega) | skip
              refine vp_callSi (W.runV (As := [.int y_34]) (rest := []) ⟨hx, hb, hml, hown, hts⟩ (m_byteAt l dC dI ad kc x0 x1 x2 x3 x4 x5 x6 x7 x8 x9 x10 x11 x12 x13 x14 x15 x16 x17 x18 x19 x20 x21 f0 f1 f2 f3 f4 f5 f6 f7 f8 f9 f10 f11 f12 f13 f14 f15 f16 f17 f18 f19 f20 f21 fL fN fP fM fO y_34 (by first | omega | assumption | decide | (have l0 := Int32.toInt_zero; omega)) (by first | omega | assumption | decide | (have l0 := Int32.toInt_zero; omega))) (cwV 1 hts mg_X10_isWordm_X10_byteAt_133 rfl rfl rfl (by decide +kernel) ⟨Nat.le_of_ble_eq_true rfl, Nat.le_of_ble_eq_true rfl⟩) ⟨fun a U g mk q => by obtain ⟨q0, qP, qK⟩ := q; exact ⟨q0, qP, va_K.moved (u := U) (U := U.calling g mk a) (Vm.Alike.refl U.vm) qK⟩, va_recv hK hP (ci := 10) (q0 := 0) rfl rfl, fun U hU hW => ⟨rfl, by rw [hU]; exact hP, va_K.moved hW.alike hK⟩⟩ rfl rfl hl.1 rfl (lv_room (Nat.le_of_ble_eq_true rfl)) dX10_isWord_51 ⟨Nat.le_of_ble_eq_true rfl, Nat.le_of_ble_eq_true rfl⟩) (fun r_35 hr_35 => ?_)
              have rg_r_35 := i_rng r_35
              refine lv_aload_n hx hb dX10_isWord_54 rfl (lv_at hl 3 rfl) ?_
              refine lv_iload_n hx hb dX10_isWord_55 rfl (lv_at hl 0 rfl) ?_
              refine vp_callSi (W.runV (As := [.int kk]) (rest := [.int r_35]) ⟨hx, hb, hml, hown, hts⟩ (j_charAt l qs ns kk (by omega) (by omega) (by omega)) (cwV 1 hts mg_X10_isWordm_J0_charAt_5068e_147 rfl rfl rfl (by decide +kernel) ⟨Nat.le_of_ble_eq_true rfl, Nat.le_of_ble_eq_true rfl⟩) ⟨fun a U g mk q => ⟨q.1, sP.call q.2⟩, sX.recv hX9 hS, fun U hU hW => ⟨rfl, sP.of hX9 hC9 hS hW.alike hU⟩⟩ rfl rfl hl.1 rfl (lv_room (Nat.le_of_ble_eq_true rfl)) dX10_isWord_56 ⟨Nat.le_of_ble_eq_true rfl, Nat.le_of_ble_eq_true rfl⟩) (fun r_36 hw => ?_)
              have rg_r_36 := i_rng r_36
              refine lv_icmp_ne (tgt := 66) hx hb dX10_isWord_59 (by decide) (fun k_37 => ?_) (fun k_37 => ?_)
              · have tk_37 := c_ne (a := r_35.toInt) (b := r_36.toInt) rfl rfl k_37
                refine lv_iconst (v := 0) hx hb dX10_isWord_66 (by decide) ?_
                refine lv_istore_n (lv' := [(2, .int 0), (3, .int kk), (0, .ref (ad 0)), (1, .ref qs)]) hx hb dX10_isWord_67 rfl hl (by decide) rfl (fun ls hl => ?_)
                obtain ⟨y_38, ey_38⟩ : ∃ y : Int32, y = kk + 1 := ⟨_, rfl⟩
                first | have ty_38 := i_add (a := kk.toInt) (b := 1) rfl (by decide) ey_38 (by omega) (by omega) | skip
                refine lv_iinc (v := y_38) (lv' := [(3, .int y_38), (2, .int 0), (0, .ref (ad 0)), (1, .ref qs)]) hx hb dX10_isWord_68 hl (k := 1) rfl (by rw [ey_38]; rfl) (by decide) rfl (fun ls hl => ?_)
                refine lv_goto (tgt := 32) hx hb dX10_isWord_71 (by decide) ?_
                have lit_38 : (0 : Int32).toInt = 0 := by decide
                exact ih32 0 y_38 (by first | omega | assumption | decide) (by first | omega | assumption | decide) (by omega) _ _ ls hP hD hS (lv_sub hl [0, 1, 2, 3] rfl)
              · have tk_37 := c_eq (a := r_35.toInt) (b := r_36.toInt) rfl rfl k_37
                refine lv_iconst (v := 1) hx hb dX10_isWord_62 (by decide) ?_
                refine lv_goto (tgt := 67) hx hb dX10_isWord_63 (by decide) ?_
                refine lv_istore_n (lv' := [(2, .int 1), (3, .int kk), (0, .ref (ad 0)), (1, .ref qs)]) hx hb dX10_isWord_67 rfl hl (by decide) rfl (fun ls hl => ?_)
                obtain ⟨y_40, ey_40⟩ : ∃ y : Int32, y = kk + 1 := ⟨_, rfl⟩
                first | have ty_40 := i_add (a := kk.toInt) (b := 1) rfl (by decide) ey_40 (by omega) (by omega) | skip
                refine lv_iinc (v := y_40) (lv' := [(3, .int y_40), (2, .int 1), (0, .ref (ad 0)), (1, .ref qs)]) hx hb dX10_isWord_68 hl (k := 1) rfl (by rw [ey_40]; rfl) (by decide) rfl (fun ls hl => ?_)
                refine lv_goto (tgt := 32) hx hb dX10_isWord_71 (by decide) ?_
                have lit_40 : (1 : Int32).toInt = 1 := by decide
                exact ih32 1 y_40 (by first | omega | assumption | decide) (by first | omega | assumption | decide) (by omega) _ _ ls hP hD hS (lv_sub hl [0, 1, 2, 3] rfl)
      have lit_41 : (1 : Int32).toInt = 1 := by decide
      have lit_42 : (0 : Int32).toInt = 0 := by decide
      exact loop32 _ 1 0 (by first | omega | assumption | decide) (by first | omega | assumption | decide) (Nat.lt_succ_self _) _ _ ls hP hD hS (lv_sub hl [0, 1, 2, 3] rfl)
theorem dX10_aLine_0 : decode cX10_aLine 0 = .ok (.aload_n 0, 1) := by decide +kernel
theorem dX10_aLine_1 : decode cX10_aLine 1 = .ok (.ldc 173, 2) := by decide +kernel
theorem dX10_aLine_3 : decode cX10_aLine 3 = .ok (.invokevirtual 175, 3) := by decide +kernel
theorem dX10_aLine_6 : decode cX10_aLine 6 = .ok (.istore_n 1, 1) := by decide +kernel
theorem dX10_aLine_7 : decode cX10_aLine 7 = .ok (.iload_n 1, 1) := by decide +kernel
theorem dX10_aLine_8 : decode cX10_aLine 8 = .ok (.ifCond .ne 18, 3) := by decide +kernel
theorem dX10_aLine_11 : decode cX10_aLine 11 = .ok (.aload_n 0, 1) := by decide +kernel
theorem dX10_aLine_12 : decode cX10_aLine 12 = .ok (.ldc 179, 2) := by decide +kernel
theorem dX10_aLine_14 : decode cX10_aLine 14 = .ok (.invokevirtual 175, 3) := by decide +kernel
theorem dX10_aLine_17 : decode cX10_aLine 17 = .ok (.ifCond .ne 9, 3) := by decide +kernel
theorem dX10_aLine_20 : decode cX10_aLine 20 = .ok (.aload_n 0, 1) := by decide +kernel
theorem dX10_aLine_21 : decode cX10_aLine 21 = .ok (.iconst 2, 1) := by decide +kernel
theorem dX10_aLine_22 : decode cX10_aLine 22 = .ok (.invokevirtual 181, 3) := by decide +kernel
theorem dX10_aLine_25 : decode cX10_aLine 25 = .ok (.ireturn, 1) := by decide +kernel
theorem dX10_aLine_26 : decode cX10_aLine 26 = .ok (.aload_n 0, 1) := by decide +kernel
theorem dX10_aLine_27 : decode cX10_aLine 27 = .ok (.getfield 8, 3) := by decide +kernel
theorem dX10_aLine_30 : decode cX10_aLine 30 = .ok (.iload_n 1, 1) := by decide +kernel
theorem dX10_aLine_31 : decode cX10_aLine 31 = .ok (.ifCond .eq 7, 3) := by decide +kernel
theorem dX10_aLine_34 : decode cX10_aLine 34 = .ok (.iconst 0, 1) := by decide +kernel
theorem dX10_aLine_35 : decode cX10_aLine 35 = .ok (.goto 6, 3) := by decide +kernel
theorem dX10_aLine_38 : decode cX10_aLine 38 = .ok (.sipush 611, 3) := by decide +kernel
theorem dX10_aLine_41 : decode cX10_aLine 41 = .ok (.iaload, 1) := by decide +kernel
theorem dX10_aLine_42 : decode cX10_aLine 42 = .ok (.iload_n 1, 1) := by decide +kernel
theorem dX10_aLine_43 : decode cX10_aLine 43 = .ok (.ifCond .eq 8, 3) := by decide +kernel
theorem dX10_aLine_46 : decode cX10_aLine 46 = .ok (.bipush 10, 2) := by decide +kernel
theorem dX10_aLine_48 : decode cX10_aLine 48 = .ok (.goto 5, 3) := by decide +kernel
theorem dX10_aLine_51 : decode cX10_aLine 51 = .ok (.bipush 8, 2) := by decide +kernel
theorem dX10_aLine_53 : decode cX10_aLine 53 = .ok (.if_icmp .ne 9, 3) := by decide +kernel
theorem dX10_aLine_56 : decode cX10_aLine 56 = .ok (.aload_n 0, 1) := by decide +kernel
theorem dX10_aLine_57 : decode cX10_aLine 57 = .ok (.iconst 3, 1) := by decide +kernel
theorem dX10_aLine_58 : decode cX10_aLine 58 = .ok (.invokevirtual 181, 3) := by decide +kernel
theorem dX10_aLine_61 : decode cX10_aLine 61 = .ok (.ireturn, 1) := by decide +kernel
theorem dX10_aLine_62 : decode cX10_aLine 62 = .ok (.aload_n 0, 1) := by decide +kernel
theorem dX10_aLine_63 : decode cX10_aLine 63 = .ok (.invokevirtual 184, 3) := by decide +kernel
theorem dX10_aLine_66 : decode cX10_aLine 66 = .ok (.aload_n 0, 1) := by decide +kernel
theorem dX10_aLine_67 : decode cX10_aLine 67 = .ok (.getfield 120, 3) := by decide +kernel
theorem dX10_aLine_70 : decode cX10_aLine 70 = .ok (.iconst 3, 1) := by decide +kernel
theorem dX10_aLine_71 : decode cX10_aLine 71 = .ok (.if_icmp .eq 9, 3) := by decide +kernel
theorem dX10_aLine_74 : decode cX10_aLine 74 = .ok (.aload_n 0, 1) := by decide +kernel
theorem dX10_aLine_75 : decode cX10_aLine 75 = .ok (.iconst 2, 1) := by decide +kernel
theorem dX10_aLine_76 : decode cX10_aLine 76 = .ok (.invokevirtual 181, 3) := by decide +kernel
theorem dX10_aLine_79 : decode cX10_aLine 79 = .ok (.ireturn, 1) := by decide +kernel
theorem dX10_aLine_80 : decode cX10_aLine 80 = .ok (.iload_n 1, 1) := by decide +kernel
theorem dX10_aLine_81 : decode cX10_aLine 81 = .ok (.ifCond .eq 13, 3) := by decide +kernel
theorem dX10_aLine_84 : decode cX10_aLine 84 = .ok (.aload_n 0, 1) := by decide +kernel
theorem dX10_aLine_85 : decode cX10_aLine 85 = .ok (.invokevirtual 187, 3) := by decide +kernel
theorem dX10_aLine_88 : decode cX10_aLine 88 = .ok (.ifCond .eq 13, 3) := by decide +kernel
theorem dX10_aLine_91 : decode cX10_aLine 91 = .ok (.goto 12, 3) := by decide +kernel
theorem dX10_aLine_94 : decode cX10_aLine 94 = .ok (.aload_n 0, 1) := by decide +kernel
theorem dX10_aLine_95 : decode cX10_aLine 95 = .ok (.invokevirtual 190, 3) := by decide +kernel
theorem dX10_aLine_98 : decode cX10_aLine 98 = .ok (.ifCond .ne 5, 3) := by decide +kernel
theorem dX10_aLine_101 : decode cX10_aLine 101 = .ok (.iconst 0, 1) := by decide +kernel
theorem dX10_aLine_102 : decode cX10_aLine 102 = .ok (.ireturn, 1) := by decide +kernel
theorem dX10_aLine_103 : decode cX10_aLine 103 = .ok (.aload_n 0, 1) := by decide +kernel
theorem dX10_aLine_104 : decode cX10_aLine 104 = .ok (.invokevirtual 184, 3) := by decide +kernel
theorem dX10_aLine_107 : decode cX10_aLine 107 = .ok (.aload_n 0, 1) := by decide +kernel
theorem dX10_aLine_108 : decode cX10_aLine 108 = .ok (.getfield 120, 3) := by decide +kernel
theorem dX10_aLine_111 : decode cX10_aLine 111 = .ok (.iconst 4, 1) := by decide +kernel
theorem dX10_aLine_112 : decode cX10_aLine 112 = .ok (.if_icmp .eq 9, 3) := by decide +kernel
theorem dX10_aLine_115 : decode cX10_aLine 115 = .ok (.aload_n 0, 1) := by decide +kernel
theorem dX10_aLine_116 : decode cX10_aLine 116 = .ok (.iconst 2, 1) := by decide +kernel
theorem dX10_aLine_117 : decode cX10_aLine 117 = .ok (.invokevirtual 181, 3) := by decide +kernel
theorem dX10_aLine_120 : decode cX10_aLine 120 = .ok (.ireturn, 1) := by decide +kernel
theorem dX10_aLine_121 : decode cX10_aLine 121 = .ok (.aload_n 0, 1) := by decide +kernel
theorem dX10_aLine_122 : decode cX10_aLine 122 = .ok (.invokevirtual 184, 3) := by decide +kernel
theorem dX10_aLine_125 : decode cX10_aLine 125 = .ok (.iconst 1, 1) := by decide +kernel
theorem dX10_aLine_126 : decode cX10_aLine 126 = .ok (.ireturn, 1) := by decide +kernel
def mwX10_aLinem : List Cond := .code yX10_aLine cX10_aLine 2 (some .boolean) :: (([.methodLink RX10 175 yX10_isWord, .instanceMethod yX10_isWord, .selects RX10 yX10_isWord yX10_isWord, .initialized RX10, .fieldLink RX10 8 "PatternGateModel" "all" "[I", .methodLink RX10 184 yX10_ahead, .instanceMethod yX10_ahead, .selects RX10 yX10_ahead yX10_ahead, .fieldLink RX10 120 "PatternGateModel" "token" "I", .methodLink RX10 190 yX10_patternQuote, .instanceMethod yX10_patternQuote, .selects RX10 yX10_patternQuote yX10_patternQuote, .methodLink RX10 181 yX10_fails, .instanceMethod yX10_fails, .selects RX10 yX10_fails yX10_fails, .methodLink RX10 187 yX10_docQuote, .instanceMethod yX10_docQuote, .selects RX10 yX10_docQuote yX10_docQuote] : List Cond) ++ (wsX100 ++ (mwX10_isWordm ++ (mwX10_aheadm ++ (mwX10_patternQuotem ++ (mwX10_failsm ++ (mwX10_docQuotem)))))))
theorem fin_X10_aLinem_X10 : ∀ w ∈ wsX100, w ∈ mwX10_aLinem := fun w h => List.mem_cons_of_mem _ (List.mem_append_right _ (List.mem_append_left _ h))
set_option maxRecDepth 100000 in
theorem gd_mwX10_isWordm : mwX10_isWordm.all goodWord = true := by decide +kernel
set_option maxRecDepth 100000 in
theorem gd_mwX10_aheadm : mwX10_aheadm.all goodWord = true := by decide +kernel
set_option maxRecDepth 100000 in
theorem gd_mwX10_patternQuotem : mwX10_patternQuotem.all goodWord = true := by decide +kernel
set_option maxRecDepth 100000 in
theorem gd_mwX10_failsm : mwX10_failsm.all goodWord = true := by decide +kernel
set_option maxRecDepth 100000 in
theorem gd_mwX10_docQuotem : mwX10_docQuotem.all goodWord = true := by decide +kernel
set_option maxRecDepth 20000 in
theorem mg_X10_aLinem_X10_isWord_175 : GoodIn mwX10_aLinem (wsV RX10 175 RX10 yX10_isWord mwX10_isWordm) := gi_app (A := [.methodLink RX10 175 yX10_isWord, .instanceMethod yX10_isWord, .selects RX10 yX10_isWord yX10_isWord, .initialized RX10]) (goodIn_r _ [1, 2, 3, 4] (by decide +kernel) (by decide +kernel)) (gi_sub gd_mwX10_isWordm (fun w h => List.mem_cons_of_mem _ (List.mem_append_right _ (List.mem_append_right _ (List.mem_append_left _ h)))))
set_option maxRecDepth 20000 in
theorem mg_X10_aLinem_X10_ahead_184 : GoodIn mwX10_aLinem (wsV RX10 184 RX10 yX10_ahead mwX10_aheadm) := gi_app (A := [.methodLink RX10 184 yX10_ahead, .instanceMethod yX10_ahead, .selects RX10 yX10_ahead yX10_ahead, .initialized RX10]) (goodIn_r _ [6, 7, 8, 4] (by decide +kernel) (by decide +kernel)) (gi_sub gd_mwX10_aheadm (fun w h => List.mem_cons_of_mem _ (List.mem_append_right _ (List.mem_append_right _ (List.mem_append_right _ (List.mem_append_left _ h))))))
set_option maxRecDepth 20000 in
theorem mg_X10_aLinem_X10_patternQuote_190 : GoodIn mwX10_aLinem (wsV RX10 190 RX10 yX10_patternQuote mwX10_patternQuotem) := gi_app (A := [.methodLink RX10 190 yX10_patternQuote, .instanceMethod yX10_patternQuote, .selects RX10 yX10_patternQuote yX10_patternQuote, .initialized RX10]) (goodIn_r _ [10, 11, 12, 4] (by decide +kernel) (by decide +kernel)) (gi_sub gd_mwX10_patternQuotem (fun w h => List.mem_cons_of_mem _ (List.mem_append_right _ (List.mem_append_right _ (List.mem_append_right _ (List.mem_append_right _ (List.mem_append_left _ h)))))))
set_option maxRecDepth 20000 in
theorem mg_X10_aLinem_X10_fails_181 : GoodIn mwX10_aLinem (wsV RX10 181 RX10 yX10_fails mwX10_failsm) := gi_app (A := [.methodLink RX10 181 yX10_fails, .instanceMethod yX10_fails, .selects RX10 yX10_fails yX10_fails, .initialized RX10]) (goodIn_r _ [13, 14, 15, 4] (by decide +kernel) (by decide +kernel)) (gi_sub gd_mwX10_failsm (fun w h => List.mem_cons_of_mem _ (List.mem_append_right _ (List.mem_append_right _ (List.mem_append_right _ (List.mem_append_right _ (List.mem_append_right _ (List.mem_append_left _ h))))))))
set_option maxRecDepth 20000 in
theorem mg_X10_aLinem_X10_docQuote_187 : GoodIn mwX10_aLinem (wsV RX10 187 RX10 yX10_docQuote mwX10_docQuotem) := gi_app (A := [.methodLink RX10 187 yX10_docQuote, .instanceMethod yX10_docQuote, .selects RX10 yX10_docQuote yX10_docQuote, .initialized RX10]) (goodIn_r _ [16, 17, 18, 4] (by decide +kernel) (by decide +kernel)) (gi_sub gd_mwX10_docQuotem (fun w h => List.mem_cons_of_mem _ (List.mem_append_right _ (List.mem_append_right _ (List.mem_append_right _ (List.mem_append_right _ (List.mem_append_right _ (List.mem_append_right _ (h)))))))))
set_option maxHeartbeats 4000000 in
set_option maxRecDepth 100000 in
theorem m_aLine (l : Launch) (dC : Nat → ClassId) (dI : Nat → Nat → Nat) (ad : Nat → Nat) (kc : Nat → ClassId) (x0 x1 x2 x3 x4 x5 x6 x7 x8 x9 x10 x11 x12 x13 x14 x15 x16 x17 x18 x19 x20 x21 : Int32) (f0 f1 f2 f3 f4 f5 f6 f7 f8 f9 f10 f11 f12 f13 f14 f15 f16 f17 f18 f19 f20 f21 : Nat → Int32) (fL : Nat → Nat → Int64) (fN : Nat → Nat → Int32) (fP : Nat → Nat → Nat) (fM : Nat → Nat → Int32) (fO : Nat → Nat → Int32) (sz : Nat) (q0 : OKd f0 0) (q1 : 0 ≤ x6.toInt ∧ x6.toInt ≤ x7.toInt) (q2 : x7.toInt ≤ x4.toInt ∧ x4.toInt ≤ 900) : Met l yX10_aLine mwX10_aLinem ({ frames := 22, cells := 0, slots := 0, locals := 1320 }) (va_Pc [.ref (ad 0)] (fun U => U.heap.size = sz ∧ va_P (dC, dI) vwCl (mW ad kc x0 x1 x2 x3 x4 x5 x6 x7 x8 x9 x10 x11 x12 x13 x14 x15 x16 x17 x18 x19 x20 x21 f0 f1 f2 f3 f4 f5 f6 f7 f8 f9 f10 f11 f12 f13 f14 f15 f16 f17 f18 f19 f20 f21 fL fN fP fM fO) U.heap ∧ va_K (dC, dI) vwCl (mT kc) U ∧ va_D (fun _ => True) (mW ad kc x0 x1 x2 x3 x4 x5 x6 x7 x8 x9 x10 x11 x12 x13 x14 x15 x16 x17 x18 x19 x20 x21 f0 f1 f2 f3 f4 f5 f6 f7 f8 f9 f10 f11 f12 f13 f14 f15 f16 f17 f18 f19 f20 f21 fL fN fP fM fO) ∧ sW (va_A (mW ad kc x0 x1 x2 x3 x4 x5 x6 x7 x8 x9 x10 x11 x12 x13 x14 x15 x16 x17 x18 x19 x20 x21 f0 f1 f2 f3 f4 f5 f6 f7 f8 f9 f10 f11 f12 f13 f14 f15 f16 f17 f18 f19 f20 f21 fL fN fP fM fO) sz) U U.heap)) (va_Qi (fun (o9 u9 : Int32) => o9 = u9) (fun (o9 : Int32) t => ∃ (y5 y6 y7 y8 y9 y11 : Int32) (g0 : Nat → Int32), (OKd g0 0) ∧ (∀ z : Int, 7820 ≤ z → vI g0 z = vI f0 z) ∧ (0 ≤ y6.toInt ∧ y6.toInt ≤ y7.toInt) ∧ (x7.toInt ≤ y7.toInt ∧ y7.toInt ≤ x4.toInt) ∧ (o9.toInt = 0 ∨ o9.toInt = 1) ∧ (o9.toInt = 1 → x7.toInt < y7.toInt) ∧ va_P (dC, dI) vwCl (mW ad kc x0 x1 x2 x3 x4 y5 y6 y7 y8 y9 x10 y11 x12 x13 x14 x15 x16 x17 x18 x19 x20 x21 g0 f1 f2 f3 f4 f5 f6 f7 f8 f9 f10 f11 f12 f13 f14 f15 f16 f17 f18 f19 f20 f21 fL fN fP fM fO) t.heap ∧ va_K (dC, dI) vwCl (mT kc) t ∧ va_D (va_A (mW ad kc x0 x1 x2 x3 x4 x5 x6 x7 x8 x9 x10 x11 x12 x13 x14 x15 x16 x17 x18 x19 x20 x21 f0 f1 f2 f3 f4 f5 f6 f7 f8 f9 f10 f11 f12 f13 f14 f15 f16 f17 f18 f19 f20 f21 fL fN fP fM fO) sz) (mW ad kc x0 x1 x2 x3 x4 y5 y6 y7 y8 y9 x10 y11 x12 x13 x14 x15 x16 x17 x18 x19 x20 x21 g0 f1 f2 f3 f4 f5 f6 f7 f8 f9 f10 f11 f12 f13 f14 f15 f16 f17 f18 f19 f20 f21 fL fN fP fM fO)) (va_A (mW ad kc x0 x1 x2 x3 x4 x5 x6 x7 x8 x9 x10 x11 x12 x13 x14 x15 x16 x17 x18 x19 x20 x21 f0 f1 f2 f3 f4 f5 f6 f7 f8 f9 f10 f11 f12 f13 f14 f15 f16 f17 f18 f19 f20 f21 fL fN fP fM fO) sz)) 0 0 (va_A (mW ad kc x0 x1 x2 x3 x4 x5 x6 x7 x8 x9 x10 x11 x12 x13 x14 x15 x16 x17 x18 x19 x20 x21 f0 f1 f2 f3 f4 f5 f6 f7 f8 f9 f10 f11 f12 f13 f14 f15 f16 f17 f18 f19 f20 f21 fL fN fP fM fO) sz) := by
  refine Met.ofW (cc := cX10_aLine) (maxL := 2) (ret := (some .boolean)) (by decide +kernel) rfl ?_
  intro p e s m args below meth c s₁ B hml hv
  obtain ⟨rfl, hsz, hP, hK, hD0, hSW⟩ := hv
  have hx := B.exec
  have hb := B.bytes
  have hr := B.returns
  have hts := atoms_spec (ws := mwX10_aLinem) B.pre
  have hown : s.vm.findClass RX10 = some m.cls := findClass_of_methodNamed B.named
  have hlocks := B.notSynchronized
  subst hsz
  have hD := hD0.self (sz := s.heap.size)
  generalize hAe : va_A (mW ad kc x0 x1 x2 x3 x4 x5 x6 x7 x8 x9 x10 x11 x12 x13 x14 x15 x16 x17 x18 x19 x20 x21 f0 f1 f2 f3 f4 f5 f6 f7 f8 f9 f10 f11 f12 f13 f14 f15 f16 f17 f18 f19 f20 f21 fL fN fP fM fO) s.heap.size = A at hD hSW ⊢
  have hA : ∀ q : Nat, s.heap.size ≤ q → A q := fun q h => by rw [← hAe]; exact Or.inr h
  have hP : va_P (dC, dI) vwCl (mW ad kc x0 x1 x2 x3 x4 x5 x6 x7 x8 x9 x10 x11 x12 x13 x14 x15 x16 x17 x18 x19 x20 x21 f0 f1 f2 f3 f4 f5 f6 f7 f8 f9 f10 f11 f12 f13 f14 f15 f16 f17 f18 f19 f20 f21 fL fN fP fM fO) s.heap := hP
  have hD : va_D A (mW ad kc x0 x1 x2 x3 x4 x5 x6 x7 x8 x9 x10 x11 x12 x13 x14 x15 x16 x17 x18 x19 x20 x21 f0 f1 f2 f3 f4 f5 f6 f7 f8 f9 f10 f11 f12 f13 f14 f15 f16 f17 f18 f19 f20 f21 fL fN fP fM fO) := hD
  have hK : va_K (dC, dI) vwCl (mT kc) s := hK
  generalize hH : s.heap = H at hP ⊢
  have hS : va_S A s.heap H [] := by rw [← hH]; exact va_S.rf
  have hl := lv_entry ([.ref (ad 0)]) (n := 2) (Nat.le_of_ble_eq_true rfl)
  rw [lg_entry_eq]
  generalize (lg_sl ([.ref (ad 0)]) ++ List.replicate (2 - (lg_sl ([.ref (ad 0)])).length) Slot.unset).toArray = ls at hl ⊢
  have hl : lv_has ls 2 [(0, .ref (ad 0))] := hl
  obtain ⟨qd, qp, hR173, hR179, hXd, hXp, hC9⟩ := hSW
  have hd10 := q0.n0
  have hp8 := q0.P0
  refine lv_aload_n hx hb dX10_aLine_0 rfl (lv_at hl 0 rfl) ?_
  refine va_ldcS hx hb hown hR173 dX10_aLine_1 ?_
  have hFc := m_free hD hS hA
  refine va_calli (va_runV (As := [.ref qd]) (rest := []) ⟨hx, hb, hml, hown, hts⟩ (m_isWord l dC dI ad kc x0 x1 x2 x3 x4 x5 x6 x7 x8 x9 x10 x11 x12 x13 x14 x15 x16 x17 x18 x19 x20 x21 f0 f1 f2 f3 f4 f5 f6 f7 f8 f9 f10 f11 f12 f13 f14 f15 f16 f17 f18 f19 f20 f21 fL fN fP fM fO H.size qd 3 (by first | omega | assumption | decide | (have l0 := Int32.toInt_zero; omega)) (by first | omega | assumption | decide | (have l0 := Int32.toInt_zero; omega)) (by first | omega | assumption | decide | (have l0 := Int32.toInt_zero; omega))) (cwV 1 hts mg_X10_aLinem_X10_isWord_175 rfl rfl rfl (by decide +kernel) ⟨Nat.le_of_ble_eq_true rfl, Nat.le_of_ble_eq_true rfl⟩) ⟨fun a U g mk q => by obtain ⟨q0, q1, qP, qK, qD, qE0, qE1⟩ := q; exact ⟨q0, q1, qP, va_K.moved (u := U) (U := U.calling g mk a) (Vm.Alike.refl U.vm) qK, qD, sX.moved (u := U) (U := U.calling g mk a) (Vm.Alike.refl U.vm) qE0, sC.moved (u := U) (U := U.calling g mk a) (Vm.Alike.refl U.vm) qE1⟩, va_recv hK hP (ci := 10) (q0 := 0) rfl rfl, fun U hU hW => ⟨rfl, by rw [hU], by rw [hU]; exact hP, va_K.moved hW.alike hK, hD.weaken (fun _ _ _ _ => trivial), sX.to hXd hS hFc hW hU, sC.to hC9 hS hFc hW hU⟩⟩ rfl rfl hl.1 rfl (lv_room (Nat.le_of_ble_eq_true rfl)) dX10_aLine_3 ⟨Nat.le_of_ble_eq_true rfl, Nat.le_of_ble_eq_true rfl⟩) hS (fun q _ h => hFc q h) hFc (fun r_1 u t H1 locs ht hvm hw hB hz1 hk1 hS => ?_)
  subst hw
  obtain ⟨hr_1_0, hP, hK1, hD1⟩ := hB
  rw [ht] at hP
  have hD := hD1.weaken (fun k q _ h => hFc q.1 h)
  clear hz1 hk1 hFc hD1 hK1 hvm
  generalize H1 = H at hP hS ⊢
  have rg_r_1 := i_rng r_1
  have hP : va_P (dC, dI) vwCl (mW ad kc x0 x1 x2 x3 x4 x5 x6 x7 x8 x9 x10 x11 x12 x13 x14 x15 x16 x17 x18 x19 x20 x21 f0 f1 f2 f3 f4 f5 f6 f7 f8 f9 f10 f11 f12 f13 f14 f15 f16 f17 f18 f19 f20 f21 fL fN fP fM fO) H := hP
  have hD : va_D A (mW ad kc x0 x1 x2 x3 x4 x5 x6 x7 x8 x9 x10 x11 x12 x13 x14 x15 x16 x17 x18 x19 x20 x21 f0 f1 f2 f3 f4 f5 f6 f7 f8 f9 f10 f11 f12 f13 f14 f15 f16 f17 f18 f19 f20 f21 fL fN fP fM fO) := hD
  refine lv_istore_n (lv' := [(1, .int r_1), (0, .ref (ad 0))]) hx hb dX10_aLine_6 rfl hl (by decide) rfl (fun ls hl => ?_)
  refine lv_iload_n hx hb dX10_aLine_7 rfl (lv_at hl 0 rfl) ?_
  refine lv_if_ne (tgt := 26) hx hb dX10_aLine_8 (by decide) (fun k_2 => ?_) (fun k_2 => ?_)
  · have tk_2 := c_ne (a := r_1.toInt) (b := 0) rfl (by decide) k_2
    refine lv_aload_n hx hb dX10_aLine_26 rfl (lv_at hl 1 rfl) ?_
    refine va_get (D := (dC, dI)) (ci := 10) (v := .ref (ad 1)) (C := RX10) (T := TX10) (N := 48) hx hb hts fin_X10_aLinem_X10 hown hK hP 0 rfl rfl 0 (by decide) (hts (.fieldLink RX10 8 "PatternGateModel" "all" "[I") (List.mem_of_getElem? (i := 5) (by decide +kernel))) (fun _ h9 => h9) rfl dX10_aLine_27 ?_
    refine lv_iload_n hx hb dX10_aLine_30 rfl (lv_at hl 0 rfl) ?_
    refine lv_if_eq (tgt := 38) hx hb dX10_aLine_31 (by decide) (fun k_3 => ?_) (fun k_3 => ?_)
    · have tk_3 := c_eq (a := r_1.toInt) (b := 0) rfl (by decide) k_3
      refine lv_sipush (v := 611) hx hb dX10_aLine_38 (by decide) ?_
      refine va_iald hx hb hK hP 1 0 rfl rfl (i := 611) (by unfold vp_in; decide +kernel) dX10_aLine_41 ?_
      refine lv_topi (fun y_4 ey_4 => ?_)
      have rg_y_4 := i_rng y_4
      have vy_4 := vI_lda (f := f0) (i := 611) (a := 611) ey_4 (by first | omega | decide)
      have rg_y_4 := i_rng y_4
      refine lv_iload_n hx hb dX10_aLine_42 rfl (lv_at hl 0 rfl) ?_
      refine lv_if_eq (tgt := 51) hx hb dX10_aLine_43 (by decide) (fun k_5 => ?_) (fun k_5 => ?_)
      · have tk_5 := c_eq (a := r_1.toInt) (b := 0) rfl (by decide) k_5
        refine lv_bipush (v := 8) hx hb dX10_aLine_51 (by decide) ?_
        refine lv_icmp_ne (tgt := 62) hx hb dX10_aLine_53 (by decide) (fun k_6 => ?_) (fun k_6 => ?_)
        · have tk_6 := c_ne (a := y_4.toInt) (b := 8) rfl (by decide) k_6
          refine lv_aload_n hx hb dX10_aLine_62 rfl (lv_at hl 1 rfl) ?_
          have hFc := m_free hD hS hA
          refine va_callv (va_runV (As := []) (rest := []) ⟨hx, hb, hml, hown, hts⟩ (m_ahead l dC dI ad kc x0 x1 x2 x3 x4 x5 x6 x7 x8 x9 x10 x11 x12 x13 x14 x15 x16 x17 x18 x19 x20 x21 f0 f1 f2 f3 f4 f5 f6 f7 f8 f9 f10 f11 f12 f13 f14 f15 f16 f17 f18 f19 f20 f21 fL fN fP fM fO H.size (by first | omega | assumption | decide | (have l0 := Int32.toInt_zero; omega)) (by first | omega | assumption | decide | (have l0 := Int32.toInt_zero; omega)) (by first | omega | assumption | decide | (have l0 := Int32.toInt_zero; omega))) (cwV 0 hts mg_X10_aLinem_X10_ahead_184 rfl rfl rfl (by decide +kernel) ⟨Nat.le_of_ble_eq_true rfl, Nat.le_of_ble_eq_true rfl⟩) ⟨fun a U g mk q => by obtain ⟨q0, q1, qP, qK, qD⟩ := q; exact ⟨q0, q1, qP, va_K.moved (u := U) (U := U.calling g mk a) (Vm.Alike.refl U.vm) qK, qD⟩, va_recv hK hP (ci := 10) (q0 := 0) rfl rfl, fun U hU hW => ⟨rfl, by rw [hU], by rw [hU]; exact hP, va_K.moved hW.alike hK, hD.weaken (fun _ _ _ _ => trivial)⟩⟩ rfl rfl hl.1 rfl (lv_room (Nat.le_of_ble_eq_true rfl)) dX10_aLine_63 ⟨Nat.le_of_ble_eq_true rfl, Nat.le_of_ble_eq_true rfl⟩) hS (fun q _ h => hFc q h) hFc (fun u t H1 locs ht hvm hw hB hz1 hk1 hS => ?_)
          obtain ⟨x_8, x_9, x_10, hr_7_0, hr_7_1, hr_7_2, hr_7_3, hr_7_4, hP, hK1, hD1⟩ := hB
          rw [ht] at hP
          have hD := hD1.weaken (fun k q _ h => hFc q.1 h)
          clear hz1 hk1 hFc hD1 hK1 hvm
          generalize H1 = H at hP hS ⊢
          have rg_x_8 := i_rng x_8
          have rg_x_9 := i_rng x_9
          have rg_x_10 := i_rng x_10
          have hP : va_P (dC, dI) vwCl (mW ad kc x0 x1 x2 x3 x4 x_8 x_9 x_10 x8 x9 x10 x11 x12 x13 x14 x15 x16 x17 x18 x19 x20 x21 f0 f1 f2 f3 f4 f5 f6 f7 f8 f9 f10 f11 f12 f13 f14 f15 f16 f17 f18 f19 f20 f21 fL fN fP fM fO) H := hP
          have hD : va_D A (mW ad kc x0 x1 x2 x3 x4 x_8 x_9 x_10 x8 x9 x10 x11 x12 x13 x14 x15 x16 x17 x18 x19 x20 x21 f0 f1 f2 f3 f4 f5 f6 f7 f8 f9 f10 f11 f12 f13 f14 f15 f16 f17 f18 f19 f20 f21 fL fN fP fM fO) := hD
          refine lv_aload_n hx hb dX10_aLine_66 rfl (lv_at hl 1 rfl) ?_
          refine va_get (D := (dC, dI)) (ci := 10) (v := .int x_8) (C := RX10) (T := TX10) (N := 48) hx hb hts fin_X10_aLinem_X10 hown hK hP 0 rfl rfl 8 (by decide) (hts (.fieldLink RX10 120 "PatternGateModel" "token" "I") (List.mem_of_getElem? (i := 9) (by decide +kernel))) (fun _ h9 => h9) rfl dX10_aLine_67 ?_
          refine lv_iconst (v := 3) hx hb dX10_aLine_70 (by decide) ?_
          refine lv_icmp_eq (tgt := 80) hx hb dX10_aLine_71 (by decide) (fun k_11 => ?_) (fun k_11 => ?_)
          · have tk_11 := c_eq (a := x_8.toInt) (b := 3) rfl (by decide) k_11
            refine lv_iload_n hx hb dX10_aLine_80 rfl (lv_at hl 0 rfl) ?_
            refine lv_if_eq (tgt := 94) hx hb dX10_aLine_81 (by decide) (fun k_12 => ?_) (fun k_12 => ?_)
            · have tk_12 := c_eq (a := r_1.toInt) (b := 0) rfl (by decide) k_12
              refine lv_aload_n hx hb dX10_aLine_94 rfl (lv_at hl 1 rfl) ?_
              have hFc := m_free hD hS hA
              refine va_calli (va_runV (As := []) (rest := []) ⟨hx, hb, hml, hown, hts⟩ (m_patternQuote l dC dI ad kc x0 x1 x2 x3 x4 x_8 x_9 x_10 x8 x9 x10 x11 x12 x13 x14 x15 x16 x17 x18 x19 x20 x21 f0 f1 f2 f3 f4 f5 f6 f7 f8 f9 f10 f11 f12 f13 f14 f15 f16 f17 f18 f19 f20 f21 fL fN fP fM fO H.size (by first | omega | assumption | decide | (have l0 := Int32.toInt_zero; omega)) (by first | omega | assumption | decide | (have l0 := Int32.toInt_zero; omega)) (by first | omega | assumption | decide | (have l0 := Int32.toInt_zero; omega)) (by first | omega | assumption | decide | (have l0 := Int32.toInt_zero; omega)) (by first | omega | assumption | decide | (have l0 := Int32.toInt_zero; omega))) (cwV 0 hts mg_X10_aLinem_X10_patternQuote_190 rfl rfl rfl (by decide +kernel) ⟨Nat.le_of_ble_eq_true rfl, Nat.le_of_ble_eq_true rfl⟩) ⟨fun a U g mk q => by obtain ⟨q0, q1, qP, qK, qD⟩ := q; exact ⟨q0, q1, qP, va_K.moved (u := U) (U := U.calling g mk a) (Vm.Alike.refl U.vm) qK, qD⟩, va_recv hK hP (ci := 10) (q0 := 0) rfl rfl, fun U hU hW => ⟨rfl, by rw [hU], by rw [hU]; exact hP, va_K.moved hW.alike hK, hD.weaken (fun _ _ _ _ => trivial)⟩⟩ rfl rfl hl.1 rfl (lv_room (Nat.le_of_ble_eq_true rfl)) dX10_aLine_95 ⟨Nat.le_of_ble_eq_true rfl, Nat.le_of_ble_eq_true rfl⟩) hS (fun q _ h => hFc q h) hFc (fun r_13 u t H1 locs ht hvm hw hB hz1 hk1 hS => ?_)
              subst hw
              obtain ⟨x_14, x_15, x_16, x_17, f_18, hr_13_0, hr_13_1, hr_13_2, hr_13_3, hr_13_4, hP, hK1, hD1⟩ := hB
              rw [ht] at hP
              have hD := hD1.weaken (fun k q _ h => hFc q.1 h)
              clear hz1 hk1 hFc hD1 hK1 hvm
              generalize H1 = H at hP hS ⊢
              have rg_x_14 := i_rng x_14
              have rg_x_15 := i_rng x_15
              have rg_x_16 := i_rng x_16
              have rg_x_17 := i_rng x_17
              have rg_r_13 := i_rng r_13
              have hP : va_P (dC, dI) vwCl (mW ad kc x0 x1 x2 x3 x4 x_8 x_9 x_14 x_15 x_16 x10 x_17 x12 x13 x14 x15 x16 x17 x18 x19 x20 x21 f_18 f1 f2 f3 f4 f5 f6 f7 f8 f9 f10 f11 f12 f13 f14 f15 f16 f17 f18 f19 f20 f21 fL fN fP fM fO) H := hP
              have hD : va_D A (mW ad kc x0 x1 x2 x3 x4 x_8 x_9 x_14 x_15 x_16 x10 x_17 x12 x13 x14 x15 x16 x17 x18 x19 x20 x21 f_18 f1 f2 f3 f4 f5 f6 f7 f8 f9 f10 f11 f12 f13 f14 f15 f16 f17 f18 f19 f20 f21 fL fN fP fM fO) := hD
              have hq9 := hr_13_0
              have hq8 := hr_13_1
              refine lv_if_ne (tgt := 103) hx hb dX10_aLine_98 (by decide) (fun k_19 => ?_) (fun k_19 => ?_)
              · have tk_19 := c_ne (a := r_13.toInt) (b := 0) rfl (by decide) k_19
                refine lv_aload_n hx hb dX10_aLine_103 rfl (lv_at hl 1 rfl) ?_
                have hFc := m_free hD hS hA
                refine va_callv (va_runV (As := []) (rest := []) ⟨hx, hb, hml, hown, hts⟩ (m_ahead l dC dI ad kc x0 x1 x2 x3 x4 x_8 x_9 x_14 x_15 x_16 x10 x_17 x12 x13 x14 x15 x16 x17 x18 x19 x20 x21 f_18 f1 f2 f3 f4 f5 f6 f7 f8 f9 f10 f11 f12 f13 f14 f15 f16 f17 f18 f19 f20 f21 fL fN fP fM fO H.size (by first | omega | assumption | decide | (have l0 := Int32.toInt_zero; omega)) (by first | omega | assumption | decide | (have l0 := Int32.toInt_zero; omega)) (by first | omega | assumption | decide | (have l0 := Int32.toInt_zero; omega))) (cwV 0 hts mg_X10_aLinem_X10_ahead_184 rfl rfl rfl (by decide +kernel) ⟨Nat.le_of_ble_eq_true rfl, Nat.le_of_ble_eq_true rfl⟩) ⟨fun a U g mk q => by obtain ⟨q0, q1, qP, qK, qD⟩ := q; exact ⟨q0, q1, qP, va_K.moved (u := U) (U := U.calling g mk a) (Vm.Alike.refl U.vm) qK, qD⟩, va_recv hK hP (ci := 10) (q0 := 0) rfl rfl, fun U hU hW => ⟨rfl, by rw [hU], by rw [hU]; exact hP, va_K.moved hW.alike hK, hD.weaken (fun _ _ _ _ => trivial)⟩⟩ rfl rfl hl.1 rfl (lv_room (Nat.le_of_ble_eq_true rfl)) dX10_aLine_104 ⟨Nat.le_of_ble_eq_true rfl, Nat.le_of_ble_eq_true rfl⟩) hS (fun q _ h => hFc q h) hFc (fun u t H1 locs ht hvm hw hB hz1 hk1 hS => ?_)
                obtain ⟨x_21, x_22, x_23, hr_20_0, hr_20_1, hr_20_2, hr_20_3, hr_20_4, hP, hK1, hD1⟩ := hB
                rw [ht] at hP
                have hD := hD1.weaken (fun k q _ h => hFc q.1 h)
                clear hz1 hk1 hFc hD1 hK1 hvm
                generalize H1 = H at hP hS ⊢
                have rg_x_21 := i_rng x_21
                have rg_x_22 := i_rng x_22
                have rg_x_23 := i_rng x_23
                have hP : va_P (dC, dI) vwCl (mW ad kc x0 x1 x2 x3 x4 x_21 x_22 x_23 x_15 x_16 x10 x_17 x12 x13 x14 x15 x16 x17 x18 x19 x20 x21 f_18 f1 f2 f3 f4 f5 f6 f7 f8 f9 f10 f11 f12 f13 f14 f15 f16 f17 f18 f19 f20 f21 fL fN fP fM fO) H := hP
                have hD : va_D A (mW ad kc x0 x1 x2 x3 x4 x_21 x_22 x_23 x_15 x_16 x10 x_17 x12 x13 x14 x15 x16 x17 x18 x19 x20 x21 f_18 f1 f2 f3 f4 f5 f6 f7 f8 f9 f10 f11 f12 f13 f14 f15 f16 f17 f18 f19 f20 f21 fL fN fP fM fO) := hD
                refine lv_aload_n hx hb dX10_aLine_107 rfl (lv_at hl 1 rfl) ?_
                refine va_get (D := (dC, dI)) (ci := 10) (v := .int x_21) (C := RX10) (T := TX10) (N := 48) hx hb hts fin_X10_aLinem_X10 hown hK hP 0 rfl rfl 8 (by decide) (hts (.fieldLink RX10 120 "PatternGateModel" "token" "I") (List.mem_of_getElem? (i := 9) (by decide +kernel))) (fun _ h9 => h9) rfl dX10_aLine_108 ?_
                refine lv_iconst (v := 4) hx hb dX10_aLine_111 (by decide) ?_
                refine lv_icmp_eq (tgt := 121) hx hb dX10_aLine_112 (by decide) (fun k_24 => ?_) (fun k_24 => ?_)
                · have tk_24 := c_eq (a := x_21.toInt) (b := 4) rfl (by decide) k_24
                  refine lv_aload_n hx hb dX10_aLine_121 rfl (lv_at hl 1 rfl) ?_
                  have hFc := m_free hD hS hA
                  refine va_callv (va_runV (As := []) (rest := []) ⟨hx, hb, hml, hown, hts⟩ (m_ahead l dC dI ad kc x0 x1 x2 x3 x4 x_21 x_22 x_23 x_15 x_16 x10 x_17 x12 x13 x14 x15 x16 x17 x18 x19 x20 x21 f_18 f1 f2 f3 f4 f5 f6 f7 f8 f9 f10 f11 f12 f13 f14 f15 f16 f17 f18 f19 f20 f21 fL fN fP fM fO H.size (by first | omega | assumption | decide | (have l0 := Int32.toInt_zero; omega)) (by first | omega | assumption | decide | (have l0 := Int32.toInt_zero; omega)) (by first | omega | assumption | decide | (have l0 := Int32.toInt_zero; omega))) (cwV 0 hts mg_X10_aLinem_X10_ahead_184 rfl rfl rfl (by decide +kernel) ⟨Nat.le_of_ble_eq_true rfl, Nat.le_of_ble_eq_true rfl⟩) ⟨fun a U g mk q => by obtain ⟨q0, q1, qP, qK, qD⟩ := q; exact ⟨q0, q1, qP, va_K.moved (u := U) (U := U.calling g mk a) (Vm.Alike.refl U.vm) qK, qD⟩, va_recv hK hP (ci := 10) (q0 := 0) rfl rfl, fun U hU hW => ⟨rfl, by rw [hU], by rw [hU]; exact hP, va_K.moved hW.alike hK, hD.weaken (fun _ _ _ _ => trivial)⟩⟩ rfl rfl hl.1 rfl (lv_room (Nat.le_of_ble_eq_true rfl)) dX10_aLine_122 ⟨Nat.le_of_ble_eq_true rfl, Nat.le_of_ble_eq_true rfl⟩) hS (fun q _ h => hFc q h) hFc (fun u t H1 locs ht hvm hw hB hz1 hk1 hS => ?_)
                  obtain ⟨x_26, x_27, x_28, hr_25_0, hr_25_1, hr_25_2, hr_25_3, hr_25_4, hP, hK1, hD1⟩ := hB
                  rw [ht] at hP
                  have hD := hD1.weaken (fun k q _ h => hFc q.1 h)
                  clear hz1 hk1 hFc hD1 hK1 hvm
                  generalize H1 = H at hP hS ⊢
                  have rg_x_26 := i_rng x_26
                  have rg_x_27 := i_rng x_27
                  have rg_x_28 := i_rng x_28
                  have hP : va_P (dC, dI) vwCl (mW ad kc x0 x1 x2 x3 x4 x_26 x_27 x_28 x_15 x_16 x10 x_17 x12 x13 x14 x15 x16 x17 x18 x19 x20 x21 f_18 f1 f2 f3 f4 f5 f6 f7 f8 f9 f10 f11 f12 f13 f14 f15 f16 f17 f18 f19 f20 f21 fL fN fP fM fO) H := hP
                  have hD : va_D A (mW ad kc x0 x1 x2 x3 x4 x_26 x_27 x_28 x_15 x_16 x10 x_17 x12 x13 x14 x15 x16 x17 x18 x19 x20 x21 f_18 f1 f2 f3 f4 f5 f6 f7 f8 f9 f10 f11 f12 f13 f14 f15 f16 f17 f18 f19 f20 f21 fL fN fP fM fO) := hD
                  refine lv_iconst (v := 1) hx hb dX10_aLine_125 (by decide) ?_
                  have lit_28 : (1 : Int32).toInt = 1 := by decide
                  exact W.zret hx hb hr (z_nar (by first | assumption | decide | exact z_of (by omega))) (fun t ht hW => ⟨⟨_, _, rfl, rfl, x_26, x_27, x_28, x_15, x_16, x_17, f_18, hq9, hq8, (by first | omega | assumption | rfl | decide), (by first | omega | assumption | rfl | decide), (by first | omega | assumption | rfl | decide), (fun h9 => by omega), by rw [ht]; exact hP, va_K.moved hW.alike hK, hD⟩, hS.F ht⟩) hS.2.2 dX10_aLine_126
                · have tk_24 := c_ne (a := x_21.toInt) (b := 4) rfl (by decide) k_24
                  refine lv_aload_n hx hb dX10_aLine_115 rfl (lv_at hl 1 rfl) ?_
                  refine lv_iconst (v := 2) hx hb dX10_aLine_116 (by decide) ?_
                  have lit_29 : (2 : Int32).toInt = 2 := by decide
                  have hFc := m_free hD hS hA
                  refine va_calli (va_runV (As := [.int 2]) (rest := []) ⟨hx, hb, hml, hown, hts⟩ (m_fails l dC dI ad kc x0 x1 x2 x3 x4 x_21 x_22 x_23 x_15 x_16 x10 x_17 x12 x13 x14 x15 x16 x17 x18 x19 x20 x21 f_18 f1 f2 f3 f4 f5 f6 f7 f8 f9 f10 f11 f12 f13 f14 f15 f16 f17 f18 f19 f20 f21 fL fN fP fM fO H.size 2 ) (cwV 1 hts mg_X10_aLinem_X10_fails_181 rfl rfl rfl (by decide +kernel) ⟨Nat.le_of_ble_eq_true rfl, Nat.le_of_ble_eq_true rfl⟩) ⟨fun a U g mk q => by obtain ⟨q0, q1, qP, qK, qD⟩ := q; exact ⟨q0, q1, qP, va_K.moved (u := U) (U := U.calling g mk a) (Vm.Alike.refl U.vm) qK, qD⟩, va_recv hK hP (ci := 10) (q0 := 0) rfl rfl, fun U hU hW => ⟨rfl, by rw [hU], by rw [hU]; exact hP, va_K.moved hW.alike hK, hD.weaken (fun _ _ _ _ => trivial)⟩⟩ rfl rfl hl.1 rfl (lv_room (Nat.le_of_ble_eq_true rfl)) dX10_aLine_117 ⟨Nat.le_of_ble_eq_true rfl, Nat.le_of_ble_eq_true rfl⟩) hS (fun q _ h => hFc q h) hFc (fun r_31 u t H1 locs ht hvm hw hB hz1 hk1 hS => ?_)
                  subst hw
                  obtain ⟨x_32, x_33, hr_31_0, hP, hK1, hD1⟩ := hB
                  rw [ht] at hP
                  have hD := hD1.weaken (fun k q _ h => hFc q.1 h)
                  clear hz1 hk1 hFc hD1 hK1 hvm
                  generalize H1 = H at hP hS ⊢
                  have rg_x_32 := i_rng x_32
                  have rg_x_33 := i_rng x_33
                  have rg_r_31 := i_rng r_31
                  have hP : va_P (dC, dI) vwCl (mW ad kc x0 x1 x2 x3 x4 x_21 x_22 x_23 x_32 x_33 x10 x_17 x12 x13 x14 x15 x16 x17 x18 x19 x20 x21 f_18 f1 f2 f3 f4 f5 f6 f7 f8 f9 f10 f11 f12 f13 f14 f15 f16 f17 f18 f19 f20 f21 fL fN fP fM fO) H := hP
                  have hD : va_D A (mW ad kc x0 x1 x2 x3 x4 x_21 x_22 x_23 x_32 x_33 x10 x_17 x12 x13 x14 x15 x16 x17 x18 x19 x20 x21 f_18 f1 f2 f3 f4 f5 f6 f7 f8 f9 f10 f11 f12 f13 f14 f15 f16 f17 f18 f19 f20 f21 fL fN fP fM fO) := hD
                  exact W.zret hx hb hr (z_nar (by first | assumption | decide | exact z_of (by omega))) (fun t ht hW => ⟨⟨_, _, rfl, rfl, x_21, x_22, x_23, x_32, x_33, x_17, f_18, hq9, hq8, (by first | omega | assumption | rfl | decide), (by first | omega | assumption | rfl | decide), (by first | omega | assumption | rfl | decide), (fun h9 => by omega), by rw [ht]; exact hP, va_K.moved hW.alike hK, hD⟩, hS.F ht⟩) hS.2.2 dX10_aLine_120
              · have tk_19 := c_eq (a := r_13.toInt) (b := 0) rfl (by decide) k_19
                refine lv_iconst (v := 0) hx hb dX10_aLine_101 (by decide) ?_
                have lit_33 : (0 : Int32).toInt = 0 := by decide
                exact W.zret hx hb hr (z_nar (by first | assumption | decide | exact z_of (by omega))) (fun t ht hW => ⟨⟨_, _, rfl, rfl, x_8, x_9, x_14, x_15, x_16, x_17, f_18, hq9, hq8, (by first | omega | assumption | rfl | decide), (by first | omega | assumption | rfl | decide), (by first | omega | assumption | rfl | decide), (fun h9 => by omega), by rw [ht]; exact hP, va_K.moved hW.alike hK, hD⟩, hS.F ht⟩) hS.2.2 dX10_aLine_102
            · have tk_12 := c_ne (a := r_1.toInt) (b := 0) rfl (by decide) k_12
              refine lv_aload_n hx hb dX10_aLine_84 rfl (lv_at hl 1 rfl) ?_
              have hFc := m_free hD hS hA
              refine va_calli (va_runV (As := []) (rest := []) ⟨hx, hb, hml, hown, hts⟩ (m_docQuote l dC dI ad kc x0 x1 x2 x3 x4 x_8 x_9 x_10 x8 x9 x10 x11 x12 x13 x14 x15 x16 x17 x18 x19 x20 x21 f0 f1 f2 f3 f4 f5 f6 f7 f8 f9 f10 f11 f12 f13 f14 f15 f16 f17 f18 f19 f20 f21 fL fN fP fM fO H.size (by first | omega | assumption | decide | (have l0 := Int32.toInt_zero; omega)) (by first | omega | assumption | decide | (have l0 := Int32.toInt_zero; omega)) (by first | omega | assumption | decide | (have l0 := Int32.toInt_zero; omega)) (by first | omega | assumption | decide | (have l0 := Int32.toInt_zero; omega)) (by first | omega | assumption | decide | (have l0 := Int32.toInt_zero; omega))) (cwV 0 hts mg_X10_aLinem_X10_docQuote_187 rfl rfl rfl (by decide +kernel) ⟨Nat.le_of_ble_eq_true rfl, Nat.le_of_ble_eq_true rfl⟩) ⟨fun a U g mk q => by obtain ⟨q0, q1, qP, qK, qD⟩ := q; exact ⟨q0, q1, qP, va_K.moved (u := U) (U := U.calling g mk a) (Vm.Alike.refl U.vm) qK, qD⟩, va_recv hK hP (ci := 10) (q0 := 0) rfl rfl, fun U hU hW => ⟨rfl, by rw [hU], by rw [hU]; exact hP, va_K.moved hW.alike hK, hD.weaken (fun _ _ _ _ => trivial)⟩⟩ rfl rfl hl.1 rfl (lv_room (Nat.le_of_ble_eq_true rfl)) dX10_aLine_85 ⟨Nat.le_of_ble_eq_true rfl, Nat.le_of_ble_eq_true rfl⟩) hS (fun q _ h => hFc q h) hFc (fun r_35 u t H1 locs ht hvm hw hB hz1 hk1 hS => ?_)
              subst hw
              obtain ⟨x_36, x_37, x_38, f_39, hr_35_0, hr_35_1, hr_35_2, hr_35_3, hr_35_4, hP, hK1, hD1⟩ := hB
              rw [ht] at hP
              have hD := hD1.weaken (fun k q _ h => hFc q.1 h)
              clear hz1 hk1 hFc hD1 hK1 hvm
              generalize H1 = H at hP hS ⊢
              have rg_x_36 := i_rng x_36
              have rg_x_37 := i_rng x_37
              have rg_x_38 := i_rng x_38
              have rg_r_35 := i_rng r_35
              have hP : va_P (dC, dI) vwCl (mW ad kc x0 x1 x2 x3 x4 x_8 x_9 x_36 x_37 x_38 x10 x11 x12 x13 x14 x15 x16 x17 x18 x19 x20 x21 f_39 f1 f2 f3 f4 f5 f6 f7 f8 f9 f10 f11 f12 f13 f14 f15 f16 f17 f18 f19 f20 f21 fL fN fP fM fO) H := hP
              have hD : va_D A (mW ad kc x0 x1 x2 x3 x4 x_8 x_9 x_36 x_37 x_38 x10 x11 x12 x13 x14 x15 x16 x17 x18 x19 x20 x21 f_39 f1 f2 f3 f4 f5 f6 f7 f8 f9 f10 f11 f12 f13 f14 f15 f16 f17 f18 f19 f20 f21 fL fN fP fM fO) := hD
              have hq9 := hr_35_0
              have hq8 := hr_35_1
              refine lv_if_eq (tgt := 101) hx hb dX10_aLine_88 (by decide) (fun k_40 => ?_) (fun k_40 => ?_)
              · have tk_40 := c_eq (a := r_35.toInt) (b := 0) rfl (by decide) k_40
                refine lv_iconst (v := 0) hx hb dX10_aLine_101 (by decide) ?_
                have lit_40 : (0 : Int32).toInt = 0 := by decide
                exact W.zret hx hb hr (z_nar (by first | assumption | decide | exact z_of (by omega))) (fun t ht hW => ⟨⟨_, _, rfl, rfl, x_8, x_9, x_36, x_37, x_38, x11, f_39, hq9, hq8, (by first | omega | assumption | rfl | decide), (by first | omega | assumption | rfl | decide), (by first | omega | assumption | rfl | decide), (fun h9 => by omega), by rw [ht]; exact hP, va_K.moved hW.alike hK, hD⟩, hS.F ht⟩) hS.2.2 dX10_aLine_102
              · have tk_40 := c_ne (a := r_35.toInt) (b := 0) rfl (by decide) k_40
                refine lv_goto (tgt := 103) hx hb dX10_aLine_91 (by decide) ?_
                refine lv_aload_n hx hb dX10_aLine_103 rfl (lv_at hl 1 rfl) ?_
                have hFc := m_free hD hS hA
                refine va_callv (va_runV (As := []) (rest := []) ⟨hx, hb, hml, hown, hts⟩ (m_ahead l dC dI ad kc x0 x1 x2 x3 x4 x_8 x_9 x_36 x_37 x_38 x10 x11 x12 x13 x14 x15 x16 x17 x18 x19 x20 x21 f_39 f1 f2 f3 f4 f5 f6 f7 f8 f9 f10 f11 f12 f13 f14 f15 f16 f17 f18 f19 f20 f21 fL fN fP fM fO H.size (by first | omega | assumption | decide | (have l0 := Int32.toInt_zero; omega)) (by first | omega | assumption | decide | (have l0 := Int32.toInt_zero; omega)) (by first | omega | assumption | decide | (have l0 := Int32.toInt_zero; omega))) (cwV 0 hts mg_X10_aLinem_X10_ahead_184 rfl rfl rfl (by decide +kernel) ⟨Nat.le_of_ble_eq_true rfl, Nat.le_of_ble_eq_true rfl⟩) ⟨fun a U g mk q => by obtain ⟨q0, q1, qP, qK, qD⟩ := q; exact ⟨q0, q1, qP, va_K.moved (u := U) (U := U.calling g mk a) (Vm.Alike.refl U.vm) qK, qD⟩, va_recv hK hP (ci := 10) (q0 := 0) rfl rfl, fun U hU hW => ⟨rfl, by rw [hU], by rw [hU]; exact hP, va_K.moved hW.alike hK, hD.weaken (fun _ _ _ _ => trivial)⟩⟩ rfl rfl hl.1 rfl (lv_room (Nat.le_of_ble_eq_true rfl)) dX10_aLine_104 ⟨Nat.le_of_ble_eq_true rfl, Nat.le_of_ble_eq_true rfl⟩) hS (fun q _ h => hFc q h) hFc (fun u t H1 locs ht hvm hw hB hz1 hk1 hS => ?_)
                obtain ⟨x_43, x_44, x_45, hr_42_0, hr_42_1, hr_42_2, hr_42_3, hr_42_4, hP, hK1, hD1⟩ := hB
                rw [ht] at hP
                have hD := hD1.weaken (fun k q _ h => hFc q.1 h)
                clear hz1 hk1 hFc hD1 hK1 hvm
                generalize H1 = H at hP hS ⊢
                have rg_x_43 := i_rng x_43
                have rg_x_44 := i_rng x_44
                have rg_x_45 := i_rng x_45
                have hP : va_P (dC, dI) vwCl (mW ad kc x0 x1 x2 x3 x4 x_43 x_44 x_45 x_37 x_38 x10 x11 x12 x13 x14 x15 x16 x17 x18 x19 x20 x21 f_39 f1 f2 f3 f4 f5 f6 f7 f8 f9 f10 f11 f12 f13 f14 f15 f16 f17 f18 f19 f20 f21 fL fN fP fM fO) H := hP
                have hD : va_D A (mW ad kc x0 x1 x2 x3 x4 x_43 x_44 x_45 x_37 x_38 x10 x11 x12 x13 x14 x15 x16 x17 x18 x19 x20 x21 f_39 f1 f2 f3 f4 f5 f6 f7 f8 f9 f10 f11 f12 f13 f14 f15 f16 f17 f18 f19 f20 f21 fL fN fP fM fO) := hD
                refine lv_aload_n hx hb dX10_aLine_107 rfl (lv_at hl 1 rfl) ?_
                refine va_get (D := (dC, dI)) (ci := 10) (v := .int x_43) (C := RX10) (T := TX10) (N := 48) hx hb hts fin_X10_aLinem_X10 hown hK hP 0 rfl rfl 8 (by decide) (hts (.fieldLink RX10 120 "PatternGateModel" "token" "I") (List.mem_of_getElem? (i := 9) (by decide +kernel))) (fun _ h9 => h9) rfl dX10_aLine_108 ?_
                refine lv_iconst (v := 4) hx hb dX10_aLine_111 (by decide) ?_
                refine lv_icmp_eq (tgt := 121) hx hb dX10_aLine_112 (by decide) (fun k_46 => ?_) (fun k_46 => ?_)
                · have tk_46 := c_eq (a := x_43.toInt) (b := 4) rfl (by decide) k_46
                  refine lv_aload_n hx hb dX10_aLine_121 rfl (lv_at hl 1 rfl) ?_
                  have hFc := m_free hD hS hA
                  refine va_callv (va_runV (As := []) (rest := []) ⟨hx, hb, hml, hown, hts⟩ (m_ahead l dC dI ad kc x0 x1 x2 x3 x4 x_43 x_44 x_45 x_37 x_38 x10 x11 x12 x13 x14 x15 x16 x17 x18 x19 x20 x21 f_39 f1 f2 f3 f4 f5 f6 f7 f8 f9 f10 f11 f12 f13 f14 f15 f16 f17 f18 f19 f20 f21 fL fN fP fM fO H.size (by first | omega | assumption | decide | (have l0 := Int32.toInt_zero; omega)) (by first | omega | assumption | decide | (have l0 := Int32.toInt_zero; omega)) (by first | omega | assumption | decide | (have l0 := Int32.toInt_zero; omega))) (cwV 0 hts mg_X10_aLinem_X10_ahead_184 rfl rfl rfl (by decide +kernel) ⟨Nat.le_of_ble_eq_true rfl, Nat.le_of_ble_eq_true rfl⟩) ⟨fun a U g mk q => by obtain ⟨q0, q1, qP, qK, qD⟩ := q; exact ⟨q0, q1, qP, va_K.moved (u := U) (U := U.calling g mk a) (Vm.Alike.refl U.vm) qK, qD⟩, va_recv hK hP (ci := 10) (q0 := 0) rfl rfl, fun U hU hW => ⟨rfl, by rw [hU], by rw [hU]; exact hP, va_K.moved hW.alike hK, hD.weaken (fun _ _ _ _ => trivial)⟩⟩ rfl rfl hl.1 rfl (lv_room (Nat.le_of_ble_eq_true rfl)) dX10_aLine_122 ⟨Nat.le_of_ble_eq_true rfl, Nat.le_of_ble_eq_true rfl⟩) hS (fun q _ h => hFc q h) hFc (fun u t H1 locs ht hvm hw hB hz1 hk1 hS => ?_)
                  obtain ⟨x_48, x_49, x_50, hr_47_0, hr_47_1, hr_47_2, hr_47_3, hr_47_4, hP, hK1, hD1⟩ := hB
                  rw [ht] at hP
                  have hD := hD1.weaken (fun k q _ h => hFc q.1 h)
                  clear hz1 hk1 hFc hD1 hK1 hvm
                  generalize H1 = H at hP hS ⊢
                  have rg_x_48 := i_rng x_48
                  have rg_x_49 := i_rng x_49
                  have rg_x_50 := i_rng x_50
                  have hP : va_P (dC, dI) vwCl (mW ad kc x0 x1 x2 x3 x4 x_48 x_49 x_50 x_37 x_38 x10 x11 x12 x13 x14 x15 x16 x17 x18 x19 x20 x21 f_39 f1 f2 f3 f4 f5 f6 f7 f8 f9 f10 f11 f12 f13 f14 f15 f16 f17 f18 f19 f20 f21 fL fN fP fM fO) H := hP
                  have hD : va_D A (mW ad kc x0 x1 x2 x3 x4 x_48 x_49 x_50 x_37 x_38 x10 x11 x12 x13 x14 x15 x16 x17 x18 x19 x20 x21 f_39 f1 f2 f3 f4 f5 f6 f7 f8 f9 f10 f11 f12 f13 f14 f15 f16 f17 f18 f19 f20 f21 fL fN fP fM fO) := hD
                  refine lv_iconst (v := 1) hx hb dX10_aLine_125 (by decide) ?_
                  have lit_50 : (1 : Int32).toInt = 1 := by decide
                  exact W.zret hx hb hr (z_nar (by first | assumption | decide | exact z_of (by omega))) (fun t ht hW => ⟨⟨_, _, rfl, rfl, x_48, x_49, x_50, x_37, x_38, x11, f_39, hq9, hq8, (by first | omega | assumption | rfl | decide), (by first | omega | assumption | rfl | decide), (by first | omega | assumption | rfl | decide), (fun h9 => by omega), by rw [ht]; exact hP, va_K.moved hW.alike hK, hD⟩, hS.F ht⟩) hS.2.2 dX10_aLine_126
                · have tk_46 := c_ne (a := x_43.toInt) (b := 4) rfl (by decide) k_46
                  refine lv_aload_n hx hb dX10_aLine_115 rfl (lv_at hl 1 rfl) ?_
                  refine lv_iconst (v := 2) hx hb dX10_aLine_116 (by decide) ?_
                  have lit_51 : (2 : Int32).toInt = 2 := by decide
                  have hFc := m_free hD hS hA
                  refine va_calli (va_runV (As := [.int 2]) (rest := []) ⟨hx, hb, hml, hown, hts⟩ (m_fails l dC dI ad kc x0 x1 x2 x3 x4 x_43 x_44 x_45 x_37 x_38 x10 x11 x12 x13 x14 x15 x16 x17 x18 x19 x20 x21 f_39 f1 f2 f3 f4 f5 f6 f7 f8 f9 f10 f11 f12 f13 f14 f15 f16 f17 f18 f19 f20 f21 fL fN fP fM fO H.size 2 ) (cwV 1 hts mg_X10_aLinem_X10_fails_181 rfl rfl rfl (by decide +kernel) ⟨Nat.le_of_ble_eq_true rfl, Nat.le_of_ble_eq_true rfl⟩) ⟨fun a U g mk q => by obtain ⟨q0, q1, qP, qK, qD⟩ := q; exact ⟨q0, q1, qP, va_K.moved (u := U) (U := U.calling g mk a) (Vm.Alike.refl U.vm) qK, qD⟩, va_recv hK hP (ci := 10) (q0 := 0) rfl rfl, fun U hU hW => ⟨rfl, by rw [hU], by rw [hU]; exact hP, va_K.moved hW.alike hK, hD.weaken (fun _ _ _ _ => trivial)⟩⟩ rfl rfl hl.1 rfl (lv_room (Nat.le_of_ble_eq_true rfl)) dX10_aLine_117 ⟨Nat.le_of_ble_eq_true rfl, Nat.le_of_ble_eq_true rfl⟩) hS (fun q _ h => hFc q h) hFc (fun r_53 u t H1 locs ht hvm hw hB hz1 hk1 hS => ?_)
                  subst hw
                  obtain ⟨x_54, x_55, hr_53_0, hP, hK1, hD1⟩ := hB
                  rw [ht] at hP
                  have hD := hD1.weaken (fun k q _ h => hFc q.1 h)
                  clear hz1 hk1 hFc hD1 hK1 hvm
                  generalize H1 = H at hP hS ⊢
                  have rg_x_54 := i_rng x_54
                  have rg_x_55 := i_rng x_55
                  have rg_r_53 := i_rng r_53
                  have hP : va_P (dC, dI) vwCl (mW ad kc x0 x1 x2 x3 x4 x_43 x_44 x_45 x_54 x_55 x10 x11 x12 x13 x14 x15 x16 x17 x18 x19 x20 x21 f_39 f1 f2 f3 f4 f5 f6 f7 f8 f9 f10 f11 f12 f13 f14 f15 f16 f17 f18 f19 f20 f21 fL fN fP fM fO) H := hP
                  have hD : va_D A (mW ad kc x0 x1 x2 x3 x4 x_43 x_44 x_45 x_54 x_55 x10 x11 x12 x13 x14 x15 x16 x17 x18 x19 x20 x21 f_39 f1 f2 f3 f4 f5 f6 f7 f8 f9 f10 f11 f12 f13 f14 f15 f16 f17 f18 f19 f20 f21 fL fN fP fM fO) := hD
                  exact W.zret hx hb hr (z_nar (by first | assumption | decide | exact z_of (by omega))) (fun t ht hW => ⟨⟨_, _, rfl, rfl, x_43, x_44, x_45, x_54, x_55, x11, f_39, hq9, hq8, (by first | omega | assumption | rfl | decide), (by first | omega | assumption | rfl | decide), (by first | omega | assumption | rfl | decide), (fun h9 => by omega), by rw [ht]; exact hP, va_K.moved hW.alike hK, hD⟩, hS.F ht⟩) hS.2.2 dX10_aLine_120
          · have tk_11 := c_ne (a := x_8.toInt) (b := 3) rfl (by decide) k_11
            refine lv_aload_n hx hb dX10_aLine_74 rfl (lv_at hl 1 rfl) ?_
            refine lv_iconst (v := 2) hx hb dX10_aLine_75 (by decide) ?_
            have lit_55 : (2 : Int32).toInt = 2 := by decide
            have hFc := m_free hD hS hA
            refine va_calli (va_runV (As := [.int 2]) (rest := []) ⟨hx, hb, hml, hown, hts⟩ (m_fails l dC dI ad kc x0 x1 x2 x3 x4 x_8 x_9 x_10 x8 x9 x10 x11 x12 x13 x14 x15 x16 x17 x18 x19 x20 x21 f0 f1 f2 f3 f4 f5 f6 f7 f8 f9 f10 f11 f12 f13 f14 f15 f16 f17 f18 f19 f20 f21 fL fN fP fM fO H.size 2 ) (cwV 1 hts mg_X10_aLinem_X10_fails_181 rfl rfl rfl (by decide +kernel) ⟨Nat.le_of_ble_eq_true rfl, Nat.le_of_ble_eq_true rfl⟩) ⟨fun a U g mk q => by obtain ⟨q0, q1, qP, qK, qD⟩ := q; exact ⟨q0, q1, qP, va_K.moved (u := U) (U := U.calling g mk a) (Vm.Alike.refl U.vm) qK, qD⟩, va_recv hK hP (ci := 10) (q0 := 0) rfl rfl, fun U hU hW => ⟨rfl, by rw [hU], by rw [hU]; exact hP, va_K.moved hW.alike hK, hD.weaken (fun _ _ _ _ => trivial)⟩⟩ rfl rfl hl.1 rfl (lv_room (Nat.le_of_ble_eq_true rfl)) dX10_aLine_76 ⟨Nat.le_of_ble_eq_true rfl, Nat.le_of_ble_eq_true rfl⟩) hS (fun q _ h => hFc q h) hFc (fun r_57 u t H1 locs ht hvm hw hB hz1 hk1 hS => ?_)
            subst hw
            obtain ⟨x_58, x_59, hr_57_0, hP, hK1, hD1⟩ := hB
            rw [ht] at hP
            have hD := hD1.weaken (fun k q _ h => hFc q.1 h)
            clear hz1 hk1 hFc hD1 hK1 hvm
            generalize H1 = H at hP hS ⊢
            have rg_x_58 := i_rng x_58
            have rg_x_59 := i_rng x_59
            have rg_r_57 := i_rng r_57
            have hP : va_P (dC, dI) vwCl (mW ad kc x0 x1 x2 x3 x4 x_8 x_9 x_10 x_58 x_59 x10 x11 x12 x13 x14 x15 x16 x17 x18 x19 x20 x21 f0 f1 f2 f3 f4 f5 f6 f7 f8 f9 f10 f11 f12 f13 f14 f15 f16 f17 f18 f19 f20 f21 fL fN fP fM fO) H := hP
            have hD : va_D A (mW ad kc x0 x1 x2 x3 x4 x_8 x_9 x_10 x_58 x_59 x10 x11 x12 x13 x14 x15 x16 x17 x18 x19 x20 x21 f0 f1 f2 f3 f4 f5 f6 f7 f8 f9 f10 f11 f12 f13 f14 f15 f16 f17 f18 f19 f20 f21 fL fN fP fM fO) := hD
            exact W.zret hx hb hr (z_nar (by first | assumption | decide | exact z_of (by omega))) (fun t ht hW => ⟨⟨_, _, rfl, rfl, x_8, x_9, x_10, x_58, x_59, x11, f0, q0, (fun _ _ => rfl), (by first | omega | assumption | rfl | decide), (by first | omega | assumption | rfl | decide), (by first | omega | assumption | rfl | decide), (fun h9 => by omega), by rw [ht]; exact hP, va_K.moved hW.alike hK, hD⟩, hS.F ht⟩) hS.2.2 dX10_aLine_79
        · have tk_6 := c_eq (a := y_4.toInt) (b := 8) rfl (by decide) k_6
          refine lv_aload_n hx hb dX10_aLine_56 rfl (lv_at hl 1 rfl) ?_
          refine lv_iconst (v := 3) hx hb dX10_aLine_57 (by decide) ?_
          have lit_59 : (3 : Int32).toInt = 3 := by decide
          have hFc := m_free hD hS hA
          refine va_calli (va_runV (As := [.int 3]) (rest := []) ⟨hx, hb, hml, hown, hts⟩ (m_fails l dC dI ad kc x0 x1 x2 x3 x4 x5 x6 x7 x8 x9 x10 x11 x12 x13 x14 x15 x16 x17 x18 x19 x20 x21 f0 f1 f2 f3 f4 f5 f6 f7 f8 f9 f10 f11 f12 f13 f14 f15 f16 f17 f18 f19 f20 f21 fL fN fP fM fO H.size 3 ) (cwV 1 hts mg_X10_aLinem_X10_fails_181 rfl rfl rfl (by decide +kernel) ⟨Nat.le_of_ble_eq_true rfl, Nat.le_of_ble_eq_true rfl⟩) ⟨fun a U g mk q => by obtain ⟨q0, q1, qP, qK, qD⟩ := q; exact ⟨q0, q1, qP, va_K.moved (u := U) (U := U.calling g mk a) (Vm.Alike.refl U.vm) qK, qD⟩, va_recv hK hP (ci := 10) (q0 := 0) rfl rfl, fun U hU hW => ⟨rfl, by rw [hU], by rw [hU]; exact hP, va_K.moved hW.alike hK, hD.weaken (fun _ _ _ _ => trivial)⟩⟩ rfl rfl hl.1 rfl (lv_room (Nat.le_of_ble_eq_true rfl)) dX10_aLine_58 ⟨Nat.le_of_ble_eq_true rfl, Nat.le_of_ble_eq_true rfl⟩) hS (fun q _ h => hFc q h) hFc (fun r_61 u t H1 locs ht hvm hw hB hz1 hk1 hS => ?_)
          subst hw
          obtain ⟨x_62, x_63, hr_61_0, hP, hK1, hD1⟩ := hB
          rw [ht] at hP
          have hD := hD1.weaken (fun k q _ h => hFc q.1 h)
          clear hz1 hk1 hFc hD1 hK1 hvm
          generalize H1 = H at hP hS ⊢
          have rg_x_62 := i_rng x_62
          have rg_x_63 := i_rng x_63
          have rg_r_61 := i_rng r_61
          have hP : va_P (dC, dI) vwCl (mW ad kc x0 x1 x2 x3 x4 x5 x6 x7 x_62 x_63 x10 x11 x12 x13 x14 x15 x16 x17 x18 x19 x20 x21 f0 f1 f2 f3 f4 f5 f6 f7 f8 f9 f10 f11 f12 f13 f14 f15 f16 f17 f18 f19 f20 f21 fL fN fP fM fO) H := hP
          have hD : va_D A (mW ad kc x0 x1 x2 x3 x4 x5 x6 x7 x_62 x_63 x10 x11 x12 x13 x14 x15 x16 x17 x18 x19 x20 x21 f0 f1 f2 f3 f4 f5 f6 f7 f8 f9 f10 f11 f12 f13 f14 f15 f16 f17 f18 f19 f20 f21 fL fN fP fM fO) := hD
          exact W.zret hx hb hr (z_nar (by first | assumption | decide | exact z_of (by omega))) (fun t ht hW => ⟨⟨_, _, rfl, rfl, x5, x6, x7, x_62, x_63, x11, f0, q0, (fun _ _ => rfl), (by first | omega | assumption | rfl | decide), (by first | omega | assumption | rfl | decide), (by first | omega | assumption | rfl | decide), (fun h9 => by omega), by rw [ht]; exact hP, va_K.moved hW.alike hK, hD⟩, hS.F ht⟩) hS.2.2 dX10_aLine_61
      · have tk_5 := c_ne (a := r_1.toInt) (b := 0) rfl (by decide) k_5
        refine lv_bipush (v := 10) hx hb dX10_aLine_46 (by decide) ?_
        refine lv_goto (tgt := 53) hx hb dX10_aLine_48 (by decide) ?_
        refine lv_icmp_ne (tgt := 62) hx hb dX10_aLine_53 (by decide) (fun k_64 => ?_) (fun k_64 => ?_)
        · have tk_64 := c_ne (a := y_4.toInt) (b := 10) rfl (by decide) k_64
          refine lv_aload_n hx hb dX10_aLine_62 rfl (lv_at hl 1 rfl) ?_
          have hFc := m_free hD hS hA
          refine va_callv (va_runV (As := []) (rest := []) ⟨hx, hb, hml, hown, hts⟩ (m_ahead l dC dI ad kc x0 x1 x2 x3 x4 x5 x6 x7 x8 x9 x10 x11 x12 x13 x14 x15 x16 x17 x18 x19 x20 x21 f0 f1 f2 f3 f4 f5 f6 f7 f8 f9 f10 f11 f12 f13 f14 f15 f16 f17 f18 f19 f20 f21 fL fN fP fM fO H.size (by first | omega | assumption | decide | (have l0 := Int32.toInt_zero; omega)) (by first | omega | assumption | decide | (have l0 := Int32.toInt_zero; omega)) (by first | omega | assumption | decide | (have l0 := Int32.toInt_zero; omega))) (cwV 0 hts mg_X10_aLinem_X10_ahead_184 rfl rfl rfl (by decide +kernel) ⟨Nat.le_of_ble_eq_true rfl, Nat.le_of_ble_eq_true rfl⟩) ⟨fun a U g mk q => by obtain ⟨q0, q1, qP, qK, qD⟩ := q; exact ⟨q0, q1, qP, va_K.moved (u := U) (U := U.calling g mk a) (Vm.Alike.refl U.vm) qK, qD⟩, va_recv hK hP (ci := 10) (q0 := 0) rfl rfl, fun U hU hW => ⟨rfl, by rw [hU], by rw [hU]; exact hP, va_K.moved hW.alike hK, hD.weaken (fun _ _ _ _ => trivial)⟩⟩ rfl rfl hl.1 rfl (lv_room (Nat.le_of_ble_eq_true rfl)) dX10_aLine_63 ⟨Nat.le_of_ble_eq_true rfl, Nat.le_of_ble_eq_true rfl⟩) hS (fun q _ h => hFc q h) hFc (fun u t H1 locs ht hvm hw hB hz1 hk1 hS => ?_)
          obtain ⟨x_66, x_67, x_68, hr_65_0, hr_65_1, hr_65_2, hr_65_3, hr_65_4, hP, hK1, hD1⟩ := hB
          rw [ht] at hP
          have hD := hD1.weaken (fun k q _ h => hFc q.1 h)
          clear hz1 hk1 hFc hD1 hK1 hvm
          generalize H1 = H at hP hS ⊢
          have rg_x_66 := i_rng x_66
          have rg_x_67 := i_rng x_67
          have rg_x_68 := i_rng x_68
          have hP : va_P (dC, dI) vwCl (mW ad kc x0 x1 x2 x3 x4 x_66 x_67 x_68 x8 x9 x10 x11 x12 x13 x14 x15 x16 x17 x18 x19 x20 x21 f0 f1 f2 f3 f4 f5 f6 f7 f8 f9 f10 f11 f12 f13 f14 f15 f16 f17 f18 f19 f20 f21 fL fN fP fM fO) H := hP
          have hD : va_D A (mW ad kc x0 x1 x2 x3 x4 x_66 x_67 x_68 x8 x9 x10 x11 x12 x13 x14 x15 x16 x17 x18 x19 x20 x21 f0 f1 f2 f3 f4 f5 f6 f7 f8 f9 f10 f11 f12 f13 f14 f15 f16 f17 f18 f19 f20 f21 fL fN fP fM fO) := hD
          refine lv_aload_n hx hb dX10_aLine_66 rfl (lv_at hl 1 rfl) ?_
          refine va_get (D := (dC, dI)) (ci := 10) (v := .int x_66) (C := RX10) (T := TX10) (N := 48) hx hb hts fin_X10_aLinem_X10 hown hK hP 0 rfl rfl 8 (by decide) (hts (.fieldLink RX10 120 "PatternGateModel" "token" "I") (List.mem_of_getElem? (i := 9) (by decide +kernel))) (fun _ h9 => h9) rfl dX10_aLine_67 ?_
          refine lv_iconst (v := 3) hx hb dX10_aLine_70 (by decide) ?_
          refine lv_icmp_eq (tgt := 80) hx hb dX10_aLine_71 (by decide) (fun k_69 => ?_) (fun k_69 => ?_)
          · have tk_69 := c_eq (a := x_66.toInt) (b := 3) rfl (by decide) k_69
            refine lv_iload_n hx hb dX10_aLine_80 rfl (lv_at hl 0 rfl) ?_
            refine lv_if_eq (tgt := 94) hx hb dX10_aLine_81 (by decide) (fun k_70 => ?_) (fun k_70 => ?_)
            · have tk_70 := c_eq (a := r_1.toInt) (b := 0) rfl (by decide) k_70
              refine lv_aload_n hx hb dX10_aLine_94 rfl (lv_at hl 1 rfl) ?_
              have hFc := m_free hD hS hA
              refine va_calli (va_runV (As := []) (rest := []) ⟨hx, hb, hml, hown, hts⟩ (m_patternQuote l dC dI ad kc x0 x1 x2 x3 x4 x_66 x_67 x_68 x8 x9 x10 x11 x12 x13 x14 x15 x16 x17 x18 x19 x20 x21 f0 f1 f2 f3 f4 f5 f6 f7 f8 f9 f10 f11 f12 f13 f14 f15 f16 f17 f18 f19 f20 f21 fL fN fP fM fO H.size (by first | omega | assumption | decide | (have l0 := Int32.toInt_zero; omega)) (by first | omega | assumption | decide | (have l0 := Int32.toInt_zero; omega)) (by first | omega | assumption | decide | (have l0 := Int32.toInt_zero; omega)) (by first | omega | assumption | decide | (have l0 := Int32.toInt_zero; omega)) (by first | omega | assumption | decide | (have l0 := Int32.toInt_zero; omega))) (cwV 0 hts mg_X10_aLinem_X10_patternQuote_190 rfl rfl rfl (by decide +kernel) ⟨Nat.le_of_ble_eq_true rfl, Nat.le_of_ble_eq_true rfl⟩) ⟨fun a U g mk q => by obtain ⟨q0, q1, qP, qK, qD⟩ := q; exact ⟨q0, q1, qP, va_K.moved (u := U) (U := U.calling g mk a) (Vm.Alike.refl U.vm) qK, qD⟩, va_recv hK hP (ci := 10) (q0 := 0) rfl rfl, fun U hU hW => ⟨rfl, by rw [hU], by rw [hU]; exact hP, va_K.moved hW.alike hK, hD.weaken (fun _ _ _ _ => trivial)⟩⟩ rfl rfl hl.1 rfl (lv_room (Nat.le_of_ble_eq_true rfl)) dX10_aLine_95 ⟨Nat.le_of_ble_eq_true rfl, Nat.le_of_ble_eq_true rfl⟩) hS (fun q _ h => hFc q h) hFc (fun r_71 u t H1 locs ht hvm hw hB hz1 hk1 hS => ?_)
              subst hw
              obtain ⟨x_72, x_73, x_74, x_75, f_76, hr_71_0, hr_71_1, hr_71_2, hr_71_3, hr_71_4, hP, hK1, hD1⟩ := hB
              rw [ht] at hP
              have hD := hD1.weaken (fun k q _ h => hFc q.1 h)
              clear hz1 hk1 hFc hD1 hK1 hvm
              generalize H1 = H at hP hS ⊢
              have rg_x_72 := i_rng x_72
              have rg_x_73 := i_rng x_73
              have rg_x_74 := i_rng x_74
              have rg_x_75 := i_rng x_75
              have rg_r_71 := i_rng r_71
              have hP : va_P (dC, dI) vwCl (mW ad kc x0 x1 x2 x3 x4 x_66 x_67 x_72 x_73 x_74 x10 x_75 x12 x13 x14 x15 x16 x17 x18 x19 x20 x21 f_76 f1 f2 f3 f4 f5 f6 f7 f8 f9 f10 f11 f12 f13 f14 f15 f16 f17 f18 f19 f20 f21 fL fN fP fM fO) H := hP
              have hD : va_D A (mW ad kc x0 x1 x2 x3 x4 x_66 x_67 x_72 x_73 x_74 x10 x_75 x12 x13 x14 x15 x16 x17 x18 x19 x20 x21 f_76 f1 f2 f3 f4 f5 f6 f7 f8 f9 f10 f11 f12 f13 f14 f15 f16 f17 f18 f19 f20 f21 fL fN fP fM fO) := hD
              have hq9 := hr_71_0
              have hq8 := hr_71_1
              refine lv_if_ne (tgt := 103) hx hb dX10_aLine_98 (by decide) (fun k_77 => ?_) (fun k_77 => ?_)
              · have tk_77 := c_ne (a := r_71.toInt) (b := 0) rfl (by decide) k_77
                refine lv_aload_n hx hb dX10_aLine_103 rfl (lv_at hl 1 rfl) ?_
                have hFc := m_free hD hS hA
                refine va_callv (va_runV (As := []) (rest := []) ⟨hx, hb, hml, hown, hts⟩ (m_ahead l dC dI ad kc x0 x1 x2 x3 x4 x_66 x_67 x_72 x_73 x_74 x10 x_75 x12 x13 x14 x15 x16 x17 x18 x19 x20 x21 f_76 f1 f2 f3 f4 f5 f6 f7 f8 f9 f10 f11 f12 f13 f14 f15 f16 f17 f18 f19 f20 f21 fL fN fP fM fO H.size (by first | omega | assumption | decide | (have l0 := Int32.toInt_zero; omega)) (by first | omega | assumption | decide | (have l0 := Int32.toInt_zero; omega)) (by first | omega | assumption | decide | (have l0 := Int32.toInt_zero; omega))) (cwV 0 hts mg_X10_aLinem_X10_ahead_184 rfl rfl rfl (by decide +kernel) ⟨Nat.le_of_ble_eq_true rfl, Nat.le_of_ble_eq_true rfl⟩) ⟨fun a U g mk q => by obtain ⟨q0, q1, qP, qK, qD⟩ := q; exact ⟨q0, q1, qP, va_K.moved (u := U) (U := U.calling g mk a) (Vm.Alike.refl U.vm) qK, qD⟩, va_recv hK hP (ci := 10) (q0 := 0) rfl rfl, fun U hU hW => ⟨rfl, by rw [hU], by rw [hU]; exact hP, va_K.moved hW.alike hK, hD.weaken (fun _ _ _ _ => trivial)⟩⟩ rfl rfl hl.1 rfl (lv_room (Nat.le_of_ble_eq_true rfl)) dX10_aLine_104 ⟨Nat.le_of_ble_eq_true rfl, Nat.le_of_ble_eq_true rfl⟩) hS (fun q _ h => hFc q h) hFc (fun u t H1 locs ht hvm hw hB hz1 hk1 hS => ?_)
                obtain ⟨x_79, x_80, x_81, hr_78_0, hr_78_1, hr_78_2, hr_78_3, hr_78_4, hP, hK1, hD1⟩ := hB
                rw [ht] at hP
                have hD := hD1.weaken (fun k q _ h => hFc q.1 h)
                clear hz1 hk1 hFc hD1 hK1 hvm
                generalize H1 = H at hP hS ⊢
                have rg_x_79 := i_rng x_79
                have rg_x_80 := i_rng x_80
                have rg_x_81 := i_rng x_81
                have hP : va_P (dC, dI) vwCl (mW ad kc x0 x1 x2 x3 x4 x_79 x_80 x_81 x_73 x_74 x10 x_75 x12 x13 x14 x15 x16 x17 x18 x19 x20 x21 f_76 f1 f2 f3 f4 f5 f6 f7 f8 f9 f10 f11 f12 f13 f14 f15 f16 f17 f18 f19 f20 f21 fL fN fP fM fO) H := hP
                have hD : va_D A (mW ad kc x0 x1 x2 x3 x4 x_79 x_80 x_81 x_73 x_74 x10 x_75 x12 x13 x14 x15 x16 x17 x18 x19 x20 x21 f_76 f1 f2 f3 f4 f5 f6 f7 f8 f9 f10 f11 f12 f13 f14 f15 f16 f17 f18 f19 f20 f21 fL fN fP fM fO) := hD
                refine lv_aload_n hx hb dX10_aLine_107 rfl (lv_at hl 1 rfl) ?_
                refine va_get (D := (dC, dI)) (ci := 10) (v := .int x_79) (C := RX10) (T := TX10) (N := 48) hx hb hts fin_X10_aLinem_X10 hown hK hP 0 rfl rfl 8 (by decide) (hts (.fieldLink RX10 120 "PatternGateModel" "token" "I") (List.mem_of_getElem? (i := 9) (by decide +kernel))) (fun _ h9 => h9) rfl dX10_aLine_108 ?_
                refine lv_iconst (v := 4) hx hb dX10_aLine_111 (by decide) ?_
                refine lv_icmp_eq (tgt := 121) hx hb dX10_aLine_112 (by decide) (fun k_82 => ?_) (fun k_82 => ?_)
                · have tk_82 := c_eq (a := x_79.toInt) (b := 4) rfl (by decide) k_82
                  refine lv_aload_n hx hb dX10_aLine_121 rfl (lv_at hl 1 rfl) ?_
                  have hFc := m_free hD hS hA
                  refine va_callv (va_runV (As := []) (rest := []) ⟨hx, hb, hml, hown, hts⟩ (m_ahead l dC dI ad kc x0 x1 x2 x3 x4 x_79 x_80 x_81 x_73 x_74 x10 x_75 x12 x13 x14 x15 x16 x17 x18 x19 x20 x21 f_76 f1 f2 f3 f4 f5 f6 f7 f8 f9 f10 f11 f12 f13 f14 f15 f16 f17 f18 f19 f20 f21 fL fN fP fM fO H.size (by first | omega | assumption | decide | (have l0 := Int32.toInt_zero; omega)) (by first | omega | assumption | decide | (have l0 := Int32.toInt_zero; omega)) (by first | omega | assumption | decide | (have l0 := Int32.toInt_zero; omega))) (cwV 0 hts mg_X10_aLinem_X10_ahead_184 rfl rfl rfl (by decide +kernel) ⟨Nat.le_of_ble_eq_true rfl, Nat.le_of_ble_eq_true rfl⟩) ⟨fun a U g mk q => by obtain ⟨q0, q1, qP, qK, qD⟩ := q; exact ⟨q0, q1, qP, va_K.moved (u := U) (U := U.calling g mk a) (Vm.Alike.refl U.vm) qK, qD⟩, va_recv hK hP (ci := 10) (q0 := 0) rfl rfl, fun U hU hW => ⟨rfl, by rw [hU], by rw [hU]; exact hP, va_K.moved hW.alike hK, hD.weaken (fun _ _ _ _ => trivial)⟩⟩ rfl rfl hl.1 rfl (lv_room (Nat.le_of_ble_eq_true rfl)) dX10_aLine_122 ⟨Nat.le_of_ble_eq_true rfl, Nat.le_of_ble_eq_true rfl⟩) hS (fun q _ h => hFc q h) hFc (fun u t H1 locs ht hvm hw hB hz1 hk1 hS => ?_)
                  obtain ⟨x_84, x_85, x_86, hr_83_0, hr_83_1, hr_83_2, hr_83_3, hr_83_4, hP, hK1, hD1⟩ := hB
                  rw [ht] at hP
                  have hD := hD1.weaken (fun k q _ h => hFc q.1 h)
                  clear hz1 hk1 hFc hD1 hK1 hvm
                  generalize H1 = H at hP hS ⊢
                  have rg_x_84 := i_rng x_84
                  have rg_x_85 := i_rng x_85
                  have rg_x_86 := i_rng x_86
                  have hP : va_P (dC, dI) vwCl (mW ad kc x0 x1 x2 x3 x4 x_84 x_85 x_86 x_73 x_74 x10 x_75 x12 x13 x14 x15 x16 x17 x18 x19 x20 x21 f_76 f1 f2 f3 f4 f5 f6 f7 f8 f9 f10 f11 f12 f13 f14 f15 f16 f17 f18 f19 f20 f21 fL fN fP fM fO) H := hP
                  have hD : va_D A (mW ad kc x0 x1 x2 x3 x4 x_84 x_85 x_86 x_73 x_74 x10 x_75 x12 x13 x14 x15 x16 x17 x18 x19 x20 x21 f_76 f1 f2 f3 f4 f5 f6 f7 f8 f9 f10 f11 f12 f13 f14 f15 f16 f17 f18 f19 f20 f21 fL fN fP fM fO) := hD
                  refine lv_iconst (v := 1) hx hb dX10_aLine_125 (by decide) ?_
                  have lit_86 : (1 : Int32).toInt = 1 := by decide
                  exact W.zret hx hb hr (z_nar (by first | assumption | decide | exact z_of (by omega))) (fun t ht hW => ⟨⟨_, _, rfl, rfl, x_84, x_85, x_86, x_73, x_74, x_75, f_76, hq9, hq8, (by first | omega | assumption | rfl | decide), (by first | omega | assumption | rfl | decide), (by first | omega | assumption | rfl | decide), (fun h9 => by omega), by rw [ht]; exact hP, va_K.moved hW.alike hK, hD⟩, hS.F ht⟩) hS.2.2 dX10_aLine_126
                · have tk_82 := c_ne (a := x_79.toInt) (b := 4) rfl (by decide) k_82
                  refine lv_aload_n hx hb dX10_aLine_115 rfl (lv_at hl 1 rfl) ?_
                  refine lv_iconst (v := 2) hx hb dX10_aLine_116 (by decide) ?_
                  have lit_87 : (2 : Int32).toInt = 2 := by decide
                  have hFc := m_free hD hS hA
                  refine va_calli (va_runV (As := [.int 2]) (rest := []) ⟨hx, hb, hml, hown, hts⟩ (m_fails l dC dI ad kc x0 x1 x2 x3 x4 x_79 x_80 x_81 x_73 x_74 x10 x_75 x12 x13 x14 x15 x16 x17 x18 x19 x20 x21 f_76 f1 f2 f3 f4 f5 f6 f7 f8 f9 f10 f11 f12 f13 f14 f15 f16 f17 f18 f19 f20 f21 fL fN fP fM fO H.size 2 ) (cwV 1 hts mg_X10_aLinem_X10_fails_181 rfl rfl rfl (by decide +kernel) ⟨Nat.le_of_ble_eq_true rfl, Nat.le_of_ble_eq_true rfl⟩) ⟨fun a U g mk q => by obtain ⟨q0, q1, qP, qK, qD⟩ := q; exact ⟨q0, q1, qP, va_K.moved (u := U) (U := U.calling g mk a) (Vm.Alike.refl U.vm) qK, qD⟩, va_recv hK hP (ci := 10) (q0 := 0) rfl rfl, fun U hU hW => ⟨rfl, by rw [hU], by rw [hU]; exact hP, va_K.moved hW.alike hK, hD.weaken (fun _ _ _ _ => trivial)⟩⟩ rfl rfl hl.1 rfl (lv_room (Nat.le_of_ble_eq_true rfl)) dX10_aLine_117 ⟨Nat.le_of_ble_eq_true rfl, Nat.le_of_ble_eq_true rfl⟩) hS (fun q _ h => hFc q h) hFc (fun r_89 u t H1 locs ht hvm hw hB hz1 hk1 hS => ?_)
                  subst hw
                  obtain ⟨x_90, x_91, hr_89_0, hP, hK1, hD1⟩ := hB
                  rw [ht] at hP
                  have hD := hD1.weaken (fun k q _ h => hFc q.1 h)
                  clear hz1 hk1 hFc hD1 hK1 hvm
                  generalize H1 = H at hP hS ⊢
                  have rg_x_90 := i_rng x_90
                  have rg_x_91 := i_rng x_91
                  have rg_r_89 := i_rng r_89
                  have hP : va_P (dC, dI) vwCl (mW ad kc x0 x1 x2 x3 x4 x_79 x_80 x_81 x_90 x_91 x10 x_75 x12 x13 x14 x15 x16 x17 x18 x19 x20 x21 f_76 f1 f2 f3 f4 f5 f6 f7 f8 f9 f10 f11 f12 f13 f14 f15 f16 f17 f18 f19 f20 f21 fL fN fP fM fO) H := hP
                  have hD : va_D A (mW ad kc x0 x1 x2 x3 x4 x_79 x_80 x_81 x_90 x_91 x10 x_75 x12 x13 x14 x15 x16 x17 x18 x19 x20 x21 f_76 f1 f2 f3 f4 f5 f6 f7 f8 f9 f10 f11 f12 f13 f14 f15 f16 f17 f18 f19 f20 f21 fL fN fP fM fO) := hD
                  exact W.zret hx hb hr (z_nar (by first | assumption | decide | exact z_of (by omega))) (fun t ht hW => ⟨⟨_, _, rfl, rfl, x_79, x_80, x_81, x_90, x_91, x_75, f_76, hq9, hq8, (by first | omega | assumption | rfl | decide), (by first | omega | assumption | rfl | decide), (by first | omega | assumption | rfl | decide), (fun h9 => by omega), by rw [ht]; exact hP, va_K.moved hW.alike hK, hD⟩, hS.F ht⟩) hS.2.2 dX10_aLine_120
              · have tk_77 := c_eq (a := r_71.toInt) (b := 0) rfl (by decide) k_77
                refine lv_iconst (v := 0) hx hb dX10_aLine_101 (by decide) ?_
                have lit_91 : (0 : Int32).toInt = 0 := by decide
                exact W.zret hx hb hr (z_nar (by first | assumption | decide | exact z_of (by omega))) (fun t ht hW => ⟨⟨_, _, rfl, rfl, x_66, x_67, x_72, x_73, x_74, x_75, f_76, hq9, hq8, (by first | omega | assumption | rfl | decide), (by first | omega | assumption | rfl | decide), (by first | omega | assumption | rfl | decide), (fun h9 => by omega), by rw [ht]; exact hP, va_K.moved hW.alike hK, hD⟩, hS.F ht⟩) hS.2.2 dX10_aLine_102
            · have tk_70 := c_ne (a := r_1.toInt) (b := 0) rfl (by decide) k_70
              refine lv_aload_n hx hb dX10_aLine_84 rfl (lv_at hl 1 rfl) ?_
              have hFc := m_free hD hS hA
              refine va_calli (va_runV (As := []) (rest := []) ⟨hx, hb, hml, hown, hts⟩ (m_docQuote l dC dI ad kc x0 x1 x2 x3 x4 x_66 x_67 x_68 x8 x9 x10 x11 x12 x13 x14 x15 x16 x17 x18 x19 x20 x21 f0 f1 f2 f3 f4 f5 f6 f7 f8 f9 f10 f11 f12 f13 f14 f15 f16 f17 f18 f19 f20 f21 fL fN fP fM fO H.size (by first | omega | assumption | decide | (have l0 := Int32.toInt_zero; omega)) (by first | omega | assumption | decide | (have l0 := Int32.toInt_zero; omega)) (by first | omega | assumption | decide | (have l0 := Int32.toInt_zero; omega)) (by first | omega | assumption | decide | (have l0 := Int32.toInt_zero; omega)) (by first | omega | assumption | decide | (have l0 := Int32.toInt_zero; omega))) (cwV 0 hts mg_X10_aLinem_X10_docQuote_187 rfl rfl rfl (by decide +kernel) ⟨Nat.le_of_ble_eq_true rfl, Nat.le_of_ble_eq_true rfl⟩) ⟨fun a U g mk q => by obtain ⟨q0, q1, qP, qK, qD⟩ := q; exact ⟨q0, q1, qP, va_K.moved (u := U) (U := U.calling g mk a) (Vm.Alike.refl U.vm) qK, qD⟩, va_recv hK hP (ci := 10) (q0 := 0) rfl rfl, fun U hU hW => ⟨rfl, by rw [hU], by rw [hU]; exact hP, va_K.moved hW.alike hK, hD.weaken (fun _ _ _ _ => trivial)⟩⟩ rfl rfl hl.1 rfl (lv_room (Nat.le_of_ble_eq_true rfl)) dX10_aLine_85 ⟨Nat.le_of_ble_eq_true rfl, Nat.le_of_ble_eq_true rfl⟩) hS (fun q _ h => hFc q h) hFc (fun r_93 u t H1 locs ht hvm hw hB hz1 hk1 hS => ?_)
              subst hw
              obtain ⟨x_94, x_95, x_96, f_97, hr_93_0, hr_93_1, hr_93_2, hr_93_3, hr_93_4, hP, hK1, hD1⟩ := hB
              rw [ht] at hP
              have hD := hD1.weaken (fun k q _ h => hFc q.1 h)
              clear hz1 hk1 hFc hD1 hK1 hvm
              generalize H1 = H at hP hS ⊢
              have rg_x_94 := i_rng x_94
              have rg_x_95 := i_rng x_95
              have rg_x_96 := i_rng x_96
              have rg_r_93 := i_rng r_93
              have hP : va_P (dC, dI) vwCl (mW ad kc x0 x1 x2 x3 x4 x_66 x_67 x_94 x_95 x_96 x10 x11 x12 x13 x14 x15 x16 x17 x18 x19 x20 x21 f_97 f1 f2 f3 f4 f5 f6 f7 f8 f9 f10 f11 f12 f13 f14 f15 f16 f17 f18 f19 f20 f21 fL fN fP fM fO) H := hP
              have hD : va_D A (mW ad kc x0 x1 x2 x3 x4 x_66 x_67 x_94 x_95 x_96 x10 x11 x12 x13 x14 x15 x16 x17 x18 x19 x20 x21 f_97 f1 f2 f3 f4 f5 f6 f7 f8 f9 f10 f11 f12 f13 f14 f15 f16 f17 f18 f19 f20 f21 fL fN fP fM fO) := hD
              have hq9 := hr_93_0
              have hq8 := hr_93_1
              refine lv_if_eq (tgt := 101) hx hb dX10_aLine_88 (by decide) (fun k_98 => ?_) (fun k_98 => ?_)
              · have tk_98 := c_eq (a := r_93.toInt) (b := 0) rfl (by decide) k_98
                refine lv_iconst (v := 0) hx hb dX10_aLine_101 (by decide) ?_
                have lit_98 : (0 : Int32).toInt = 0 := by decide
                exact W.zret hx hb hr (z_nar (by first | assumption | decide | exact z_of (by omega))) (fun t ht hW => ⟨⟨_, _, rfl, rfl, x_66, x_67, x_94, x_95, x_96, x11, f_97, hq9, hq8, (by first | omega | assumption | rfl | decide), (by first | omega | assumption | rfl | decide), (by first | omega | assumption | rfl | decide), (fun h9 => by omega), by rw [ht]; exact hP, va_K.moved hW.alike hK, hD⟩, hS.F ht⟩) hS.2.2 dX10_aLine_102
              · have tk_98 := c_ne (a := r_93.toInt) (b := 0) rfl (by decide) k_98
                refine lv_goto (tgt := 103) hx hb dX10_aLine_91 (by decide) ?_
                refine lv_aload_n hx hb dX10_aLine_103 rfl (lv_at hl 1 rfl) ?_
                have hFc := m_free hD hS hA
                refine va_callv (va_runV (As := []) (rest := []) ⟨hx, hb, hml, hown, hts⟩ (m_ahead l dC dI ad kc x0 x1 x2 x3 x4 x_66 x_67 x_94 x_95 x_96 x10 x11 x12 x13 x14 x15 x16 x17 x18 x19 x20 x21 f_97 f1 f2 f3 f4 f5 f6 f7 f8 f9 f10 f11 f12 f13 f14 f15 f16 f17 f18 f19 f20 f21 fL fN fP fM fO H.size (by first | omega | assumption | decide | (have l0 := Int32.toInt_zero; omega)) (by first | omega | assumption | decide | (have l0 := Int32.toInt_zero; omega)) (by first | omega | assumption | decide | (have l0 := Int32.toInt_zero; omega))) (cwV 0 hts mg_X10_aLinem_X10_ahead_184 rfl rfl rfl (by decide +kernel) ⟨Nat.le_of_ble_eq_true rfl, Nat.le_of_ble_eq_true rfl⟩) ⟨fun a U g mk q => by obtain ⟨q0, q1, qP, qK, qD⟩ := q; exact ⟨q0, q1, qP, va_K.moved (u := U) (U := U.calling g mk a) (Vm.Alike.refl U.vm) qK, qD⟩, va_recv hK hP (ci := 10) (q0 := 0) rfl rfl, fun U hU hW => ⟨rfl, by rw [hU], by rw [hU]; exact hP, va_K.moved hW.alike hK, hD.weaken (fun _ _ _ _ => trivial)⟩⟩ rfl rfl hl.1 rfl (lv_room (Nat.le_of_ble_eq_true rfl)) dX10_aLine_104 ⟨Nat.le_of_ble_eq_true rfl, Nat.le_of_ble_eq_true rfl⟩) hS (fun q _ h => hFc q h) hFc (fun u t H1 locs ht hvm hw hB hz1 hk1 hS => ?_)
                obtain ⟨x_101, x_102, x_103, hr_100_0, hr_100_1, hr_100_2, hr_100_3, hr_100_4, hP, hK1, hD1⟩ := hB
                rw [ht] at hP
                have hD := hD1.weaken (fun k q _ h => hFc q.1 h)
                clear hz1 hk1 hFc hD1 hK1 hvm
                generalize H1 = H at hP hS ⊢
                have rg_x_101 := i_rng x_101
                have rg_x_102 := i_rng x_102
                have rg_x_103 := i_rng x_103
                have hP : va_P (dC, dI) vwCl (mW ad kc x0 x1 x2 x3 x4 x_101 x_102 x_103 x_95 x_96 x10 x11 x12 x13 x14 x15 x16 x17 x18 x19 x20 x21 f_97 f1 f2 f3 f4 f5 f6 f7 f8 f9 f10 f11 f12 f13 f14 f15 f16 f17 f18 f19 f20 f21 fL fN fP fM fO) H := hP
                have hD : va_D A (mW ad kc x0 x1 x2 x3 x4 x_101 x_102 x_103 x_95 x_96 x10 x11 x12 x13 x14 x15 x16 x17 x18 x19 x20 x21 f_97 f1 f2 f3 f4 f5 f6 f7 f8 f9 f10 f11 f12 f13 f14 f15 f16 f17 f18 f19 f20 f21 fL fN fP fM fO) := hD
                refine lv_aload_n hx hb dX10_aLine_107 rfl (lv_at hl 1 rfl) ?_
                refine va_get (D := (dC, dI)) (ci := 10) (v := .int x_101) (C := RX10) (T := TX10) (N := 48) hx hb hts fin_X10_aLinem_X10 hown hK hP 0 rfl rfl 8 (by decide) (hts (.fieldLink RX10 120 "PatternGateModel" "token" "I") (List.mem_of_getElem? (i := 9) (by decide +kernel))) (fun _ h9 => h9) rfl dX10_aLine_108 ?_
                refine lv_iconst (v := 4) hx hb dX10_aLine_111 (by decide) ?_
                refine lv_icmp_eq (tgt := 121) hx hb dX10_aLine_112 (by decide) (fun k_104 => ?_) (fun k_104 => ?_)
                · have tk_104 := c_eq (a := x_101.toInt) (b := 4) rfl (by decide) k_104
                  refine lv_aload_n hx hb dX10_aLine_121 rfl (lv_at hl 1 rfl) ?_
                  have hFc := m_free hD hS hA
                  refine va_callv (va_runV (As := []) (rest := []) ⟨hx, hb, hml, hown, hts⟩ (m_ahead l dC dI ad kc x0 x1 x2 x3 x4 x_101 x_102 x_103 x_95 x_96 x10 x11 x12 x13 x14 x15 x16 x17 x18 x19 x20 x21 f_97 f1 f2 f3 f4 f5 f6 f7 f8 f9 f10 f11 f12 f13 f14 f15 f16 f17 f18 f19 f20 f21 fL fN fP fM fO H.size (by first | omega | assumption | decide | (have l0 := Int32.toInt_zero; omega)) (by first | omega | assumption | decide | (have l0 := Int32.toInt_zero; omega)) (by first | omega | assumption | decide | (have l0 := Int32.toInt_zero; omega))) (cwV 0 hts mg_X10_aLinem_X10_ahead_184 rfl rfl rfl (by decide +kernel) ⟨Nat.le_of_ble_eq_true rfl, Nat.le_of_ble_eq_true rfl⟩) ⟨fun a U g mk q => by obtain ⟨q0, q1, qP, qK, qD⟩ := q; exact ⟨q0, q1, qP, va_K.moved (u := U) (U := U.calling g mk a) (Vm.Alike.refl U.vm) qK, qD⟩, va_recv hK hP (ci := 10) (q0 := 0) rfl rfl, fun U hU hW => ⟨rfl, by rw [hU], by rw [hU]; exact hP, va_K.moved hW.alike hK, hD.weaken (fun _ _ _ _ => trivial)⟩⟩ rfl rfl hl.1 rfl (lv_room (Nat.le_of_ble_eq_true rfl)) dX10_aLine_122 ⟨Nat.le_of_ble_eq_true rfl, Nat.le_of_ble_eq_true rfl⟩) hS (fun q _ h => hFc q h) hFc (fun u t H1 locs ht hvm hw hB hz1 hk1 hS => ?_)
                  obtain ⟨x_106, x_107, x_108, hr_105_0, hr_105_1, hr_105_2, hr_105_3, hr_105_4, hP, hK1, hD1⟩ := hB
                  rw [ht] at hP
                  have hD := hD1.weaken (fun k q _ h => hFc q.1 h)
                  clear hz1 hk1 hFc hD1 hK1 hvm
                  generalize H1 = H at hP hS ⊢
                  have rg_x_106 := i_rng x_106
                  have rg_x_107 := i_rng x_107
                  have rg_x_108 := i_rng x_108
                  have hP : va_P (dC, dI) vwCl (mW ad kc x0 x1 x2 x3 x4 x_106 x_107 x_108 x_95 x_96 x10 x11 x12 x13 x14 x15 x16 x17 x18 x19 x20 x21 f_97 f1 f2 f3 f4 f5 f6 f7 f8 f9 f10 f11 f12 f13 f14 f15 f16 f17 f18 f19 f20 f21 fL fN fP fM fO) H := hP
                  have hD : va_D A (mW ad kc x0 x1 x2 x3 x4 x_106 x_107 x_108 x_95 x_96 x10 x11 x12 x13 x14 x15 x16 x17 x18 x19 x20 x21 f_97 f1 f2 f3 f4 f5 f6 f7 f8 f9 f10 f11 f12 f13 f14 f15 f16 f17 f18 f19 f20 f21 fL fN fP fM fO) := hD
                  refine lv_iconst (v := 1) hx hb dX10_aLine_125 (by decide) ?_
                  have lit_108 : (1 : Int32).toInt = 1 := by decide
                  exact W.zret hx hb hr (z_nar (by first | assumption | decide | exact z_of (by omega))) (fun t ht hW => ⟨⟨_, _, rfl, rfl, x_106, x_107, x_108, x_95, x_96, x11, f_97, hq9, hq8, (by first | omega | assumption | rfl | decide), (by first | omega | assumption | rfl | decide), (by first | omega | assumption | rfl | decide), (fun h9 => by omega), by rw [ht]; exact hP, va_K.moved hW.alike hK, hD⟩, hS.F ht⟩) hS.2.2 dX10_aLine_126
                · have tk_104 := c_ne (a := x_101.toInt) (b := 4) rfl (by decide) k_104
                  refine lv_aload_n hx hb dX10_aLine_115 rfl (lv_at hl 1 rfl) ?_
                  refine lv_iconst (v := 2) hx hb dX10_aLine_116 (by decide) ?_
                  have lit_109 : (2 : Int32).toInt = 2 := by decide
                  have hFc := m_free hD hS hA
                  refine va_calli (va_runV (As := [.int 2]) (rest := []) ⟨hx, hb, hml, hown, hts⟩ (m_fails l dC dI ad kc x0 x1 x2 x3 x4 x_101 x_102 x_103 x_95 x_96 x10 x11 x12 x13 x14 x15 x16 x17 x18 x19 x20 x21 f_97 f1 f2 f3 f4 f5 f6 f7 f8 f9 f10 f11 f12 f13 f14 f15 f16 f17 f18 f19 f20 f21 fL fN fP fM fO H.size 2 ) (cwV 1 hts mg_X10_aLinem_X10_fails_181 rfl rfl rfl (by decide +kernel) ⟨Nat.le_of_ble_eq_true rfl, Nat.le_of_ble_eq_true rfl⟩) ⟨fun a U g mk q => by obtain ⟨q0, q1, qP, qK, qD⟩ := q; exact ⟨q0, q1, qP, va_K.moved (u := U) (U := U.calling g mk a) (Vm.Alike.refl U.vm) qK, qD⟩, va_recv hK hP (ci := 10) (q0 := 0) rfl rfl, fun U hU hW => ⟨rfl, by rw [hU], by rw [hU]; exact hP, va_K.moved hW.alike hK, hD.weaken (fun _ _ _ _ => trivial)⟩⟩ rfl rfl hl.1 rfl (lv_room (Nat.le_of_ble_eq_true rfl)) dX10_aLine_117 ⟨Nat.le_of_ble_eq_true rfl, Nat.le_of_ble_eq_true rfl⟩) hS (fun q _ h => hFc q h) hFc (fun r_111 u t H1 locs ht hvm hw hB hz1 hk1 hS => ?_)
                  subst hw
                  obtain ⟨x_112, x_113, hr_111_0, hP, hK1, hD1⟩ := hB
                  rw [ht] at hP
                  have hD := hD1.weaken (fun k q _ h => hFc q.1 h)
                  clear hz1 hk1 hFc hD1 hK1 hvm
                  generalize H1 = H at hP hS ⊢
                  have rg_x_112 := i_rng x_112
                  have rg_x_113 := i_rng x_113
                  have rg_r_111 := i_rng r_111
                  have hP : va_P (dC, dI) vwCl (mW ad kc x0 x1 x2 x3 x4 x_101 x_102 x_103 x_112 x_113 x10 x11 x12 x13 x14 x15 x16 x17 x18 x19 x20 x21 f_97 f1 f2 f3 f4 f5 f6 f7 f8 f9 f10 f11 f12 f13 f14 f15 f16 f17 f18 f19 f20 f21 fL fN fP fM fO) H := hP
                  have hD : va_D A (mW ad kc x0 x1 x2 x3 x4 x_101 x_102 x_103 x_112 x_113 x10 x11 x12 x13 x14 x15 x16 x17 x18 x19 x20 x21 f_97 f1 f2 f3 f4 f5 f6 f7 f8 f9 f10 f11 f12 f13 f14 f15 f16 f17 f18 f19 f20 f21 fL fN fP fM fO) := hD
                  exact W.zret hx hb hr (z_nar (by first | assumption | decide | exact z_of (by omega))) (fun t ht hW => ⟨⟨_, _, rfl, rfl, x_101, x_102, x_103, x_112, x_113, x11, f_97, hq9, hq8, (by first | omega | assumption | rfl | decide), (by first | omega | assumption | rfl | decide), (by first | omega | assumption | rfl | decide), (fun h9 => by omega), by rw [ht]; exact hP, va_K.moved hW.alike hK, hD⟩, hS.F ht⟩) hS.2.2 dX10_aLine_120
          · have tk_69 := c_ne (a := x_66.toInt) (b := 3) rfl (by decide) k_69
            refine lv_aload_n hx hb dX10_aLine_74 rfl (lv_at hl 1 rfl) ?_
            refine lv_iconst (v := 2) hx hb dX10_aLine_75 (by decide) ?_
            have lit_113 : (2 : Int32).toInt = 2 := by decide
            have hFc := m_free hD hS hA
            refine va_calli (va_runV (As := [.int 2]) (rest := []) ⟨hx, hb, hml, hown, hts⟩ (m_fails l dC dI ad kc x0 x1 x2 x3 x4 x_66 x_67 x_68 x8 x9 x10 x11 x12 x13 x14 x15 x16 x17 x18 x19 x20 x21 f0 f1 f2 f3 f4 f5 f6 f7 f8 f9 f10 f11 f12 f13 f14 f15 f16 f17 f18 f19 f20 f21 fL fN fP fM fO H.size 2 ) (cwV 1 hts mg_X10_aLinem_X10_fails_181 rfl rfl rfl (by decide +kernel) ⟨Nat.le_of_ble_eq_true rfl, Nat.le_of_ble_eq_true rfl⟩) ⟨fun a U g mk q => by obtain ⟨q0, q1, qP, qK, qD⟩ := q; exact ⟨q0, q1, qP, va_K.moved (u := U) (U := U.calling g mk a) (Vm.Alike.refl U.vm) qK, qD⟩, va_recv hK hP (ci := 10) (q0 := 0) rfl rfl, fun U hU hW => ⟨rfl, by rw [hU], by rw [hU]; exact hP, va_K.moved hW.alike hK, hD.weaken (fun _ _ _ _ => trivial)⟩⟩ rfl rfl hl.1 rfl (lv_room (Nat.le_of_ble_eq_true rfl)) dX10_aLine_76 ⟨Nat.le_of_ble_eq_true rfl, Nat.le_of_ble_eq_true rfl⟩) hS (fun q _ h => hFc q h) hFc (fun r_115 u t H1 locs ht hvm hw hB hz1 hk1 hS => ?_)
            subst hw
            obtain ⟨x_116, x_117, hr_115_0, hP, hK1, hD1⟩ := hB
            rw [ht] at hP
            have hD := hD1.weaken (fun k q _ h => hFc q.1 h)
            clear hz1 hk1 hFc hD1 hK1 hvm
            generalize H1 = H at hP hS ⊢
            have rg_x_116 := i_rng x_116
            have rg_x_117 := i_rng x_117
            have rg_r_115 := i_rng r_115
            have hP : va_P (dC, dI) vwCl (mW ad kc x0 x1 x2 x3 x4 x_66 x_67 x_68 x_116 x_117 x10 x11 x12 x13 x14 x15 x16 x17 x18 x19 x20 x21 f0 f1 f2 f3 f4 f5 f6 f7 f8 f9 f10 f11 f12 f13 f14 f15 f16 f17 f18 f19 f20 f21 fL fN fP fM fO) H := hP
            have hD : va_D A (mW ad kc x0 x1 x2 x3 x4 x_66 x_67 x_68 x_116 x_117 x10 x11 x12 x13 x14 x15 x16 x17 x18 x19 x20 x21 f0 f1 f2 f3 f4 f5 f6 f7 f8 f9 f10 f11 f12 f13 f14 f15 f16 f17 f18 f19 f20 f21 fL fN fP fM fO) := hD
            exact W.zret hx hb hr (z_nar (by first | assumption | decide | exact z_of (by omega))) (fun t ht hW => ⟨⟨_, _, rfl, rfl, x_66, x_67, x_68, x_116, x_117, x11, f0, q0, (fun _ _ => rfl), (by first | omega | assumption | rfl | decide), (by first | omega | assumption | rfl | decide), (by first | omega | assumption | rfl | decide), (fun h9 => by omega), by rw [ht]; exact hP, va_K.moved hW.alike hK, hD⟩, hS.F ht⟩) hS.2.2 dX10_aLine_79
        · have tk_64 := c_eq (a := y_4.toInt) (b := 10) rfl (by decide) k_64
          refine lv_aload_n hx hb dX10_aLine_56 rfl (lv_at hl 1 rfl) ?_
          refine lv_iconst (v := 3) hx hb dX10_aLine_57 (by decide) ?_
          have lit_117 : (3 : Int32).toInt = 3 := by decide
          have hFc := m_free hD hS hA
          refine va_calli (va_runV (As := [.int 3]) (rest := []) ⟨hx, hb, hml, hown, hts⟩ (m_fails l dC dI ad kc x0 x1 x2 x3 x4 x5 x6 x7 x8 x9 x10 x11 x12 x13 x14 x15 x16 x17 x18 x19 x20 x21 f0 f1 f2 f3 f4 f5 f6 f7 f8 f9 f10 f11 f12 f13 f14 f15 f16 f17 f18 f19 f20 f21 fL fN fP fM fO H.size 3 ) (cwV 1 hts mg_X10_aLinem_X10_fails_181 rfl rfl rfl (by decide +kernel) ⟨Nat.le_of_ble_eq_true rfl, Nat.le_of_ble_eq_true rfl⟩) ⟨fun a U g mk q => by obtain ⟨q0, q1, qP, qK, qD⟩ := q; exact ⟨q0, q1, qP, va_K.moved (u := U) (U := U.calling g mk a) (Vm.Alike.refl U.vm) qK, qD⟩, va_recv hK hP (ci := 10) (q0 := 0) rfl rfl, fun U hU hW => ⟨rfl, by rw [hU], by rw [hU]; exact hP, va_K.moved hW.alike hK, hD.weaken (fun _ _ _ _ => trivial)⟩⟩ rfl rfl hl.1 rfl (lv_room (Nat.le_of_ble_eq_true rfl)) dX10_aLine_58 ⟨Nat.le_of_ble_eq_true rfl, Nat.le_of_ble_eq_true rfl⟩) hS (fun q _ h => hFc q h) hFc (fun r_119 u t H1 locs ht hvm hw hB hz1 hk1 hS => ?_)
          subst hw
          obtain ⟨x_120, x_121, hr_119_0, hP, hK1, hD1⟩ := hB
          rw [ht] at hP
          have hD := hD1.weaken (fun k q _ h => hFc q.1 h)
          clear hz1 hk1 hFc hD1 hK1 hvm
          generalize H1 = H at hP hS ⊢
          have rg_x_120 := i_rng x_120
          have rg_x_121 := i_rng x_121
          have rg_r_119 := i_rng r_119
          have hP : va_P (dC, dI) vwCl (mW ad kc x0 x1 x2 x3 x4 x5 x6 x7 x_120 x_121 x10 x11 x12 x13 x14 x15 x16 x17 x18 x19 x20 x21 f0 f1 f2 f3 f4 f5 f6 f7 f8 f9 f10 f11 f12 f13 f14 f15 f16 f17 f18 f19 f20 f21 fL fN fP fM fO) H := hP
          have hD : va_D A (mW ad kc x0 x1 x2 x3 x4 x5 x6 x7 x_120 x_121 x10 x11 x12 x13 x14 x15 x16 x17 x18 x19 x20 x21 f0 f1 f2 f3 f4 f5 f6 f7 f8 f9 f10 f11 f12 f13 f14 f15 f16 f17 f18 f19 f20 f21 fL fN fP fM fO) := hD
          exact W.zret hx hb hr (z_nar (by first | assumption | decide | exact z_of (by omega))) (fun t ht hW => ⟨⟨_, _, rfl, rfl, x5, x6, x7, x_120, x_121, x11, f0, q0, (fun _ _ => rfl), (by first | omega | assumption | rfl | decide), (by first | omega | assumption | rfl | decide), (by first | omega | assumption | rfl | decide), (fun h9 => by omega), by rw [ht]; exact hP, va_K.moved hW.alike hK, hD⟩, hS.F ht⟩) hS.2.2 dX10_aLine_61
    · have tk_3 := c_ne (a := r_1.toInt) (b := 0) rfl (by decide) k_3
      refine lv_iconst (v := 0) hx hb dX10_aLine_34 (by decide) ?_
      refine lv_goto (tgt := 41) hx hb dX10_aLine_35 (by decide) ?_
      refine va_iald hx hb hK hP 1 0 rfl rfl (i := 0) (by unfold vp_in; decide +kernel) dX10_aLine_41 ?_
      refine lv_topi (fun y_122 ey_122 => ?_)
      have rg_y_122 := i_rng y_122
      have vy_122 := vI_lda (f := f0) (i := 0) (a := 0) ey_122 (by first | omega | decide)
      have rg_y_122 := i_rng y_122
      refine lv_iload_n hx hb dX10_aLine_42 rfl (lv_at hl 0 rfl) ?_
      refine lv_if_eq (tgt := 51) hx hb dX10_aLine_43 (by decide) (fun k_123 => ?_) (fun k_123 => ?_)
      · have tk_123 := c_eq (a := r_1.toInt) (b := 0) rfl (by decide) k_123
        refine lv_bipush (v := 8) hx hb dX10_aLine_51 (by decide) ?_
        refine lv_icmp_ne (tgt := 62) hx hb dX10_aLine_53 (by decide) (fun k_124 => ?_) (fun k_124 => ?_)
        · have tk_124 := c_ne (a := y_122.toInt) (b := 8) rfl (by decide) k_124
          refine lv_aload_n hx hb dX10_aLine_62 rfl (lv_at hl 1 rfl) ?_
          have hFc := m_free hD hS hA
          refine va_callv (va_runV (As := []) (rest := []) ⟨hx, hb, hml, hown, hts⟩ (m_ahead l dC dI ad kc x0 x1 x2 x3 x4 x5 x6 x7 x8 x9 x10 x11 x12 x13 x14 x15 x16 x17 x18 x19 x20 x21 f0 f1 f2 f3 f4 f5 f6 f7 f8 f9 f10 f11 f12 f13 f14 f15 f16 f17 f18 f19 f20 f21 fL fN fP fM fO H.size (by first | omega | assumption | decide | (have l0 := Int32.toInt_zero; omega)) (by first | omega | assumption | decide | (have l0 := Int32.toInt_zero; omega)) (by first | omega | assumption | decide | (have l0 := Int32.toInt_zero; omega))) (cwV 0 hts mg_X10_aLinem_X10_ahead_184 rfl rfl rfl (by decide +kernel) ⟨Nat.le_of_ble_eq_true rfl, Nat.le_of_ble_eq_true rfl⟩) ⟨fun a U g mk q => by obtain ⟨q0, q1, qP, qK, qD⟩ := q; exact ⟨q0, q1, qP, va_K.moved (u := U) (U := U.calling g mk a) (Vm.Alike.refl U.vm) qK, qD⟩, va_recv hK hP (ci := 10) (q0 := 0) rfl rfl, fun U hU hW => ⟨rfl, by rw [hU], by rw [hU]; exact hP, va_K.moved hW.alike hK, hD.weaken (fun _ _ _ _ => trivial)⟩⟩ rfl rfl hl.1 rfl (lv_room (Nat.le_of_ble_eq_true rfl)) dX10_aLine_63 ⟨Nat.le_of_ble_eq_true rfl, Nat.le_of_ble_eq_true rfl⟩) hS (fun q _ h => hFc q h) hFc (fun u t H1 locs ht hvm hw hB hz1 hk1 hS => ?_)
          obtain ⟨x_126, x_127, x_128, hr_125_0, hr_125_1, hr_125_2, hr_125_3, hr_125_4, hP, hK1, hD1⟩ := hB
          rw [ht] at hP
          have hD := hD1.weaken (fun k q _ h => hFc q.1 h)
          clear hz1 hk1 hFc hD1 hK1 hvm
          generalize H1 = H at hP hS ⊢
          have rg_x_126 := i_rng x_126
          have rg_x_127 := i_rng x_127
          have rg_x_128 := i_rng x_128
          have hP : va_P (dC, dI) vwCl (mW ad kc x0 x1 x2 x3 x4 x_126 x_127 x_128 x8 x9 x10 x11 x12 x13 x14 x15 x16 x17 x18 x19 x20 x21 f0 f1 f2 f3 f4 f5 f6 f7 f8 f9 f10 f11 f12 f13 f14 f15 f16 f17 f18 f19 f20 f21 fL fN fP fM fO) H := hP
          have hD : va_D A (mW ad kc x0 x1 x2 x3 x4 x_126 x_127 x_128 x8 x9 x10 x11 x12 x13 x14 x15 x16 x17 x18 x19 x20 x21 f0 f1 f2 f3 f4 f5 f6 f7 f8 f9 f10 f11 f12 f13 f14 f15 f16 f17 f18 f19 f20 f21 fL fN fP fM fO) := hD
          refine lv_aload_n hx hb dX10_aLine_66 rfl (lv_at hl 1 rfl) ?_
          refine va_get (D := (dC, dI)) (ci := 10) (v := .int x_126) (C := RX10) (T := TX10) (N := 48) hx hb hts fin_X10_aLinem_X10 hown hK hP 0 rfl rfl 8 (by decide) (hts (.fieldLink RX10 120 "PatternGateModel" "token" "I") (List.mem_of_getElem? (i := 9) (by decide +kernel))) (fun _ h9 => h9) rfl dX10_aLine_67 ?_
          refine lv_iconst (v := 3) hx hb dX10_aLine_70 (by decide) ?_
          refine lv_icmp_eq (tgt := 80) hx hb dX10_aLine_71 (by decide) (fun k_129 => ?_) (fun k_129 => ?_)
          · have tk_129 := c_eq (a := x_126.toInt) (b := 3) rfl (by decide) k_129
            refine lv_iload_n hx hb dX10_aLine_80 rfl (lv_at hl 0 rfl) ?_
            refine lv_if_eq (tgt := 94) hx hb dX10_aLine_81 (by decide) (fun k_130 => ?_) (fun k_130 => ?_)
            · have tk_130 := c_eq (a := r_1.toInt) (b := 0) rfl (by decide) k_130
              refine lv_aload_n hx hb dX10_aLine_94 rfl (lv_at hl 1 rfl) ?_
              have hFc := m_free hD hS hA
              refine va_calli (va_runV (As := []) (rest := []) ⟨hx, hb, hml, hown, hts⟩ (m_patternQuote l dC dI ad kc x0 x1 x2 x3 x4 x_126 x_127 x_128 x8 x9 x10 x11 x12 x13 x14 x15 x16 x17 x18 x19 x20 x21 f0 f1 f2 f3 f4 f5 f6 f7 f8 f9 f10 f11 f12 f13 f14 f15 f16 f17 f18 f19 f20 f21 fL fN fP fM fO H.size (by first | omega | assumption | decide | (have l0 := Int32.toInt_zero; omega)) (by first | omega | assumption | decide | (have l0 := Int32.toInt_zero; omega)) (by first | omega | assumption | decide | (have l0 := Int32.toInt_zero; omega)) (by first | omega | assumption | decide | (have l0 := Int32.toInt_zero; omega)) (by first | omega | assumption | decide | (have l0 := Int32.toInt_zero; omega))) (cwV 0 hts mg_X10_aLinem_X10_patternQuote_190 rfl rfl rfl (by decide +kernel) ⟨Nat.le_of_ble_eq_true rfl, Nat.le_of_ble_eq_true rfl⟩) ⟨fun a U g mk q => by obtain ⟨q0, q1, qP, qK, qD⟩ := q; exact ⟨q0, q1, qP, va_K.moved (u := U) (U := U.calling g mk a) (Vm.Alike.refl U.vm) qK, qD⟩, va_recv hK hP (ci := 10) (q0 := 0) rfl rfl, fun U hU hW => ⟨rfl, by rw [hU], by rw [hU]; exact hP, va_K.moved hW.alike hK, hD.weaken (fun _ _ _ _ => trivial)⟩⟩ rfl rfl hl.1 rfl (lv_room (Nat.le_of_ble_eq_true rfl)) dX10_aLine_95 ⟨Nat.le_of_ble_eq_true rfl, Nat.le_of_ble_eq_true rfl⟩) hS (fun q _ h => hFc q h) hFc (fun r_131 u t H1 locs ht hvm hw hB hz1 hk1 hS => ?_)
              subst hw
              obtain ⟨x_132, x_133, x_134, x_135, f_136, hr_131_0, hr_131_1, hr_131_2, hr_131_3, hr_131_4, hP, hK1, hD1⟩ := hB
              rw [ht] at hP
              have hD := hD1.weaken (fun k q _ h => hFc q.1 h)
              clear hz1 hk1 hFc hD1 hK1 hvm
              generalize H1 = H at hP hS ⊢
              have rg_x_132 := i_rng x_132
              have rg_x_133 := i_rng x_133
              have rg_x_134 := i_rng x_134
              have rg_x_135 := i_rng x_135
              have rg_r_131 := i_rng r_131
              have hP : va_P (dC, dI) vwCl (mW ad kc x0 x1 x2 x3 x4 x_126 x_127 x_132 x_133 x_134 x10 x_135 x12 x13 x14 x15 x16 x17 x18 x19 x20 x21 f_136 f1 f2 f3 f4 f5 f6 f7 f8 f9 f10 f11 f12 f13 f14 f15 f16 f17 f18 f19 f20 f21 fL fN fP fM fO) H := hP
              have hD : va_D A (mW ad kc x0 x1 x2 x3 x4 x_126 x_127 x_132 x_133 x_134 x10 x_135 x12 x13 x14 x15 x16 x17 x18 x19 x20 x21 f_136 f1 f2 f3 f4 f5 f6 f7 f8 f9 f10 f11 f12 f13 f14 f15 f16 f17 f18 f19 f20 f21 fL fN fP fM fO) := hD
              have hq9 := hr_131_0
              have hq8 := hr_131_1
              refine lv_if_ne (tgt := 103) hx hb dX10_aLine_98 (by decide) (fun k_137 => ?_) (fun k_137 => ?_)
              · have tk_137 := c_ne (a := r_131.toInt) (b := 0) rfl (by decide) k_137
                refine lv_aload_n hx hb dX10_aLine_103 rfl (lv_at hl 1 rfl) ?_
                have hFc := m_free hD hS hA
                refine va_callv (va_runV (As := []) (rest := []) ⟨hx, hb, hml, hown, hts⟩ (m_ahead l dC dI ad kc x0 x1 x2 x3 x4 x_126 x_127 x_132 x_133 x_134 x10 x_135 x12 x13 x14 x15 x16 x17 x18 x19 x20 x21 f_136 f1 f2 f3 f4 f5 f6 f7 f8 f9 f10 f11 f12 f13 f14 f15 f16 f17 f18 f19 f20 f21 fL fN fP fM fO H.size (by first | omega | assumption | decide | (have l0 := Int32.toInt_zero; omega)) (by first | omega | assumption | decide | (have l0 := Int32.toInt_zero; omega)) (by first | omega | assumption | decide | (have l0 := Int32.toInt_zero; omega))) (cwV 0 hts mg_X10_aLinem_X10_ahead_184 rfl rfl rfl (by decide +kernel) ⟨Nat.le_of_ble_eq_true rfl, Nat.le_of_ble_eq_true rfl⟩) ⟨fun a U g mk q => by obtain ⟨q0, q1, qP, qK, qD⟩ := q; exact ⟨q0, q1, qP, va_K.moved (u := U) (U := U.calling g mk a) (Vm.Alike.refl U.vm) qK, qD⟩, va_recv hK hP (ci := 10) (q0 := 0) rfl rfl, fun U hU hW => ⟨rfl, by rw [hU], by rw [hU]; exact hP, va_K.moved hW.alike hK, hD.weaken (fun _ _ _ _ => trivial)⟩⟩ rfl rfl hl.1 rfl (lv_room (Nat.le_of_ble_eq_true rfl)) dX10_aLine_104 ⟨Nat.le_of_ble_eq_true rfl, Nat.le_of_ble_eq_true rfl⟩) hS (fun q _ h => hFc q h) hFc (fun u t H1 locs ht hvm hw hB hz1 hk1 hS => ?_)
                obtain ⟨x_139, x_140, x_141, hr_138_0, hr_138_1, hr_138_2, hr_138_3, hr_138_4, hP, hK1, hD1⟩ := hB
                rw [ht] at hP
                have hD := hD1.weaken (fun k q _ h => hFc q.1 h)
                clear hz1 hk1 hFc hD1 hK1 hvm
                generalize H1 = H at hP hS ⊢
                have rg_x_139 := i_rng x_139
                have rg_x_140 := i_rng x_140
                have rg_x_141 := i_rng x_141
                have hP : va_P (dC, dI) vwCl (mW ad kc x0 x1 x2 x3 x4 x_139 x_140 x_141 x_133 x_134 x10 x_135 x12 x13 x14 x15 x16 x17 x18 x19 x20 x21 f_136 f1 f2 f3 f4 f5 f6 f7 f8 f9 f10 f11 f12 f13 f14 f15 f16 f17 f18 f19 f20 f21 fL fN fP fM fO) H := hP
                have hD : va_D A (mW ad kc x0 x1 x2 x3 x4 x_139 x_140 x_141 x_133 x_134 x10 x_135 x12 x13 x14 x15 x16 x17 x18 x19 x20 x21 f_136 f1 f2 f3 f4 f5 f6 f7 f8 f9 f10 f11 f12 f13 f14 f15 f16 f17 f18 f19 f20 f21 fL fN fP fM fO) := hD
                refine lv_aload_n hx hb dX10_aLine_107 rfl (lv_at hl 1 rfl) ?_
                refine va_get (D := (dC, dI)) (ci := 10) (v := .int x_139) (C := RX10) (T := TX10) (N := 48) hx hb hts fin_X10_aLinem_X10 hown hK hP 0 rfl rfl 8 (by decide) (hts (.fieldLink RX10 120 "PatternGateModel" "token" "I") (List.mem_of_getElem? (i := 9) (by decide +kernel))) (fun _ h9 => h9) rfl dX10_aLine_108 ?_
                refine lv_iconst (v := 4) hx hb dX10_aLine_111 (by decide) ?_
                refine lv_icmp_eq (tgt := 121) hx hb dX10_aLine_112 (by decide) (fun k_142 => ?_) (fun k_142 => ?_)
                · have tk_142 := c_eq (a := x_139.toInt) (b := 4) rfl (by decide) k_142
                  refine lv_aload_n hx hb dX10_aLine_121 rfl (lv_at hl 1 rfl) ?_
                  have hFc := m_free hD hS hA
                  refine va_callv (va_runV (As := []) (rest := []) ⟨hx, hb, hml, hown, hts⟩ (m_ahead l dC dI ad kc x0 x1 x2 x3 x4 x_139 x_140 x_141 x_133 x_134 x10 x_135 x12 x13 x14 x15 x16 x17 x18 x19 x20 x21 f_136 f1 f2 f3 f4 f5 f6 f7 f8 f9 f10 f11 f12 f13 f14 f15 f16 f17 f18 f19 f20 f21 fL fN fP fM fO H.size (by first | omega | assumption | decide | (have l0 := Int32.toInt_zero; omega)) (by first | omega | assumption | decide | (have l0 := Int32.toInt_zero; omega)) (by first | omega | assumption | decide | (have l0 := Int32.toInt_zero; omega))) (cwV 0 hts mg_X10_aLinem_X10_ahead_184 rfl rfl rfl (by decide +kernel) ⟨Nat.le_of_ble_eq_true rfl, Nat.le_of_ble_eq_true rfl⟩) ⟨fun a U g mk q => by obtain ⟨q0, q1, qP, qK, qD⟩ := q; exact ⟨q0, q1, qP, va_K.moved (u := U) (U := U.calling g mk a) (Vm.Alike.refl U.vm) qK, qD⟩, va_recv hK hP (ci := 10) (q0 := 0) rfl rfl, fun U hU hW => ⟨rfl, by rw [hU], by rw [hU]; exact hP, va_K.moved hW.alike hK, hD.weaken (fun _ _ _ _ => trivial)⟩⟩ rfl rfl hl.1 rfl (lv_room (Nat.le_of_ble_eq_true rfl)) dX10_aLine_122 ⟨Nat.le_of_ble_eq_true rfl, Nat.le_of_ble_eq_true rfl⟩) hS (fun q _ h => hFc q h) hFc (fun u t H1 locs ht hvm hw hB hz1 hk1 hS => ?_)
                  obtain ⟨x_144, x_145, x_146, hr_143_0, hr_143_1, hr_143_2, hr_143_3, hr_143_4, hP, hK1, hD1⟩ := hB
                  rw [ht] at hP
                  have hD := hD1.weaken (fun k q _ h => hFc q.1 h)
                  clear hz1 hk1 hFc hD1 hK1 hvm
                  generalize H1 = H at hP hS ⊢
                  have rg_x_144 := i_rng x_144
                  have rg_x_145 := i_rng x_145
                  have rg_x_146 := i_rng x_146
                  have hP : va_P (dC, dI) vwCl (mW ad kc x0 x1 x2 x3 x4 x_144 x_145 x_146 x_133 x_134 x10 x_135 x12 x13 x14 x15 x16 x17 x18 x19 x20 x21 f_136 f1 f2 f3 f4 f5 f6 f7 f8 f9 f10 f11 f12 f13 f14 f15 f16 f17 f18 f19 f20 f21 fL fN fP fM fO) H := hP
                  have hD : va_D A (mW ad kc x0 x1 x2 x3 x4 x_144 x_145 x_146 x_133 x_134 x10 x_135 x12 x13 x14 x15 x16 x17 x18 x19 x20 x21 f_136 f1 f2 f3 f4 f5 f6 f7 f8 f9 f10 f11 f12 f13 f14 f15 f16 f17 f18 f19 f20 f21 fL fN fP fM fO) := hD
                  refine lv_iconst (v := 1) hx hb dX10_aLine_125 (by decide) ?_
                  have lit_146 : (1 : Int32).toInt = 1 := by decide
                  exact W.zret hx hb hr (z_nar (by first | assumption | decide | exact z_of (by omega))) (fun t ht hW => ⟨⟨_, _, rfl, rfl, x_144, x_145, x_146, x_133, x_134, x_135, f_136, hq9, hq8, (by first | omega | assumption | rfl | decide), (by first | omega | assumption | rfl | decide), (by first | omega | assumption | rfl | decide), (fun h9 => by omega), by rw [ht]; exact hP, va_K.moved hW.alike hK, hD⟩, hS.F ht⟩) hS.2.2 dX10_aLine_126
                · have tk_142 := c_ne (a := x_139.toInt) (b := 4) rfl (by decide) k_142
                  refine lv_aload_n hx hb dX10_aLine_115 rfl (lv_at hl 1 rfl) ?_
                  refine lv_iconst (v := 2) hx hb dX10_aLine_116 (by decide) ?_
                  have lit_147 : (2 : Int32).toInt = 2 := by decide
                  have hFc := m_free hD hS hA
                  refine va_calli (va_runV (As := [.int 2]) (rest := []) ⟨hx, hb, hml, hown, hts⟩ (m_fails l dC dI ad kc x0 x1 x2 x3 x4 x_139 x_140 x_141 x_133 x_134 x10 x_135 x12 x13 x14 x15 x16 x17 x18 x19 x20 x21 f_136 f1 f2 f3 f4 f5 f6 f7 f8 f9 f10 f11 f12 f13 f14 f15 f16 f17 f18 f19 f20 f21 fL fN fP fM fO H.size 2 ) (cwV 1 hts mg_X10_aLinem_X10_fails_181 rfl rfl rfl (by decide +kernel) ⟨Nat.le_of_ble_eq_true rfl, Nat.le_of_ble_eq_true rfl⟩) ⟨fun a U g mk q => by obtain ⟨q0, q1, qP, qK, qD⟩ := q; exact ⟨q0, q1, qP, va_K.moved (u := U) (U := U.calling g mk a) (Vm.Alike.refl U.vm) qK, qD⟩, va_recv hK hP (ci := 10) (q0 := 0) rfl rfl, fun U hU hW => ⟨rfl, by rw [hU], by rw [hU]; exact hP, va_K.moved hW.alike hK, hD.weaken (fun _ _ _ _ => trivial)⟩⟩ rfl rfl hl.1 rfl (lv_room (Nat.le_of_ble_eq_true rfl)) dX10_aLine_117 ⟨Nat.le_of_ble_eq_true rfl, Nat.le_of_ble_eq_true rfl⟩) hS (fun q _ h => hFc q h) hFc (fun r_149 u t H1 locs ht hvm hw hB hz1 hk1 hS => ?_)
                  subst hw
                  obtain ⟨x_150, x_151, hr_149_0, hP, hK1, hD1⟩ := hB
                  rw [ht] at hP
                  have hD := hD1.weaken (fun k q _ h => hFc q.1 h)
                  clear hz1 hk1 hFc hD1 hK1 hvm
                  generalize H1 = H at hP hS ⊢
                  have rg_x_150 := i_rng x_150
                  have rg_x_151 := i_rng x_151
                  have rg_r_149 := i_rng r_149
                  have hP : va_P (dC, dI) vwCl (mW ad kc x0 x1 x2 x3 x4 x_139 x_140 x_141 x_150 x_151 x10 x_135 x12 x13 x14 x15 x16 x17 x18 x19 x20 x21 f_136 f1 f2 f3 f4 f5 f6 f7 f8 f9 f10 f11 f12 f13 f14 f15 f16 f17 f18 f19 f20 f21 fL fN fP fM fO) H := hP
                  have hD : va_D A (mW ad kc x0 x1 x2 x3 x4 x_139 x_140 x_141 x_150 x_151 x10 x_135 x12 x13 x14 x15 x16 x17 x18 x19 x20 x21 f_136 f1 f2 f3 f4 f5 f6 f7 f8 f9 f10 f11 f12 f13 f14 f15 f16 f17 f18 f19 f20 f21 fL fN fP fM fO) := hD
                  exact W.zret hx hb hr (z_nar (by first | assumption | decide | exact z_of (by omega))) (fun t ht hW => ⟨⟨_, _, rfl, rfl, x_139, x_140, x_141, x_150, x_151, x_135, f_136, hq9, hq8, (by first | omega | assumption | rfl | decide), (by first | omega | assumption | rfl | decide), (by first | omega | assumption | rfl | decide), (fun h9 => by omega), by rw [ht]; exact hP, va_K.moved hW.alike hK, hD⟩, hS.F ht⟩) hS.2.2 dX10_aLine_120
              · have tk_137 := c_eq (a := r_131.toInt) (b := 0) rfl (by decide) k_137
                refine lv_iconst (v := 0) hx hb dX10_aLine_101 (by decide) ?_
                have lit_151 : (0 : Int32).toInt = 0 := by decide
                exact W.zret hx hb hr (z_nar (by first | assumption | decide | exact z_of (by omega))) (fun t ht hW => ⟨⟨_, _, rfl, rfl, x_126, x_127, x_132, x_133, x_134, x_135, f_136, hq9, hq8, (by first | omega | assumption | rfl | decide), (by first | omega | assumption | rfl | decide), (by first | omega | assumption | rfl | decide), (fun h9 => by omega), by rw [ht]; exact hP, va_K.moved hW.alike hK, hD⟩, hS.F ht⟩) hS.2.2 dX10_aLine_102
            · have tk_130 := c_ne (a := r_1.toInt) (b := 0) rfl (by decide) k_130
              refine lv_aload_n hx hb dX10_aLine_84 rfl (lv_at hl 1 rfl) ?_
              have hFc := m_free hD hS hA
              refine va_calli (va_runV (As := []) (rest := []) ⟨hx, hb, hml, hown, hts⟩ (m_docQuote l dC dI ad kc x0 x1 x2 x3 x4 x_126 x_127 x_128 x8 x9 x10 x11 x12 x13 x14 x15 x16 x17 x18 x19 x20 x21 f0 f1 f2 f3 f4 f5 f6 f7 f8 f9 f10 f11 f12 f13 f14 f15 f16 f17 f18 f19 f20 f21 fL fN fP fM fO H.size (by first | omega | assumption | decide | (have l0 := Int32.toInt_zero; omega)) (by first | omega | assumption | decide | (have l0 := Int32.toInt_zero; omega)) (by first | omega | assumption | decide | (have l0 := Int32.toInt_zero; omega)) (by first | omega | assumption | decide | (have l0 := Int32.toInt_zero; omega)) (by first | omega | assumption | decide | (have l0 := Int32.toInt_zero; omega))) (cwV 0 hts mg_X10_aLinem_X10_docQuote_187 rfl rfl rfl (by decide +kernel) ⟨Nat.le_of_ble_eq_true rfl, Nat.le_of_ble_eq_true rfl⟩) ⟨fun a U g mk q => by obtain ⟨q0, q1, qP, qK, qD⟩ := q; exact ⟨q0, q1, qP, va_K.moved (u := U) (U := U.calling g mk a) (Vm.Alike.refl U.vm) qK, qD⟩, va_recv hK hP (ci := 10) (q0 := 0) rfl rfl, fun U hU hW => ⟨rfl, by rw [hU], by rw [hU]; exact hP, va_K.moved hW.alike hK, hD.weaken (fun _ _ _ _ => trivial)⟩⟩ rfl rfl hl.1 rfl (lv_room (Nat.le_of_ble_eq_true rfl)) dX10_aLine_85 ⟨Nat.le_of_ble_eq_true rfl, Nat.le_of_ble_eq_true rfl⟩) hS (fun q _ h => hFc q h) hFc (fun r_153 u t H1 locs ht hvm hw hB hz1 hk1 hS => ?_)
              subst hw
              obtain ⟨x_154, x_155, x_156, f_157, hr_153_0, hr_153_1, hr_153_2, hr_153_3, hr_153_4, hP, hK1, hD1⟩ := hB
              rw [ht] at hP
              have hD := hD1.weaken (fun k q _ h => hFc q.1 h)
              clear hz1 hk1 hFc hD1 hK1 hvm
              generalize H1 = H at hP hS ⊢
              have rg_x_154 := i_rng x_154
              have rg_x_155 := i_rng x_155
              have rg_x_156 := i_rng x_156
              have rg_r_153 := i_rng r_153
              have hP : va_P (dC, dI) vwCl (mW ad kc x0 x1 x2 x3 x4 x_126 x_127 x_154 x_155 x_156 x10 x11 x12 x13 x14 x15 x16 x17 x18 x19 x20 x21 f_157 f1 f2 f3 f4 f5 f6 f7 f8 f9 f10 f11 f12 f13 f14 f15 f16 f17 f18 f19 f20 f21 fL fN fP fM fO) H := hP
              have hD : va_D A (mW ad kc x0 x1 x2 x3 x4 x_126 x_127 x_154 x_155 x_156 x10 x11 x12 x13 x14 x15 x16 x17 x18 x19 x20 x21 f_157 f1 f2 f3 f4 f5 f6 f7 f8 f9 f10 f11 f12 f13 f14 f15 f16 f17 f18 f19 f20 f21 fL fN fP fM fO) := hD
              have hq9 := hr_153_0
              have hq8 := hr_153_1
              refine lv_if_eq (tgt := 101) hx hb dX10_aLine_88 (by decide) (fun k_158 => ?_) (fun k_158 => ?_)
              · have tk_158 := c_eq (a := r_153.toInt) (b := 0) rfl (by decide) k_158
                refine lv_iconst (v := 0) hx hb dX10_aLine_101 (by decide) ?_
                have lit_158 : (0 : Int32).toInt = 0 := by decide
                exact W.zret hx hb hr (z_nar (by first | assumption | decide | exact z_of (by omega))) (fun t ht hW => ⟨⟨_, _, rfl, rfl, x_126, x_127, x_154, x_155, x_156, x11, f_157, hq9, hq8, (by first | omega | assumption | rfl | decide), (by first | omega | assumption | rfl | decide), (by first | omega | assumption | rfl | decide), (fun h9 => by omega), by rw [ht]; exact hP, va_K.moved hW.alike hK, hD⟩, hS.F ht⟩) hS.2.2 dX10_aLine_102
              · have tk_158 := c_ne (a := r_153.toInt) (b := 0) rfl (by decide) k_158
                refine lv_goto (tgt := 103) hx hb dX10_aLine_91 (by decide) ?_
                refine lv_aload_n hx hb dX10_aLine_103 rfl (lv_at hl 1 rfl) ?_
                have hFc := m_free hD hS hA
                refine va_callv (va_runV (As := []) (rest := []) ⟨hx, hb, hml, hown, hts⟩ (m_ahead l dC dI ad kc x0 x1 x2 x3 x4 x_126 x_127 x_154 x_155 x_156 x10 x11 x12 x13 x14 x15 x16 x17 x18 x19 x20 x21 f_157 f1 f2 f3 f4 f5 f6 f7 f8 f9 f10 f11 f12 f13 f14 f15 f16 f17 f18 f19 f20 f21 fL fN fP fM fO H.size (by first | omega | assumption | decide | (have l0 := Int32.toInt_zero; omega)) (by first | omega | assumption | decide | (have l0 := Int32.toInt_zero; omega)) (by first | omega | assumption | decide | (have l0 := Int32.toInt_zero; omega))) (cwV 0 hts mg_X10_aLinem_X10_ahead_184 rfl rfl rfl (by decide +kernel) ⟨Nat.le_of_ble_eq_true rfl, Nat.le_of_ble_eq_true rfl⟩) ⟨fun a U g mk q => by obtain ⟨q0, q1, qP, qK, qD⟩ := q; exact ⟨q0, q1, qP, va_K.moved (u := U) (U := U.calling g mk a) (Vm.Alike.refl U.vm) qK, qD⟩, va_recv hK hP (ci := 10) (q0 := 0) rfl rfl, fun U hU hW => ⟨rfl, by rw [hU], by rw [hU]; exact hP, va_K.moved hW.alike hK, hD.weaken (fun _ _ _ _ => trivial)⟩⟩ rfl rfl hl.1 rfl (lv_room (Nat.le_of_ble_eq_true rfl)) dX10_aLine_104 ⟨Nat.le_of_ble_eq_true rfl, Nat.le_of_ble_eq_true rfl⟩) hS (fun q _ h => hFc q h) hFc (fun u t H1 locs ht hvm hw hB hz1 hk1 hS => ?_)
                obtain ⟨x_161, x_162, x_163, hr_160_0, hr_160_1, hr_160_2, hr_160_3, hr_160_4, hP, hK1, hD1⟩ := hB
                rw [ht] at hP
                have hD := hD1.weaken (fun k q _ h => hFc q.1 h)
                clear hz1 hk1 hFc hD1 hK1 hvm
                generalize H1 = H at hP hS ⊢
                have rg_x_161 := i_rng x_161
                have rg_x_162 := i_rng x_162
                have rg_x_163 := i_rng x_163
                have hP : va_P (dC, dI) vwCl (mW ad kc x0 x1 x2 x3 x4 x_161 x_162 x_163 x_155 x_156 x10 x11 x12 x13 x14 x15 x16 x17 x18 x19 x20 x21 f_157 f1 f2 f3 f4 f5 f6 f7 f8 f9 f10 f11 f12 f13 f14 f15 f16 f17 f18 f19 f20 f21 fL fN fP fM fO) H := hP
                have hD : va_D A (mW ad kc x0 x1 x2 x3 x4 x_161 x_162 x_163 x_155 x_156 x10 x11 x12 x13 x14 x15 x16 x17 x18 x19 x20 x21 f_157 f1 f2 f3 f4 f5 f6 f7 f8 f9 f10 f11 f12 f13 f14 f15 f16 f17 f18 f19 f20 f21 fL fN fP fM fO) := hD
                refine lv_aload_n hx hb dX10_aLine_107 rfl (lv_at hl 1 rfl) ?_
                refine va_get (D := (dC, dI)) (ci := 10) (v := .int x_161) (C := RX10) (T := TX10) (N := 48) hx hb hts fin_X10_aLinem_X10 hown hK hP 0 rfl rfl 8 (by decide) (hts (.fieldLink RX10 120 "PatternGateModel" "token" "I") (List.mem_of_getElem? (i := 9) (by decide +kernel))) (fun _ h9 => h9) rfl dX10_aLine_108 ?_
                refine lv_iconst (v := 4) hx hb dX10_aLine_111 (by decide) ?_
                refine lv_icmp_eq (tgt := 121) hx hb dX10_aLine_112 (by decide) (fun k_164 => ?_) (fun k_164 => ?_)
                · have tk_164 := c_eq (a := x_161.toInt) (b := 4) rfl (by decide) k_164
                  refine lv_aload_n hx hb dX10_aLine_121 rfl (lv_at hl 1 rfl) ?_
                  have hFc := m_free hD hS hA
                  refine va_callv (va_runV (As := []) (rest := []) ⟨hx, hb, hml, hown, hts⟩ (m_ahead l dC dI ad kc x0 x1 x2 x3 x4 x_161 x_162 x_163 x_155 x_156 x10 x11 x12 x13 x14 x15 x16 x17 x18 x19 x20 x21 f_157 f1 f2 f3 f4 f5 f6 f7 f8 f9 f10 f11 f12 f13 f14 f15 f16 f17 f18 f19 f20 f21 fL fN fP fM fO H.size (by first | omega | assumption | decide | (have l0 := Int32.toInt_zero; omega)) (by first | omega | assumption | decide | (have l0 := Int32.toInt_zero; omega)) (by first | omega | assumption | decide | (have l0 := Int32.toInt_zero; omega))) (cwV 0 hts mg_X10_aLinem_X10_ahead_184 rfl rfl rfl (by decide +kernel) ⟨Nat.le_of_ble_eq_true rfl, Nat.le_of_ble_eq_true rfl⟩) ⟨fun a U g mk q => by obtain ⟨q0, q1, qP, qK, qD⟩ := q; exact ⟨q0, q1, qP, va_K.moved (u := U) (U := U.calling g mk a) (Vm.Alike.refl U.vm) qK, qD⟩, va_recv hK hP (ci := 10) (q0 := 0) rfl rfl, fun U hU hW => ⟨rfl, by rw [hU], by rw [hU]; exact hP, va_K.moved hW.alike hK, hD.weaken (fun _ _ _ _ => trivial)⟩⟩ rfl rfl hl.1 rfl (lv_room (Nat.le_of_ble_eq_true rfl)) dX10_aLine_122 ⟨Nat.le_of_ble_eq_true rfl, Nat.le_of_ble_eq_true rfl⟩) hS (fun q _ h => hFc q h) hFc (fun u t H1 locs ht hvm hw hB hz1 hk1 hS => ?_)
                  obtain ⟨x_166, x_167, x_168, hr_165_0, hr_165_1, hr_165_2, hr_165_3, hr_165_4, hP, hK1, hD1⟩ := hB
                  rw [ht] at hP
                  have hD := hD1.weaken (fun k q _ h => hFc q.1 h)
                  clear hz1 hk1 hFc hD1 hK1 hvm
                  generalize H1 = H at hP hS ⊢
                  have rg_x_166 := i_rng x_166
                  have rg_x_167 := i_rng x_167
                  have rg_x_168 := i_rng x_168
                  have hP : va_P (dC, dI) vwCl (mW ad kc x0 x1 x2 x3 x4 x_166 x_167 x_168 x_155 x_156 x10 x11 x12 x13 x14 x15 x16 x17 x18 x19 x20 x21 f_157 f1 f2 f3 f4 f5 f6 f7 f8 f9 f10 f11 f12 f13 f14 f15 f16 f17 f18 f19 f20 f21 fL fN fP fM fO) H := hP
                  have hD : va_D A (mW ad kc x0 x1 x2 x3 x4 x_166 x_167 x_168 x_155 x_156 x10 x11 x12 x13 x14 x15 x16 x17 x18 x19 x20 x21 f_157 f1 f2 f3 f4 f5 f6 f7 f8 f9 f10 f11 f12 f13 f14 f15 f16 f17 f18 f19 f20 f21 fL fN fP fM fO) := hD
                  refine lv_iconst (v := 1) hx hb dX10_aLine_125 (by decide) ?_
                  have lit_168 : (1 : Int32).toInt = 1 := by decide
                  exact W.zret hx hb hr (z_nar (by first | assumption | decide | exact z_of (by omega))) (fun t ht hW => ⟨⟨_, _, rfl, rfl, x_166, x_167, x_168, x_155, x_156, x11, f_157, hq9, hq8, (by first | omega | assumption | rfl | decide), (by first | omega | assumption | rfl | decide), (by first | omega | assumption | rfl | decide), (fun h9 => by omega), by rw [ht]; exact hP, va_K.moved hW.alike hK, hD⟩, hS.F ht⟩) hS.2.2 dX10_aLine_126
                · have tk_164 := c_ne (a := x_161.toInt) (b := 4) rfl (by decide) k_164
                  refine lv_aload_n hx hb dX10_aLine_115 rfl (lv_at hl 1 rfl) ?_
                  refine lv_iconst (v := 2) hx hb dX10_aLine_116 (by decide) ?_
                  have lit_169 : (2 : Int32).toInt = 2 := by decide
                  have hFc := m_free hD hS hA
                  refine va_calli (va_runV (As := [.int 2]) (rest := []) ⟨hx, hb, hml, hown, hts⟩ (m_fails l dC dI ad kc x0 x1 x2 x3 x4 x_161 x_162 x_163 x_155 x_156 x10 x11 x12 x13 x14 x15 x16 x17 x18 x19 x20 x21 f_157 f1 f2 f3 f4 f5 f6 f7 f8 f9 f10 f11 f12 f13 f14 f15 f16 f17 f18 f19 f20 f21 fL fN fP fM fO H.size 2 ) (cwV 1 hts mg_X10_aLinem_X10_fails_181 rfl rfl rfl (by decide +kernel) ⟨Nat.le_of_ble_eq_true rfl, Nat.le_of_ble_eq_true rfl⟩) ⟨fun a U g mk q => by obtain ⟨q0, q1, qP, qK, qD⟩ := q; exact ⟨q0, q1, qP, va_K.moved (u := U) (U := U.calling g mk a) (Vm.Alike.refl U.vm) qK, qD⟩, va_recv hK hP (ci := 10) (q0 := 0) rfl rfl, fun U hU hW => ⟨rfl, by rw [hU], by rw [hU]; exact hP, va_K.moved hW.alike hK, hD.weaken (fun _ _ _ _ => trivial)⟩⟩ rfl rfl hl.1 rfl (lv_room (Nat.le_of_ble_eq_true rfl)) dX10_aLine_117 ⟨Nat.le_of_ble_eq_true rfl, Nat.le_of_ble_eq_true rfl⟩) hS (fun q _ h => hFc q h) hFc (fun r_171 u t H1 locs ht hvm hw hB hz1 hk1 hS => ?_)
                  subst hw
                  obtain ⟨x_172, x_173, hr_171_0, hP, hK1, hD1⟩ := hB
                  rw [ht] at hP
                  have hD := hD1.weaken (fun k q _ h => hFc q.1 h)
                  clear hz1 hk1 hFc hD1 hK1 hvm
                  generalize H1 = H at hP hS ⊢
                  have rg_x_172 := i_rng x_172
                  have rg_x_173 := i_rng x_173
                  have rg_r_171 := i_rng r_171
                  have hP : va_P (dC, dI) vwCl (mW ad kc x0 x1 x2 x3 x4 x_161 x_162 x_163 x_172 x_173 x10 x11 x12 x13 x14 x15 x16 x17 x18 x19 x20 x21 f_157 f1 f2 f3 f4 f5 f6 f7 f8 f9 f10 f11 f12 f13 f14 f15 f16 f17 f18 f19 f20 f21 fL fN fP fM fO) H := hP
                  have hD : va_D A (mW ad kc x0 x1 x2 x3 x4 x_161 x_162 x_163 x_172 x_173 x10 x11 x12 x13 x14 x15 x16 x17 x18 x19 x20 x21 f_157 f1 f2 f3 f4 f5 f6 f7 f8 f9 f10 f11 f12 f13 f14 f15 f16 f17 f18 f19 f20 f21 fL fN fP fM fO) := hD
                  exact W.zret hx hb hr (z_nar (by first | assumption | decide | exact z_of (by omega))) (fun t ht hW => ⟨⟨_, _, rfl, rfl, x_161, x_162, x_163, x_172, x_173, x11, f_157, hq9, hq8, (by first | omega | assumption | rfl | decide), (by first | omega | assumption | rfl | decide), (by first | omega | assumption | rfl | decide), (fun h9 => by omega), by rw [ht]; exact hP, va_K.moved hW.alike hK, hD⟩, hS.F ht⟩) hS.2.2 dX10_aLine_120
          · have tk_129 := c_ne (a := x_126.toInt) (b := 3) rfl (by decide) k_129
            refine lv_aload_n hx hb dX10_aLine_74 rfl (lv_at hl 1 rfl) ?_
            refine lv_iconst (v := 2) hx hb dX10_aLine_75 (by decide) ?_
            have lit_173 : (2 : Int32).toInt = 2 := by decide
            have hFc := m_free hD hS hA
            refine va_calli (va_runV (As := [.int 2]) (rest := []) ⟨hx, hb, hml, hown, hts⟩ (m_fails l dC dI ad kc x0 x1 x2 x3 x4 x_126 x_127 x_128 x8 x9 x10 x11 x12 x13 x14 x15 x16 x17 x18 x19 x20 x21 f0 f1 f2 f3 f4 f5 f6 f7 f8 f9 f10 f11 f12 f13 f14 f15 f16 f17 f18 f19 f20 f21 fL fN fP fM fO H.size 2 ) (cwV 1 hts mg_X10_aLinem_X10_fails_181 rfl rfl rfl (by decide +kernel) ⟨Nat.le_of_ble_eq_true rfl, Nat.le_of_ble_eq_true rfl⟩) ⟨fun a U g mk q => by obtain ⟨q0, q1, qP, qK, qD⟩ := q; exact ⟨q0, q1, qP, va_K.moved (u := U) (U := U.calling g mk a) (Vm.Alike.refl U.vm) qK, qD⟩, va_recv hK hP (ci := 10) (q0 := 0) rfl rfl, fun U hU hW => ⟨rfl, by rw [hU], by rw [hU]; exact hP, va_K.moved hW.alike hK, hD.weaken (fun _ _ _ _ => trivial)⟩⟩ rfl rfl hl.1 rfl (lv_room (Nat.le_of_ble_eq_true rfl)) dX10_aLine_76 ⟨Nat.le_of_ble_eq_true rfl, Nat.le_of_ble_eq_true rfl⟩) hS (fun q _ h => hFc q h) hFc (fun r_175 u t H1 locs ht hvm hw hB hz1 hk1 hS => ?_)
            subst hw
            obtain ⟨x_176, x_177, hr_175_0, hP, hK1, hD1⟩ := hB
            rw [ht] at hP
            have hD := hD1.weaken (fun k q _ h => hFc q.1 h)
            clear hz1 hk1 hFc hD1 hK1 hvm
            generalize H1 = H at hP hS ⊢
            have rg_x_176 := i_rng x_176
            have rg_x_177 := i_rng x_177
            have rg_r_175 := i_rng r_175
            have hP : va_P (dC, dI) vwCl (mW ad kc x0 x1 x2 x3 x4 x_126 x_127 x_128 x_176 x_177 x10 x11 x12 x13 x14 x15 x16 x17 x18 x19 x20 x21 f0 f1 f2 f3 f4 f5 f6 f7 f8 f9 f10 f11 f12 f13 f14 f15 f16 f17 f18 f19 f20 f21 fL fN fP fM fO) H := hP
            have hD : va_D A (mW ad kc x0 x1 x2 x3 x4 x_126 x_127 x_128 x_176 x_177 x10 x11 x12 x13 x14 x15 x16 x17 x18 x19 x20 x21 f0 f1 f2 f3 f4 f5 f6 f7 f8 f9 f10 f11 f12 f13 f14 f15 f16 f17 f18 f19 f20 f21 fL fN fP fM fO) := hD
            exact W.zret hx hb hr (z_nar (by first | assumption | decide | exact z_of (by omega))) (fun t ht hW => ⟨⟨_, _, rfl, rfl, x_126, x_127, x_128, x_176, x_177, x11, f0, q0, (fun _ _ => rfl), (by first | omega | assumption | rfl | decide), (by first | omega | assumption | rfl | decide), (by first | omega | assumption | rfl | decide), (fun h9 => by omega), by rw [ht]; exact hP, va_K.moved hW.alike hK, hD⟩, hS.F ht⟩) hS.2.2 dX10_aLine_79
        · have tk_124 := c_eq (a := y_122.toInt) (b := 8) rfl (by decide) k_124
          refine lv_aload_n hx hb dX10_aLine_56 rfl (lv_at hl 1 rfl) ?_
          refine lv_iconst (v := 3) hx hb dX10_aLine_57 (by decide) ?_
          have lit_177 : (3 : Int32).toInt = 3 := by decide
          have hFc := m_free hD hS hA
          refine va_calli (va_runV (As := [.int 3]) (rest := []) ⟨hx, hb, hml, hown, hts⟩ (m_fails l dC dI ad kc x0 x1 x2 x3 x4 x5 x6 x7 x8 x9 x10 x11 x12 x13 x14 x15 x16 x17 x18 x19 x20 x21 f0 f1 f2 f3 f4 f5 f6 f7 f8 f9 f10 f11 f12 f13 f14 f15 f16 f17 f18 f19 f20 f21 fL fN fP fM fO H.size 3 ) (cwV 1 hts mg_X10_aLinem_X10_fails_181 rfl rfl rfl (by decide +kernel) ⟨Nat.le_of_ble_eq_true rfl, Nat.le_of_ble_eq_true rfl⟩) ⟨fun a U g mk q => by obtain ⟨q0, q1, qP, qK, qD⟩ := q; exact ⟨q0, q1, qP, va_K.moved (u := U) (U := U.calling g mk a) (Vm.Alike.refl U.vm) qK, qD⟩, va_recv hK hP (ci := 10) (q0 := 0) rfl rfl, fun U hU hW => ⟨rfl, by rw [hU], by rw [hU]; exact hP, va_K.moved hW.alike hK, hD.weaken (fun _ _ _ _ => trivial)⟩⟩ rfl rfl hl.1 rfl (lv_room (Nat.le_of_ble_eq_true rfl)) dX10_aLine_58 ⟨Nat.le_of_ble_eq_true rfl, Nat.le_of_ble_eq_true rfl⟩) hS (fun q _ h => hFc q h) hFc (fun r_179 u t H1 locs ht hvm hw hB hz1 hk1 hS => ?_)
          subst hw
          obtain ⟨x_180, x_181, hr_179_0, hP, hK1, hD1⟩ := hB
          rw [ht] at hP
          have hD := hD1.weaken (fun k q _ h => hFc q.1 h)
          clear hz1 hk1 hFc hD1 hK1 hvm
          generalize H1 = H at hP hS ⊢
          have rg_x_180 := i_rng x_180
          have rg_x_181 := i_rng x_181
          have rg_r_179 := i_rng r_179
          have hP : va_P (dC, dI) vwCl (mW ad kc x0 x1 x2 x3 x4 x5 x6 x7 x_180 x_181 x10 x11 x12 x13 x14 x15 x16 x17 x18 x19 x20 x21 f0 f1 f2 f3 f4 f5 f6 f7 f8 f9 f10 f11 f12 f13 f14 f15 f16 f17 f18 f19 f20 f21 fL fN fP fM fO) H := hP
          have hD : va_D A (mW ad kc x0 x1 x2 x3 x4 x5 x6 x7 x_180 x_181 x10 x11 x12 x13 x14 x15 x16 x17 x18 x19 x20 x21 f0 f1 f2 f3 f4 f5 f6 f7 f8 f9 f10 f11 f12 f13 f14 f15 f16 f17 f18 f19 f20 f21 fL fN fP fM fO) := hD
          exact W.zret hx hb hr (z_nar (by first | assumption | decide | exact z_of (by omega))) (fun t ht hW => ⟨⟨_, _, rfl, rfl, x5, x6, x7, x_180, x_181, x11, f0, q0, (fun _ _ => rfl), (by first | omega | assumption | rfl | decide), (by first | omega | assumption | rfl | decide), (by first | omega | assumption | rfl | decide), (fun h9 => by omega), by rw [ht]; exact hP, va_K.moved hW.alike hK, hD⟩, hS.F ht⟩) hS.2.2 dX10_aLine_61
      · have tk_123 := c_ne (a := r_1.toInt) (b := 0) rfl (by decide) k_123
        refine lv_bipush (v := 10) hx hb dX10_aLine_46 (by decide) ?_
        refine lv_goto (tgt := 53) hx hb dX10_aLine_48 (by decide) ?_
        refine lv_icmp_ne (tgt := 62) hx hb dX10_aLine_53 (by decide) (fun k_182 => ?_) (fun k_182 => ?_)
        · have tk_182 := c_ne (a := y_122.toInt) (b := 10) rfl (by decide) k_182
          refine lv_aload_n hx hb dX10_aLine_62 rfl (lv_at hl 1 rfl) ?_
          have hFc := m_free hD hS hA
          refine va_callv (va_runV (As := []) (rest := []) ⟨hx, hb, hml, hown, hts⟩ (m_ahead l dC dI ad kc x0 x1 x2 x3 x4 x5 x6 x7 x8 x9 x10 x11 x12 x13 x14 x15 x16 x17 x18 x19 x20 x21 f0 f1 f2 f3 f4 f5 f6 f7 f8 f9 f10 f11 f12 f13 f14 f15 f16 f17 f18 f19 f20 f21 fL fN fP fM fO H.size (by first | omega | assumption | decide | (have l0 := Int32.toInt_zero; omega)) (by first | omega | assumption | decide | (have l0 := Int32.toInt_zero; omega)) (by first | omega | assumption | decide | (have l0 := Int32.toInt_zero; omega))) (cwV 0 hts mg_X10_aLinem_X10_ahead_184 rfl rfl rfl (by decide +kernel) ⟨Nat.le_of_ble_eq_true rfl, Nat.le_of_ble_eq_true rfl⟩) ⟨fun a U g mk q => by obtain ⟨q0, q1, qP, qK, qD⟩ := q; exact ⟨q0, q1, qP, va_K.moved (u := U) (U := U.calling g mk a) (Vm.Alike.refl U.vm) qK, qD⟩, va_recv hK hP (ci := 10) (q0 := 0) rfl rfl, fun U hU hW => ⟨rfl, by rw [hU], by rw [hU]; exact hP, va_K.moved hW.alike hK, hD.weaken (fun _ _ _ _ => trivial)⟩⟩ rfl rfl hl.1 rfl (lv_room (Nat.le_of_ble_eq_true rfl)) dX10_aLine_63 ⟨Nat.le_of_ble_eq_true rfl, Nat.le_of_ble_eq_true rfl⟩) hS (fun q _ h => hFc q h) hFc (fun u t H1 locs ht hvm hw hB hz1 hk1 hS => ?_)
          obtain ⟨x_184, x_185, x_186, hr_183_0, hr_183_1, hr_183_2, hr_183_3, hr_183_4, hP, hK1, hD1⟩ := hB
          rw [ht] at hP
          have hD := hD1.weaken (fun k q _ h => hFc q.1 h)
          clear hz1 hk1 hFc hD1 hK1 hvm
          generalize H1 = H at hP hS ⊢
          have rg_x_184 := i_rng x_184
          have rg_x_185 := i_rng x_185
          have rg_x_186 := i_rng x_186
          have hP : va_P (dC, dI) vwCl (mW ad kc x0 x1 x2 x3 x4 x_184 x_185 x_186 x8 x9 x10 x11 x12 x13 x14 x15 x16 x17 x18 x19 x20 x21 f0 f1 f2 f3 f4 f5 f6 f7 f8 f9 f10 f11 f12 f13 f14 f15 f16 f17 f18 f19 f20 f21 fL fN fP fM fO) H := hP
          have hD : va_D A (mW ad kc x0 x1 x2 x3 x4 x_184 x_185 x_186 x8 x9 x10 x11 x12 x13 x14 x15 x16 x17 x18 x19 x20 x21 f0 f1 f2 f3 f4 f5 f6 f7 f8 f9 f10 f11 f12 f13 f14 f15 f16 f17 f18 f19 f20 f21 fL fN fP fM fO) := hD
          refine lv_aload_n hx hb dX10_aLine_66 rfl (lv_at hl 1 rfl) ?_
          refine va_get (D := (dC, dI)) (ci := 10) (v := .int x_184) (C := RX10) (T := TX10) (N := 48) hx hb hts fin_X10_aLinem_X10 hown hK hP 0 rfl rfl 8 (by decide) (hts (.fieldLink RX10 120 "PatternGateModel" "token" "I") (List.mem_of_getElem? (i := 9) (by decide +kernel))) (fun _ h9 => h9) rfl dX10_aLine_67 ?_
          refine lv_iconst (v := 3) hx hb dX10_aLine_70 (by decide) ?_
          refine lv_icmp_eq (tgt := 80) hx hb dX10_aLine_71 (by decide) (fun k_187 => ?_) (fun k_187 => ?_)
          · have tk_187 := c_eq (a := x_184.toInt) (b := 3) rfl (by decide) k_187
            refine lv_iload_n hx hb dX10_aLine_80 rfl (lv_at hl 0 rfl) ?_
            refine lv_if_eq (tgt := 94) hx hb dX10_aLine_81 (by decide) (fun k_188 => ?_) (fun k_188 => ?_)
            · have tk_188 := c_eq (a := r_1.toInt) (b := 0) rfl (by decide) k_188
              refine lv_aload_n hx hb dX10_aLine_94 rfl (lv_at hl 1 rfl) ?_
              have hFc := m_free hD hS hA
              refine va_calli (va_runV (As := []) (rest := []) ⟨hx, hb, hml, hown, hts⟩ (m_patternQuote l dC dI ad kc x0 x1 x2 x3 x4 x_184 x_185 x_186 x8 x9 x10 x11 x12 x13 x14 x15 x16 x17 x18 x19 x20 x21 f0 f1 f2 f3 f4 f5 f6 f7 f8 f9 f10 f11 f12 f13 f14 f15 f16 f17 f18 f19 f20 f21 fL fN fP fM fO H.size (by first | omega | assumption | decide | (have l0 := Int32.toInt_zero; omega)) (by first | omega | assumption | decide | (have l0 := Int32.toInt_zero; omega)) (by first | omega | assumption | decide | (have l0 := Int32.toInt_zero; omega)) (by first | omega | assumption | decide | (have l0 := Int32.toInt_zero; omega)) (by first | omega | assumption | decide | (have l0 := Int32.toInt_zero; omega))) (cwV 0 hts mg_X10_aLinem_X10_patternQuote_190 rfl rfl rfl (by decide +kernel) ⟨Nat.le_of_ble_eq_true rfl, Nat.le_of_ble_eq_true rfl⟩) ⟨fun a U g mk q => by obtain ⟨q0, q1, qP, qK, qD⟩ := q; exact ⟨q0, q1, qP, va_K.moved (u := U) (U := U.calling g mk a) (Vm.Alike.refl U.vm) qK, qD⟩, va_recv hK hP (ci := 10) (q0 := 0) rfl rfl, fun U hU hW => ⟨rfl, by rw [hU], by rw [hU]; exact hP, va_K.moved hW.alike hK, hD.weaken (fun _ _ _ _ => trivial)⟩⟩ rfl rfl hl.1 rfl (lv_room (Nat.le_of_ble_eq_true rfl)) dX10_aLine_95 ⟨Nat.le_of_ble_eq_true rfl, Nat.le_of_ble_eq_true rfl⟩) hS (fun q _ h => hFc q h) hFc (fun r_189 u t H1 locs ht hvm hw hB hz1 hk1 hS => ?_)
              subst hw
              obtain ⟨x_190, x_191, x_192, x_193, f_194, hr_189_0, hr_189_1, hr_189_2, hr_189_3, hr_189_4, hP, hK1, hD1⟩ := hB
              rw [ht] at hP
              have hD := hD1.weaken (fun k q _ h => hFc q.1 h)
              clear hz1 hk1 hFc hD1 hK1 hvm
              generalize H1 = H at hP hS ⊢
              have rg_x_190 := i_rng x_190
              have rg_x_191 := i_rng x_191
              have rg_x_192 := i_rng x_192
              have rg_x_193 := i_rng x_193
              have rg_r_189 := i_rng r_189
              have hP : va_P (dC, dI) vwCl (mW ad kc x0 x1 x2 x3 x4 x_184 x_185 x_190 x_191 x_192 x10 x_193 x12 x13 x14 x15 x16 x17 x18 x19 x20 x21 f_194 f1 f2 f3 f4 f5 f6 f7 f8 f9 f10 f11 f12 f13 f14 f15 f16 f17 f18 f19 f20 f21 fL fN fP fM fO) H := hP
              have hD : va_D A (mW ad kc x0 x1 x2 x3 x4 x_184 x_185 x_190 x_191 x_192 x10 x_193 x12 x13 x14 x15 x16 x17 x18 x19 x20 x21 f_194 f1 f2 f3 f4 f5 f6 f7 f8 f9 f10 f11 f12 f13 f14 f15 f16 f17 f18 f19 f20 f21 fL fN fP fM fO) := hD
              have hq9 := hr_189_0
              have hq8 := hr_189_1
              refine lv_if_ne (tgt := 103) hx hb dX10_aLine_98 (by decide) (fun k_195 => ?_) (fun k_195 => ?_)
              · have tk_195 := c_ne (a := r_189.toInt) (b := 0) rfl (by decide) k_195
                refine lv_aload_n hx hb dX10_aLine_103 rfl (lv_at hl 1 rfl) ?_
                have hFc := m_free hD hS hA
                refine va_callv (va_runV (As := []) (rest := []) ⟨hx, hb, hml, hown, hts⟩ (m_ahead l dC dI ad kc x0 x1 x2 x3 x4 x_184 x_185 x_190 x_191 x_192 x10 x_193 x12 x13 x14 x15 x16 x17 x18 x19 x20 x21 f_194 f1 f2 f3 f4 f5 f6 f7 f8 f9 f10 f11 f12 f13 f14 f15 f16 f17 f18 f19 f20 f21 fL fN fP fM fO H.size (by first | omega | assumption | decide | (have l0 := Int32.toInt_zero; omega)) (by first | omega | assumption | decide | (have l0 := Int32.toInt_zero; omega)) (by first | omega | assumption | decide | (have l0 := Int32.toInt_zero; omega))) (cwV 0 hts mg_X10_aLinem_X10_ahead_184 rfl rfl rfl (by decide +kernel) ⟨Nat.le_of_ble_eq_true rfl, Nat.le_of_ble_eq_true rfl⟩) ⟨fun a U g mk q => by obtain ⟨q0, q1, qP, qK, qD⟩ := q; exact ⟨q0, q1, qP, va_K.moved (u := U) (U := U.calling g mk a) (Vm.Alike.refl U.vm) qK, qD⟩, va_recv hK hP (ci := 10) (q0 := 0) rfl rfl, fun U hU hW => ⟨rfl, by rw [hU], by rw [hU]; exact hP, va_K.moved hW.alike hK, hD.weaken (fun _ _ _ _ => trivial)⟩⟩ rfl rfl hl.1 rfl (lv_room (Nat.le_of_ble_eq_true rfl)) dX10_aLine_104 ⟨Nat.le_of_ble_eq_true rfl, Nat.le_of_ble_eq_true rfl⟩) hS (fun q _ h => hFc q h) hFc (fun u t H1 locs ht hvm hw hB hz1 hk1 hS => ?_)
                obtain ⟨x_197, x_198, x_199, hr_196_0, hr_196_1, hr_196_2, hr_196_3, hr_196_4, hP, hK1, hD1⟩ := hB
                rw [ht] at hP
                have hD := hD1.weaken (fun k q _ h => hFc q.1 h)
                clear hz1 hk1 hFc hD1 hK1 hvm
                generalize H1 = H at hP hS ⊢
                have rg_x_197 := i_rng x_197
                have rg_x_198 := i_rng x_198
                have rg_x_199 := i_rng x_199
                have hP : va_P (dC, dI) vwCl (mW ad kc x0 x1 x2 x3 x4 x_197 x_198 x_199 x_191 x_192 x10 x_193 x12 x13 x14 x15 x16 x17 x18 x19 x20 x21 f_194 f1 f2 f3 f4 f5 f6 f7 f8 f9 f10 f11 f12 f13 f14 f15 f16 f17 f18 f19 f20 f21 fL fN fP fM fO) H := hP
                have hD : va_D A (mW ad kc x0 x1 x2 x3 x4 x_197 x_198 x_199 x_191 x_192 x10 x_193 x12 x13 x14 x15 x16 x17 x18 x19 x20 x21 f_194 f1 f2 f3 f4 f5 f6 f7 f8 f9 f10 f11 f12 f13 f14 f15 f16 f17 f18 f19 f20 f21 fL fN fP fM fO) := hD
                refine lv_aload_n hx hb dX10_aLine_107 rfl (lv_at hl 1 rfl) ?_
                refine va_get (D := (dC, dI)) (ci := 10) (v := .int x_197) (C := RX10) (T := TX10) (N := 48) hx hb hts fin_X10_aLinem_X10 hown hK hP 0 rfl rfl 8 (by decide) (hts (.fieldLink RX10 120 "PatternGateModel" "token" "I") (List.mem_of_getElem? (i := 9) (by decide +kernel))) (fun _ h9 => h9) rfl dX10_aLine_108 ?_
                refine lv_iconst (v := 4) hx hb dX10_aLine_111 (by decide) ?_
                refine lv_icmp_eq (tgt := 121) hx hb dX10_aLine_112 (by decide) (fun k_200 => ?_) (fun k_200 => ?_)
                · have tk_200 := c_eq (a := x_197.toInt) (b := 4) rfl (by decide) k_200
                  refine lv_aload_n hx hb dX10_aLine_121 rfl (lv_at hl 1 rfl) ?_
                  have hFc := m_free hD hS hA
                  refine va_callv (va_runV (As := []) (rest := []) ⟨hx, hb, hml, hown, hts⟩ (m_ahead l dC dI ad kc x0 x1 x2 x3 x4 x_197 x_198 x_199 x_191 x_192 x10 x_193 x12 x13 x14 x15 x16 x17 x18 x19 x20 x21 f_194 f1 f2 f3 f4 f5 f6 f7 f8 f9 f10 f11 f12 f13 f14 f15 f16 f17 f18 f19 f20 f21 fL fN fP fM fO H.size (by first | omega | assumption | decide | (have l0 := Int32.toInt_zero; omega)) (by first | omega | assumption | decide | (have l0 := Int32.toInt_zero; omega)) (by first | omega | assumption | decide | (have l0 := Int32.toInt_zero; omega))) (cwV 0 hts mg_X10_aLinem_X10_ahead_184 rfl rfl rfl (by decide +kernel) ⟨Nat.le_of_ble_eq_true rfl, Nat.le_of_ble_eq_true rfl⟩) ⟨fun a U g mk q => by obtain ⟨q0, q1, qP, qK, qD⟩ := q; exact ⟨q0, q1, qP, va_K.moved (u := U) (U := U.calling g mk a) (Vm.Alike.refl U.vm) qK, qD⟩, va_recv hK hP (ci := 10) (q0 := 0) rfl rfl, fun U hU hW => ⟨rfl, by rw [hU], by rw [hU]; exact hP, va_K.moved hW.alike hK, hD.weaken (fun _ _ _ _ => trivial)⟩⟩ rfl rfl hl.1 rfl (lv_room (Nat.le_of_ble_eq_true rfl)) dX10_aLine_122 ⟨Nat.le_of_ble_eq_true rfl, Nat.le_of_ble_eq_true rfl⟩) hS (fun q _ h => hFc q h) hFc (fun u t H1 locs ht hvm hw hB hz1 hk1 hS => ?_)
                  obtain ⟨x_202, x_203, x_204, hr_201_0, hr_201_1, hr_201_2, hr_201_3, hr_201_4, hP, hK1, hD1⟩ := hB
                  rw [ht] at hP
                  have hD := hD1.weaken (fun k q _ h => hFc q.1 h)
                  clear hz1 hk1 hFc hD1 hK1 hvm
                  generalize H1 = H at hP hS ⊢
                  have rg_x_202 := i_rng x_202
                  have rg_x_203 := i_rng x_203
                  have rg_x_204 := i_rng x_204
                  have hP : va_P (dC, dI) vwCl (mW ad kc x0 x1 x2 x3 x4 x_202 x_203 x_204 x_191 x_192 x10 x_193 x12 x13 x14 x15 x16 x17 x18 x19 x20 x21 f_194 f1 f2 f3 f4 f5 f6 f7 f8 f9 f10 f11 f12 f13 f14 f15 f16 f17 f18 f19 f20 f21 fL fN fP fM fO) H := hP
                  have hD : va_D A (mW ad kc x0 x1 x2 x3 x4 x_202 x_203 x_204 x_191 x_192 x10 x_193 x12 x13 x14 x15 x16 x17 x18 x19 x20 x21 f_194 f1 f2 f3 f4 f5 f6 f7 f8 f9 f10 f11 f12 f13 f14 f15 f16 f17 f18 f19 f20 f21 fL fN fP fM fO) := hD
                  refine lv_iconst (v := 1) hx hb dX10_aLine_125 (by decide) ?_
                  have lit_204 : (1 : Int32).toInt = 1 := by decide
                  exact W.zret hx hb hr (z_nar (by first | assumption | decide | exact z_of (by omega))) (fun t ht hW => ⟨⟨_, _, rfl, rfl, x_202, x_203, x_204, x_191, x_192, x_193, f_194, hq9, hq8, (by first | omega | assumption | rfl | decide), (by first | omega | assumption | rfl | decide), (by first | omega | assumption | rfl | decide), (fun h9 => by omega), by rw [ht]; exact hP, va_K.moved hW.alike hK, hD⟩, hS.F ht⟩) hS.2.2 dX10_aLine_126
                · have tk_200 := c_ne (a := x_197.toInt) (b := 4) rfl (by decide) k_200
                  refine lv_aload_n hx hb dX10_aLine_115 rfl (lv_at hl 1 rfl) ?_
                  refine lv_iconst (v := 2) hx hb dX10_aLine_116 (by decide) ?_
                  have lit_205 : (2 : Int32).toInt = 2 := by decide
                  have hFc := m_free hD hS hA
                  refine va_calli (va_runV (As := [.int 2]) (rest := []) ⟨hx, hb, hml, hown, hts⟩ (m_fails l dC dI ad kc x0 x1 x2 x3 x4 x_197 x_198 x_199 x_191 x_192 x10 x_193 x12 x13 x14 x15 x16 x17 x18 x19 x20 x21 f_194 f1 f2 f3 f4 f5 f6 f7 f8 f9 f10 f11 f12 f13 f14 f15 f16 f17 f18 f19 f20 f21 fL fN fP fM fO H.size 2 ) (cwV 1 hts mg_X10_aLinem_X10_fails_181 rfl rfl rfl (by decide +kernel) ⟨Nat.le_of_ble_eq_true rfl, Nat.le_of_ble_eq_true rfl⟩) ⟨fun a U g mk q => by obtain ⟨q0, q1, qP, qK, qD⟩ := q; exact ⟨q0, q1, qP, va_K.moved (u := U) (U := U.calling g mk a) (Vm.Alike.refl U.vm) qK, qD⟩, va_recv hK hP (ci := 10) (q0 := 0) rfl rfl, fun U hU hW => ⟨rfl, by rw [hU], by rw [hU]; exact hP, va_K.moved hW.alike hK, hD.weaken (fun _ _ _ _ => trivial)⟩⟩ rfl rfl hl.1 rfl (lv_room (Nat.le_of_ble_eq_true rfl)) dX10_aLine_117 ⟨Nat.le_of_ble_eq_true rfl, Nat.le_of_ble_eq_true rfl⟩) hS (fun q _ h => hFc q h) hFc (fun r_207 u t H1 locs ht hvm hw hB hz1 hk1 hS => ?_)
                  subst hw
                  obtain ⟨x_208, x_209, hr_207_0, hP, hK1, hD1⟩ := hB
                  rw [ht] at hP
                  have hD := hD1.weaken (fun k q _ h => hFc q.1 h)
                  clear hz1 hk1 hFc hD1 hK1 hvm
                  generalize H1 = H at hP hS ⊢
                  have rg_x_208 := i_rng x_208
                  have rg_x_209 := i_rng x_209
                  have rg_r_207 := i_rng r_207
                  have hP : va_P (dC, dI) vwCl (mW ad kc x0 x1 x2 x3 x4 x_197 x_198 x_199 x_208 x_209 x10 x_193 x12 x13 x14 x15 x16 x17 x18 x19 x20 x21 f_194 f1 f2 f3 f4 f5 f6 f7 f8 f9 f10 f11 f12 f13 f14 f15 f16 f17 f18 f19 f20 f21 fL fN fP fM fO) H := hP
                  have hD : va_D A (mW ad kc x0 x1 x2 x3 x4 x_197 x_198 x_199 x_208 x_209 x10 x_193 x12 x13 x14 x15 x16 x17 x18 x19 x20 x21 f_194 f1 f2 f3 f4 f5 f6 f7 f8 f9 f10 f11 f12 f13 f14 f15 f16 f17 f18 f19 f20 f21 fL fN fP fM fO) := hD
                  exact W.zret hx hb hr (z_nar (by first | assumption | decide | exact z_of (by omega))) (fun t ht hW => ⟨⟨_, _, rfl, rfl, x_197, x_198, x_199, x_208, x_209, x_193, f_194, hq9, hq8, (by first | omega | assumption | rfl | decide), (by first | omega | assumption | rfl | decide), (by first | omega | assumption | rfl | decide), (fun h9 => by omega), by rw [ht]; exact hP, va_K.moved hW.alike hK, hD⟩, hS.F ht⟩) hS.2.2 dX10_aLine_120
              · have tk_195 := c_eq (a := r_189.toInt) (b := 0) rfl (by decide) k_195
                refine lv_iconst (v := 0) hx hb dX10_aLine_101 (by decide) ?_
                have lit_209 : (0 : Int32).toInt = 0 := by decide
                exact W.zret hx hb hr (z_nar (by first | assumption | decide | exact z_of (by omega))) (fun t ht hW => ⟨⟨_, _, rfl, rfl, x_184, x_185, x_190, x_191, x_192, x_193, f_194, hq9, hq8, (by first | omega | assumption | rfl | decide), (by first | omega | assumption | rfl | decide), (by first | omega | assumption | rfl | decide), (fun h9 => by omega), by rw [ht]; exact hP, va_K.moved hW.alike hK, hD⟩, hS.F ht⟩) hS.2.2 dX10_aLine_102
            · have tk_188 := c_ne (a := r_1.toInt) (b := 0) rfl (by decide) k_188
              refine lv_aload_n hx hb dX10_aLine_84 rfl (lv_at hl 1 rfl) ?_
              have hFc := m_free hD hS hA
              refine va_calli (va_runV (As := []) (rest := []) ⟨hx, hb, hml, hown, hts⟩ (m_docQuote l dC dI ad kc x0 x1 x2 x3 x4 x_184 x_185 x_186 x8 x9 x10 x11 x12 x13 x14 x15 x16 x17 x18 x19 x20 x21 f0 f1 f2 f3 f4 f5 f6 f7 f8 f9 f10 f11 f12 f13 f14 f15 f16 f17 f18 f19 f20 f21 fL fN fP fM fO H.size (by first | omega | assumption | decide | (have l0 := Int32.toInt_zero; omega)) (by first | omega | assumption | decide | (have l0 := Int32.toInt_zero; omega)) (by first | omega | assumption | decide | (have l0 := Int32.toInt_zero; omega)) (by first | omega | assumption | decide | (have l0 := Int32.toInt_zero; omega)) (by first | omega | assumption | decide | (have l0 := Int32.toInt_zero; omega))) (cwV 0 hts mg_X10_aLinem_X10_docQuote_187 rfl rfl rfl (by decide +kernel) ⟨Nat.le_of_ble_eq_true rfl, Nat.le_of_ble_eq_true rfl⟩) ⟨fun a U g mk q => by obtain ⟨q0, q1, qP, qK, qD⟩ := q; exact ⟨q0, q1, qP, va_K.moved (u := U) (U := U.calling g mk a) (Vm.Alike.refl U.vm) qK, qD⟩, va_recv hK hP (ci := 10) (q0 := 0) rfl rfl, fun U hU hW => ⟨rfl, by rw [hU], by rw [hU]; exact hP, va_K.moved hW.alike hK, hD.weaken (fun _ _ _ _ => trivial)⟩⟩ rfl rfl hl.1 rfl (lv_room (Nat.le_of_ble_eq_true rfl)) dX10_aLine_85 ⟨Nat.le_of_ble_eq_true rfl, Nat.le_of_ble_eq_true rfl⟩) hS (fun q _ h => hFc q h) hFc (fun r_211 u t H1 locs ht hvm hw hB hz1 hk1 hS => ?_)
              subst hw
              obtain ⟨x_212, x_213, x_214, f_215, hr_211_0, hr_211_1, hr_211_2, hr_211_3, hr_211_4, hP, hK1, hD1⟩ := hB
              rw [ht] at hP
              have hD := hD1.weaken (fun k q _ h => hFc q.1 h)
              clear hz1 hk1 hFc hD1 hK1 hvm
              generalize H1 = H at hP hS ⊢
              have rg_x_212 := i_rng x_212
              have rg_x_213 := i_rng x_213
              have rg_x_214 := i_rng x_214
              have rg_r_211 := i_rng r_211
              have hP : va_P (dC, dI) vwCl (mW ad kc x0 x1 x2 x3 x4 x_184 x_185 x_212 x_213 x_214 x10 x11 x12 x13 x14 x15 x16 x17 x18 x19 x20 x21 f_215 f1 f2 f3 f4 f5 f6 f7 f8 f9 f10 f11 f12 f13 f14 f15 f16 f17 f18 f19 f20 f21 fL fN fP fM fO) H := hP
              have hD : va_D A (mW ad kc x0 x1 x2 x3 x4 x_184 x_185 x_212 x_213 x_214 x10 x11 x12 x13 x14 x15 x16 x17 x18 x19 x20 x21 f_215 f1 f2 f3 f4 f5 f6 f7 f8 f9 f10 f11 f12 f13 f14 f15 f16 f17 f18 f19 f20 f21 fL fN fP fM fO) := hD
              have hq9 := hr_211_0
              have hq8 := hr_211_1
              refine lv_if_eq (tgt := 101) hx hb dX10_aLine_88 (by decide) (fun k_216 => ?_) (fun k_216 => ?_)
              · have tk_216 := c_eq (a := r_211.toInt) (b := 0) rfl (by decide) k_216
                refine lv_iconst (v := 0) hx hb dX10_aLine_101 (by decide) ?_
                have lit_216 : (0 : Int32).toInt = 0 := by decide
                exact W.zret hx hb hr (z_nar (by first | assumption | decide | exact z_of (by omega))) (fun t ht hW => ⟨⟨_, _, rfl, rfl, x_184, x_185, x_212, x_213, x_214, x11, f_215, hq9, hq8, (by first | omega | assumption | rfl | decide), (by first | omega | assumption | rfl | decide), (by first | omega | assumption | rfl | decide), (fun h9 => by omega), by rw [ht]; exact hP, va_K.moved hW.alike hK, hD⟩, hS.F ht⟩) hS.2.2 dX10_aLine_102
              · have tk_216 := c_ne (a := r_211.toInt) (b := 0) rfl (by decide) k_216
                refine lv_goto (tgt := 103) hx hb dX10_aLine_91 (by decide) ?_
                refine lv_aload_n hx hb dX10_aLine_103 rfl (lv_at hl 1 rfl) ?_
                have hFc := m_free hD hS hA
                refine va_callv (va_runV (As := []) (rest := []) ⟨hx, hb, hml, hown, hts⟩ (m_ahead l dC dI ad kc x0 x1 x2 x3 x4 x_184 x_185 x_212 x_213 x_214 x10 x11 x12 x13 x14 x15 x16 x17 x18 x19 x20 x21 f_215 f1 f2 f3 f4 f5 f6 f7 f8 f9 f10 f11 f12 f13 f14 f15 f16 f17 f18 f19 f20 f21 fL fN fP fM fO H.size (by first | omega | assumption | decide | (have l0 := Int32.toInt_zero; omega)) (by first | omega | assumption | decide | (have l0 := Int32.toInt_zero; omega)) (by first | omega | assumption | decide | (have l0 := Int32.toInt_zero; omega))) (cwV 0 hts mg_X10_aLinem_X10_ahead_184 rfl rfl rfl (by decide +kernel) ⟨Nat.le_of_ble_eq_true rfl, Nat.le_of_ble_eq_true rfl⟩) ⟨fun a U g mk q => by obtain ⟨q0, q1, qP, qK, qD⟩ := q; exact ⟨q0, q1, qP, va_K.moved (u := U) (U := U.calling g mk a) (Vm.Alike.refl U.vm) qK, qD⟩, va_recv hK hP (ci := 10) (q0 := 0) rfl rfl, fun U hU hW => ⟨rfl, by rw [hU], by rw [hU]; exact hP, va_K.moved hW.alike hK, hD.weaken (fun _ _ _ _ => trivial)⟩⟩ rfl rfl hl.1 rfl (lv_room (Nat.le_of_ble_eq_true rfl)) dX10_aLine_104 ⟨Nat.le_of_ble_eq_true rfl, Nat.le_of_ble_eq_true rfl⟩) hS (fun q _ h => hFc q h) hFc (fun u t H1 locs ht hvm hw hB hz1 hk1 hS => ?_)
                obtain ⟨x_219, x_220, x_221, hr_218_0, hr_218_1, hr_218_2, hr_218_3, hr_218_4, hP, hK1, hD1⟩ := hB
                rw [ht] at hP
                have hD := hD1.weaken (fun k q _ h => hFc q.1 h)
                clear hz1 hk1 hFc hD1 hK1 hvm
                generalize H1 = H at hP hS ⊢
                have rg_x_219 := i_rng x_219
                have rg_x_220 := i_rng x_220
                have rg_x_221 := i_rng x_221
                have hP : va_P (dC, dI) vwCl (mW ad kc x0 x1 x2 x3 x4 x_219 x_220 x_221 x_213 x_214 x10 x11 x12 x13 x14 x15 x16 x17 x18 x19 x20 x21 f_215 f1 f2 f3 f4 f5 f6 f7 f8 f9 f10 f11 f12 f13 f14 f15 f16 f17 f18 f19 f20 f21 fL fN fP fM fO) H := hP
                have hD : va_D A (mW ad kc x0 x1 x2 x3 x4 x_219 x_220 x_221 x_213 x_214 x10 x11 x12 x13 x14 x15 x16 x17 x18 x19 x20 x21 f_215 f1 f2 f3 f4 f5 f6 f7 f8 f9 f10 f11 f12 f13 f14 f15 f16 f17 f18 f19 f20 f21 fL fN fP fM fO) := hD
                refine lv_aload_n hx hb dX10_aLine_107 rfl (lv_at hl 1 rfl) ?_
                refine va_get (D := (dC, dI)) (ci := 10) (v := .int x_219) (C := RX10) (T := TX10) (N := 48) hx hb hts fin_X10_aLinem_X10 hown hK hP 0 rfl rfl 8 (by decide) (hts (.fieldLink RX10 120 "PatternGateModel" "token" "I") (List.mem_of_getElem? (i := 9) (by decide +kernel))) (fun _ h9 => h9) rfl dX10_aLine_108 ?_
                refine lv_iconst (v := 4) hx hb dX10_aLine_111 (by decide) ?_
                refine lv_icmp_eq (tgt := 121) hx hb dX10_aLine_112 (by decide) (fun k_222 => ?_) (fun k_222 => ?_)
                · have tk_222 := c_eq (a := x_219.toInt) (b := 4) rfl (by decide) k_222
                  refine lv_aload_n hx hb dX10_aLine_121 rfl (lv_at hl 1 rfl) ?_
                  have hFc := m_free hD hS hA
                  refine va_callv (va_runV (As := []) (rest := []) ⟨hx, hb, hml, hown, hts⟩ (m_ahead l dC dI ad kc x0 x1 x2 x3 x4 x_219 x_220 x_221 x_213 x_214 x10 x11 x12 x13 x14 x15 x16 x17 x18 x19 x20 x21 f_215 f1 f2 f3 f4 f5 f6 f7 f8 f9 f10 f11 f12 f13 f14 f15 f16 f17 f18 f19 f20 f21 fL fN fP fM fO H.size (by first | omega | assumption | decide | (have l0 := Int32.toInt_zero; omega)) (by first | omega | assumption | decide | (have l0 := Int32.toInt_zero; omega)) (by first | omega | assumption | decide | (have l0 := Int32.toInt_zero; omega))) (cwV 0 hts mg_X10_aLinem_X10_ahead_184 rfl rfl rfl (by decide +kernel) ⟨Nat.le_of_ble_eq_true rfl, Nat.le_of_ble_eq_true rfl⟩) ⟨fun a U g mk q => by obtain ⟨q0, q1, qP, qK, qD⟩ := q; exact ⟨q0, q1, qP, va_K.moved (u := U) (U := U.calling g mk a) (Vm.Alike.refl U.vm) qK, qD⟩, va_recv hK hP (ci := 10) (q0 := 0) rfl rfl, fun U hU hW => ⟨rfl, by rw [hU], by rw [hU]; exact hP, va_K.moved hW.alike hK, hD.weaken (fun _ _ _ _ => trivial)⟩⟩ rfl rfl hl.1 rfl (lv_room (Nat.le_of_ble_eq_true rfl)) dX10_aLine_122 ⟨Nat.le_of_ble_eq_true rfl, Nat.le_of_ble_eq_true rfl⟩) hS (fun q _ h => hFc q h) hFc (fun u t H1 locs ht hvm hw hB hz1 hk1 hS => ?_)
                  obtain ⟨x_224, x_225, x_226, hr_223_0, hr_223_1, hr_223_2, hr_223_3, hr_223_4, hP, hK1, hD1⟩ := hB
                  rw [ht] at hP
                  have hD := hD1.weaken (fun k q _ h => hFc q.1 h)
                  clear hz1 hk1 hFc hD1 hK1 hvm
                  generalize H1 = H at hP hS ⊢
                  have rg_x_224 := i_rng x_224
                  have rg_x_225 := i_rng x_225
                  have rg_x_226 := i_rng x_226
                  have hP : va_P (dC, dI) vwCl (mW ad kc x0 x1 x2 x3 x4 x_224 x_225 x_226 x_213 x_214 x10 x11 x12 x13 x14 x15 x16 x17 x18 x19 x20 x21 f_215 f1 f2 f3 f4 f5 f6 f7 f8 f9 f10 f11 f12 f13 f14 f15 f16 f17 f18 f19 f20 f21 fL fN fP fM fO) H := hP
                  have hD : va_D A (mW ad kc x0 x1 x2 x3 x4 x_224 x_225 x_226 x_213 x_214 x10 x11 x12 x13 x14 x15 x16 x17 x18 x19 x20 x21 f_215 f1 f2 f3 f4 f5 f6 f7 f8 f9 f10 f11 f12 f13 f14 f15 f16 f17 f18 f19 f20 f21 fL fN fP fM fO) := hD
                  refine lv_iconst (v := 1) hx hb dX10_aLine_125 (by decide) ?_
                  have lit_226 : (1 : Int32).toInt = 1 := by decide
                  exact W.zret hx hb hr (z_nar (by first | assumption | decide | exact z_of (by omega))) (fun t ht hW => ⟨⟨_, _, rfl, rfl, x_224, x_225, x_226, x_213, x_214, x11, f_215, hq9, hq8, (by first | omega | assumption | rfl | decide), (by first | omega | assumption | rfl | decide), (by first | omega | assumption | rfl | decide), (fun h9 => by omega), by rw [ht]; exact hP, va_K.moved hW.alike hK, hD⟩, hS.F ht⟩) hS.2.2 dX10_aLine_126
                · have tk_222 := c_ne (a := x_219.toInt) (b := 4) rfl (by decide) k_222
                  refine lv_aload_n hx hb dX10_aLine_115 rfl (lv_at hl 1 rfl) ?_
                  refine lv_iconst (v := 2) hx hb dX10_aLine_116 (by decide) ?_
                  have lit_227 : (2 : Int32).toInt = 2 := by decide
                  have hFc := m_free hD hS hA
                  refine va_calli (va_runV (As := [.int 2]) (rest := []) ⟨hx, hb, hml, hown, hts⟩ (m_fails l dC dI ad kc x0 x1 x2 x3 x4 x_219 x_220 x_221 x_213 x_214 x10 x11 x12 x13 x14 x15 x16 x17 x18 x19 x20 x21 f_215 f1 f2 f3 f4 f5 f6 f7 f8 f9 f10 f11 f12 f13 f14 f15 f16 f17 f18 f19 f20 f21 fL fN fP fM fO H.size 2 ) (cwV 1 hts mg_X10_aLinem_X10_fails_181 rfl rfl rfl (by decide +kernel) ⟨Nat.le_of_ble_eq_true rfl, Nat.le_of_ble_eq_true rfl⟩) ⟨fun a U g mk q => by obtain ⟨q0, q1, qP, qK, qD⟩ := q; exact ⟨q0, q1, qP, va_K.moved (u := U) (U := U.calling g mk a) (Vm.Alike.refl U.vm) qK, qD⟩, va_recv hK hP (ci := 10) (q0 := 0) rfl rfl, fun U hU hW => ⟨rfl, by rw [hU], by rw [hU]; exact hP, va_K.moved hW.alike hK, hD.weaken (fun _ _ _ _ => trivial)⟩⟩ rfl rfl hl.1 rfl (lv_room (Nat.le_of_ble_eq_true rfl)) dX10_aLine_117 ⟨Nat.le_of_ble_eq_true rfl, Nat.le_of_ble_eq_true rfl⟩) hS (fun q _ h => hFc q h) hFc (fun r_229 u t H1 locs ht hvm hw hB hz1 hk1 hS => ?_)
                  subst hw
                  obtain ⟨x_230, x_231, hr_229_0, hP, hK1, hD1⟩ := hB
                  rw [ht] at hP
                  have hD := hD1.weaken (fun k q _ h => hFc q.1 h)
                  clear hz1 hk1 hFc hD1 hK1 hvm
                  generalize H1 = H at hP hS ⊢
                  have rg_x_230 := i_rng x_230
                  have rg_x_231 := i_rng x_231
                  have rg_r_229 := i_rng r_229
                  have hP : va_P (dC, dI) vwCl (mW ad kc x0 x1 x2 x3 x4 x_219 x_220 x_221 x_230 x_231 x10 x11 x12 x13 x14 x15 x16 x17 x18 x19 x20 x21 f_215 f1 f2 f3 f4 f5 f6 f7 f8 f9 f10 f11 f12 f13 f14 f15 f16 f17 f18 f19 f20 f21 fL fN fP fM fO) H := hP
                  have hD : va_D A (mW ad kc x0 x1 x2 x3 x4 x_219 x_220 x_221 x_230 x_231 x10 x11 x12 x13 x14 x15 x16 x17 x18 x19 x20 x21 f_215 f1 f2 f3 f4 f5 f6 f7 f8 f9 f10 f11 f12 f13 f14 f15 f16 f17 f18 f19 f20 f21 fL fN fP fM fO) := hD
                  exact W.zret hx hb hr (z_nar (by first | assumption | decide | exact z_of (by omega))) (fun t ht hW => ⟨⟨_, _, rfl, rfl, x_219, x_220, x_221, x_230, x_231, x11, f_215, hq9, hq8, (by first | omega | assumption | rfl | decide), (by first | omega | assumption | rfl | decide), (by first | omega | assumption | rfl | decide), (fun h9 => by omega), by rw [ht]; exact hP, va_K.moved hW.alike hK, hD⟩, hS.F ht⟩) hS.2.2 dX10_aLine_120
          · have tk_187 := c_ne (a := x_184.toInt) (b := 3) rfl (by decide) k_187
            refine lv_aload_n hx hb dX10_aLine_74 rfl (lv_at hl 1 rfl) ?_
            refine lv_iconst (v := 2) hx hb dX10_aLine_75 (by decide) ?_
            have lit_231 : (2 : Int32).toInt = 2 := by decide
            have hFc := m_free hD hS hA
            refine va_calli (va_runV (As := [.int 2]) (rest := []) ⟨hx, hb, hml, hown, hts⟩ (m_fails l dC dI ad kc x0 x1 x2 x3 x4 x_184 x_185 x_186 x8 x9 x10 x11 x12 x13 x14 x15 x16 x17 x18 x19 x20 x21 f0 f1 f2 f3 f4 f5 f6 f7 f8 f9 f10 f11 f12 f13 f14 f15 f16 f17 f18 f19 f20 f21 fL fN fP fM fO H.size 2 ) (cwV 1 hts mg_X10_aLinem_X10_fails_181 rfl rfl rfl (by decide +kernel) ⟨Nat.le_of_ble_eq_true rfl, Nat.le_of_ble_eq_true rfl⟩) ⟨fun a U g mk q => by obtain ⟨q0, q1, qP, qK, qD⟩ := q; exact ⟨q0, q1, qP, va_K.moved (u := U) (U := U.calling g mk a) (Vm.Alike.refl U.vm) qK, qD⟩, va_recv hK hP (ci := 10) (q0 := 0) rfl rfl, fun U hU hW => ⟨rfl, by rw [hU], by rw [hU]; exact hP, va_K.moved hW.alike hK, hD.weaken (fun _ _ _ _ => trivial)⟩⟩ rfl rfl hl.1 rfl (lv_room (Nat.le_of_ble_eq_true rfl)) dX10_aLine_76 ⟨Nat.le_of_ble_eq_true rfl, Nat.le_of_ble_eq_true rfl⟩) hS (fun q _ h => hFc q h) hFc (fun r_233 u t H1 locs ht hvm hw hB hz1 hk1 hS => ?_)
            subst hw
            obtain ⟨x_234, x_235, hr_233_0, hP, hK1, hD1⟩ := hB
            rw [ht] at hP
            have hD := hD1.weaken (fun k q _ h => hFc q.1 h)
            clear hz1 hk1 hFc hD1 hK1 hvm
            generalize H1 = H at hP hS ⊢
            have rg_x_234 := i_rng x_234
            have rg_x_235 := i_rng x_235
            have rg_r_233 := i_rng r_233
            have hP : va_P (dC, dI) vwCl (mW ad kc x0 x1 x2 x3 x4 x_184 x_185 x_186 x_234 x_235 x10 x11 x12 x13 x14 x15 x16 x17 x18 x19 x20 x21 f0 f1 f2 f3 f4 f5 f6 f7 f8 f9 f10 f11 f12 f13 f14 f15 f16 f17 f18 f19 f20 f21 fL fN fP fM fO) H := hP
            have hD : va_D A (mW ad kc x0 x1 x2 x3 x4 x_184 x_185 x_186 x_234 x_235 x10 x11 x12 x13 x14 x15 x16 x17 x18 x19 x20 x21 f0 f1 f2 f3 f4 f5 f6 f7 f8 f9 f10 f11 f12 f13 f14 f15 f16 f17 f18 f19 f20 f21 fL fN fP fM fO) := hD
            exact W.zret hx hb hr (z_nar (by first | assumption | decide | exact z_of (by omega))) (fun t ht hW => ⟨⟨_, _, rfl, rfl, x_184, x_185, x_186, x_234, x_235, x11, f0, q0, (fun _ _ => rfl), (by first | omega | assumption | rfl | decide), (by first | omega | assumption | rfl | decide), (by first | omega | assumption | rfl | decide), (fun h9 => by omega), by rw [ht]; exact hP, va_K.moved hW.alike hK, hD⟩, hS.F ht⟩) hS.2.2 dX10_aLine_79
        · have tk_182 := c_eq (a := y_122.toInt) (b := 10) rfl (by decide) k_182
          refine lv_aload_n hx hb dX10_aLine_56 rfl (lv_at hl 1 rfl) ?_
          refine lv_iconst (v := 3) hx hb dX10_aLine_57 (by decide) ?_
          have lit_235 : (3 : Int32).toInt = 3 := by decide
          have hFc := m_free hD hS hA
          refine va_calli (va_runV (As := [.int 3]) (rest := []) ⟨hx, hb, hml, hown, hts⟩ (m_fails l dC dI ad kc x0 x1 x2 x3 x4 x5 x6 x7 x8 x9 x10 x11 x12 x13 x14 x15 x16 x17 x18 x19 x20 x21 f0 f1 f2 f3 f4 f5 f6 f7 f8 f9 f10 f11 f12 f13 f14 f15 f16 f17 f18 f19 f20 f21 fL fN fP fM fO H.size 3 ) (cwV 1 hts mg_X10_aLinem_X10_fails_181 rfl rfl rfl (by decide +kernel) ⟨Nat.le_of_ble_eq_true rfl, Nat.le_of_ble_eq_true rfl⟩) ⟨fun a U g mk q => by obtain ⟨q0, q1, qP, qK, qD⟩ := q; exact ⟨q0, q1, qP, va_K.moved (u := U) (U := U.calling g mk a) (Vm.Alike.refl U.vm) qK, qD⟩, va_recv hK hP (ci := 10) (q0 := 0) rfl rfl, fun U hU hW => ⟨rfl, by rw [hU], by rw [hU]; exact hP, va_K.moved hW.alike hK, hD.weaken (fun _ _ _ _ => trivial)⟩⟩ rfl rfl hl.1 rfl (lv_room (Nat.le_of_ble_eq_true rfl)) dX10_aLine_58 ⟨Nat.le_of_ble_eq_true rfl, Nat.le_of_ble_eq_true rfl⟩) hS (fun q _ h => hFc q h) hFc (fun r_237 u t H1 locs ht hvm hw hB hz1 hk1 hS => ?_)
          subst hw
          obtain ⟨x_238, x_239, hr_237_0, hP, hK1, hD1⟩ := hB
          rw [ht] at hP
          have hD := hD1.weaken (fun k q _ h => hFc q.1 h)
          clear hz1 hk1 hFc hD1 hK1 hvm
          generalize H1 = H at hP hS ⊢
          have rg_x_238 := i_rng x_238
          have rg_x_239 := i_rng x_239
          have rg_r_237 := i_rng r_237
          have hP : va_P (dC, dI) vwCl (mW ad kc x0 x1 x2 x3 x4 x5 x6 x7 x_238 x_239 x10 x11 x12 x13 x14 x15 x16 x17 x18 x19 x20 x21 f0 f1 f2 f3 f4 f5 f6 f7 f8 f9 f10 f11 f12 f13 f14 f15 f16 f17 f18 f19 f20 f21 fL fN fP fM fO) H := hP
          have hD : va_D A (mW ad kc x0 x1 x2 x3 x4 x5 x6 x7 x_238 x_239 x10 x11 x12 x13 x14 x15 x16 x17 x18 x19 x20 x21 f0 f1 f2 f3 f4 f5 f6 f7 f8 f9 f10 f11 f12 f13 f14 f15 f16 f17 f18 f19 f20 f21 fL fN fP fM fO) := hD
          exact W.zret hx hb hr (z_nar (by first | assumption | decide | exact z_of (by omega))) (fun t ht hW => ⟨⟨_, _, rfl, rfl, x5, x6, x7, x_238, x_239, x11, f0, q0, (fun _ _ => rfl), (by first | omega | assumption | rfl | decide), (by first | omega | assumption | rfl | decide), (by first | omega | assumption | rfl | decide), (fun h9 => by omega), by rw [ht]; exact hP, va_K.moved hW.alike hK, hD⟩, hS.F ht⟩) hS.2.2 dX10_aLine_61
  · have tk_2 := c_eq (a := r_1.toInt) (b := 0) rfl (by decide) k_2
    refine lv_aload_n hx hb dX10_aLine_11 rfl (lv_at hl 1 rfl) ?_
    refine va_ldcS hx hb hown hR179 dX10_aLine_12 ?_
    have hFc := m_free hD hS hA
    refine va_calli (va_runV (As := [.ref qp]) (rest := []) ⟨hx, hb, hml, hown, hts⟩ (m_isWord l dC dI ad kc x0 x1 x2 x3 x4 x5 x6 x7 x8 x9 x10 x11 x12 x13 x14 x15 x16 x17 x18 x19 x20 x21 f0 f1 f2 f3 f4 f5 f6 f7 f8 f9 f10 f11 f12 f13 f14 f15 f16 f17 f18 f19 f20 f21 fL fN fP fM fO H.size qp 7 (by first | omega | assumption | decide | (have l0 := Int32.toInt_zero; omega)) (by first | omega | assumption | decide | (have l0 := Int32.toInt_zero; omega)) (by first | omega | assumption | decide | (have l0 := Int32.toInt_zero; omega))) (cwV 1 hts mg_X10_aLinem_X10_isWord_175 rfl rfl rfl (by decide +kernel) ⟨Nat.le_of_ble_eq_true rfl, Nat.le_of_ble_eq_true rfl⟩) ⟨fun a U g mk q => by obtain ⟨q0, q1, qP, qK, qD, qE0, qE1⟩ := q; exact ⟨q0, q1, qP, va_K.moved (u := U) (U := U.calling g mk a) (Vm.Alike.refl U.vm) qK, qD, sX.moved (u := U) (U := U.calling g mk a) (Vm.Alike.refl U.vm) qE0, sC.moved (u := U) (U := U.calling g mk a) (Vm.Alike.refl U.vm) qE1⟩, va_recv hK hP (ci := 10) (q0 := 0) rfl rfl, fun U hU hW => ⟨rfl, by rw [hU], by rw [hU]; exact hP, va_K.moved hW.alike hK, hD.weaken (fun _ _ _ _ => trivial), sX.to hXp hS hFc hW hU, sC.to hC9 hS hFc hW hU⟩⟩ rfl rfl hl.1 rfl (lv_room (Nat.le_of_ble_eq_true rfl)) dX10_aLine_14 ⟨Nat.le_of_ble_eq_true rfl, Nat.le_of_ble_eq_true rfl⟩) hS (fun q _ h => hFc q h) hFc (fun r_240 u t H1 locs ht hvm hw hB hz1 hk1 hS => ?_)
    subst hw
    obtain ⟨hr_240_0, hP, hK1, hD1⟩ := hB
    rw [ht] at hP
    have hD := hD1.weaken (fun k q _ h => hFc q.1 h)
    clear hz1 hk1 hFc hD1 hK1 hvm
    generalize H1 = H at hP hS ⊢
    have rg_r_240 := i_rng r_240
    have hP : va_P (dC, dI) vwCl (mW ad kc x0 x1 x2 x3 x4 x5 x6 x7 x8 x9 x10 x11 x12 x13 x14 x15 x16 x17 x18 x19 x20 x21 f0 f1 f2 f3 f4 f5 f6 f7 f8 f9 f10 f11 f12 f13 f14 f15 f16 f17 f18 f19 f20 f21 fL fN fP fM fO) H := hP
    have hD : va_D A (mW ad kc x0 x1 x2 x3 x4 x5 x6 x7 x8 x9 x10 x11 x12 x13 x14 x15 x16 x17 x18 x19 x20 x21 f0 f1 f2 f3 f4 f5 f6 f7 f8 f9 f10 f11 f12 f13 f14 f15 f16 f17 f18 f19 f20 f21 fL fN fP fM fO) := hD
    refine lv_if_ne (tgt := 26) hx hb dX10_aLine_17 (by decide) (fun k_241 => ?_) (fun k_241 => ?_)
    · have tk_241 := c_ne (a := r_240.toInt) (b := 0) rfl (by decide) k_241
      refine lv_aload_n hx hb dX10_aLine_26 rfl (lv_at hl 1 rfl) ?_
      refine va_get (D := (dC, dI)) (ci := 10) (v := .ref (ad 1)) (C := RX10) (T := TX10) (N := 48) hx hb hts fin_X10_aLinem_X10 hown hK hP 0 rfl rfl 0 (by decide) (hts (.fieldLink RX10 8 "PatternGateModel" "all" "[I") (List.mem_of_getElem? (i := 5) (by decide +kernel))) (fun _ h9 => h9) rfl dX10_aLine_27 ?_
      refine lv_iload_n hx hb dX10_aLine_30 rfl (lv_at hl 0 rfl) ?_
      refine lv_if_eq (tgt := 38) hx hb dX10_aLine_31 (by decide) (fun k_242 => ?_) (fun k_242 => ?_)
      · have tk_242 := c_eq (a := r_1.toInt) (b := 0) rfl (by decide) k_242
        refine lv_sipush (v := 611) hx hb dX10_aLine_38 (by decide) ?_
        refine va_iald hx hb hK hP 1 0 rfl rfl (i := 611) (by unfold vp_in; decide +kernel) dX10_aLine_41 ?_
        refine lv_topi (fun y_243 ey_243 => ?_)
        have rg_y_243 := i_rng y_243
        have vy_243 := vI_lda (f := f0) (i := 611) (a := 611) ey_243 (by first | omega | decide)
        have rg_y_243 := i_rng y_243
        refine lv_iload_n hx hb dX10_aLine_42 rfl (lv_at hl 0 rfl) ?_
        refine lv_if_eq (tgt := 51) hx hb dX10_aLine_43 (by decide) (fun k_244 => ?_) (fun k_244 => ?_)
        · have tk_244 := c_eq (a := r_1.toInt) (b := 0) rfl (by decide) k_244
          refine lv_bipush (v := 8) hx hb dX10_aLine_51 (by decide) ?_
          refine lv_icmp_ne (tgt := 62) hx hb dX10_aLine_53 (by decide) (fun k_245 => ?_) (fun k_245 => ?_)
          · have tk_245 := c_ne (a := y_243.toInt) (b := 8) rfl (by decide) k_245
            refine lv_aload_n hx hb dX10_aLine_62 rfl (lv_at hl 1 rfl) ?_
            have hFc := m_free hD hS hA
            refine va_callv (va_runV (As := []) (rest := []) ⟨hx, hb, hml, hown, hts⟩ (m_ahead l dC dI ad kc x0 x1 x2 x3 x4 x5 x6 x7 x8 x9 x10 x11 x12 x13 x14 x15 x16 x17 x18 x19 x20 x21 f0 f1 f2 f3 f4 f5 f6 f7 f8 f9 f10 f11 f12 f13 f14 f15 f16 f17 f18 f19 f20 f21 fL fN fP fM fO H.size (by first | omega | assumption | decide | (have l0 := Int32.toInt_zero; omega)) (by first | omega | assumption | decide | (have l0 := Int32.toInt_zero; omega)) (by first | omega | assumption | decide | (have l0 := Int32.toInt_zero; omega))) (cwV 0 hts mg_X10_aLinem_X10_ahead_184 rfl rfl rfl (by decide +kernel) ⟨Nat.le_of_ble_eq_true rfl, Nat.le_of_ble_eq_true rfl⟩) ⟨fun a U g mk q => by obtain ⟨q0, q1, qP, qK, qD⟩ := q; exact ⟨q0, q1, qP, va_K.moved (u := U) (U := U.calling g mk a) (Vm.Alike.refl U.vm) qK, qD⟩, va_recv hK hP (ci := 10) (q0 := 0) rfl rfl, fun U hU hW => ⟨rfl, by rw [hU], by rw [hU]; exact hP, va_K.moved hW.alike hK, hD.weaken (fun _ _ _ _ => trivial)⟩⟩ rfl rfl hl.1 rfl (lv_room (Nat.le_of_ble_eq_true rfl)) dX10_aLine_63 ⟨Nat.le_of_ble_eq_true rfl, Nat.le_of_ble_eq_true rfl⟩) hS (fun q _ h => hFc q h) hFc (fun u t H1 locs ht hvm hw hB hz1 hk1 hS => ?_)
            obtain ⟨x_247, x_248, x_249, hr_246_0, hr_246_1, hr_246_2, hr_246_3, hr_246_4, hP, hK1, hD1⟩ := hB
            rw [ht] at hP
            have hD := hD1.weaken (fun k q _ h => hFc q.1 h)
            clear hz1 hk1 hFc hD1 hK1 hvm
            generalize H1 = H at hP hS ⊢
            have rg_x_247 := i_rng x_247
            have rg_x_248 := i_rng x_248
            have rg_x_249 := i_rng x_249
            have hP : va_P (dC, dI) vwCl (mW ad kc x0 x1 x2 x3 x4 x_247 x_248 x_249 x8 x9 x10 x11 x12 x13 x14 x15 x16 x17 x18 x19 x20 x21 f0 f1 f2 f3 f4 f5 f6 f7 f8 f9 f10 f11 f12 f13 f14 f15 f16 f17 f18 f19 f20 f21 fL fN fP fM fO) H := hP
            have hD : va_D A (mW ad kc x0 x1 x2 x3 x4 x_247 x_248 x_249 x8 x9 x10 x11 x12 x13 x14 x15 x16 x17 x18 x19 x20 x21 f0 f1 f2 f3 f4 f5 f6 f7 f8 f9 f10 f11 f12 f13 f14 f15 f16 f17 f18 f19 f20 f21 fL fN fP fM fO) := hD
            refine lv_aload_n hx hb dX10_aLine_66 rfl (lv_at hl 1 rfl) ?_
            refine va_get (D := (dC, dI)) (ci := 10) (v := .int x_247) (C := RX10) (T := TX10) (N := 48) hx hb hts fin_X10_aLinem_X10 hown hK hP 0 rfl rfl 8 (by decide) (hts (.fieldLink RX10 120 "PatternGateModel" "token" "I") (List.mem_of_getElem? (i := 9) (by decide +kernel))) (fun _ h9 => h9) rfl dX10_aLine_67 ?_
            refine lv_iconst (v := 3) hx hb dX10_aLine_70 (by decide) ?_
            refine lv_icmp_eq (tgt := 80) hx hb dX10_aLine_71 (by decide) (fun k_250 => ?_) (fun k_250 => ?_)
            · have tk_250 := c_eq (a := x_247.toInt) (b := 3) rfl (by decide) k_250
              refine lv_iload_n hx hb dX10_aLine_80 rfl (lv_at hl 0 rfl) ?_
              refine lv_if_eq (tgt := 94) hx hb dX10_aLine_81 (by decide) (fun k_251 => ?_) (fun k_251 => ?_)
              · have tk_251 := c_eq (a := r_1.toInt) (b := 0) rfl (by decide) k_251
                refine lv_aload_n hx hb dX10_aLine_94 rfl (lv_at hl 1 rfl) ?_
                have hFc := m_free hD hS hA
                refine va_calli (va_runV (As := []) (rest := []) ⟨hx, hb, hml, hown, hts⟩ (m_patternQuote l dC dI ad kc x0 x1 x2 x3 x4 x_247 x_248 x_249 x8 x9 x10 x11 x12 x13 x14 x15 x16 x17 x18 x19 x20 x21 f0 f1 f2 f3 f4 f5 f6 f7 f8 f9 f10 f11 f12 f13 f14 f15 f16 f17 f18 f19 f20 f21 fL fN fP fM fO H.size (by first | omega | assumption | decide | (have l0 := Int32.toInt_zero; omega)) (by first | omega | assumption | decide | (have l0 := Int32.toInt_zero; omega)) (by first | omega | assumption | decide | (have l0 := Int32.toInt_zero; omega)) (by first | omega | assumption | decide | (have l0 := Int32.toInt_zero; omega)) (by first | omega | assumption | decide | (have l0 := Int32.toInt_zero; omega))) (cwV 0 hts mg_X10_aLinem_X10_patternQuote_190 rfl rfl rfl (by decide +kernel) ⟨Nat.le_of_ble_eq_true rfl, Nat.le_of_ble_eq_true rfl⟩) ⟨fun a U g mk q => by obtain ⟨q0, q1, qP, qK, qD⟩ := q; exact ⟨q0, q1, qP, va_K.moved (u := U) (U := U.calling g mk a) (Vm.Alike.refl U.vm) qK, qD⟩, va_recv hK hP (ci := 10) (q0 := 0) rfl rfl, fun U hU hW => ⟨rfl, by rw [hU], by rw [hU]; exact hP, va_K.moved hW.alike hK, hD.weaken (fun _ _ _ _ => trivial)⟩⟩ rfl rfl hl.1 rfl (lv_room (Nat.le_of_ble_eq_true rfl)) dX10_aLine_95 ⟨Nat.le_of_ble_eq_true rfl, Nat.le_of_ble_eq_true rfl⟩) hS (fun q _ h => hFc q h) hFc (fun r_252 u t H1 locs ht hvm hw hB hz1 hk1 hS => ?_)
                subst hw
                obtain ⟨x_253, x_254, x_255, x_256, f_257, hr_252_0, hr_252_1, hr_252_2, hr_252_3, hr_252_4, hP, hK1, hD1⟩ := hB
                rw [ht] at hP
                have hD := hD1.weaken (fun k q _ h => hFc q.1 h)
                clear hz1 hk1 hFc hD1 hK1 hvm
                generalize H1 = H at hP hS ⊢
                have rg_x_253 := i_rng x_253
                have rg_x_254 := i_rng x_254
                have rg_x_255 := i_rng x_255
                have rg_x_256 := i_rng x_256
                have rg_r_252 := i_rng r_252
                have hP : va_P (dC, dI) vwCl (mW ad kc x0 x1 x2 x3 x4 x_247 x_248 x_253 x_254 x_255 x10 x_256 x12 x13 x14 x15 x16 x17 x18 x19 x20 x21 f_257 f1 f2 f3 f4 f5 f6 f7 f8 f9 f10 f11 f12 f13 f14 f15 f16 f17 f18 f19 f20 f21 fL fN fP fM fO) H := hP
                have hD : va_D A (mW ad kc x0 x1 x2 x3 x4 x_247 x_248 x_253 x_254 x_255 x10 x_256 x12 x13 x14 x15 x16 x17 x18 x19 x20 x21 f_257 f1 f2 f3 f4 f5 f6 f7 f8 f9 f10 f11 f12 f13 f14 f15 f16 f17 f18 f19 f20 f21 fL fN fP fM fO) := hD
                have hq9 := hr_252_0
                have hq8 := hr_252_1
                refine lv_if_ne (tgt := 103) hx hb dX10_aLine_98 (by decide) (fun k_258 => ?_) (fun k_258 => ?_)
                · have tk_258 := c_ne (a := r_252.toInt) (b := 0) rfl (by decide) k_258
                  refine lv_aload_n hx hb dX10_aLine_103 rfl (lv_at hl 1 rfl) ?_
                  have hFc := m_free hD hS hA
                  refine va_callv (va_runV (As := []) (rest := []) ⟨hx, hb, hml, hown, hts⟩ (m_ahead l dC dI ad kc x0 x1 x2 x3 x4 x_247 x_248 x_253 x_254 x_255 x10 x_256 x12 x13 x14 x15 x16 x17 x18 x19 x20 x21 f_257 f1 f2 f3 f4 f5 f6 f7 f8 f9 f10 f11 f12 f13 f14 f15 f16 f17 f18 f19 f20 f21 fL fN fP fM fO H.size (by first | omega | assumption | decide | (have l0 := Int32.toInt_zero; omega)) (by first | omega | assumption | decide | (have l0 := Int32.toInt_zero; omega)) (by first | omega | assumption | decide | (have l0 := Int32.toInt_zero; omega))) (cwV 0 hts mg_X10_aLinem_X10_ahead_184 rfl rfl rfl (by decide +kernel) ⟨Nat.le_of_ble_eq_true rfl, Nat.le_of_ble_eq_true rfl⟩) ⟨fun a U g mk q => by obtain ⟨q0, q1, qP, qK, qD⟩ := q; exact ⟨q0, q1, qP, va_K.moved (u := U) (U := U.calling g mk a) (Vm.Alike.refl U.vm) qK, qD⟩, va_recv hK hP (ci := 10) (q0 := 0) rfl rfl, fun U hU hW => ⟨rfl, by rw [hU], by rw [hU]; exact hP, va_K.moved hW.alike hK, hD.weaken (fun _ _ _ _ => trivial)⟩⟩ rfl rfl hl.1 rfl (lv_room (Nat.le_of_ble_eq_true rfl)) dX10_aLine_104 ⟨Nat.le_of_ble_eq_true rfl, Nat.le_of_ble_eq_true rfl⟩) hS (fun q _ h => hFc q h) hFc (fun u t H1 locs ht hvm hw hB hz1 hk1 hS => ?_)
                  obtain ⟨x_260, x_261, x_262, hr_259_0, hr_259_1, hr_259_2, hr_259_3, hr_259_4, hP, hK1, hD1⟩ := hB
                  rw [ht] at hP
                  have hD := hD1.weaken (fun k q _ h => hFc q.1 h)
                  clear hz1 hk1 hFc hD1 hK1 hvm
                  generalize H1 = H at hP hS ⊢
                  have rg_x_260 := i_rng x_260
                  have rg_x_261 := i_rng x_261
                  have rg_x_262 := i_rng x_262
                  have hP : va_P (dC, dI) vwCl (mW ad kc x0 x1 x2 x3 x4 x_260 x_261 x_262 x_254 x_255 x10 x_256 x12 x13 x14 x15 x16 x17 x18 x19 x20 x21 f_257 f1 f2 f3 f4 f5 f6 f7 f8 f9 f10 f11 f12 f13 f14 f15 f16 f17 f18 f19 f20 f21 fL fN fP fM fO) H := hP
                  have hD : va_D A (mW ad kc x0 x1 x2 x3 x4 x_260 x_261 x_262 x_254 x_255 x10 x_256 x12 x13 x14 x15 x16 x17 x18 x19 x20 x21 f_257 f1 f2 f3 f4 f5 f6 f7 f8 f9 f10 f11 f12 f13 f14 f15 f16 f17 f18 f19 f20 f21 fL fN fP fM fO) := hD
                  refine lv_aload_n hx hb dX10_aLine_107 rfl (lv_at hl 1 rfl) ?_
                  refine va_get (D := (dC, dI)) (ci := 10) (v := .int x_260) (C := RX10) (T := TX10) (N := 48) hx hb hts fin_X10_aLinem_X10 hown hK hP 0 rfl rfl 8 (by decide) (hts (.fieldLink RX10 120 "PatternGateModel" "token" "I") (List.mem_of_getElem? (i := 9) (by decide +kernel))) (fun _ h9 => h9) rfl dX10_aLine_108 ?_
                  refine lv_iconst (v := 4) hx hb dX10_aLine_111 (by decide) ?_
                  refine lv_icmp_eq (tgt := 121) hx hb dX10_aLine_112 (by decide) (fun k_263 => ?_) (fun k_263 => ?_)
                  · have tk_263 := c_eq (a := x_260.toInt) (b := 4) rfl (by decide) k_263
                    refine lv_aload_n hx hb dX10_aLine_121 rfl (lv_at hl 1 rfl) ?_
                    have hFc := m_free hD hS hA
                    refine va_callv (va_runV (As := []) (rest := []) ⟨hx, hb, hml, hown, hts⟩ (m_ahead l dC dI ad kc x0 x1 x2 x3 x4 x_260 x_261 x_262 x_254 x_255 x10 x_256 x12 x13 x14 x15 x16 x17 x18 x19 x20 x21 f_257 f1 f2 f3 f4 f5 f6 f7 f8 f9 f10 f11 f12 f13 f14 f15 f16 f17 f18 f19 f20 f21 fL fN fP fM fO H.size (by first | omega | assumption | decide | (have l0 := Int32.toInt_zero; omega)) (by first | omega | assumption | decide | (have l0 := Int32.toInt_zero; omega)) (by first | omega | assumption | decide | (have l0 := Int32.toInt_zero; omega))) (cwV 0 hts mg_X10_aLinem_X10_ahead_184 rfl rfl rfl (by decide +kernel) ⟨Nat.le_of_ble_eq_true rfl, Nat.le_of_ble_eq_true rfl⟩) ⟨fun a U g mk q => by obtain ⟨q0, q1, qP, qK, qD⟩ := q; exact ⟨q0, q1, qP, va_K.moved (u := U) (U := U.calling g mk a) (Vm.Alike.refl U.vm) qK, qD⟩, va_recv hK hP (ci := 10) (q0 := 0) rfl rfl, fun U hU hW => ⟨rfl, by rw [hU], by rw [hU]; exact hP, va_K.moved hW.alike hK, hD.weaken (fun _ _ _ _ => trivial)⟩⟩ rfl rfl hl.1 rfl (lv_room (Nat.le_of_ble_eq_true rfl)) dX10_aLine_122 ⟨Nat.le_of_ble_eq_true rfl, Nat.le_of_ble_eq_true rfl⟩) hS (fun q _ h => hFc q h) hFc (fun u t H1 locs ht hvm hw hB hz1 hk1 hS => ?_)
                    obtain ⟨x_265, x_266, x_267, hr_264_0, hr_264_1, hr_264_2, hr_264_3, hr_264_4, hP, hK1, hD1⟩ := hB
                    rw [ht] at hP
                    have hD := hD1.weaken (fun k q _ h => hFc q.1 h)
                    clear hz1 hk1 hFc hD1 hK1 hvm
                    generalize H1 = H at hP hS ⊢
                    have rg_x_265 := i_rng x_265
                    have rg_x_266 := i_rng x_266
                    have rg_x_267 := i_rng x_267
                    have hP : va_P (dC, dI) vwCl (mW ad kc x0 x1 x2 x3 x4 x_265 x_266 x_267 x_254 x_255 x10 x_256 x12 x13 x14 x15 x16 x17 x18 x19 x20 x21 f_257 f1 f2 f3 f4 f5 f6 f7 f8 f9 f10 f11 f12 f13 f14 f15 f16 f17 f18 f19 f20 f21 fL fN fP fM fO) H := hP
                    have hD : va_D A (mW ad kc x0 x1 x2 x3 x4 x_265 x_266 x_267 x_254 x_255 x10 x_256 x12 x13 x14 x15 x16 x17 x18 x19 x20 x21 f_257 f1 f2 f3 f4 f5 f6 f7 f8 f9 f10 f11 f12 f13 f14 f15 f16 f17 f18 f19 f20 f21 fL fN fP fM fO) := hD
                    refine lv_iconst (v := 1) hx hb dX10_aLine_125 (by decide) ?_
                    have lit_267 : (1 : Int32).toInt = 1 := by decide
                    exact W.zret hx hb hr (z_nar (by first | assumption | decide | exact z_of (by omega))) (fun t ht hW => ⟨⟨_, _, rfl, rfl, x_265, x_266, x_267, x_254, x_255, x_256, f_257, hq9, hq8, (by first | omega | assumption | rfl | decide), (by first | omega | assumption | rfl | decide), (by first | omega | assumption | rfl | decide), (fun h9 => by omega), by rw [ht]; exact hP, va_K.moved hW.alike hK, hD⟩, hS.F ht⟩) hS.2.2 dX10_aLine_126
                  · have tk_263 := c_ne (a := x_260.toInt) (b := 4) rfl (by decide) k_263
                    refine lv_aload_n hx hb dX10_aLine_115 rfl (lv_at hl 1 rfl) ?_
                    refine lv_iconst (v := 2) hx hb dX10_aLine_116 (by decide) ?_
                    have lit_268 : (2 : Int32).toInt = 2 := by decide
                    have hFc := m_free hD hS hA
                    refine va_calli (va_runV (As := [.int 2]) (rest := []) ⟨hx, hb, hml, hown, hts⟩ (m_fails l dC dI ad kc x0 x1 x2 x3 x4 x_260 x_261 x_262 x_254 x_255 x10 x_256 x12 x13 x14 x15 x16 x17 x18 x19 x20 x21 f_257 f1 f2 f3 f4 f5 f6 f7 f8 f9 f10 f11 f12 f13 f14 f15 f16 f17 f18 f19 f20 f21 fL fN fP fM fO H.size 2 ) (cwV 1 hts mg_X10_aLinem_X10_fails_181 rfl rfl rfl (by decide +kernel) ⟨Nat.le_of_ble_eq_true rfl, Nat.le_of_ble_eq_true rfl⟩) ⟨fun a U g mk q => by obtain ⟨q0, q1, qP, qK, qD⟩ := q; exact ⟨q0, q1, qP, va_K.moved (u := U) (U := U.calling g mk a) (Vm.Alike.refl U.vm) qK, qD⟩, va_recv hK hP (ci := 10) (q0 := 0) rfl rfl, fun U hU hW => ⟨rfl, by rw [hU], by rw [hU]; exact hP, va_K.moved hW.alike hK, hD.weaken (fun _ _ _ _ => trivial)⟩⟩ rfl rfl hl.1 rfl (lv_room (Nat.le_of_ble_eq_true rfl)) dX10_aLine_117 ⟨Nat.le_of_ble_eq_true rfl, Nat.le_of_ble_eq_true rfl⟩) hS (fun q _ h => hFc q h) hFc (fun r_270 u t H1 locs ht hvm hw hB hz1 hk1 hS => ?_)
                    subst hw
                    obtain ⟨x_271, x_272, hr_270_0, hP, hK1, hD1⟩ := hB
                    rw [ht] at hP
                    have hD := hD1.weaken (fun k q _ h => hFc q.1 h)
                    clear hz1 hk1 hFc hD1 hK1 hvm
                    generalize H1 = H at hP hS ⊢
                    have rg_x_271 := i_rng x_271
                    have rg_x_272 := i_rng x_272
                    have rg_r_270 := i_rng r_270
                    have hP : va_P (dC, dI) vwCl (mW ad kc x0 x1 x2 x3 x4 x_260 x_261 x_262 x_271 x_272 x10 x_256 x12 x13 x14 x15 x16 x17 x18 x19 x20 x21 f_257 f1 f2 f3 f4 f5 f6 f7 f8 f9 f10 f11 f12 f13 f14 f15 f16 f17 f18 f19 f20 f21 fL fN fP fM fO) H := hP
                    have hD : va_D A (mW ad kc x0 x1 x2 x3 x4 x_260 x_261 x_262 x_271 x_272 x10 x_256 x12 x13 x14 x15 x16 x17 x18 x19 x20 x21 f_257 f1 f2 f3 f4 f5 f6 f7 f8 f9 f10 f11 f12 f13 f14 f15 f16 f17 f18 f19 f20 f21 fL fN fP fM fO) := hD
                    exact W.zret hx hb hr (z_nar (by first | assumption | decide | exact z_of (by omega))) (fun t ht hW => ⟨⟨_, _, rfl, rfl, x_260, x_261, x_262, x_271, x_272, x_256, f_257, hq9, hq8, (by first | omega | assumption | rfl | decide), (by first | omega | assumption | rfl | decide), (by first | omega | assumption | rfl | decide), (fun h9 => by omega), by rw [ht]; exact hP, va_K.moved hW.alike hK, hD⟩, hS.F ht⟩) hS.2.2 dX10_aLine_120
                · have tk_258 := c_eq (a := r_252.toInt) (b := 0) rfl (by decide) k_258
                  refine lv_iconst (v := 0) hx hb dX10_aLine_101 (by decide) ?_
                  have lit_272 : (0 : Int32).toInt = 0 := by decide
                  exact W.zret hx hb hr (z_nar (by first | assumption | decide | exact z_of (by omega))) (fun t ht hW => ⟨⟨_, _, rfl, rfl, x_247, x_248, x_253, x_254, x_255, x_256, f_257, hq9, hq8, (by first | omega | assumption | rfl | decide), (by first | omega | assumption | rfl | decide), (by first | omega | assumption | rfl | decide), (fun h9 => by omega), by rw [ht]; exact hP, va_K.moved hW.alike hK, hD⟩, hS.F ht⟩) hS.2.2 dX10_aLine_102
              · have tk_251 := c_ne (a := r_1.toInt) (b := 0) rfl (by decide) k_251
                refine lv_aload_n hx hb dX10_aLine_84 rfl (lv_at hl 1 rfl) ?_
                have hFc := m_free hD hS hA
                refine va_calli (va_runV (As := []) (rest := []) ⟨hx, hb, hml, hown, hts⟩ (m_docQuote l dC dI ad kc x0 x1 x2 x3 x4 x_247 x_248 x_249 x8 x9 x10 x11 x12 x13 x14 x15 x16 x17 x18 x19 x20 x21 f0 f1 f2 f3 f4 f5 f6 f7 f8 f9 f10 f11 f12 f13 f14 f15 f16 f17 f18 f19 f20 f21 fL fN fP fM fO H.size (by first | omega | assumption | decide | (have l0 := Int32.toInt_zero; omega)) (by first | omega | assumption | decide | (have l0 := Int32.toInt_zero; omega)) (by first | omega | assumption | decide | (have l0 := Int32.toInt_zero; omega)) (by first | omega | assumption | decide | (have l0 := Int32.toInt_zero; omega)) (by first | omega | assumption | decide | (have l0 := Int32.toInt_zero; omega))) (cwV 0 hts mg_X10_aLinem_X10_docQuote_187 rfl rfl rfl (by decide +kernel) ⟨Nat.le_of_ble_eq_true rfl, Nat.le_of_ble_eq_true rfl⟩) ⟨fun a U g mk q => by obtain ⟨q0, q1, qP, qK, qD⟩ := q; exact ⟨q0, q1, qP, va_K.moved (u := U) (U := U.calling g mk a) (Vm.Alike.refl U.vm) qK, qD⟩, va_recv hK hP (ci := 10) (q0 := 0) rfl rfl, fun U hU hW => ⟨rfl, by rw [hU], by rw [hU]; exact hP, va_K.moved hW.alike hK, hD.weaken (fun _ _ _ _ => trivial)⟩⟩ rfl rfl hl.1 rfl (lv_room (Nat.le_of_ble_eq_true rfl)) dX10_aLine_85 ⟨Nat.le_of_ble_eq_true rfl, Nat.le_of_ble_eq_true rfl⟩) hS (fun q _ h => hFc q h) hFc (fun r_274 u t H1 locs ht hvm hw hB hz1 hk1 hS => ?_)
                subst hw
                obtain ⟨x_275, x_276, x_277, f_278, hr_274_0, hr_274_1, hr_274_2, hr_274_3, hr_274_4, hP, hK1, hD1⟩ := hB
                rw [ht] at hP
                have hD := hD1.weaken (fun k q _ h => hFc q.1 h)
                clear hz1 hk1 hFc hD1 hK1 hvm
                generalize H1 = H at hP hS ⊢
                have rg_x_275 := i_rng x_275
                have rg_x_276 := i_rng x_276
                have rg_x_277 := i_rng x_277
                have rg_r_274 := i_rng r_274
                have hP : va_P (dC, dI) vwCl (mW ad kc x0 x1 x2 x3 x4 x_247 x_248 x_275 x_276 x_277 x10 x11 x12 x13 x14 x15 x16 x17 x18 x19 x20 x21 f_278 f1 f2 f3 f4 f5 f6 f7 f8 f9 f10 f11 f12 f13 f14 f15 f16 f17 f18 f19 f20 f21 fL fN fP fM fO) H := hP
                have hD : va_D A (mW ad kc x0 x1 x2 x3 x4 x_247 x_248 x_275 x_276 x_277 x10 x11 x12 x13 x14 x15 x16 x17 x18 x19 x20 x21 f_278 f1 f2 f3 f4 f5 f6 f7 f8 f9 f10 f11 f12 f13 f14 f15 f16 f17 f18 f19 f20 f21 fL fN fP fM fO) := hD
                have hq9 := hr_274_0
                have hq8 := hr_274_1
                refine lv_if_eq (tgt := 101) hx hb dX10_aLine_88 (by decide) (fun k_279 => ?_) (fun k_279 => ?_)
                · have tk_279 := c_eq (a := r_274.toInt) (b := 0) rfl (by decide) k_279
                  refine lv_iconst (v := 0) hx hb dX10_aLine_101 (by decide) ?_
                  have lit_279 : (0 : Int32).toInt = 0 := by decide
                  exact W.zret hx hb hr (z_nar (by first | assumption | decide | exact z_of (by omega))) (fun t ht hW => ⟨⟨_, _, rfl, rfl, x_247, x_248, x_275, x_276, x_277, x11, f_278, hq9, hq8, (by first | omega | assumption | rfl | decide), (by first | omega | assumption | rfl | decide), (by first | omega | assumption | rfl | decide), (fun h9 => by omega), by rw [ht]; exact hP, va_K.moved hW.alike hK, hD⟩, hS.F ht⟩) hS.2.2 dX10_aLine_102
                · have tk_279 := c_ne (a := r_274.toInt) (b := 0) rfl (by decide) k_279
                  refine lv_goto (tgt := 103) hx hb dX10_aLine_91 (by decide) ?_
                  refine lv_aload_n hx hb dX10_aLine_103 rfl (lv_at hl 1 rfl) ?_
                  have hFc := m_free hD hS hA
                  refine va_callv (va_runV (As := []) (rest := []) ⟨hx, hb, hml, hown, hts⟩ (m_ahead l dC dI ad kc x0 x1 x2 x3 x4 x_247 x_248 x_275 x_276 x_277 x10 x11 x12 x13 x14 x15 x16 x17 x18 x19 x20 x21 f_278 f1 f2 f3 f4 f5 f6 f7 f8 f9 f10 f11 f12 f13 f14 f15 f16 f17 f18 f19 f20 f21 fL fN fP fM fO H.size (by first | omega | assumption | decide | (have l0 := Int32.toInt_zero; omega)) (by first | omega | assumption | decide | (have l0 := Int32.toInt_zero; omega)) (by first | omega | assumption | decide | (have l0 := Int32.toInt_zero; omega))) (cwV 0 hts mg_X10_aLinem_X10_ahead_184 rfl rfl rfl (by decide +kernel) ⟨Nat.le_of_ble_eq_true rfl, Nat.le_of_ble_eq_true rfl⟩) ⟨fun a U g mk q => by obtain ⟨q0, q1, qP, qK, qD⟩ := q; exact ⟨q0, q1, qP, va_K.moved (u := U) (U := U.calling g mk a) (Vm.Alike.refl U.vm) qK, qD⟩, va_recv hK hP (ci := 10) (q0 := 0) rfl rfl, fun U hU hW => ⟨rfl, by rw [hU], by rw [hU]; exact hP, va_K.moved hW.alike hK, hD.weaken (fun _ _ _ _ => trivial)⟩⟩ rfl rfl hl.1 rfl (lv_room (Nat.le_of_ble_eq_true rfl)) dX10_aLine_104 ⟨Nat.le_of_ble_eq_true rfl, Nat.le_of_ble_eq_true rfl⟩) hS (fun q _ h => hFc q h) hFc (fun u t H1 locs ht hvm hw hB hz1 hk1 hS => ?_)
                  obtain ⟨x_282, x_283, x_284, hr_281_0, hr_281_1, hr_281_2, hr_281_3, hr_281_4, hP, hK1, hD1⟩ := hB
                  rw [ht] at hP
                  have hD := hD1.weaken (fun k q _ h => hFc q.1 h)
                  clear hz1 hk1 hFc hD1 hK1 hvm
                  generalize H1 = H at hP hS ⊢
                  have rg_x_282 := i_rng x_282
                  have rg_x_283 := i_rng x_283
                  have rg_x_284 := i_rng x_284
                  have hP : va_P (dC, dI) vwCl (mW ad kc x0 x1 x2 x3 x4 x_282 x_283 x_284 x_276 x_277 x10 x11 x12 x13 x14 x15 x16 x17 x18 x19 x20 x21 f_278 f1 f2 f3 f4 f5 f6 f7 f8 f9 f10 f11 f12 f13 f14 f15 f16 f17 f18 f19 f20 f21 fL fN fP fM fO) H := hP
                  have hD : va_D A (mW ad kc x0 x1 x2 x3 x4 x_282 x_283 x_284 x_276 x_277 x10 x11 x12 x13 x14 x15 x16 x17 x18 x19 x20 x21 f_278 f1 f2 f3 f4 f5 f6 f7 f8 f9 f10 f11 f12 f13 f14 f15 f16 f17 f18 f19 f20 f21 fL fN fP fM fO) := hD
                  refine lv_aload_n hx hb dX10_aLine_107 rfl (lv_at hl 1 rfl) ?_
                  refine va_get (D := (dC, dI)) (ci := 10) (v := .int x_282) (C := RX10) (T := TX10) (N := 48) hx hb hts fin_X10_aLinem_X10 hown hK hP 0 rfl rfl 8 (by decide) (hts (.fieldLink RX10 120 "PatternGateModel" "token" "I") (List.mem_of_getElem? (i := 9) (by decide +kernel))) (fun _ h9 => h9) rfl dX10_aLine_108 ?_
                  refine lv_iconst (v := 4) hx hb dX10_aLine_111 (by decide) ?_
                  refine lv_icmp_eq (tgt := 121) hx hb dX10_aLine_112 (by decide) (fun k_285 => ?_) (fun k_285 => ?_)
                  · have tk_285 := c_eq (a := x_282.toInt) (b := 4) rfl (by decide) k_285
                    refine lv_aload_n hx hb dX10_aLine_121 rfl (lv_at hl 1 rfl) ?_
                    have hFc := m_free hD hS hA
                    refine va_callv (va_runV (As := []) (rest := []) ⟨hx, hb, hml, hown, hts⟩ (m_ahead l dC dI ad kc x0 x1 x2 x3 x4 x_282 x_283 x_284 x_276 x_277 x10 x11 x12 x13 x14 x15 x16 x17 x18 x19 x20 x21 f_278 f1 f2 f3 f4 f5 f6 f7 f8 f9 f10 f11 f12 f13 f14 f15 f16 f17 f18 f19 f20 f21 fL fN fP fM fO H.size (by first | omega | assumption | decide | (have l0 := Int32.toInt_zero; omega)) (by first | omega | assumption | decide | (have l0 := Int32.toInt_zero; omega)) (by first | omega | assumption | decide | (have l0 := Int32.toInt_zero; omega))) (cwV 0 hts mg_X10_aLinem_X10_ahead_184 rfl rfl rfl (by decide +kernel) ⟨Nat.le_of_ble_eq_true rfl, Nat.le_of_ble_eq_true rfl⟩) ⟨fun a U g mk q => by obtain ⟨q0, q1, qP, qK, qD⟩ := q; exact ⟨q0, q1, qP, va_K.moved (u := U) (U := U.calling g mk a) (Vm.Alike.refl U.vm) qK, qD⟩, va_recv hK hP (ci := 10) (q0 := 0) rfl rfl, fun U hU hW => ⟨rfl, by rw [hU], by rw [hU]; exact hP, va_K.moved hW.alike hK, hD.weaken (fun _ _ _ _ => trivial)⟩⟩ rfl rfl hl.1 rfl (lv_room (Nat.le_of_ble_eq_true rfl)) dX10_aLine_122 ⟨Nat.le_of_ble_eq_true rfl, Nat.le_of_ble_eq_true rfl⟩) hS (fun q _ h => hFc q h) hFc (fun u t H1 locs ht hvm hw hB hz1 hk1 hS => ?_)
                    obtain ⟨x_287, x_288, x_289, hr_286_0, hr_286_1, hr_286_2, hr_286_3, hr_286_4, hP, hK1, hD1⟩ := hB
                    rw [ht] at hP
                    have hD := hD1.weaken (fun k q _ h => hFc q.1 h)
                    clear hz1 hk1 hFc hD1 hK1 hvm
                    generalize H1 = H at hP hS ⊢
                    have rg_x_287 := i_rng x_287
                    have rg_x_288 := i_rng x_288
                    have rg_x_289 := i_rng x_289
                    have hP : va_P (dC, dI) vwCl (mW ad kc x0 x1 x2 x3 x4 x_287 x_288 x_289 x_276 x_277 x10 x11 x12 x13 x14 x15 x16 x17 x18 x19 x20 x21 f_278 f1 f2 f3 f4 f5 f6 f7 f8 f9 f10 f11 f12 f13 f14 f15 f16 f17 f18 f19 f20 f21 fL fN fP fM fO) H := hP
                    have hD : va_D A (mW ad kc x0 x1 x2 x3 x4 x_287 x_288 x_289 x_276 x_277 x10 x11 x12 x13 x14 x15 x16 x17 x18 x19 x20 x21 f_278 f1 f2 f3 f4 f5 f6 f7 f8 f9 f10 f11 f12 f13 f14 f15 f16 f17 f18 f19 f20 f21 fL fN fP fM fO) := hD
                    refine lv_iconst (v := 1) hx hb dX10_aLine_125 (by decide) ?_
                    have lit_289 : (1 : Int32).toInt = 1 := by decide
                    exact W.zret hx hb hr (z_nar (by first | assumption | decide | exact z_of (by omega))) (fun t ht hW => ⟨⟨_, _, rfl, rfl, x_287, x_288, x_289, x_276, x_277, x11, f_278, hq9, hq8, (by first | omega | assumption | rfl | decide), (by first | omega | assumption | rfl | decide), (by first | omega | assumption | rfl | decide), (fun h9 => by omega), by rw [ht]; exact hP, va_K.moved hW.alike hK, hD⟩, hS.F ht⟩) hS.2.2 dX10_aLine_126
                  · have tk_285 := c_ne (a := x_282.toInt) (b := 4) rfl (by decide) k_285
                    refine lv_aload_n hx hb dX10_aLine_115 rfl (lv_at hl 1 rfl) ?_
                    refine lv_iconst (v := 2) hx hb dX10_aLine_116 (by decide) ?_
                    have lit_290 : (2 : Int32).toInt = 2 := by decide
                    have hFc := m_free hD hS hA
                    refine va_calli (va_runV (As := [.int 2]) (rest := []) ⟨hx, hb, hml, hown, hts⟩ (m_fails l dC dI ad kc x0 x1 x2 x3 x4 x_282 x_283 x_284 x_276 x_277 x10 x11 x12 x13 x14 x15 x16 x17 x18 x19 x20 x21 f_278 f1 f2 f3 f4 f5 f6 f7 f8 f9 f10 f11 f12 f13 f14 f15 f16 f17 f18 f19 f20 f21 fL fN fP fM fO H.size 2 ) (cwV 1 hts mg_X10_aLinem_X10_fails_181 rfl rfl rfl (by decide +kernel) ⟨Nat.le_of_ble_eq_true rfl, Nat.le_of_ble_eq_true rfl⟩) ⟨fun a U g mk q => by obtain ⟨q0, q1, qP, qK, qD⟩ := q; exact ⟨q0, q1, qP, va_K.moved (u := U) (U := U.calling g mk a) (Vm.Alike.refl U.vm) qK, qD⟩, va_recv hK hP (ci := 10) (q0 := 0) rfl rfl, fun U hU hW => ⟨rfl, by rw [hU], by rw [hU]; exact hP, va_K.moved hW.alike hK, hD.weaken (fun _ _ _ _ => trivial)⟩⟩ rfl rfl hl.1 rfl (lv_room (Nat.le_of_ble_eq_true rfl)) dX10_aLine_117 ⟨Nat.le_of_ble_eq_true rfl, Nat.le_of_ble_eq_true rfl⟩) hS (fun q _ h => hFc q h) hFc (fun r_292 u t H1 locs ht hvm hw hB hz1 hk1 hS => ?_)
                    subst hw
                    obtain ⟨x_293, x_294, hr_292_0, hP, hK1, hD1⟩ := hB
                    rw [ht] at hP
                    have hD := hD1.weaken (fun k q _ h => hFc q.1 h)
                    clear hz1 hk1 hFc hD1 hK1 hvm
                    generalize H1 = H at hP hS ⊢
                    have rg_x_293 := i_rng x_293
                    have rg_x_294 := i_rng x_294
                    have rg_r_292 := i_rng r_292
                    have hP : va_P (dC, dI) vwCl (mW ad kc x0 x1 x2 x3 x4 x_282 x_283 x_284 x_293 x_294 x10 x11 x12 x13 x14 x15 x16 x17 x18 x19 x20 x21 f_278 f1 f2 f3 f4 f5 f6 f7 f8 f9 f10 f11 f12 f13 f14 f15 f16 f17 f18 f19 f20 f21 fL fN fP fM fO) H := hP
                    have hD : va_D A (mW ad kc x0 x1 x2 x3 x4 x_282 x_283 x_284 x_293 x_294 x10 x11 x12 x13 x14 x15 x16 x17 x18 x19 x20 x21 f_278 f1 f2 f3 f4 f5 f6 f7 f8 f9 f10 f11 f12 f13 f14 f15 f16 f17 f18 f19 f20 f21 fL fN fP fM fO) := hD
                    exact W.zret hx hb hr (z_nar (by first | assumption | decide | exact z_of (by omega))) (fun t ht hW => ⟨⟨_, _, rfl, rfl, x_282, x_283, x_284, x_293, x_294, x11, f_278, hq9, hq8, (by first | omega | assumption | rfl | decide), (by first | omega | assumption | rfl | decide), (by first | omega | assumption | rfl | decide), (fun h9 => by omega), by rw [ht]; exact hP, va_K.moved hW.alike hK, hD⟩, hS.F ht⟩) hS.2.2 dX10_aLine_120
            · have tk_250 := c_ne (a := x_247.toInt) (b := 3) rfl (by decide) k_250
              refine lv_aload_n hx hb dX10_aLine_74 rfl (lv_at hl 1 rfl) ?_
              refine lv_iconst (v := 2) hx hb dX10_aLine_75 (by decide) ?_
              have lit_294 : (2 : Int32).toInt = 2 := by decide
              have hFc := m_free hD hS hA
              refine va_calli (va_runV (As := [.int 2]) (rest := []) ⟨hx, hb, hml, hown, hts⟩ (m_fails l dC dI ad kc x0 x1 x2 x3 x4 x_247 x_248 x_249 x8 x9 x10 x11 x12 x13 x14 x15 x16 x17 x18 x19 x20 x21 f0 f1 f2 f3 f4 f5 f6 f7 f8 f9 f10 f11 f12 f13 f14 f15 f16 f17 f18 f19 f20 f21 fL fN fP fM fO H.size 2 ) (cwV 1 hts mg_X10_aLinem_X10_fails_181 rfl rfl rfl (by decide +kernel) ⟨Nat.le_of_ble_eq_true rfl, Nat.le_of_ble_eq_true rfl⟩) ⟨fun a U g mk q => by obtain ⟨q0, q1, qP, qK, qD⟩ := q; exact ⟨q0, q1, qP, va_K.moved (u := U) (U := U.calling g mk a) (Vm.Alike.refl U.vm) qK, qD⟩, va_recv hK hP (ci := 10) (q0 := 0) rfl rfl, fun U hU hW => ⟨rfl, by rw [hU], by rw [hU]; exact hP, va_K.moved hW.alike hK, hD.weaken (fun _ _ _ _ => trivial)⟩⟩ rfl rfl hl.1 rfl (lv_room (Nat.le_of_ble_eq_true rfl)) dX10_aLine_76 ⟨Nat.le_of_ble_eq_true rfl, Nat.le_of_ble_eq_true rfl⟩) hS (fun q _ h => hFc q h) hFc (fun r_296 u t H1 locs ht hvm hw hB hz1 hk1 hS => ?_)
              subst hw
              obtain ⟨x_297, x_298, hr_296_0, hP, hK1, hD1⟩ := hB
              rw [ht] at hP
              have hD := hD1.weaken (fun k q _ h => hFc q.1 h)
              clear hz1 hk1 hFc hD1 hK1 hvm
              generalize H1 = H at hP hS ⊢
              have rg_x_297 := i_rng x_297
              have rg_x_298 := i_rng x_298
              have rg_r_296 := i_rng r_296
              have hP : va_P (dC, dI) vwCl (mW ad kc x0 x1 x2 x3 x4 x_247 x_248 x_249 x_297 x_298 x10 x11 x12 x13 x14 x15 x16 x17 x18 x19 x20 x21 f0 f1 f2 f3 f4 f5 f6 f7 f8 f9 f10 f11 f12 f13 f14 f15 f16 f17 f18 f19 f20 f21 fL fN fP fM fO) H := hP
              have hD : va_D A (mW ad kc x0 x1 x2 x3 x4 x_247 x_248 x_249 x_297 x_298 x10 x11 x12 x13 x14 x15 x16 x17 x18 x19 x20 x21 f0 f1 f2 f3 f4 f5 f6 f7 f8 f9 f10 f11 f12 f13 f14 f15 f16 f17 f18 f19 f20 f21 fL fN fP fM fO) := hD
              exact W.zret hx hb hr (z_nar (by first | assumption | decide | exact z_of (by omega))) (fun t ht hW => ⟨⟨_, _, rfl, rfl, x_247, x_248, x_249, x_297, x_298, x11, f0, q0, (fun _ _ => rfl), (by first | omega | assumption | rfl | decide), (by first | omega | assumption | rfl | decide), (by first | omega | assumption | rfl | decide), (fun h9 => by omega), by rw [ht]; exact hP, va_K.moved hW.alike hK, hD⟩, hS.F ht⟩) hS.2.2 dX10_aLine_79
          · have tk_245 := c_eq (a := y_243.toInt) (b := 8) rfl (by decide) k_245
            refine lv_aload_n hx hb dX10_aLine_56 rfl (lv_at hl 1 rfl) ?_
            refine lv_iconst (v := 3) hx hb dX10_aLine_57 (by decide) ?_
            have lit_298 : (3 : Int32).toInt = 3 := by decide
            have hFc := m_free hD hS hA
            refine va_calli (va_runV (As := [.int 3]) (rest := []) ⟨hx, hb, hml, hown, hts⟩ (m_fails l dC dI ad kc x0 x1 x2 x3 x4 x5 x6 x7 x8 x9 x10 x11 x12 x13 x14 x15 x16 x17 x18 x19 x20 x21 f0 f1 f2 f3 f4 f5 f6 f7 f8 f9 f10 f11 f12 f13 f14 f15 f16 f17 f18 f19 f20 f21 fL fN fP fM fO H.size 3 ) (cwV 1 hts mg_X10_aLinem_X10_fails_181 rfl rfl rfl (by decide +kernel) ⟨Nat.le_of_ble_eq_true rfl, Nat.le_of_ble_eq_true rfl⟩) ⟨fun a U g mk q => by obtain ⟨q0, q1, qP, qK, qD⟩ := q; exact ⟨q0, q1, qP, va_K.moved (u := U) (U := U.calling g mk a) (Vm.Alike.refl U.vm) qK, qD⟩, va_recv hK hP (ci := 10) (q0 := 0) rfl rfl, fun U hU hW => ⟨rfl, by rw [hU], by rw [hU]; exact hP, va_K.moved hW.alike hK, hD.weaken (fun _ _ _ _ => trivial)⟩⟩ rfl rfl hl.1 rfl (lv_room (Nat.le_of_ble_eq_true rfl)) dX10_aLine_58 ⟨Nat.le_of_ble_eq_true rfl, Nat.le_of_ble_eq_true rfl⟩) hS (fun q _ h => hFc q h) hFc (fun r_300 u t H1 locs ht hvm hw hB hz1 hk1 hS => ?_)
            subst hw
            obtain ⟨x_301, x_302, hr_300_0, hP, hK1, hD1⟩ := hB
            rw [ht] at hP
            have hD := hD1.weaken (fun k q _ h => hFc q.1 h)
            clear hz1 hk1 hFc hD1 hK1 hvm
            generalize H1 = H at hP hS ⊢
            have rg_x_301 := i_rng x_301
            have rg_x_302 := i_rng x_302
            have rg_r_300 := i_rng r_300
            have hP : va_P (dC, dI) vwCl (mW ad kc x0 x1 x2 x3 x4 x5 x6 x7 x_301 x_302 x10 x11 x12 x13 x14 x15 x16 x17 x18 x19 x20 x21 f0 f1 f2 f3 f4 f5 f6 f7 f8 f9 f10 f11 f12 f13 f14 f15 f16 f17 f18 f19 f20 f21 fL fN fP fM fO) H := hP
            have hD : va_D A (mW ad kc x0 x1 x2 x3 x4 x5 x6 x7 x_301 x_302 x10 x11 x12 x13 x14 x15 x16 x17 x18 x19 x20 x21 f0 f1 f2 f3 f4 f5 f6 f7 f8 f9 f10 f11 f12 f13 f14 f15 f16 f17 f18 f19 f20 f21 fL fN fP fM fO) := hD
            exact W.zret hx hb hr (z_nar (by first | assumption | decide | exact z_of (by omega))) (fun t ht hW => ⟨⟨_, _, rfl, rfl, x5, x6, x7, x_301, x_302, x11, f0, q0, (fun _ _ => rfl), (by first | omega | assumption | rfl | decide), (by first | omega | assumption | rfl | decide), (by first | omega | assumption | rfl | decide), (fun h9 => by omega), by rw [ht]; exact hP, va_K.moved hW.alike hK, hD⟩, hS.F ht⟩) hS.2.2 dX10_aLine_61
        · have tk_244 := c_ne (a := r_1.toInt) (b := 0) rfl (by decide) k_244
          refine lv_bipush (v := 10) hx hb dX10_aLine_46 (by decide) ?_
          refine lv_goto (tgt := 53) hx hb dX10_aLine_48 (by decide) ?_
          refine lv_icmp_ne (tgt := 62) hx hb dX10_aLine_53 (by decide) (fun k_303 => ?_) (fun k_303 => ?_)
          · have tk_303 := c_ne (a := y_243.toInt) (b := 10) rfl (by decide) k_303
            refine lv_aload_n hx hb dX10_aLine_62 rfl (lv_at hl 1 rfl) ?_
            have hFc := m_free hD hS hA
            refine va_callv (va_runV (As := []) (rest := []) ⟨hx, hb, hml, hown, hts⟩ (m_ahead l dC dI ad kc x0 x1 x2 x3 x4 x5 x6 x7 x8 x9 x10 x11 x12 x13 x14 x15 x16 x17 x18 x19 x20 x21 f0 f1 f2 f3 f4 f5 f6 f7 f8 f9 f10 f11 f12 f13 f14 f15 f16 f17 f18 f19 f20 f21 fL fN fP fM fO H.size (by first | omega | assumption | decide | (have l0 := Int32.toInt_zero; omega)) (by first | omega | assumption | decide | (have l0 := Int32.toInt_zero; omega)) (by first | omega | assumption | decide | (have l0 := Int32.toInt_zero; omega))) (cwV 0 hts mg_X10_aLinem_X10_ahead_184 rfl rfl rfl (by decide +kernel) ⟨Nat.le_of_ble_eq_true rfl, Nat.le_of_ble_eq_true rfl⟩) ⟨fun a U g mk q => by obtain ⟨q0, q1, qP, qK, qD⟩ := q; exact ⟨q0, q1, qP, va_K.moved (u := U) (U := U.calling g mk a) (Vm.Alike.refl U.vm) qK, qD⟩, va_recv hK hP (ci := 10) (q0 := 0) rfl rfl, fun U hU hW => ⟨rfl, by rw [hU], by rw [hU]; exact hP, va_K.moved hW.alike hK, hD.weaken (fun _ _ _ _ => trivial)⟩⟩ rfl rfl hl.1 rfl (lv_room (Nat.le_of_ble_eq_true rfl)) dX10_aLine_63 ⟨Nat.le_of_ble_eq_true rfl, Nat.le_of_ble_eq_true rfl⟩) hS (fun q _ h => hFc q h) hFc (fun u t H1 locs ht hvm hw hB hz1 hk1 hS => ?_)
            obtain ⟨x_305, x_306, x_307, hr_304_0, hr_304_1, hr_304_2, hr_304_3, hr_304_4, hP, hK1, hD1⟩ := hB
            rw [ht] at hP
            have hD := hD1.weaken (fun k q _ h => hFc q.1 h)
            clear hz1 hk1 hFc hD1 hK1 hvm
            generalize H1 = H at hP hS ⊢
            have rg_x_305 := i_rng x_305
            have rg_x_306 := i_rng x_306
            have rg_x_307 := i_rng x_307
            have hP : va_P (dC, dI) vwCl (mW ad kc x0 x1 x2 x3 x4 x_305 x_306 x_307 x8 x9 x10 x11 x12 x13 x14 x15 x16 x17 x18 x19 x20 x21 f0 f1 f2 f3 f4 f5 f6 f7 f8 f9 f10 f11 f12 f13 f14 f15 f16 f17 f18 f19 f20 f21 fL fN fP fM fO) H := hP
            have hD : va_D A (mW ad kc x0 x1 x2 x3 x4 x_305 x_306 x_307 x8 x9 x10 x11 x12 x13 x14 x15 x16 x17 x18 x19 x20 x21 f0 f1 f2 f3 f4 f5 f6 f7 f8 f9 f10 f11 f12 f13 f14 f15 f16 f17 f18 f19 f20 f21 fL fN fP fM fO) := hD
            refine lv_aload_n hx hb dX10_aLine_66 rfl (lv_at hl 1 rfl) ?_
            refine va_get (D := (dC, dI)) (ci := 10) (v := .int x_305) (C := RX10) (T := TX10) (N := 48) hx hb hts fin_X10_aLinem_X10 hown hK hP 0 rfl rfl 8 (by decide) (hts (.fieldLink RX10 120 "PatternGateModel" "token" "I") (List.mem_of_getElem? (i := 9) (by decide +kernel))) (fun _ h9 => h9) rfl dX10_aLine_67 ?_
            refine lv_iconst (v := 3) hx hb dX10_aLine_70 (by decide) ?_
            refine lv_icmp_eq (tgt := 80) hx hb dX10_aLine_71 (by decide) (fun k_308 => ?_) (fun k_308 => ?_)
            · have tk_308 := c_eq (a := x_305.toInt) (b := 3) rfl (by decide) k_308
              refine lv_iload_n hx hb dX10_aLine_80 rfl (lv_at hl 0 rfl) ?_
              refine lv_if_eq (tgt := 94) hx hb dX10_aLine_81 (by decide) (fun k_309 => ?_) (fun k_309 => ?_)
              · have tk_309 := c_eq (a := r_1.toInt) (b := 0) rfl (by decide) k_309
                refine lv_aload_n hx hb dX10_aLine_94 rfl (lv_at hl 1 rfl) ?_
                have hFc := m_free hD hS hA
                refine va_calli (va_runV (As := []) (rest := []) ⟨hx, hb, hml, hown, hts⟩ (m_patternQuote l dC dI ad kc x0 x1 x2 x3 x4 x_305 x_306 x_307 x8 x9 x10 x11 x12 x13 x14 x15 x16 x17 x18 x19 x20 x21 f0 f1 f2 f3 f4 f5 f6 f7 f8 f9 f10 f11 f12 f13 f14 f15 f16 f17 f18 f19 f20 f21 fL fN fP fM fO H.size (by first | omega | assumption | decide | (have l0 := Int32.toInt_zero; omega)) (by first | omega | assumption | decide | (have l0 := Int32.toInt_zero; omega)) (by first | omega | assumption | decide | (have l0 := Int32.toInt_zero; omega)) (by first | omega | assumption | decide | (have l0 := Int32.toInt_zero; omega)) (by first | omega | assumption | decide | (have l0 := Int32.toInt_zero; omega))) (cwV 0 hts mg_X10_aLinem_X10_patternQuote_190 rfl rfl rfl (by decide +kernel) ⟨Nat.le_of_ble_eq_true rfl, Nat.le_of_ble_eq_true rfl⟩) ⟨fun a U g mk q => by obtain ⟨q0, q1, qP, qK, qD⟩ := q; exact ⟨q0, q1, qP, va_K.moved (u := U) (U := U.calling g mk a) (Vm.Alike.refl U.vm) qK, qD⟩, va_recv hK hP (ci := 10) (q0 := 0) rfl rfl, fun U hU hW => ⟨rfl, by rw [hU], by rw [hU]; exact hP, va_K.moved hW.alike hK, hD.weaken (fun _ _ _ _ => trivial)⟩⟩ rfl rfl hl.1 rfl (lv_room (Nat.le_of_ble_eq_true rfl)) dX10_aLine_95 ⟨Nat.le_of_ble_eq_true rfl, Nat.le_of_ble_eq_true rfl⟩) hS (fun q _ h => hFc q h) hFc (fun r_310 u t H1 locs ht hvm hw hB hz1 hk1 hS => ?_)
                subst hw
                obtain ⟨x_311, x_312, x_313, x_314, f_315, hr_310_0, hr_310_1, hr_310_2, hr_310_3, hr_310_4, hP, hK1, hD1⟩ := hB
                rw [ht] at hP
                have hD := hD1.weaken (fun k q _ h => hFc q.1 h)
                clear hz1 hk1 hFc hD1 hK1 hvm
                generalize H1 = H at hP hS ⊢
                have rg_x_311 := i_rng x_311
                have rg_x_312 := i_rng x_312
                have rg_x_313 := i_rng x_313
                have rg_x_314 := i_rng x_314
                have rg_r_310 := i_rng r_310
                have hP : va_P (dC, dI) vwCl (mW ad kc x0 x1 x2 x3 x4 x_305 x_306 x_311 x_312 x_313 x10 x_314 x12 x13 x14 x15 x16 x17 x18 x19 x20 x21 f_315 f1 f2 f3 f4 f5 f6 f7 f8 f9 f10 f11 f12 f13 f14 f15 f16 f17 f18 f19 f20 f21 fL fN fP fM fO) H := hP
                have hD : va_D A (mW ad kc x0 x1 x2 x3 x4 x_305 x_306 x_311 x_312 x_313 x10 x_314 x12 x13 x14 x15 x16 x17 x18 x19 x20 x21 f_315 f1 f2 f3 f4 f5 f6 f7 f8 f9 f10 f11 f12 f13 f14 f15 f16 f17 f18 f19 f20 f21 fL fN fP fM fO) := hD
                have hq9 := hr_310_0
                have hq8 := hr_310_1
                refine lv_if_ne (tgt := 103) hx hb dX10_aLine_98 (by decide) (fun k_316 => ?_) (fun k_316 => ?_)
                · have tk_316 := c_ne (a := r_310.toInt) (b := 0) rfl (by decide) k_316
                  refine lv_aload_n hx hb dX10_aLine_103 rfl (lv_at hl 1 rfl) ?_
                  have hFc := m_free hD hS hA
                  refine va_callv (va_runV (As := []) (rest := []) ⟨hx, hb, hml, hown, hts⟩ (m_ahead l dC dI ad kc x0 x1 x2 x3 x4 x_305 x_306 x_311 x_312 x_313 x10 x_314 x12 x13 x14 x15 x16 x17 x18 x19 x20 x21 f_315 f1 f2 f3 f4 f5 f6 f7 f8 f9 f10 f11 f12 f13 f14 f15 f16 f17 f18 f19 f20 f21 fL fN fP fM fO H.size (by first | omega | assumption | decide | (have l0 := Int32.toInt_zero; omega)) (by first | omega | assumption | decide | (have l0 := Int32.toInt_zero; omega)) (by first | omega | assumption | decide | (have l0 := Int32.toInt_zero; omega))) (cwV 0 hts mg_X10_aLinem_X10_ahead_184 rfl rfl rfl (by decide +kernel) ⟨Nat.le_of_ble_eq_true rfl, Nat.le_of_ble_eq_true rfl⟩) ⟨fun a U g mk q => by obtain ⟨q0, q1, qP, qK, qD⟩ := q; exact ⟨q0, q1, qP, va_K.moved (u := U) (U := U.calling g mk a) (Vm.Alike.refl U.vm) qK, qD⟩, va_recv hK hP (ci := 10) (q0 := 0) rfl rfl, fun U hU hW => ⟨rfl, by rw [hU], by rw [hU]; exact hP, va_K.moved hW.alike hK, hD.weaken (fun _ _ _ _ => trivial)⟩⟩ rfl rfl hl.1 rfl (lv_room (Nat.le_of_ble_eq_true rfl)) dX10_aLine_104 ⟨Nat.le_of_ble_eq_true rfl, Nat.le_of_ble_eq_true rfl⟩) hS (fun q _ h => hFc q h) hFc (fun u t H1 locs ht hvm hw hB hz1 hk1 hS => ?_)
                  obtain ⟨x_318, x_319, x_320, hr_317_0, hr_317_1, hr_317_2, hr_317_3, hr_317_4, hP, hK1, hD1⟩ := hB
                  rw [ht] at hP
                  have hD := hD1.weaken (fun k q _ h => hFc q.1 h)
                  clear hz1 hk1 hFc hD1 hK1 hvm
                  generalize H1 = H at hP hS ⊢
                  have rg_x_318 := i_rng x_318
                  have rg_x_319 := i_rng x_319
                  have rg_x_320 := i_rng x_320
                  have hP : va_P (dC, dI) vwCl (mW ad kc x0 x1 x2 x3 x4 x_318 x_319 x_320 x_312 x_313 x10 x_314 x12 x13 x14 x15 x16 x17 x18 x19 x20 x21 f_315 f1 f2 f3 f4 f5 f6 f7 f8 f9 f10 f11 f12 f13 f14 f15 f16 f17 f18 f19 f20 f21 fL fN fP fM fO) H := hP
                  have hD : va_D A (mW ad kc x0 x1 x2 x3 x4 x_318 x_319 x_320 x_312 x_313 x10 x_314 x12 x13 x14 x15 x16 x17 x18 x19 x20 x21 f_315 f1 f2 f3 f4 f5 f6 f7 f8 f9 f10 f11 f12 f13 f14 f15 f16 f17 f18 f19 f20 f21 fL fN fP fM fO) := hD
                  refine lv_aload_n hx hb dX10_aLine_107 rfl (lv_at hl 1 rfl) ?_
                  refine va_get (D := (dC, dI)) (ci := 10) (v := .int x_318) (C := RX10) (T := TX10) (N := 48) hx hb hts fin_X10_aLinem_X10 hown hK hP 0 rfl rfl 8 (by decide) (hts (.fieldLink RX10 120 "PatternGateModel" "token" "I") (List.mem_of_getElem? (i := 9) (by decide +kernel))) (fun _ h9 => h9) rfl dX10_aLine_108 ?_
                  refine lv_iconst (v := 4) hx hb dX10_aLine_111 (by decide) ?_
                  refine lv_icmp_eq (tgt := 121) hx hb dX10_aLine_112 (by decide) (fun k_321 => ?_) (fun k_321 => ?_)
                  · have tk_321 := c_eq (a := x_318.toInt) (b := 4) rfl (by decide) k_321
                    refine lv_aload_n hx hb dX10_aLine_121 rfl (lv_at hl 1 rfl) ?_
                    have hFc := m_free hD hS hA
                    refine va_callv (va_runV (As := []) (rest := []) ⟨hx, hb, hml, hown, hts⟩ (m_ahead l dC dI ad kc x0 x1 x2 x3 x4 x_318 x_319 x_320 x_312 x_313 x10 x_314 x12 x13 x14 x15 x16 x17 x18 x19 x20 x21 f_315 f1 f2 f3 f4 f5 f6 f7 f8 f9 f10 f11 f12 f13 f14 f15 f16 f17 f18 f19 f20 f21 fL fN fP fM fO H.size (by first | omega | assumption | decide | (have l0 := Int32.toInt_zero; omega)) (by first | omega | assumption | decide | (have l0 := Int32.toInt_zero; omega)) (by first | omega | assumption | decide | (have l0 := Int32.toInt_zero; omega))) (cwV 0 hts mg_X10_aLinem_X10_ahead_184 rfl rfl rfl (by decide +kernel) ⟨Nat.le_of_ble_eq_true rfl, Nat.le_of_ble_eq_true rfl⟩) ⟨fun a U g mk q => by obtain ⟨q0, q1, qP, qK, qD⟩ := q; exact ⟨q0, q1, qP, va_K.moved (u := U) (U := U.calling g mk a) (Vm.Alike.refl U.vm) qK, qD⟩, va_recv hK hP (ci := 10) (q0 := 0) rfl rfl, fun U hU hW => ⟨rfl, by rw [hU], by rw [hU]; exact hP, va_K.moved hW.alike hK, hD.weaken (fun _ _ _ _ => trivial)⟩⟩ rfl rfl hl.1 rfl (lv_room (Nat.le_of_ble_eq_true rfl)) dX10_aLine_122 ⟨Nat.le_of_ble_eq_true rfl, Nat.le_of_ble_eq_true rfl⟩) hS (fun q _ h => hFc q h) hFc (fun u t H1 locs ht hvm hw hB hz1 hk1 hS => ?_)
                    obtain ⟨x_323, x_324, x_325, hr_322_0, hr_322_1, hr_322_2, hr_322_3, hr_322_4, hP, hK1, hD1⟩ := hB
                    rw [ht] at hP
                    have hD := hD1.weaken (fun k q _ h => hFc q.1 h)
                    clear hz1 hk1 hFc hD1 hK1 hvm
                    generalize H1 = H at hP hS ⊢
                    have rg_x_323 := i_rng x_323
                    have rg_x_324 := i_rng x_324
                    have rg_x_325 := i_rng x_325
                    have hP : va_P (dC, dI) vwCl (mW ad kc x0 x1 x2 x3 x4 x_323 x_324 x_325 x_312 x_313 x10 x_314 x12 x13 x14 x15 x16 x17 x18 x19 x20 x21 f_315 f1 f2 f3 f4 f5 f6 f7 f8 f9 f10 f11 f12 f13 f14 f15 f16 f17 f18 f19 f20 f21 fL fN fP fM fO) H := hP
                    have hD : va_D A (mW ad kc x0 x1 x2 x3 x4 x_323 x_324 x_325 x_312 x_313 x10 x_314 x12 x13 x14 x15 x16 x17 x18 x19 x20 x21 f_315 f1 f2 f3 f4 f5 f6 f7 f8 f9 f10 f11 f12 f13 f14 f15 f16 f17 f18 f19 f20 f21 fL fN fP fM fO) := hD
                    refine lv_iconst (v := 1) hx hb dX10_aLine_125 (by decide) ?_
                    have lit_325 : (1 : Int32).toInt = 1 := by decide
                    exact W.zret hx hb hr (z_nar (by first | assumption | decide | exact z_of (by omega))) (fun t ht hW => ⟨⟨_, _, rfl, rfl, x_323, x_324, x_325, x_312, x_313, x_314, f_315, hq9, hq8, (by first | omega | assumption | rfl | decide), (by first | omega | assumption | rfl | decide), (by first | omega | assumption | rfl | decide), (fun h9 => by omega), by rw [ht]; exact hP, va_K.moved hW.alike hK, hD⟩, hS.F ht⟩) hS.2.2 dX10_aLine_126
                  · have tk_321 := c_ne (a := x_318.toInt) (b := 4) rfl (by decide) k_321
                    refine lv_aload_n hx hb dX10_aLine_115 rfl (lv_at hl 1 rfl) ?_
                    refine lv_iconst (v := 2) hx hb dX10_aLine_116 (by decide) ?_
                    have lit_326 : (2 : Int32).toInt = 2 := by decide
                    have hFc := m_free hD hS hA
                    refine va_calli (va_runV (As := [.int 2]) (rest := []) ⟨hx, hb, hml, hown, hts⟩ (m_fails l dC dI ad kc x0 x1 x2 x3 x4 x_318 x_319 x_320 x_312 x_313 x10 x_314 x12 x13 x14 x15 x16 x17 x18 x19 x20 x21 f_315 f1 f2 f3 f4 f5 f6 f7 f8 f9 f10 f11 f12 f13 f14 f15 f16 f17 f18 f19 f20 f21 fL fN fP fM fO H.size 2 ) (cwV 1 hts mg_X10_aLinem_X10_fails_181 rfl rfl rfl (by decide +kernel) ⟨Nat.le_of_ble_eq_true rfl, Nat.le_of_ble_eq_true rfl⟩) ⟨fun a U g mk q => by obtain ⟨q0, q1, qP, qK, qD⟩ := q; exact ⟨q0, q1, qP, va_K.moved (u := U) (U := U.calling g mk a) (Vm.Alike.refl U.vm) qK, qD⟩, va_recv hK hP (ci := 10) (q0 := 0) rfl rfl, fun U hU hW => ⟨rfl, by rw [hU], by rw [hU]; exact hP, va_K.moved hW.alike hK, hD.weaken (fun _ _ _ _ => trivial)⟩⟩ rfl rfl hl.1 rfl (lv_room (Nat.le_of_ble_eq_true rfl)) dX10_aLine_117 ⟨Nat.le_of_ble_eq_true rfl, Nat.le_of_ble_eq_true rfl⟩) hS (fun q _ h => hFc q h) hFc (fun r_328 u t H1 locs ht hvm hw hB hz1 hk1 hS => ?_)
                    subst hw
                    obtain ⟨x_329, x_330, hr_328_0, hP, hK1, hD1⟩ := hB
                    rw [ht] at hP
                    have hD := hD1.weaken (fun k q _ h => hFc q.1 h)
                    clear hz1 hk1 hFc hD1 hK1 hvm
                    generalize H1 = H at hP hS ⊢
                    have rg_x_329 := i_rng x_329
                    have rg_x_330 := i_rng x_330
                    have rg_r_328 := i_rng r_328
                    have hP : va_P (dC, dI) vwCl (mW ad kc x0 x1 x2 x3 x4 x_318 x_319 x_320 x_329 x_330 x10 x_314 x12 x13 x14 x15 x16 x17 x18 x19 x20 x21 f_315 f1 f2 f3 f4 f5 f6 f7 f8 f9 f10 f11 f12 f13 f14 f15 f16 f17 f18 f19 f20 f21 fL fN fP fM fO) H := hP
                    have hD : va_D A (mW ad kc x0 x1 x2 x3 x4 x_318 x_319 x_320 x_329 x_330 x10 x_314 x12 x13 x14 x15 x16 x17 x18 x19 x20 x21 f_315 f1 f2 f3 f4 f5 f6 f7 f8 f9 f10 f11 f12 f13 f14 f15 f16 f17 f18 f19 f20 f21 fL fN fP fM fO) := hD
                    exact W.zret hx hb hr (z_nar (by first | assumption | decide | exact z_of (by omega))) (fun t ht hW => ⟨⟨_, _, rfl, rfl, x_318, x_319, x_320, x_329, x_330, x_314, f_315, hq9, hq8, (by first | omega | assumption | rfl | decide), (by first | omega | assumption | rfl | decide), (by first | omega | assumption | rfl | decide), (fun h9 => by omega), by rw [ht]; exact hP, va_K.moved hW.alike hK, hD⟩, hS.F ht⟩) hS.2.2 dX10_aLine_120
                · have tk_316 := c_eq (a := r_310.toInt) (b := 0) rfl (by decide) k_316
                  refine lv_iconst (v := 0) hx hb dX10_aLine_101 (by decide) ?_
                  have lit_330 : (0 : Int32).toInt = 0 := by decide
                  exact W.zret hx hb hr (z_nar (by first | assumption | decide | exact z_of (by omega))) (fun t ht hW => ⟨⟨_, _, rfl, rfl, x_305, x_306, x_311, x_312, x_313, x_314, f_315, hq9, hq8, (by first | omega | assumption | rfl | decide), (by first | omega | assumption | rfl | decide), (by first | omega | assumption | rfl | decide), (fun h9 => by omega), by rw [ht]; exact hP, va_K.moved hW.alike hK, hD⟩, hS.F ht⟩) hS.2.2 dX10_aLine_102
              · have tk_309 := c_ne (a := r_1.toInt) (b := 0) rfl (by decide) k_309
                refine lv_aload_n hx hb dX10_aLine_84 rfl (lv_at hl 1 rfl) ?_
                have hFc := m_free hD hS hA
                refine va_calli (va_runV (As := []) (rest := []) ⟨hx, hb, hml, hown, hts⟩ (m_docQuote l dC dI ad kc x0 x1 x2 x3 x4 x_305 x_306 x_307 x8 x9 x10 x11 x12 x13 x14 x15 x16 x17 x18 x19 x20 x21 f0 f1 f2 f3 f4 f5 f6 f7 f8 f9 f10 f11 f12 f13 f14 f15 f16 f17 f18 f19 f20 f21 fL fN fP fM fO H.size (by first | omega | assumption | decide | (have l0 := Int32.toInt_zero; omega)) (by first | omega | assumption | decide | (have l0 := Int32.toInt_zero; omega)) (by first | omega | assumption | decide | (have l0 := Int32.toInt_zero; omega)) (by first | omega | assumption | decide | (have l0 := Int32.toInt_zero; omega)) (by first | omega | assumption | decide | (have l0 := Int32.toInt_zero; omega))) (cwV 0 hts mg_X10_aLinem_X10_docQuote_187 rfl rfl rfl (by decide +kernel) ⟨Nat.le_of_ble_eq_true rfl, Nat.le_of_ble_eq_true rfl⟩) ⟨fun a U g mk q => by obtain ⟨q0, q1, qP, qK, qD⟩ := q; exact ⟨q0, q1, qP, va_K.moved (u := U) (U := U.calling g mk a) (Vm.Alike.refl U.vm) qK, qD⟩, va_recv hK hP (ci := 10) (q0 := 0) rfl rfl, fun U hU hW => ⟨rfl, by rw [hU], by rw [hU]; exact hP, va_K.moved hW.alike hK, hD.weaken (fun _ _ _ _ => trivial)⟩⟩ rfl rfl hl.1 rfl (lv_room (Nat.le_of_ble_eq_true rfl)) dX10_aLine_85 ⟨Nat.le_of_ble_eq_true rfl, Nat.le_of_ble_eq_true rfl⟩) hS (fun q _ h => hFc q h) hFc (fun r_332 u t H1 locs ht hvm hw hB hz1 hk1 hS => ?_)
                subst hw
                obtain ⟨x_333, x_334, x_335, f_336, hr_332_0, hr_332_1, hr_332_2, hr_332_3, hr_332_4, hP, hK1, hD1⟩ := hB
                rw [ht] at hP
                have hD := hD1.weaken (fun k q _ h => hFc q.1 h)
                clear hz1 hk1 hFc hD1 hK1 hvm
                generalize H1 = H at hP hS ⊢
                have rg_x_333 := i_rng x_333
                have rg_x_334 := i_rng x_334
                have rg_x_335 := i_rng x_335
                have rg_r_332 := i_rng r_332
                have hP : va_P (dC, dI) vwCl (mW ad kc x0 x1 x2 x3 x4 x_305 x_306 x_333 x_334 x_335 x10 x11 x12 x13 x14 x15 x16 x17 x18 x19 x20 x21 f_336 f1 f2 f3 f4 f5 f6 f7 f8 f9 f10 f11 f12 f13 f14 f15 f16 f17 f18 f19 f20 f21 fL fN fP fM fO) H := hP
                have hD : va_D A (mW ad kc x0 x1 x2 x3 x4 x_305 x_306 x_333 x_334 x_335 x10 x11 x12 x13 x14 x15 x16 x17 x18 x19 x20 x21 f_336 f1 f2 f3 f4 f5 f6 f7 f8 f9 f10 f11 f12 f13 f14 f15 f16 f17 f18 f19 f20 f21 fL fN fP fM fO) := hD
                have hq9 := hr_332_0
                have hq8 := hr_332_1
                refine lv_if_eq (tgt := 101) hx hb dX10_aLine_88 (by decide) (fun k_337 => ?_) (fun k_337 => ?_)
                · have tk_337 := c_eq (a := r_332.toInt) (b := 0) rfl (by decide) k_337
                  refine lv_iconst (v := 0) hx hb dX10_aLine_101 (by decide) ?_
                  have lit_337 : (0 : Int32).toInt = 0 := by decide
                  exact W.zret hx hb hr (z_nar (by first | assumption | decide | exact z_of (by omega))) (fun t ht hW => ⟨⟨_, _, rfl, rfl, x_305, x_306, x_333, x_334, x_335, x11, f_336, hq9, hq8, (by first | omega | assumption | rfl | decide), (by first | omega | assumption | rfl | decide), (by first | omega | assumption | rfl | decide), (fun h9 => by omega), by rw [ht]; exact hP, va_K.moved hW.alike hK, hD⟩, hS.F ht⟩) hS.2.2 dX10_aLine_102
                · have tk_337 := c_ne (a := r_332.toInt) (b := 0) rfl (by decide) k_337
                  refine lv_goto (tgt := 103) hx hb dX10_aLine_91 (by decide) ?_
                  refine lv_aload_n hx hb dX10_aLine_103 rfl (lv_at hl 1 rfl) ?_
                  have hFc := m_free hD hS hA
                  refine va_callv (va_runV (As := []) (rest := []) ⟨hx, hb, hml, hown, hts⟩ (m_ahead l dC dI ad kc x0 x1 x2 x3 x4 x_305 x_306 x_333 x_334 x_335 x10 x11 x12 x13 x14 x15 x16 x17 x18 x19 x20 x21 f_336 f1 f2 f3 f4 f5 f6 f7 f8 f9 f10 f11 f12 f13 f14 f15 f16 f17 f18 f19 f20 f21 fL fN fP fM fO H.size (by first | omega | assumption | decide | (have l0 := Int32.toInt_zero; omega)) (by first | omega | assumption | decide | (have l0 := Int32.toInt_zero; omega)) (by first | omega | assumption | decide | (have l0 := Int32.toInt_zero; omega))) (cwV 0 hts mg_X10_aLinem_X10_ahead_184 rfl rfl rfl (by decide +kernel) ⟨Nat.le_of_ble_eq_true rfl, Nat.le_of_ble_eq_true rfl⟩) ⟨fun a U g mk q => by obtain ⟨q0, q1, qP, qK, qD⟩ := q; exact ⟨q0, q1, qP, va_K.moved (u := U) (U := U.calling g mk a) (Vm.Alike.refl U.vm) qK, qD⟩, va_recv hK hP (ci := 10) (q0 := 0) rfl rfl, fun U hU hW => ⟨rfl, by rw [hU], by rw [hU]; exact hP, va_K.moved hW.alike hK, hD.weaken (fun _ _ _ _ => trivial)⟩⟩ rfl rfl hl.1 rfl (lv_room (Nat.le_of_ble_eq_true rfl)) dX10_aLine_104 ⟨Nat.le_of_ble_eq_true rfl, Nat.le_of_ble_eq_true rfl⟩) hS (fun q _ h => hFc q h) hFc (fun u t H1 locs ht hvm hw hB hz1 hk1 hS => ?_)
                  obtain ⟨x_340, x_341, x_342, hr_339_0, hr_339_1, hr_339_2, hr_339_3, hr_339_4, hP, hK1, hD1⟩ := hB
                  rw [ht] at hP
                  have hD := hD1.weaken (fun k q _ h => hFc q.1 h)
                  clear hz1 hk1 hFc hD1 hK1 hvm
                  generalize H1 = H at hP hS ⊢
                  have rg_x_340 := i_rng x_340
                  have rg_x_341 := i_rng x_341
                  have rg_x_342 := i_rng x_342
                  have hP : va_P (dC, dI) vwCl (mW ad kc x0 x1 x2 x3 x4 x_340 x_341 x_342 x_334 x_335 x10 x11 x12 x13 x14 x15 x16 x17 x18 x19 x20 x21 f_336 f1 f2 f3 f4 f5 f6 f7 f8 f9 f10 f11 f12 f13 f14 f15 f16 f17 f18 f19 f20 f21 fL fN fP fM fO) H := hP
                  have hD : va_D A (mW ad kc x0 x1 x2 x3 x4 x_340 x_341 x_342 x_334 x_335 x10 x11 x12 x13 x14 x15 x16 x17 x18 x19 x20 x21 f_336 f1 f2 f3 f4 f5 f6 f7 f8 f9 f10 f11 f12 f13 f14 f15 f16 f17 f18 f19 f20 f21 fL fN fP fM fO) := hD
                  refine lv_aload_n hx hb dX10_aLine_107 rfl (lv_at hl 1 rfl) ?_
                  refine va_get (D := (dC, dI)) (ci := 10) (v := .int x_340) (C := RX10) (T := TX10) (N := 48) hx hb hts fin_X10_aLinem_X10 hown hK hP 0 rfl rfl 8 (by decide) (hts (.fieldLink RX10 120 "PatternGateModel" "token" "I") (List.mem_of_getElem? (i := 9) (by decide +kernel))) (fun _ h9 => h9) rfl dX10_aLine_108 ?_
                  refine lv_iconst (v := 4) hx hb dX10_aLine_111 (by decide) ?_
                  refine lv_icmp_eq (tgt := 121) hx hb dX10_aLine_112 (by decide) (fun k_343 => ?_) (fun k_343 => ?_)
                  · have tk_343 := c_eq (a := x_340.toInt) (b := 4) rfl (by decide) k_343
                    refine lv_aload_n hx hb dX10_aLine_121 rfl (lv_at hl 1 rfl) ?_
                    have hFc := m_free hD hS hA
                    refine va_callv (va_runV (As := []) (rest := []) ⟨hx, hb, hml, hown, hts⟩ (m_ahead l dC dI ad kc x0 x1 x2 x3 x4 x_340 x_341 x_342 x_334 x_335 x10 x11 x12 x13 x14 x15 x16 x17 x18 x19 x20 x21 f_336 f1 f2 f3 f4 f5 f6 f7 f8 f9 f10 f11 f12 f13 f14 f15 f16 f17 f18 f19 f20 f21 fL fN fP fM fO H.size (by first | omega | assumption | decide | (have l0 := Int32.toInt_zero; omega)) (by first | omega | assumption | decide | (have l0 := Int32.toInt_zero; omega)) (by first | omega | assumption | decide | (have l0 := Int32.toInt_zero; omega))) (cwV 0 hts mg_X10_aLinem_X10_ahead_184 rfl rfl rfl (by decide +kernel) ⟨Nat.le_of_ble_eq_true rfl, Nat.le_of_ble_eq_true rfl⟩) ⟨fun a U g mk q => by obtain ⟨q0, q1, qP, qK, qD⟩ := q; exact ⟨q0, q1, qP, va_K.moved (u := U) (U := U.calling g mk a) (Vm.Alike.refl U.vm) qK, qD⟩, va_recv hK hP (ci := 10) (q0 := 0) rfl rfl, fun U hU hW => ⟨rfl, by rw [hU], by rw [hU]; exact hP, va_K.moved hW.alike hK, hD.weaken (fun _ _ _ _ => trivial)⟩⟩ rfl rfl hl.1 rfl (lv_room (Nat.le_of_ble_eq_true rfl)) dX10_aLine_122 ⟨Nat.le_of_ble_eq_true rfl, Nat.le_of_ble_eq_true rfl⟩) hS (fun q _ h => hFc q h) hFc (fun u t H1 locs ht hvm hw hB hz1 hk1 hS => ?_)
                    obtain ⟨x_345, x_346, x_347, hr_344_0, hr_344_1, hr_344_2, hr_344_3, hr_344_4, hP, hK1, hD1⟩ := hB
                    rw [ht] at hP
                    have hD := hD1.weaken (fun k q _ h => hFc q.1 h)
                    clear hz1 hk1 hFc hD1 hK1 hvm
                    generalize H1 = H at hP hS ⊢
                    have rg_x_345 := i_rng x_345
                    have rg_x_346 := i_rng x_346
                    have rg_x_347 := i_rng x_347
                    have hP : va_P (dC, dI) vwCl (mW ad kc x0 x1 x2 x3 x4 x_345 x_346 x_347 x_334 x_335 x10 x11 x12 x13 x14 x15 x16 x17 x18 x19 x20 x21 f_336 f1 f2 f3 f4 f5 f6 f7 f8 f9 f10 f11 f12 f13 f14 f15 f16 f17 f18 f19 f20 f21 fL fN fP fM fO) H := hP
                    have hD : va_D A (mW ad kc x0 x1 x2 x3 x4 x_345 x_346 x_347 x_334 x_335 x10 x11 x12 x13 x14 x15 x16 x17 x18 x19 x20 x21 f_336 f1 f2 f3 f4 f5 f6 f7 f8 f9 f10 f11 f12 f13 f14 f15 f16 f17 f18 f19 f20 f21 fL fN fP fM fO) := hD
                    refine lv_iconst (v := 1) hx hb dX10_aLine_125 (by decide) ?_
                    have lit_347 : (1 : Int32).toInt = 1 := by decide
                    exact W.zret hx hb hr (z_nar (by first | assumption | decide | exact z_of (by omega))) (fun t ht hW => ⟨⟨_, _, rfl, rfl, x_345, x_346, x_347, x_334, x_335, x11, f_336, hq9, hq8, (by first | omega | assumption | rfl | decide), (by first | omega | assumption | rfl | decide), (by first | omega | assumption | rfl | decide), (fun h9 => by omega), by rw [ht]; exact hP, va_K.moved hW.alike hK, hD⟩, hS.F ht⟩) hS.2.2 dX10_aLine_126
                  · have tk_343 := c_ne (a := x_340.toInt) (b := 4) rfl (by decide) k_343
                    refine lv_aload_n hx hb dX10_aLine_115 rfl (lv_at hl 1 rfl) ?_
                    refine lv_iconst (v := 2) hx hb dX10_aLine_116 (by decide) ?_
                    have lit_348 : (2 : Int32).toInt = 2 := by decide
                    have hFc := m_free hD hS hA
                    refine va_calli (va_runV (As := [.int 2]) (rest := []) ⟨hx, hb, hml, hown, hts⟩ (m_fails l dC dI ad kc x0 x1 x2 x3 x4 x_340 x_341 x_342 x_334 x_335 x10 x11 x12 x13 x14 x15 x16 x17 x18 x19 x20 x21 f_336 f1 f2 f3 f4 f5 f6 f7 f8 f9 f10 f11 f12 f13 f14 f15 f16 f17 f18 f19 f20 f21 fL fN fP fM fO H.size 2 ) (cwV 1 hts mg_X10_aLinem_X10_fails_181 rfl rfl rfl (by decide +kernel) ⟨Nat.le_of_ble_eq_true rfl, Nat.le_of_ble_eq_true rfl⟩) ⟨fun a U g mk q => by obtain ⟨q0, q1, qP, qK, qD⟩ := q; exact ⟨q0, q1, qP, va_K.moved (u := U) (U := U.calling g mk a) (Vm.Alike.refl U.vm) qK, qD⟩, va_recv hK hP (ci := 10) (q0 := 0) rfl rfl, fun U hU hW => ⟨rfl, by rw [hU], by rw [hU]; exact hP, va_K.moved hW.alike hK, hD.weaken (fun _ _ _ _ => trivial)⟩⟩ rfl rfl hl.1 rfl (lv_room (Nat.le_of_ble_eq_true rfl)) dX10_aLine_117 ⟨Nat.le_of_ble_eq_true rfl, Nat.le_of_ble_eq_true rfl⟩) hS (fun q _ h => hFc q h) hFc (fun r_350 u t H1 locs ht hvm hw hB hz1 hk1 hS => ?_)
                    subst hw
                    obtain ⟨x_351, x_352, hr_350_0, hP, hK1, hD1⟩ := hB
                    rw [ht] at hP
                    have hD := hD1.weaken (fun k q _ h => hFc q.1 h)
                    clear hz1 hk1 hFc hD1 hK1 hvm
                    generalize H1 = H at hP hS ⊢
                    have rg_x_351 := i_rng x_351
                    have rg_x_352 := i_rng x_352
                    have rg_r_350 := i_rng r_350
                    have hP : va_P (dC, dI) vwCl (mW ad kc x0 x1 x2 x3 x4 x_340 x_341 x_342 x_351 x_352 x10 x11 x12 x13 x14 x15 x16 x17 x18 x19 x20 x21 f_336 f1 f2 f3 f4 f5 f6 f7 f8 f9 f10 f11 f12 f13 f14 f15 f16 f17 f18 f19 f20 f21 fL fN fP fM fO) H := hP
                    have hD : va_D A (mW ad kc x0 x1 x2 x3 x4 x_340 x_341 x_342 x_351 x_352 x10 x11 x12 x13 x14 x15 x16 x17 x18 x19 x20 x21 f_336 f1 f2 f3 f4 f5 f6 f7 f8 f9 f10 f11 f12 f13 f14 f15 f16 f17 f18 f19 f20 f21 fL fN fP fM fO) := hD
                    exact W.zret hx hb hr (z_nar (by first | assumption | decide | exact z_of (by omega))) (fun t ht hW => ⟨⟨_, _, rfl, rfl, x_340, x_341, x_342, x_351, x_352, x11, f_336, hq9, hq8, (by first | omega | assumption | rfl | decide), (by first | omega | assumption | rfl | decide), (by first | omega | assumption | rfl | decide), (fun h9 => by omega), by rw [ht]; exact hP, va_K.moved hW.alike hK, hD⟩, hS.F ht⟩) hS.2.2 dX10_aLine_120
            · have tk_308 := c_ne (a := x_305.toInt) (b := 3) rfl (by decide) k_308
              refine lv_aload_n hx hb dX10_aLine_74 rfl (lv_at hl 1 rfl) ?_
              refine lv_iconst (v := 2) hx hb dX10_aLine_75 (by decide) ?_
              have lit_352 : (2 : Int32).toInt = 2 := by decide
              have hFc := m_free hD hS hA
              refine va_calli (va_runV (As := [.int 2]) (rest := []) ⟨hx, hb, hml, hown, hts⟩ (m_fails l dC dI ad kc x0 x1 x2 x3 x4 x_305 x_306 x_307 x8 x9 x10 x11 x12 x13 x14 x15 x16 x17 x18 x19 x20 x21 f0 f1 f2 f3 f4 f5 f6 f7 f8 f9 f10 f11 f12 f13 f14 f15 f16 f17 f18 f19 f20 f21 fL fN fP fM fO H.size 2 ) (cwV 1 hts mg_X10_aLinem_X10_fails_181 rfl rfl rfl (by decide +kernel) ⟨Nat.le_of_ble_eq_true rfl, Nat.le_of_ble_eq_true rfl⟩) ⟨fun a U g mk q => by obtain ⟨q0, q1, qP, qK, qD⟩ := q; exact ⟨q0, q1, qP, va_K.moved (u := U) (U := U.calling g mk a) (Vm.Alike.refl U.vm) qK, qD⟩, va_recv hK hP (ci := 10) (q0 := 0) rfl rfl, fun U hU hW => ⟨rfl, by rw [hU], by rw [hU]; exact hP, va_K.moved hW.alike hK, hD.weaken (fun _ _ _ _ => trivial)⟩⟩ rfl rfl hl.1 rfl (lv_room (Nat.le_of_ble_eq_true rfl)) dX10_aLine_76 ⟨Nat.le_of_ble_eq_true rfl, Nat.le_of_ble_eq_true rfl⟩) hS (fun q _ h => hFc q h) hFc (fun r_354 u t H1 locs ht hvm hw hB hz1 hk1 hS => ?_)
              subst hw
              obtain ⟨x_355, x_356, hr_354_0, hP, hK1, hD1⟩ := hB
              rw [ht] at hP
              have hD := hD1.weaken (fun k q _ h => hFc q.1 h)
              clear hz1 hk1 hFc hD1 hK1 hvm
              generalize H1 = H at hP hS ⊢
              have rg_x_355 := i_rng x_355
              have rg_x_356 := i_rng x_356
              have rg_r_354 := i_rng r_354
              have hP : va_P (dC, dI) vwCl (mW ad kc x0 x1 x2 x3 x4 x_305 x_306 x_307 x_355 x_356 x10 x11 x12 x13 x14 x15 x16 x17 x18 x19 x20 x21 f0 f1 f2 f3 f4 f5 f6 f7 f8 f9 f10 f11 f12 f13 f14 f15 f16 f17 f18 f19 f20 f21 fL fN fP fM fO) H := hP
              have hD : va_D A (mW ad kc x0 x1 x2 x3 x4 x_305 x_306 x_307 x_355 x_356 x10 x11 x12 x13 x14 x15 x16 x17 x18 x19 x20 x21 f0 f1 f2 f3 f4 f5 f6 f7 f8 f9 f10 f11 f12 f13 f14 f15 f16 f17 f18 f19 f20 f21 fL fN fP fM fO) := hD
              exact W.zret hx hb hr (z_nar (by first | assumption | decide | exact z_of (by omega))) (fun t ht hW => ⟨⟨_, _, rfl, rfl, x_305, x_306, x_307, x_355, x_356, x11, f0, q0, (fun _ _ => rfl), (by first | omega | assumption | rfl | decide), (by first | omega | assumption | rfl | decide), (by first | omega | assumption | rfl | decide), (fun h9 => by omega), by rw [ht]; exact hP, va_K.moved hW.alike hK, hD⟩, hS.F ht⟩) hS.2.2 dX10_aLine_79
          · have tk_303 := c_eq (a := y_243.toInt) (b := 10) rfl (by decide) k_303
            refine lv_aload_n hx hb dX10_aLine_56 rfl (lv_at hl 1 rfl) ?_
            refine lv_iconst (v := 3) hx hb dX10_aLine_57 (by decide) ?_
            have lit_356 : (3 : Int32).toInt = 3 := by decide
            have hFc := m_free hD hS hA
            refine va_calli (va_runV (As := [.int 3]) (rest := []) ⟨hx, hb, hml, hown, hts⟩ (m_fails l dC dI ad kc x0 x1 x2 x3 x4 x5 x6 x7 x8 x9 x10 x11 x12 x13 x14 x15 x16 x17 x18 x19 x20 x21 f0 f1 f2 f3 f4 f5 f6 f7 f8 f9 f10 f11 f12 f13 f14 f15 f16 f17 f18 f19 f20 f21 fL fN fP fM fO H.size 3 ) (cwV 1 hts mg_X10_aLinem_X10_fails_181 rfl rfl rfl (by decide +kernel) ⟨Nat.le_of_ble_eq_true rfl, Nat.le_of_ble_eq_true rfl⟩) ⟨fun a U g mk q => by obtain ⟨q0, q1, qP, qK, qD⟩ := q; exact ⟨q0, q1, qP, va_K.moved (u := U) (U := U.calling g mk a) (Vm.Alike.refl U.vm) qK, qD⟩, va_recv hK hP (ci := 10) (q0 := 0) rfl rfl, fun U hU hW => ⟨rfl, by rw [hU], by rw [hU]; exact hP, va_K.moved hW.alike hK, hD.weaken (fun _ _ _ _ => trivial)⟩⟩ rfl rfl hl.1 rfl (lv_room (Nat.le_of_ble_eq_true rfl)) dX10_aLine_58 ⟨Nat.le_of_ble_eq_true rfl, Nat.le_of_ble_eq_true rfl⟩) hS (fun q _ h => hFc q h) hFc (fun r_358 u t H1 locs ht hvm hw hB hz1 hk1 hS => ?_)
            subst hw
            obtain ⟨x_359, x_360, hr_358_0, hP, hK1, hD1⟩ := hB
            rw [ht] at hP
            have hD := hD1.weaken (fun k q _ h => hFc q.1 h)
            clear hz1 hk1 hFc hD1 hK1 hvm
            generalize H1 = H at hP hS ⊢
            have rg_x_359 := i_rng x_359
            have rg_x_360 := i_rng x_360
            have rg_r_358 := i_rng r_358
            have hP : va_P (dC, dI) vwCl (mW ad kc x0 x1 x2 x3 x4 x5 x6 x7 x_359 x_360 x10 x11 x12 x13 x14 x15 x16 x17 x18 x19 x20 x21 f0 f1 f2 f3 f4 f5 f6 f7 f8 f9 f10 f11 f12 f13 f14 f15 f16 f17 f18 f19 f20 f21 fL fN fP fM fO) H := hP
            have hD : va_D A (mW ad kc x0 x1 x2 x3 x4 x5 x6 x7 x_359 x_360 x10 x11 x12 x13 x14 x15 x16 x17 x18 x19 x20 x21 f0 f1 f2 f3 f4 f5 f6 f7 f8 f9 f10 f11 f12 f13 f14 f15 f16 f17 f18 f19 f20 f21 fL fN fP fM fO) := hD
            exact W.zret hx hb hr (z_nar (by first | assumption | decide | exact z_of (by omega))) (fun t ht hW => ⟨⟨_, _, rfl, rfl, x5, x6, x7, x_359, x_360, x11, f0, q0, (fun _ _ => rfl), (by first | omega | assumption | rfl | decide), (by first | omega | assumption | rfl | decide), (by first | omega | assumption | rfl | decide), (fun h9 => by omega), by rw [ht]; exact hP, va_K.moved hW.alike hK, hD⟩, hS.F ht⟩) hS.2.2 dX10_aLine_61
      · have tk_242 := c_ne (a := r_1.toInt) (b := 0) rfl (by decide) k_242
        refine lv_iconst (v := 0) hx hb dX10_aLine_34 (by decide) ?_
        refine lv_goto (tgt := 41) hx hb dX10_aLine_35 (by decide) ?_
        refine va_iald hx hb hK hP 1 0 rfl rfl (i := 0) (by unfold vp_in; decide +kernel) dX10_aLine_41 ?_
        refine lv_topi (fun y_361 ey_361 => ?_)
        have rg_y_361 := i_rng y_361
        have vy_361 := vI_lda (f := f0) (i := 0) (a := 0) ey_361 (by first | omega | decide)
        have rg_y_361 := i_rng y_361
        refine lv_iload_n hx hb dX10_aLine_42 rfl (lv_at hl 0 rfl) ?_
        refine lv_if_eq (tgt := 51) hx hb dX10_aLine_43 (by decide) (fun k_362 => ?_) (fun k_362 => ?_)
        · have tk_362 := c_eq (a := r_1.toInt) (b := 0) rfl (by decide) k_362
          refine lv_bipush (v := 8) hx hb dX10_aLine_51 (by decide) ?_
          refine lv_icmp_ne (tgt := 62) hx hb dX10_aLine_53 (by decide) (fun k_363 => ?_) (fun k_363 => ?_)
          · have tk_363 := c_ne (a := y_361.toInt) (b := 8) rfl (by decide) k_363
            refine lv_aload_n hx hb dX10_aLine_62 rfl (lv_at hl 1 rfl) ?_
            have hFc := m_free hD hS hA
            refine va_callv (va_runV (As := []) (rest := []) ⟨hx, hb, hml, hown, hts⟩ (m_ahead l dC dI ad kc x0 x1 x2 x3 x4 x5 x6 x7 x8 x9 x10 x11 x12 x13 x14 x15 x16 x17 x18 x19 x20 x21 f0 f1 f2 f3 f4 f5 f6 f7 f8 f9 f10 f11 f12 f13 f14 f15 f16 f17 f18 f19 f20 f21 fL fN fP fM fO H.size (by first | omega | assumption | decide | (have l0 := Int32.toInt_zero; omega)) (by first | omega | assumption | decide | (have l0 := Int32.toInt_zero; omega)) (by first | omega | assumption | decide | (have l0 := Int32.toInt_zero; omega))) (cwV 0 hts mg_X10_aLinem_X10_ahead_184 rfl rfl rfl (by decide +kernel) ⟨Nat.le_of_ble_eq_true rfl, Nat.le_of_ble_eq_true rfl⟩) ⟨fun a U g mk q => by obtain ⟨q0, q1, qP, qK, qD⟩ := q; exact ⟨q0, q1, qP, va_K.moved (u := U) (U := U.calling g mk a) (Vm.Alike.refl U.vm) qK, qD⟩, va_recv hK hP (ci := 10) (q0 := 0) rfl rfl, fun U hU hW => ⟨rfl, by rw [hU], by rw [hU]; exact hP, va_K.moved hW.alike hK, hD.weaken (fun _ _ _ _ => trivial)⟩⟩ rfl rfl hl.1 rfl (lv_room (Nat.le_of_ble_eq_true rfl)) dX10_aLine_63 ⟨Nat.le_of_ble_eq_true rfl, Nat.le_of_ble_eq_true rfl⟩) hS (fun q _ h => hFc q h) hFc (fun u t H1 locs ht hvm hw hB hz1 hk1 hS => ?_)
            obtain ⟨x_365, x_366, x_367, hr_364_0, hr_364_1, hr_364_2, hr_364_3, hr_364_4, hP, hK1, hD1⟩ := hB
            rw [ht] at hP
            have hD := hD1.weaken (fun k q _ h => hFc q.1 h)
            clear hz1 hk1 hFc hD1 hK1 hvm
            generalize H1 = H at hP hS ⊢
            have rg_x_365 := i_rng x_365
            have rg_x_366 := i_rng x_366
            have rg_x_367 := i_rng x_367
            have hP : va_P (dC, dI) vwCl (mW ad kc x0 x1 x2 x3 x4 x_365 x_366 x_367 x8 x9 x10 x11 x12 x13 x14 x15 x16 x17 x18 x19 x20 x21 f0 f1 f2 f3 f4 f5 f6 f7 f8 f9 f10 f11 f12 f13 f14 f15 f16 f17 f18 f19 f20 f21 fL fN fP fM fO) H := hP
            have hD : va_D A (mW ad kc x0 x1 x2 x3 x4 x_365 x_366 x_367 x8 x9 x10 x11 x12 x13 x14 x15 x16 x17 x18 x19 x20 x21 f0 f1 f2 f3 f4 f5 f6 f7 f8 f9 f10 f11 f12 f13 f14 f15 f16 f17 f18 f19 f20 f21 fL fN fP fM fO) := hD
            refine lv_aload_n hx hb dX10_aLine_66 rfl (lv_at hl 1 rfl) ?_
            refine va_get (D := (dC, dI)) (ci := 10) (v := .int x_365) (C := RX10) (T := TX10) (N := 48) hx hb hts fin_X10_aLinem_X10 hown hK hP 0 rfl rfl 8 (by decide) (hts (.fieldLink RX10 120 "PatternGateModel" "token" "I") (List.mem_of_getElem? (i := 9) (by decide +kernel))) (fun _ h9 => h9) rfl dX10_aLine_67 ?_
            refine lv_iconst (v := 3) hx hb dX10_aLine_70 (by decide) ?_
            refine lv_icmp_eq (tgt := 80) hx hb dX10_aLine_71 (by decide) (fun k_368 => ?_) (fun k_368 => ?_)
            · have tk_368 := c_eq (a := x_365.toInt) (b := 3) rfl (by decide) k_368
              refine lv_iload_n hx hb dX10_aLine_80 rfl (lv_at hl 0 rfl) ?_
              refine lv_if_eq (tgt := 94) hx hb dX10_aLine_81 (by decide) (fun k_369 => ?_) (fun k_369 => ?_)
              · have tk_369 := c_eq (a := r_1.toInt) (b := 0) rfl (by decide) k_369
                refine lv_aload_n hx hb dX10_aLine_94 rfl (lv_at hl 1 rfl) ?_
                have hFc := m_free hD hS hA
                refine va_calli (va_runV (As := []) (rest := []) ⟨hx, hb, hml, hown, hts⟩ (m_patternQuote l dC dI ad kc x0 x1 x2 x3 x4 x_365 x_366 x_367 x8 x9 x10 x11 x12 x13 x14 x15 x16 x17 x18 x19 x20 x21 f0 f1 f2 f3 f4 f5 f6 f7 f8 f9 f10 f11 f12 f13 f14 f15 f16 f17 f18 f19 f20 f21 fL fN fP fM fO H.size (by first | omega | assumption | decide | (have l0 := Int32.toInt_zero; omega)) (by first | omega | assumption | decide | (have l0 := Int32.toInt_zero; omega)) (by first | omega | assumption | decide | (have l0 := Int32.toInt_zero; omega)) (by first | omega | assumption | decide | (have l0 := Int32.toInt_zero; omega)) (by first | omega | assumption | decide | (have l0 := Int32.toInt_zero; omega))) (cwV 0 hts mg_X10_aLinem_X10_patternQuote_190 rfl rfl rfl (by decide +kernel) ⟨Nat.le_of_ble_eq_true rfl, Nat.le_of_ble_eq_true rfl⟩) ⟨fun a U g mk q => by obtain ⟨q0, q1, qP, qK, qD⟩ := q; exact ⟨q0, q1, qP, va_K.moved (u := U) (U := U.calling g mk a) (Vm.Alike.refl U.vm) qK, qD⟩, va_recv hK hP (ci := 10) (q0 := 0) rfl rfl, fun U hU hW => ⟨rfl, by rw [hU], by rw [hU]; exact hP, va_K.moved hW.alike hK, hD.weaken (fun _ _ _ _ => trivial)⟩⟩ rfl rfl hl.1 rfl (lv_room (Nat.le_of_ble_eq_true rfl)) dX10_aLine_95 ⟨Nat.le_of_ble_eq_true rfl, Nat.le_of_ble_eq_true rfl⟩) hS (fun q _ h => hFc q h) hFc (fun r_370 u t H1 locs ht hvm hw hB hz1 hk1 hS => ?_)
                subst hw
                obtain ⟨x_371, x_372, x_373, x_374, f_375, hr_370_0, hr_370_1, hr_370_2, hr_370_3, hr_370_4, hP, hK1, hD1⟩ := hB
                rw [ht] at hP
                have hD := hD1.weaken (fun k q _ h => hFc q.1 h)
                clear hz1 hk1 hFc hD1 hK1 hvm
                generalize H1 = H at hP hS ⊢
                have rg_x_371 := i_rng x_371
                have rg_x_372 := i_rng x_372
                have rg_x_373 := i_rng x_373
                have rg_x_374 := i_rng x_374
                have rg_r_370 := i_rng r_370
                have hP : va_P (dC, dI) vwCl (mW ad kc x0 x1 x2 x3 x4 x_365 x_366 x_371 x_372 x_373 x10 x_374 x12 x13 x14 x15 x16 x17 x18 x19 x20 x21 f_375 f1 f2 f3 f4 f5 f6 f7 f8 f9 f10 f11 f12 f13 f14 f15 f16 f17 f18 f19 f20 f21 fL fN fP fM fO) H := hP
                have hD : va_D A (mW ad kc x0 x1 x2 x3 x4 x_365 x_366 x_371 x_372 x_373 x10 x_374 x12 x13 x14 x15 x16 x17 x18 x19 x20 x21 f_375 f1 f2 f3 f4 f5 f6 f7 f8 f9 f10 f11 f12 f13 f14 f15 f16 f17 f18 f19 f20 f21 fL fN fP fM fO) := hD
                have hq9 := hr_370_0
                have hq8 := hr_370_1
                refine lv_if_ne (tgt := 103) hx hb dX10_aLine_98 (by decide) (fun k_376 => ?_) (fun k_376 => ?_)
                · have tk_376 := c_ne (a := r_370.toInt) (b := 0) rfl (by decide) k_376
                  refine lv_aload_n hx hb dX10_aLine_103 rfl (lv_at hl 1 rfl) ?_
                  have hFc := m_free hD hS hA
                  refine va_callv (va_runV (As := []) (rest := []) ⟨hx, hb, hml, hown, hts⟩ (m_ahead l dC dI ad kc x0 x1 x2 x3 x4 x_365 x_366 x_371 x_372 x_373 x10 x_374 x12 x13 x14 x15 x16 x17 x18 x19 x20 x21 f_375 f1 f2 f3 f4 f5 f6 f7 f8 f9 f10 f11 f12 f13 f14 f15 f16 f17 f18 f19 f20 f21 fL fN fP fM fO H.size (by first | omega | assumption | decide | (have l0 := Int32.toInt_zero; omega)) (by first | omega | assumption | decide | (have l0 := Int32.toInt_zero; omega)) (by first | omega | assumption | decide | (have l0 := Int32.toInt_zero; omega))) (cwV 0 hts mg_X10_aLinem_X10_ahead_184 rfl rfl rfl (by decide +kernel) ⟨Nat.le_of_ble_eq_true rfl, Nat.le_of_ble_eq_true rfl⟩) ⟨fun a U g mk q => by obtain ⟨q0, q1, qP, qK, qD⟩ := q; exact ⟨q0, q1, qP, va_K.moved (u := U) (U := U.calling g mk a) (Vm.Alike.refl U.vm) qK, qD⟩, va_recv hK hP (ci := 10) (q0 := 0) rfl rfl, fun U hU hW => ⟨rfl, by rw [hU], by rw [hU]; exact hP, va_K.moved hW.alike hK, hD.weaken (fun _ _ _ _ => trivial)⟩⟩ rfl rfl hl.1 rfl (lv_room (Nat.le_of_ble_eq_true rfl)) dX10_aLine_104 ⟨Nat.le_of_ble_eq_true rfl, Nat.le_of_ble_eq_true rfl⟩) hS (fun q _ h => hFc q h) hFc (fun u t H1 locs ht hvm hw hB hz1 hk1 hS => ?_)
                  obtain ⟨x_378, x_379, x_380, hr_377_0, hr_377_1, hr_377_2, hr_377_3, hr_377_4, hP, hK1, hD1⟩ := hB
                  rw [ht] at hP
                  have hD := hD1.weaken (fun k q _ h => hFc q.1 h)
                  clear hz1 hk1 hFc hD1 hK1 hvm
                  generalize H1 = H at hP hS ⊢
                  have rg_x_378 := i_rng x_378
                  have rg_x_379 := i_rng x_379
                  have rg_x_380 := i_rng x_380
                  have hP : va_P (dC, dI) vwCl (mW ad kc x0 x1 x2 x3 x4 x_378 x_379 x_380 x_372 x_373 x10 x_374 x12 x13 x14 x15 x16 x17 x18 x19 x20 x21 f_375 f1 f2 f3 f4 f5 f6 f7 f8 f9 f10 f11 f12 f13 f14 f15 f16 f17 f18 f19 f20 f21 fL fN fP fM fO) H := hP
                  have hD : va_D A (mW ad kc x0 x1 x2 x3 x4 x_378 x_379 x_380 x_372 x_373 x10 x_374 x12 x13 x14 x15 x16 x17 x18 x19 x20 x21 f_375 f1 f2 f3 f4 f5 f6 f7 f8 f9 f10 f11 f12 f13 f14 f15 f16 f17 f18 f19 f20 f21 fL fN fP fM fO) := hD
                  refine lv_aload_n hx hb dX10_aLine_107 rfl (lv_at hl 1 rfl) ?_
                  refine va_get (D := (dC, dI)) (ci := 10) (v := .int x_378) (C := RX10) (T := TX10) (N := 48) hx hb hts fin_X10_aLinem_X10 hown hK hP 0 rfl rfl 8 (by decide) (hts (.fieldLink RX10 120 "PatternGateModel" "token" "I") (List.mem_of_getElem? (i := 9) (by decide +kernel))) (fun _ h9 => h9) rfl dX10_aLine_108 ?_
                  refine lv_iconst (v := 4) hx hb dX10_aLine_111 (by decide) ?_
                  refine lv_icmp_eq (tgt := 121) hx hb dX10_aLine_112 (by decide) (fun k_381 => ?_) (fun k_381 => ?_)
                  · have tk_381 := c_eq (a := x_378.toInt) (b := 4) rfl (by decide) k_381
                    refine lv_aload_n hx hb dX10_aLine_121 rfl (lv_at hl 1 rfl) ?_
                    have hFc := m_free hD hS hA
                    refine va_callv (va_runV (As := []) (rest := []) ⟨hx, hb, hml, hown, hts⟩ (m_ahead l dC dI ad kc x0 x1 x2 x3 x4 x_378 x_379 x_380 x_372 x_373 x10 x_374 x12 x13 x14 x15 x16 x17 x18 x19 x20 x21 f_375 f1 f2 f3 f4 f5 f6 f7 f8 f9 f10 f11 f12 f13 f14 f15 f16 f17 f18 f19 f20 f21 fL fN fP fM fO H.size (by first | omega | assumption | decide | (have l0 := Int32.toInt_zero; omega)) (by first | omega | assumption | decide | (have l0 := Int32.toInt_zero; omega)) (by first | omega | assumption | decide | (have l0 := Int32.toInt_zero; omega))) (cwV 0 hts mg_X10_aLinem_X10_ahead_184 rfl rfl rfl (by decide +kernel) ⟨Nat.le_of_ble_eq_true rfl, Nat.le_of_ble_eq_true rfl⟩) ⟨fun a U g mk q => by obtain ⟨q0, q1, qP, qK, qD⟩ := q; exact ⟨q0, q1, qP, va_K.moved (u := U) (U := U.calling g mk a) (Vm.Alike.refl U.vm) qK, qD⟩, va_recv hK hP (ci := 10) (q0 := 0) rfl rfl, fun U hU hW => ⟨rfl, by rw [hU], by rw [hU]; exact hP, va_K.moved hW.alike hK, hD.weaken (fun _ _ _ _ => trivial)⟩⟩ rfl rfl hl.1 rfl (lv_room (Nat.le_of_ble_eq_true rfl)) dX10_aLine_122 ⟨Nat.le_of_ble_eq_true rfl, Nat.le_of_ble_eq_true rfl⟩) hS (fun q _ h => hFc q h) hFc (fun u t H1 locs ht hvm hw hB hz1 hk1 hS => ?_)
                    obtain ⟨x_383, x_384, x_385, hr_382_0, hr_382_1, hr_382_2, hr_382_3, hr_382_4, hP, hK1, hD1⟩ := hB
                    rw [ht] at hP
                    have hD := hD1.weaken (fun k q _ h => hFc q.1 h)
                    clear hz1 hk1 hFc hD1 hK1 hvm
                    generalize H1 = H at hP hS ⊢
                    have rg_x_383 := i_rng x_383
                    have rg_x_384 := i_rng x_384
                    have rg_x_385 := i_rng x_385
                    have hP : va_P (dC, dI) vwCl (mW ad kc x0 x1 x2 x3 x4 x_383 x_384 x_385 x_372 x_373 x10 x_374 x12 x13 x14 x15 x16 x17 x18 x19 x20 x21 f_375 f1 f2 f3 f4 f5 f6 f7 f8 f9 f10 f11 f12 f13 f14 f15 f16 f17 f18 f19 f20 f21 fL fN fP fM fO) H := hP
                    have hD : va_D A (mW ad kc x0 x1 x2 x3 x4 x_383 x_384 x_385 x_372 x_373 x10 x_374 x12 x13 x14 x15 x16 x17 x18 x19 x20 x21 f_375 f1 f2 f3 f4 f5 f6 f7 f8 f9 f10 f11 f12 f13 f14 f15 f16 f17 f18 f19 f20 f21 fL fN fP fM fO) := hD
                    refine lv_iconst (v := 1) hx hb dX10_aLine_125 (by decide) ?_
                    have lit_385 : (1 : Int32).toInt = 1 := by decide
                    exact W.zret hx hb hr (z_nar (by first | assumption | decide | exact z_of (by omega))) (fun t ht hW => ⟨⟨_, _, rfl, rfl, x_383, x_384, x_385, x_372, x_373, x_374, f_375, hq9, hq8, (by first | omega | assumption | rfl | decide), (by first | omega | assumption | rfl | decide), (by first | omega | assumption | rfl | decide), (fun h9 => by omega), by rw [ht]; exact hP, va_K.moved hW.alike hK, hD⟩, hS.F ht⟩) hS.2.2 dX10_aLine_126
                  · have tk_381 := c_ne (a := x_378.toInt) (b := 4) rfl (by decide) k_381
                    refine lv_aload_n hx hb dX10_aLine_115 rfl (lv_at hl 1 rfl) ?_
                    refine lv_iconst (v := 2) hx hb dX10_aLine_116 (by decide) ?_
                    have lit_386 : (2 : Int32).toInt = 2 := by decide
                    have hFc := m_free hD hS hA
                    refine va_calli (va_runV (As := [.int 2]) (rest := []) ⟨hx, hb, hml, hown, hts⟩ (m_fails l dC dI ad kc x0 x1 x2 x3 x4 x_378 x_379 x_380 x_372 x_373 x10 x_374 x12 x13 x14 x15 x16 x17 x18 x19 x20 x21 f_375 f1 f2 f3 f4 f5 f6 f7 f8 f9 f10 f11 f12 f13 f14 f15 f16 f17 f18 f19 f20 f21 fL fN fP fM fO H.size 2 ) (cwV 1 hts mg_X10_aLinem_X10_fails_181 rfl rfl rfl (by decide +kernel) ⟨Nat.le_of_ble_eq_true rfl, Nat.le_of_ble_eq_true rfl⟩) ⟨fun a U g mk q => by obtain ⟨q0, q1, qP, qK, qD⟩ := q; exact ⟨q0, q1, qP, va_K.moved (u := U) (U := U.calling g mk a) (Vm.Alike.refl U.vm) qK, qD⟩, va_recv hK hP (ci := 10) (q0 := 0) rfl rfl, fun U hU hW => ⟨rfl, by rw [hU], by rw [hU]; exact hP, va_K.moved hW.alike hK, hD.weaken (fun _ _ _ _ => trivial)⟩⟩ rfl rfl hl.1 rfl (lv_room (Nat.le_of_ble_eq_true rfl)) dX10_aLine_117 ⟨Nat.le_of_ble_eq_true rfl, Nat.le_of_ble_eq_true rfl⟩) hS (fun q _ h => hFc q h) hFc (fun r_388 u t H1 locs ht hvm hw hB hz1 hk1 hS => ?_)
                    subst hw
                    obtain ⟨x_389, x_390, hr_388_0, hP, hK1, hD1⟩ := hB
                    rw [ht] at hP
                    have hD := hD1.weaken (fun k q _ h => hFc q.1 h)
                    clear hz1 hk1 hFc hD1 hK1 hvm
                    generalize H1 = H at hP hS ⊢
                    have rg_x_389 := i_rng x_389
                    have rg_x_390 := i_rng x_390
                    have rg_r_388 := i_rng r_388
                    have hP : va_P (dC, dI) vwCl (mW ad kc x0 x1 x2 x3 x4 x_378 x_379 x_380 x_389 x_390 x10 x_374 x12 x13 x14 x15 x16 x17 x18 x19 x20 x21 f_375 f1 f2 f3 f4 f5 f6 f7 f8 f9 f10 f11 f12 f13 f14 f15 f16 f17 f18 f19 f20 f21 fL fN fP fM fO) H := hP
                    have hD : va_D A (mW ad kc x0 x1 x2 x3 x4 x_378 x_379 x_380 x_389 x_390 x10 x_374 x12 x13 x14 x15 x16 x17 x18 x19 x20 x21 f_375 f1 f2 f3 f4 f5 f6 f7 f8 f9 f10 f11 f12 f13 f14 f15 f16 f17 f18 f19 f20 f21 fL fN fP fM fO) := hD
                    exact W.zret hx hb hr (z_nar (by first | assumption | decide | exact z_of (by omega))) (fun t ht hW => ⟨⟨_, _, rfl, rfl, x_378, x_379, x_380, x_389, x_390, x_374, f_375, hq9, hq8, (by first | omega | assumption | rfl | decide), (by first | omega | assumption | rfl | decide), (by first | omega | assumption | rfl | decide), (fun h9 => by omega), by rw [ht]; exact hP, va_K.moved hW.alike hK, hD⟩, hS.F ht⟩) hS.2.2 dX10_aLine_120
                · have tk_376 := c_eq (a := r_370.toInt) (b := 0) rfl (by decide) k_376
                  refine lv_iconst (v := 0) hx hb dX10_aLine_101 (by decide) ?_
                  have lit_390 : (0 : Int32).toInt = 0 := by decide
                  exact W.zret hx hb hr (z_nar (by first | assumption | decide | exact z_of (by omega))) (fun t ht hW => ⟨⟨_, _, rfl, rfl, x_365, x_366, x_371, x_372, x_373, x_374, f_375, hq9, hq8, (by first | omega | assumption | rfl | decide), (by first | omega | assumption | rfl | decide), (by first | omega | assumption | rfl | decide), (fun h9 => by omega), by rw [ht]; exact hP, va_K.moved hW.alike hK, hD⟩, hS.F ht⟩) hS.2.2 dX10_aLine_102
              · have tk_369 := c_ne (a := r_1.toInt) (b := 0) rfl (by decide) k_369
                refine lv_aload_n hx hb dX10_aLine_84 rfl (lv_at hl 1 rfl) ?_
                have hFc := m_free hD hS hA
                refine va_calli (va_runV (As := []) (rest := []) ⟨hx, hb, hml, hown, hts⟩ (m_docQuote l dC dI ad kc x0 x1 x2 x3 x4 x_365 x_366 x_367 x8 x9 x10 x11 x12 x13 x14 x15 x16 x17 x18 x19 x20 x21 f0 f1 f2 f3 f4 f5 f6 f7 f8 f9 f10 f11 f12 f13 f14 f15 f16 f17 f18 f19 f20 f21 fL fN fP fM fO H.size (by first | omega | assumption | decide | (have l0 := Int32.toInt_zero; omega)) (by first | omega | assumption | decide | (have l0 := Int32.toInt_zero; omega)) (by first | omega | assumption | decide | (have l0 := Int32.toInt_zero; omega)) (by first | omega | assumption | decide | (have l0 := Int32.toInt_zero; omega)) (by first | omega | assumption | decide | (have l0 := Int32.toInt_zero; omega))) (cwV 0 hts mg_X10_aLinem_X10_docQuote_187 rfl rfl rfl (by decide +kernel) ⟨Nat.le_of_ble_eq_true rfl, Nat.le_of_ble_eq_true rfl⟩) ⟨fun a U g mk q => by obtain ⟨q0, q1, qP, qK, qD⟩ := q; exact ⟨q0, q1, qP, va_K.moved (u := U) (U := U.calling g mk a) (Vm.Alike.refl U.vm) qK, qD⟩, va_recv hK hP (ci := 10) (q0 := 0) rfl rfl, fun U hU hW => ⟨rfl, by rw [hU], by rw [hU]; exact hP, va_K.moved hW.alike hK, hD.weaken (fun _ _ _ _ => trivial)⟩⟩ rfl rfl hl.1 rfl (lv_room (Nat.le_of_ble_eq_true rfl)) dX10_aLine_85 ⟨Nat.le_of_ble_eq_true rfl, Nat.le_of_ble_eq_true rfl⟩) hS (fun q _ h => hFc q h) hFc (fun r_392 u t H1 locs ht hvm hw hB hz1 hk1 hS => ?_)
                subst hw
                obtain ⟨x_393, x_394, x_395, f_396, hr_392_0, hr_392_1, hr_392_2, hr_392_3, hr_392_4, hP, hK1, hD1⟩ := hB
                rw [ht] at hP
                have hD := hD1.weaken (fun k q _ h => hFc q.1 h)
                clear hz1 hk1 hFc hD1 hK1 hvm
                generalize H1 = H at hP hS ⊢
                have rg_x_393 := i_rng x_393
                have rg_x_394 := i_rng x_394
                have rg_x_395 := i_rng x_395
                have rg_r_392 := i_rng r_392
                have hP : va_P (dC, dI) vwCl (mW ad kc x0 x1 x2 x3 x4 x_365 x_366 x_393 x_394 x_395 x10 x11 x12 x13 x14 x15 x16 x17 x18 x19 x20 x21 f_396 f1 f2 f3 f4 f5 f6 f7 f8 f9 f10 f11 f12 f13 f14 f15 f16 f17 f18 f19 f20 f21 fL fN fP fM fO) H := hP
                have hD : va_D A (mW ad kc x0 x1 x2 x3 x4 x_365 x_366 x_393 x_394 x_395 x10 x11 x12 x13 x14 x15 x16 x17 x18 x19 x20 x21 f_396 f1 f2 f3 f4 f5 f6 f7 f8 f9 f10 f11 f12 f13 f14 f15 f16 f17 f18 f19 f20 f21 fL fN fP fM fO) := hD
                have hq9 := hr_392_0
                have hq8 := hr_392_1
                refine lv_if_eq (tgt := 101) hx hb dX10_aLine_88 (by decide) (fun k_397 => ?_) (fun k_397 => ?_)
                · have tk_397 := c_eq (a := r_392.toInt) (b := 0) rfl (by decide) k_397
                  refine lv_iconst (v := 0) hx hb dX10_aLine_101 (by decide) ?_
                  have lit_397 : (0 : Int32).toInt = 0 := by decide
                  exact W.zret hx hb hr (z_nar (by first | assumption | decide | exact z_of (by omega))) (fun t ht hW => ⟨⟨_, _, rfl, rfl, x_365, x_366, x_393, x_394, x_395, x11, f_396, hq9, hq8, (by first | omega | assumption | rfl | decide), (by first | omega | assumption | rfl | decide), (by first | omega | assumption | rfl | decide), (fun h9 => by omega), by rw [ht]; exact hP, va_K.moved hW.alike hK, hD⟩, hS.F ht⟩) hS.2.2 dX10_aLine_102
                · have tk_397 := c_ne (a := r_392.toInt) (b := 0) rfl (by decide) k_397
                  refine lv_goto (tgt := 103) hx hb dX10_aLine_91 (by decide) ?_
                  refine lv_aload_n hx hb dX10_aLine_103 rfl (lv_at hl 1 rfl) ?_
                  have hFc := m_free hD hS hA
                  refine va_callv (va_runV (As := []) (rest := []) ⟨hx, hb, hml, hown, hts⟩ (m_ahead l dC dI ad kc x0 x1 x2 x3 x4 x_365 x_366 x_393 x_394 x_395 x10 x11 x12 x13 x14 x15 x16 x17 x18 x19 x20 x21 f_396 f1 f2 f3 f4 f5 f6 f7 f8 f9 f10 f11 f12 f13 f14 f15 f16 f17 f18 f19 f20 f21 fL fN fP fM fO H.size (by first | omega | assumption | decide | (have l0 := Int32.toInt_zero; omega)) (by first | omega | assumption | decide | (have l0 := Int32.toInt_zero; omega)) (by first | omega | assumption | decide | (have l0 := Int32.toInt_zero; omega))) (cwV 0 hts mg_X10_aLinem_X10_ahead_184 rfl rfl rfl (by decide +kernel) ⟨Nat.le_of_ble_eq_true rfl, Nat.le_of_ble_eq_true rfl⟩) ⟨fun a U g mk q => by obtain ⟨q0, q1, qP, qK, qD⟩ := q; exact ⟨q0, q1, qP, va_K.moved (u := U) (U := U.calling g mk a) (Vm.Alike.refl U.vm) qK, qD⟩, va_recv hK hP (ci := 10) (q0 := 0) rfl rfl, fun U hU hW => ⟨rfl, by rw [hU], by rw [hU]; exact hP, va_K.moved hW.alike hK, hD.weaken (fun _ _ _ _ => trivial)⟩⟩ rfl rfl hl.1 rfl (lv_room (Nat.le_of_ble_eq_true rfl)) dX10_aLine_104 ⟨Nat.le_of_ble_eq_true rfl, Nat.le_of_ble_eq_true rfl⟩) hS (fun q _ h => hFc q h) hFc (fun u t H1 locs ht hvm hw hB hz1 hk1 hS => ?_)
                  obtain ⟨x_400, x_401, x_402, hr_399_0, hr_399_1, hr_399_2, hr_399_3, hr_399_4, hP, hK1, hD1⟩ := hB
                  rw [ht] at hP
                  have hD := hD1.weaken (fun k q _ h => hFc q.1 h)
                  clear hz1 hk1 hFc hD1 hK1 hvm
                  generalize H1 = H at hP hS ⊢
                  have rg_x_400 := i_rng x_400
                  have rg_x_401 := i_rng x_401
                  have rg_x_402 := i_rng x_402
                  have hP : va_P (dC, dI) vwCl (mW ad kc x0 x1 x2 x3 x4 x_400 x_401 x_402 x_394 x_395 x10 x11 x12 x13 x14 x15 x16 x17 x18 x19 x20 x21 f_396 f1 f2 f3 f4 f5 f6 f7 f8 f9 f10 f11 f12 f13 f14 f15 f16 f17 f18 f19 f20 f21 fL fN fP fM fO) H := hP
                  have hD : va_D A (mW ad kc x0 x1 x2 x3 x4 x_400 x_401 x_402 x_394 x_395 x10 x11 x12 x13 x14 x15 x16 x17 x18 x19 x20 x21 f_396 f1 f2 f3 f4 f5 f6 f7 f8 f9 f10 f11 f12 f13 f14 f15 f16 f17 f18 f19 f20 f21 fL fN fP fM fO) := hD
                  refine lv_aload_n hx hb dX10_aLine_107 rfl (lv_at hl 1 rfl) ?_
                  refine va_get (D := (dC, dI)) (ci := 10) (v := .int x_400) (C := RX10) (T := TX10) (N := 48) hx hb hts fin_X10_aLinem_X10 hown hK hP 0 rfl rfl 8 (by decide) (hts (.fieldLink RX10 120 "PatternGateModel" "token" "I") (List.mem_of_getElem? (i := 9) (by decide +kernel))) (fun _ h9 => h9) rfl dX10_aLine_108 ?_
                  refine lv_iconst (v := 4) hx hb dX10_aLine_111 (by decide) ?_
                  refine lv_icmp_eq (tgt := 121) hx hb dX10_aLine_112 (by decide) (fun k_403 => ?_) (fun k_403 => ?_)
                  · have tk_403 := c_eq (a := x_400.toInt) (b := 4) rfl (by decide) k_403
                    refine lv_aload_n hx hb dX10_aLine_121 rfl (lv_at hl 1 rfl) ?_
                    have hFc := m_free hD hS hA
                    refine va_callv (va_runV (As := []) (rest := []) ⟨hx, hb, hml, hown, hts⟩ (m_ahead l dC dI ad kc x0 x1 x2 x3 x4 x_400 x_401 x_402 x_394 x_395 x10 x11 x12 x13 x14 x15 x16 x17 x18 x19 x20 x21 f_396 f1 f2 f3 f4 f5 f6 f7 f8 f9 f10 f11 f12 f13 f14 f15 f16 f17 f18 f19 f20 f21 fL fN fP fM fO H.size (by first | omega | assumption | decide | (have l0 := Int32.toInt_zero; omega)) (by first | omega | assumption | decide | (have l0 := Int32.toInt_zero; omega)) (by first | omega | assumption | decide | (have l0 := Int32.toInt_zero; omega))) (cwV 0 hts mg_X10_aLinem_X10_ahead_184 rfl rfl rfl (by decide +kernel) ⟨Nat.le_of_ble_eq_true rfl, Nat.le_of_ble_eq_true rfl⟩) ⟨fun a U g mk q => by obtain ⟨q0, q1, qP, qK, qD⟩ := q; exact ⟨q0, q1, qP, va_K.moved (u := U) (U := U.calling g mk a) (Vm.Alike.refl U.vm) qK, qD⟩, va_recv hK hP (ci := 10) (q0 := 0) rfl rfl, fun U hU hW => ⟨rfl, by rw [hU], by rw [hU]; exact hP, va_K.moved hW.alike hK, hD.weaken (fun _ _ _ _ => trivial)⟩⟩ rfl rfl hl.1 rfl (lv_room (Nat.le_of_ble_eq_true rfl)) dX10_aLine_122 ⟨Nat.le_of_ble_eq_true rfl, Nat.le_of_ble_eq_true rfl⟩) hS (fun q _ h => hFc q h) hFc (fun u t H1 locs ht hvm hw hB hz1 hk1 hS => ?_)
                    obtain ⟨x_405, x_406, x_407, hr_404_0, hr_404_1, hr_404_2, hr_404_3, hr_404_4, hP, hK1, hD1⟩ := hB
                    rw [ht] at hP
                    have hD := hD1.weaken (fun k q _ h => hFc q.1 h)
                    clear hz1 hk1 hFc hD1 hK1 hvm
                    generalize H1 = H at hP hS ⊢
                    have rg_x_405 := i_rng x_405
                    have rg_x_406 := i_rng x_406
                    have rg_x_407 := i_rng x_407
                    have hP : va_P (dC, dI) vwCl (mW ad kc x0 x1 x2 x3 x4 x_405 x_406 x_407 x_394 x_395 x10 x11 x12 x13 x14 x15 x16 x17 x18 x19 x20 x21 f_396 f1 f2 f3 f4 f5 f6 f7 f8 f9 f10 f11 f12 f13 f14 f15 f16 f17 f18 f19 f20 f21 fL fN fP fM fO) H := hP
                    have hD : va_D A (mW ad kc x0 x1 x2 x3 x4 x_405 x_406 x_407 x_394 x_395 x10 x11 x12 x13 x14 x15 x16 x17 x18 x19 x20 x21 f_396 f1 f2 f3 f4 f5 f6 f7 f8 f9 f10 f11 f12 f13 f14 f15 f16 f17 f18 f19 f20 f21 fL fN fP fM fO) := hD
                    refine lv_iconst (v := 1) hx hb dX10_aLine_125 (by decide) ?_
                    have lit_407 : (1 : Int32).toInt = 1 := by decide
                    exact W.zret hx hb hr (z_nar (by first | assumption | decide | exact z_of (by omega))) (fun t ht hW => ⟨⟨_, _, rfl, rfl, x_405, x_406, x_407, x_394, x_395, x11, f_396, hq9, hq8, (by first | omega | assumption | rfl | decide), (by first | omega | assumption | rfl | decide), (by first | omega | assumption | rfl | decide), (fun h9 => by omega), by rw [ht]; exact hP, va_K.moved hW.alike hK, hD⟩, hS.F ht⟩) hS.2.2 dX10_aLine_126
                  · have tk_403 := c_ne (a := x_400.toInt) (b := 4) rfl (by decide) k_403
                    refine lv_aload_n hx hb dX10_aLine_115 rfl (lv_at hl 1 rfl) ?_
                    refine lv_iconst (v := 2) hx hb dX10_aLine_116 (by decide) ?_
                    have lit_408 : (2 : Int32).toInt = 2 := by decide
                    have hFc := m_free hD hS hA
                    refine va_calli (va_runV (As := [.int 2]) (rest := []) ⟨hx, hb, hml, hown, hts⟩ (m_fails l dC dI ad kc x0 x1 x2 x3 x4 x_400 x_401 x_402 x_394 x_395 x10 x11 x12 x13 x14 x15 x16 x17 x18 x19 x20 x21 f_396 f1 f2 f3 f4 f5 f6 f7 f8 f9 f10 f11 f12 f13 f14 f15 f16 f17 f18 f19 f20 f21 fL fN fP fM fO H.size 2 ) (cwV 1 hts mg_X10_aLinem_X10_fails_181 rfl rfl rfl (by decide +kernel) ⟨Nat.le_of_ble_eq_true rfl, Nat.le_of_ble_eq_true rfl⟩) ⟨fun a U g mk q => by obtain ⟨q0, q1, qP, qK, qD⟩ := q; exact ⟨q0, q1, qP, va_K.moved (u := U) (U := U.calling g mk a) (Vm.Alike.refl U.vm) qK, qD⟩, va_recv hK hP (ci := 10) (q0 := 0) rfl rfl, fun U hU hW => ⟨rfl, by rw [hU], by rw [hU]; exact hP, va_K.moved hW.alike hK, hD.weaken (fun _ _ _ _ => trivial)⟩⟩ rfl rfl hl.1 rfl (lv_room (Nat.le_of_ble_eq_true rfl)) dX10_aLine_117 ⟨Nat.le_of_ble_eq_true rfl, Nat.le_of_ble_eq_true rfl⟩) hS (fun q _ h => hFc q h) hFc (fun r_410 u t H1 locs ht hvm hw hB hz1 hk1 hS => ?_)
                    subst hw
                    obtain ⟨x_411, x_412, hr_410_0, hP, hK1, hD1⟩ := hB
                    rw [ht] at hP
                    have hD := hD1.weaken (fun k q _ h => hFc q.1 h)
                    clear hz1 hk1 hFc hD1 hK1 hvm
                    generalize H1 = H at hP hS ⊢
                    have rg_x_411 := i_rng x_411
                    have rg_x_412 := i_rng x_412
                    have rg_r_410 := i_rng r_410
                    have hP : va_P (dC, dI) vwCl (mW ad kc x0 x1 x2 x3 x4 x_400 x_401 x_402 x_411 x_412 x10 x11 x12 x13 x14 x15 x16 x17 x18 x19 x20 x21 f_396 f1 f2 f3 f4 f5 f6 f7 f8 f9 f10 f11 f12 f13 f14 f15 f16 f17 f18 f19 f20 f21 fL fN fP fM fO) H := hP
                    have hD : va_D A (mW ad kc x0 x1 x2 x3 x4 x_400 x_401 x_402 x_411 x_412 x10 x11 x12 x13 x14 x15 x16 x17 x18 x19 x20 x21 f_396 f1 f2 f3 f4 f5 f6 f7 f8 f9 f10 f11 f12 f13 f14 f15 f16 f17 f18 f19 f20 f21 fL fN fP fM fO) := hD
                    exact W.zret hx hb hr (z_nar (by first | assumption | decide | exact z_of (by omega))) (fun t ht hW => ⟨⟨_, _, rfl, rfl, x_400, x_401, x_402, x_411, x_412, x11, f_396, hq9, hq8, (by first | omega | assumption | rfl | decide), (by first | omega | assumption | rfl | decide), (by first | omega | assumption | rfl | decide), (fun h9 => by omega), by rw [ht]; exact hP, va_K.moved hW.alike hK, hD⟩, hS.F ht⟩) hS.2.2 dX10_aLine_120
            · have tk_368 := c_ne (a := x_365.toInt) (b := 3) rfl (by decide) k_368
              refine lv_aload_n hx hb dX10_aLine_74 rfl (lv_at hl 1 rfl) ?_
              refine lv_iconst (v := 2) hx hb dX10_aLine_75 (by decide) ?_
              have lit_412 : (2 : Int32).toInt = 2 := by decide
              have hFc := m_free hD hS hA
              refine va_calli (va_runV (As := [.int 2]) (rest := []) ⟨hx, hb, hml, hown, hts⟩ (m_fails l dC dI ad kc x0 x1 x2 x3 x4 x_365 x_366 x_367 x8 x9 x10 x11 x12 x13 x14 x15 x16 x17 x18 x19 x20 x21 f0 f1 f2 f3 f4 f5 f6 f7 f8 f9 f10 f11 f12 f13 f14 f15 f16 f17 f18 f19 f20 f21 fL fN fP fM fO H.size 2 ) (cwV 1 hts mg_X10_aLinem_X10_fails_181 rfl rfl rfl (by decide +kernel) ⟨Nat.le_of_ble_eq_true rfl, Nat.le_of_ble_eq_true rfl⟩) ⟨fun a U g mk q => by obtain ⟨q0, q1, qP, qK, qD⟩ := q; exact ⟨q0, q1, qP, va_K.moved (u := U) (U := U.calling g mk a) (Vm.Alike.refl U.vm) qK, qD⟩, va_recv hK hP (ci := 10) (q0 := 0) rfl rfl, fun U hU hW => ⟨rfl, by rw [hU], by rw [hU]; exact hP, va_K.moved hW.alike hK, hD.weaken (fun _ _ _ _ => trivial)⟩⟩ rfl rfl hl.1 rfl (lv_room (Nat.le_of_ble_eq_true rfl)) dX10_aLine_76 ⟨Nat.le_of_ble_eq_true rfl, Nat.le_of_ble_eq_true rfl⟩) hS (fun q _ h => hFc q h) hFc (fun r_414 u t H1 locs ht hvm hw hB hz1 hk1 hS => ?_)
              subst hw
              obtain ⟨x_415, x_416, hr_414_0, hP, hK1, hD1⟩ := hB
              rw [ht] at hP
              have hD := hD1.weaken (fun k q _ h => hFc q.1 h)
              clear hz1 hk1 hFc hD1 hK1 hvm
              generalize H1 = H at hP hS ⊢
              have rg_x_415 := i_rng x_415
              have rg_x_416 := i_rng x_416
              have rg_r_414 := i_rng r_414
              have hP : va_P (dC, dI) vwCl (mW ad kc x0 x1 x2 x3 x4 x_365 x_366 x_367 x_415 x_416 x10 x11 x12 x13 x14 x15 x16 x17 x18 x19 x20 x21 f0 f1 f2 f3 f4 f5 f6 f7 f8 f9 f10 f11 f12 f13 f14 f15 f16 f17 f18 f19 f20 f21 fL fN fP fM fO) H := hP
              have hD : va_D A (mW ad kc x0 x1 x2 x3 x4 x_365 x_366 x_367 x_415 x_416 x10 x11 x12 x13 x14 x15 x16 x17 x18 x19 x20 x21 f0 f1 f2 f3 f4 f5 f6 f7 f8 f9 f10 f11 f12 f13 f14 f15 f16 f17 f18 f19 f20 f21 fL fN fP fM fO) := hD
              exact W.zret hx hb hr (z_nar (by first | assumption | decide | exact z_of (by omega))) (fun t ht hW => ⟨⟨_, _, rfl, rfl, x_365, x_366, x_367, x_415, x_416, x11, f0, q0, (fun _ _ => rfl), (by first | omega | assumption | rfl | decide), (by first | omega | assumption | rfl | decide), (by first | omega | assumption | rfl | decide), (fun h9 => by omega), by rw [ht]; exact hP, va_K.moved hW.alike hK, hD⟩, hS.F ht⟩) hS.2.2 dX10_aLine_79
          · have tk_363 := c_eq (a := y_361.toInt) (b := 8) rfl (by decide) k_363
            refine lv_aload_n hx hb dX10_aLine_56 rfl (lv_at hl 1 rfl) ?_
            refine lv_iconst (v := 3) hx hb dX10_aLine_57 (by decide) ?_
            have lit_416 : (3 : Int32).toInt = 3 := by decide
            have hFc := m_free hD hS hA
            refine va_calli (va_runV (As := [.int 3]) (rest := []) ⟨hx, hb, hml, hown, hts⟩ (m_fails l dC dI ad kc x0 x1 x2 x3 x4 x5 x6 x7 x8 x9 x10 x11 x12 x13 x14 x15 x16 x17 x18 x19 x20 x21 f0 f1 f2 f3 f4 f5 f6 f7 f8 f9 f10 f11 f12 f13 f14 f15 f16 f17 f18 f19 f20 f21 fL fN fP fM fO H.size 3 ) (cwV 1 hts mg_X10_aLinem_X10_fails_181 rfl rfl rfl (by decide +kernel) ⟨Nat.le_of_ble_eq_true rfl, Nat.le_of_ble_eq_true rfl⟩) ⟨fun a U g mk q => by obtain ⟨q0, q1, qP, qK, qD⟩ := q; exact ⟨q0, q1, qP, va_K.moved (u := U) (U := U.calling g mk a) (Vm.Alike.refl U.vm) qK, qD⟩, va_recv hK hP (ci := 10) (q0 := 0) rfl rfl, fun U hU hW => ⟨rfl, by rw [hU], by rw [hU]; exact hP, va_K.moved hW.alike hK, hD.weaken (fun _ _ _ _ => trivial)⟩⟩ rfl rfl hl.1 rfl (lv_room (Nat.le_of_ble_eq_true rfl)) dX10_aLine_58 ⟨Nat.le_of_ble_eq_true rfl, Nat.le_of_ble_eq_true rfl⟩) hS (fun q _ h => hFc q h) hFc (fun r_418 u t H1 locs ht hvm hw hB hz1 hk1 hS => ?_)
            subst hw
            obtain ⟨x_419, x_420, hr_418_0, hP, hK1, hD1⟩ := hB
            rw [ht] at hP
            have hD := hD1.weaken (fun k q _ h => hFc q.1 h)
            clear hz1 hk1 hFc hD1 hK1 hvm
            generalize H1 = H at hP hS ⊢
            have rg_x_419 := i_rng x_419
            have rg_x_420 := i_rng x_420
            have rg_r_418 := i_rng r_418
            have hP : va_P (dC, dI) vwCl (mW ad kc x0 x1 x2 x3 x4 x5 x6 x7 x_419 x_420 x10 x11 x12 x13 x14 x15 x16 x17 x18 x19 x20 x21 f0 f1 f2 f3 f4 f5 f6 f7 f8 f9 f10 f11 f12 f13 f14 f15 f16 f17 f18 f19 f20 f21 fL fN fP fM fO) H := hP
            have hD : va_D A (mW ad kc x0 x1 x2 x3 x4 x5 x6 x7 x_419 x_420 x10 x11 x12 x13 x14 x15 x16 x17 x18 x19 x20 x21 f0 f1 f2 f3 f4 f5 f6 f7 f8 f9 f10 f11 f12 f13 f14 f15 f16 f17 f18 f19 f20 f21 fL fN fP fM fO) := hD
            exact W.zret hx hb hr (z_nar (by first | assumption | decide | exact z_of (by omega))) (fun t ht hW => ⟨⟨_, _, rfl, rfl, x5, x6, x7, x_419, x_420, x11, f0, q0, (fun _ _ => rfl), (by first | omega | assumption | rfl | decide), (by first | omega | assumption | rfl | decide), (by first | omega | assumption | rfl | decide), (fun h9 => by omega), by rw [ht]; exact hP, va_K.moved hW.alike hK, hD⟩, hS.F ht⟩) hS.2.2 dX10_aLine_61
        · have tk_362 := c_ne (a := r_1.toInt) (b := 0) rfl (by decide) k_362
          refine lv_bipush (v := 10) hx hb dX10_aLine_46 (by decide) ?_
          refine lv_goto (tgt := 53) hx hb dX10_aLine_48 (by decide) ?_
          refine lv_icmp_ne (tgt := 62) hx hb dX10_aLine_53 (by decide) (fun k_421 => ?_) (fun k_421 => ?_)
          · have tk_421 := c_ne (a := y_361.toInt) (b := 10) rfl (by decide) k_421
            refine lv_aload_n hx hb dX10_aLine_62 rfl (lv_at hl 1 rfl) ?_
            have hFc := m_free hD hS hA
            refine va_callv (va_runV (As := []) (rest := []) ⟨hx, hb, hml, hown, hts⟩ (m_ahead l dC dI ad kc x0 x1 x2 x3 x4 x5 x6 x7 x8 x9 x10 x11 x12 x13 x14 x15 x16 x17 x18 x19 x20 x21 f0 f1 f2 f3 f4 f5 f6 f7 f8 f9 f10 f11 f12 f13 f14 f15 f16 f17 f18 f19 f20 f21 fL fN fP fM fO H.size (by first | omega | assumption | decide | (have l0 := Int32.toInt_zero; omega)) (by first | omega | assumption | decide | (have l0 := Int32.toInt_zero; omega)) (by first | omega | assumption | decide | (have l0 := Int32.toInt_zero; omega))) (cwV 0 hts mg_X10_aLinem_X10_ahead_184 rfl rfl rfl (by decide +kernel) ⟨Nat.le_of_ble_eq_true rfl, Nat.le_of_ble_eq_true rfl⟩) ⟨fun a U g mk q => by obtain ⟨q0, q1, qP, qK, qD⟩ := q; exact ⟨q0, q1, qP, va_K.moved (u := U) (U := U.calling g mk a) (Vm.Alike.refl U.vm) qK, qD⟩, va_recv hK hP (ci := 10) (q0 := 0) rfl rfl, fun U hU hW => ⟨rfl, by rw [hU], by rw [hU]; exact hP, va_K.moved hW.alike hK, hD.weaken (fun _ _ _ _ => trivial)⟩⟩ rfl rfl hl.1 rfl (lv_room (Nat.le_of_ble_eq_true rfl)) dX10_aLine_63 ⟨Nat.le_of_ble_eq_true rfl, Nat.le_of_ble_eq_true rfl⟩) hS (fun q _ h => hFc q h) hFc (fun u t H1 locs ht hvm hw hB hz1 hk1 hS => ?_)
            obtain ⟨x_423, x_424, x_425, hr_422_0, hr_422_1, hr_422_2, hr_422_3, hr_422_4, hP, hK1, hD1⟩ := hB
            rw [ht] at hP
            have hD := hD1.weaken (fun k q _ h => hFc q.1 h)
            clear hz1 hk1 hFc hD1 hK1 hvm
            generalize H1 = H at hP hS ⊢
            have rg_x_423 := i_rng x_423
            have rg_x_424 := i_rng x_424
            have rg_x_425 := i_rng x_425
            have hP : va_P (dC, dI) vwCl (mW ad kc x0 x1 x2 x3 x4 x_423 x_424 x_425 x8 x9 x10 x11 x12 x13 x14 x15 x16 x17 x18 x19 x20 x21 f0 f1 f2 f3 f4 f5 f6 f7 f8 f9 f10 f11 f12 f13 f14 f15 f16 f17 f18 f19 f20 f21 fL fN fP fM fO) H := hP
            have hD : va_D A (mW ad kc x0 x1 x2 x3 x4 x_423 x_424 x_425 x8 x9 x10 x11 x12 x13 x14 x15 x16 x17 x18 x19 x20 x21 f0 f1 f2 f3 f4 f5 f6 f7 f8 f9 f10 f11 f12 f13 f14 f15 f16 f17 f18 f19 f20 f21 fL fN fP fM fO) := hD
            refine lv_aload_n hx hb dX10_aLine_66 rfl (lv_at hl 1 rfl) ?_
            refine va_get (D := (dC, dI)) (ci := 10) (v := .int x_423) (C := RX10) (T := TX10) (N := 48) hx hb hts fin_X10_aLinem_X10 hown hK hP 0 rfl rfl 8 (by decide) (hts (.fieldLink RX10 120 "PatternGateModel" "token" "I") (List.mem_of_getElem? (i := 9) (by decide +kernel))) (fun _ h9 => h9) rfl dX10_aLine_67 ?_
            refine lv_iconst (v := 3) hx hb dX10_aLine_70 (by decide) ?_
            refine lv_icmp_eq (tgt := 80) hx hb dX10_aLine_71 (by decide) (fun k_426 => ?_) (fun k_426 => ?_)
            · have tk_426 := c_eq (a := x_423.toInt) (b := 3) rfl (by decide) k_426
              refine lv_iload_n hx hb dX10_aLine_80 rfl (lv_at hl 0 rfl) ?_
              refine lv_if_eq (tgt := 94) hx hb dX10_aLine_81 (by decide) (fun k_427 => ?_) (fun k_427 => ?_)
              · have tk_427 := c_eq (a := r_1.toInt) (b := 0) rfl (by decide) k_427
                refine lv_aload_n hx hb dX10_aLine_94 rfl (lv_at hl 1 rfl) ?_
                have hFc := m_free hD hS hA
                refine va_calli (va_runV (As := []) (rest := []) ⟨hx, hb, hml, hown, hts⟩ (m_patternQuote l dC dI ad kc x0 x1 x2 x3 x4 x_423 x_424 x_425 x8 x9 x10 x11 x12 x13 x14 x15 x16 x17 x18 x19 x20 x21 f0 f1 f2 f3 f4 f5 f6 f7 f8 f9 f10 f11 f12 f13 f14 f15 f16 f17 f18 f19 f20 f21 fL fN fP fM fO H.size (by first | omega | assumption | decide | (have l0 := Int32.toInt_zero; omega)) (by first | omega | assumption | decide | (have l0 := Int32.toInt_zero; omega)) (by first | omega | assumption | decide | (have l0 := Int32.toInt_zero; omega)) (by first | omega | assumption | decide | (have l0 := Int32.toInt_zero; omega)) (by first | omega | assumption | decide | (have l0 := Int32.toInt_zero; omega))) (cwV 0 hts mg_X10_aLinem_X10_patternQuote_190 rfl rfl rfl (by decide +kernel) ⟨Nat.le_of_ble_eq_true rfl, Nat.le_of_ble_eq_true rfl⟩) ⟨fun a U g mk q => by obtain ⟨q0, q1, qP, qK, qD⟩ := q; exact ⟨q0, q1, qP, va_K.moved (u := U) (U := U.calling g mk a) (Vm.Alike.refl U.vm) qK, qD⟩, va_recv hK hP (ci := 10) (q0 := 0) rfl rfl, fun U hU hW => ⟨rfl, by rw [hU], by rw [hU]; exact hP, va_K.moved hW.alike hK, hD.weaken (fun _ _ _ _ => trivial)⟩⟩ rfl rfl hl.1 rfl (lv_room (Nat.le_of_ble_eq_true rfl)) dX10_aLine_95 ⟨Nat.le_of_ble_eq_true rfl, Nat.le_of_ble_eq_true rfl⟩) hS (fun q _ h => hFc q h) hFc (fun r_428 u t H1 locs ht hvm hw hB hz1 hk1 hS => ?_)
                subst hw
                obtain ⟨x_429, x_430, x_431, x_432, f_433, hr_428_0, hr_428_1, hr_428_2, hr_428_3, hr_428_4, hP, hK1, hD1⟩ := hB
                rw [ht] at hP
                have hD := hD1.weaken (fun k q _ h => hFc q.1 h)
                clear hz1 hk1 hFc hD1 hK1 hvm
                generalize H1 = H at hP hS ⊢
                have rg_x_429 := i_rng x_429
                have rg_x_430 := i_rng x_430
                have rg_x_431 := i_rng x_431
                have rg_x_432 := i_rng x_432
                have rg_r_428 := i_rng r_428
                have hP : va_P (dC, dI) vwCl (mW ad kc x0 x1 x2 x3 x4 x_423 x_424 x_429 x_430 x_431 x10 x_432 x12 x13 x14 x15 x16 x17 x18 x19 x20 x21 f_433 f1 f2 f3 f4 f5 f6 f7 f8 f9 f10 f11 f12 f13 f14 f15 f16 f17 f18 f19 f20 f21 fL fN fP fM fO) H := hP
                have hD : va_D A (mW ad kc x0 x1 x2 x3 x4 x_423 x_424 x_429 x_430 x_431 x10 x_432 x12 x13 x14 x15 x16 x17 x18 x19 x20 x21 f_433 f1 f2 f3 f4 f5 f6 f7 f8 f9 f10 f11 f12 f13 f14 f15 f16 f17 f18 f19 f20 f21 fL fN fP fM fO) := hD
                have hq9 := hr_428_0
                have hq8 := hr_428_1
                refine lv_if_ne (tgt := 103) hx hb dX10_aLine_98 (by decide) (fun k_434 => ?_) (fun k_434 => ?_)
                · have tk_434 := c_ne (a := r_428.toInt) (b := 0) rfl (by decide) k_434
                  refine lv_aload_n hx hb dX10_aLine_103 rfl (lv_at hl 1 rfl) ?_
                  have hFc := m_free hD hS hA
                  refine va_callv (va_runV (As := []) (rest := []) ⟨hx, hb, hml, hown, hts⟩ (m_ahead l dC dI ad kc x0 x1 x2 x3 x4 x_423 x_424 x_429 x_430 x_431 x10 x_432 x12 x13 x14 x15 x16 x17 x18 x19 x20 x21 f_433 f1 f2 f3 f4 f5 f6 f7 f8 f9 f10 f11 f12 f13 f14 f15 f16 f17 f18 f19 f20 f21 fL fN fP fM fO H.size (by first | omega | assumption | decide | (have l0 := Int32.toInt_zero; omega)) (by first | omega | assumption | decide | (have l0 := Int32.toInt_zero; omega)) (by first | omega | assumption | decide | (have l0 := Int32.toInt_zero; omega))) (cwV 0 hts mg_X10_aLinem_X10_ahead_184 rfl rfl rfl (by decide +kernel) ⟨Nat.le_of_ble_eq_true rfl, Nat.le_of_ble_eq_true rfl⟩) ⟨fun a U g mk q => by obtain ⟨q0, q1, qP, qK, qD⟩ := q; exact ⟨q0, q1, qP, va_K.moved (u := U) (U := U.calling g mk a) (Vm.Alike.refl U.vm) qK, qD⟩, va_recv hK hP (ci := 10) (q0 := 0) rfl rfl, fun U hU hW => ⟨rfl, by rw [hU], by rw [hU]; exact hP, va_K.moved hW.alike hK, hD.weaken (fun _ _ _ _ => trivial)⟩⟩ rfl rfl hl.1 rfl (lv_room (Nat.le_of_ble_eq_true rfl)) dX10_aLine_104 ⟨Nat.le_of_ble_eq_true rfl, Nat.le_of_ble_eq_true rfl⟩) hS (fun q _ h => hFc q h) hFc (fun u t H1 locs ht hvm hw hB hz1 hk1 hS => ?_)
                  obtain ⟨x_436, x_437, x_438, hr_435_0, hr_435_1, hr_435_2, hr_435_3, hr_435_4, hP, hK1, hD1⟩ := hB
                  rw [ht] at hP
                  have hD := hD1.weaken (fun k q _ h => hFc q.1 h)
                  clear hz1 hk1 hFc hD1 hK1 hvm
                  generalize H1 = H at hP hS ⊢
                  have rg_x_436 := i_rng x_436
                  have rg_x_437 := i_rng x_437
                  have rg_x_438 := i_rng x_438
                  have hP : va_P (dC, dI) vwCl (mW ad kc x0 x1 x2 x3 x4 x_436 x_437 x_438 x_430 x_431 x10 x_432 x12 x13 x14 x15 x16 x17 x18 x19 x20 x21 f_433 f1 f2 f3 f4 f5 f6 f7 f8 f9 f10 f11 f12 f13 f14 f15 f16 f17 f18 f19 f20 f21 fL fN fP fM fO) H := hP
                  have hD : va_D A (mW ad kc x0 x1 x2 x3 x4 x_436 x_437 x_438 x_430 x_431 x10 x_432 x12 x13 x14 x15 x16 x17 x18 x19 x20 x21 f_433 f1 f2 f3 f4 f5 f6 f7 f8 f9 f10 f11 f12 f13 f14 f15 f16 f17 f18 f19 f20 f21 fL fN fP fM fO) := hD
                  refine lv_aload_n hx hb dX10_aLine_107 rfl (lv_at hl 1 rfl) ?_
                  refine va_get (D := (dC, dI)) (ci := 10) (v := .int x_436) (C := RX10) (T := TX10) (N := 48) hx hb hts fin_X10_aLinem_X10 hown hK hP 0 rfl rfl 8 (by decide) (hts (.fieldLink RX10 120 "PatternGateModel" "token" "I") (List.mem_of_getElem? (i := 9) (by decide +kernel))) (fun _ h9 => h9) rfl dX10_aLine_108 ?_
                  refine lv_iconst (v := 4) hx hb dX10_aLine_111 (by decide) ?_
                  refine lv_icmp_eq (tgt := 121) hx hb dX10_aLine_112 (by decide) (fun k_439 => ?_) (fun k_439 => ?_)
                  · have tk_439 := c_eq (a := x_436.toInt) (b := 4) rfl (by decide) k_439
                    refine lv_aload_n hx hb dX10_aLine_121 rfl (lv_at hl 1 rfl) ?_
                    have hFc := m_free hD hS hA
                    refine va_callv (va_runV (As := []) (rest := []) ⟨hx, hb, hml, hown, hts⟩ (m_ahead l dC dI ad kc x0 x1 x2 x3 x4 x_436 x_437 x_438 x_430 x_431 x10 x_432 x12 x13 x14 x15 x16 x17 x18 x19 x20 x21 f_433 f1 f2 f3 f4 f5 f6 f7 f8 f9 f10 f11 f12 f13 f14 f15 f16 f17 f18 f19 f20 f21 fL fN fP fM fO H.size (by first | omega | assumption | decide | (have l0 := Int32.toInt_zero; omega)) (by first | omega | assumption | decide | (have l0 := Int32.toInt_zero; omega)) (by first | omega | assumption | decide | (have l0 := Int32.toInt_zero; omega))) (cwV 0 hts mg_X10_aLinem_X10_ahead_184 rfl rfl rfl (by decide +kernel) ⟨Nat.le_of_ble_eq_true rfl, Nat.le_of_ble_eq_true rfl⟩) ⟨fun a U g mk q => by obtain ⟨q0, q1, qP, qK, qD⟩ := q; exact ⟨q0, q1, qP, va_K.moved (u := U) (U := U.calling g mk a) (Vm.Alike.refl U.vm) qK, qD⟩, va_recv hK hP (ci := 10) (q0 := 0) rfl rfl, fun U hU hW => ⟨rfl, by rw [hU], by rw [hU]; exact hP, va_K.moved hW.alike hK, hD.weaken (fun _ _ _ _ => trivial)⟩⟩ rfl rfl hl.1 rfl (lv_room (Nat.le_of_ble_eq_true rfl)) dX10_aLine_122 ⟨Nat.le_of_ble_eq_true rfl, Nat.le_of_ble_eq_true rfl⟩) hS (fun q _ h => hFc q h) hFc (fun u t H1 locs ht hvm hw hB hz1 hk1 hS => ?_)
                    obtain ⟨x_441, x_442, x_443, hr_440_0, hr_440_1, hr_440_2, hr_440_3, hr_440_4, hP, hK1, hD1⟩ := hB
                    rw [ht] at hP
                    have hD := hD1.weaken (fun k q _ h => hFc q.1 h)
                    clear hz1 hk1 hFc hD1 hK1 hvm
                    generalize H1 = H at hP hS ⊢
                    have rg_x_441 := i_rng x_441
                    have rg_x_442 := i_rng x_442
                    have rg_x_443 := i_rng x_443
                    have hP : va_P (dC, dI) vwCl (mW ad kc x0 x1 x2 x3 x4 x_441 x_442 x_443 x_430 x_431 x10 x_432 x12 x13 x14 x15 x16 x17 x18 x19 x20 x21 f_433 f1 f2 f3 f4 f5 f6 f7 f8 f9 f10 f11 f12 f13 f14 f15 f16 f17 f18 f19 f20 f21 fL fN fP fM fO) H := hP
                    have hD : va_D A (mW ad kc x0 x1 x2 x3 x4 x_441 x_442 x_443 x_430 x_431 x10 x_432 x12 x13 x14 x15 x16 x17 x18 x19 x20 x21 f_433 f1 f2 f3 f4 f5 f6 f7 f8 f9 f10 f11 f12 f13 f14 f15 f16 f17 f18 f19 f20 f21 fL fN fP fM fO) := hD
                    refine lv_iconst (v := 1) hx hb dX10_aLine_125 (by decide) ?_
                    have lit_443 : (1 : Int32).toInt = 1 := by decide
                    exact W.zret hx hb hr (z_nar (by first | assumption | decide | exact z_of (by omega))) (fun t ht hW => ⟨⟨_, _, rfl, rfl, x_441, x_442, x_443, x_430, x_431, x_432, f_433, hq9, hq8, (by first | omega | assumption | rfl | decide), (by first | omega | assumption | rfl | decide), (by first | omega | assumption | rfl | decide), (fun h9 => by omega), by rw [ht]; exact hP, va_K.moved hW.alike hK, hD⟩, hS.F ht⟩) hS.2.2 dX10_aLine_126
                  · have tk_439 := c_ne (a := x_436.toInt) (b := 4) rfl (by decide) k_439
                    refine lv_aload_n hx hb dX10_aLine_115 rfl (lv_at hl 1 rfl) ?_
                    refine lv_iconst (v := 2) hx hb dX10_aLine_116 (by decide) ?_
                    have lit_444 : (2 : Int32).toInt = 2 := by decide
                    have hFc := m_free hD hS hA
                    refine va_calli (va_runV (As := [.int 2]) (rest := []) ⟨hx, hb, hml, hown, hts⟩ (m_fails l dC dI ad kc x0 x1 x2 x3 x4 x_436 x_437 x_438 x_430 x_431 x10 x_432 x12 x13 x14 x15 x16 x17 x18 x19 x20 x21 f_433 f1 f2 f3 f4 f5 f6 f7 f8 f9 f10 f11 f12 f13 f14 f15 f16 f17 f18 f19 f20 f21 fL fN fP fM fO H.size 2 ) (cwV 1 hts mg_X10_aLinem_X10_fails_181 rfl rfl rfl (by decide +kernel) ⟨Nat.le_of_ble_eq_true rfl, Nat.le_of_ble_eq_true rfl⟩) ⟨fun a U g mk q => by obtain ⟨q0, q1, qP, qK, qD⟩ := q; exact ⟨q0, q1, qP, va_K.moved (u := U) (U := U.calling g mk a) (Vm.Alike.refl U.vm) qK, qD⟩, va_recv hK hP (ci := 10) (q0 := 0) rfl rfl, fun U hU hW => ⟨rfl, by rw [hU], by rw [hU]; exact hP, va_K.moved hW.alike hK, hD.weaken (fun _ _ _ _ => trivial)⟩⟩ rfl rfl hl.1 rfl (lv_room (Nat.le_of_ble_eq_true rfl)) dX10_aLine_117 ⟨Nat.le_of_ble_eq_true rfl, Nat.le_of_ble_eq_true rfl⟩) hS (fun q _ h => hFc q h) hFc (fun r_446 u t H1 locs ht hvm hw hB hz1 hk1 hS => ?_)
                    subst hw
                    obtain ⟨x_447, x_448, hr_446_0, hP, hK1, hD1⟩ := hB
                    rw [ht] at hP
                    have hD := hD1.weaken (fun k q _ h => hFc q.1 h)
                    clear hz1 hk1 hFc hD1 hK1 hvm
                    generalize H1 = H at hP hS ⊢
                    have rg_x_447 := i_rng x_447
                    have rg_x_448 := i_rng x_448
                    have rg_r_446 := i_rng r_446
                    have hP : va_P (dC, dI) vwCl (mW ad kc x0 x1 x2 x3 x4 x_436 x_437 x_438 x_447 x_448 x10 x_432 x12 x13 x14 x15 x16 x17 x18 x19 x20 x21 f_433 f1 f2 f3 f4 f5 f6 f7 f8 f9 f10 f11 f12 f13 f14 f15 f16 f17 f18 f19 f20 f21 fL fN fP fM fO) H := hP
                    have hD : va_D A (mW ad kc x0 x1 x2 x3 x4 x_436 x_437 x_438 x_447 x_448 x10 x_432 x12 x13 x14 x15 x16 x17 x18 x19 x20 x21 f_433 f1 f2 f3 f4 f5 f6 f7 f8 f9 f10 f11 f12 f13 f14 f15 f16 f17 f18 f19 f20 f21 fL fN fP fM fO) := hD
                    exact W.zret hx hb hr (z_nar (by first | assumption | decide | exact z_of (by omega))) (fun t ht hW => ⟨⟨_, _, rfl, rfl, x_436, x_437, x_438, x_447, x_448, x_432, f_433, hq9, hq8, (by first | omega | assumption | rfl | decide), (by first | omega | assumption | rfl | decide), (by first | omega | assumption | rfl | decide), (fun h9 => by omega), by rw [ht]; exact hP, va_K.moved hW.alike hK, hD⟩, hS.F ht⟩) hS.2.2 dX10_aLine_120
                · have tk_434 := c_eq (a := r_428.toInt) (b := 0) rfl (by decide) k_434
                  refine lv_iconst (v := 0) hx hb dX10_aLine_101 (by decide) ?_
                  have lit_448 : (0 : Int32).toInt = 0 := by decide
                  exact W.zret hx hb hr (z_nar (by first | assumption | decide | exact z_of (by omega))) (fun t ht hW => ⟨⟨_, _, rfl, rfl, x_423, x_424, x_429, x_430, x_431, x_432, f_433, hq9, hq8, (by first | omega | assumption | rfl | decide), (by first | omega | assumption | rfl | decide), (by first | omega | assumption | rfl | decide), (fun h9 => by omega), by rw [ht]; exact hP, va_K.moved hW.alike hK, hD⟩, hS.F ht⟩) hS.2.2 dX10_aLine_102
              · have tk_427 := c_ne (a := r_1.toInt) (b := 0) rfl (by decide) k_427
                refine lv_aload_n hx hb dX10_aLine_84 rfl (lv_at hl 1 rfl) ?_
                have hFc := m_free hD hS hA
                refine va_calli (va_runV (As := []) (rest := []) ⟨hx, hb, hml, hown, hts⟩ (m_docQuote l dC dI ad kc x0 x1 x2 x3 x4 x_423 x_424 x_425 x8 x9 x10 x11 x12 x13 x14 x15 x16 x17 x18 x19 x20 x21 f0 f1 f2 f3 f4 f5 f6 f7 f8 f9 f10 f11 f12 f13 f14 f15 f16 f17 f18 f19 f20 f21 fL fN fP fM fO H.size (by first | omega | assumption | decide | (have l0 := Int32.toInt_zero; omega)) (by first | omega | assumption | decide | (have l0 := Int32.toInt_zero; omega)) (by first | omega | assumption | decide | (have l0 := Int32.toInt_zero; omega)) (by first | omega | assumption | decide | (have l0 := Int32.toInt_zero; omega)) (by first | omega | assumption | decide | (have l0 := Int32.toInt_zero; omega))) (cwV 0 hts mg_X10_aLinem_X10_docQuote_187 rfl rfl rfl (by decide +kernel) ⟨Nat.le_of_ble_eq_true rfl, Nat.le_of_ble_eq_true rfl⟩) ⟨fun a U g mk q => by obtain ⟨q0, q1, qP, qK, qD⟩ := q; exact ⟨q0, q1, qP, va_K.moved (u := U) (U := U.calling g mk a) (Vm.Alike.refl U.vm) qK, qD⟩, va_recv hK hP (ci := 10) (q0 := 0) rfl rfl, fun U hU hW => ⟨rfl, by rw [hU], by rw [hU]; exact hP, va_K.moved hW.alike hK, hD.weaken (fun _ _ _ _ => trivial)⟩⟩ rfl rfl hl.1 rfl (lv_room (Nat.le_of_ble_eq_true rfl)) dX10_aLine_85 ⟨Nat.le_of_ble_eq_true rfl, Nat.le_of_ble_eq_true rfl⟩) hS (fun q _ h => hFc q h) hFc (fun r_450 u t H1 locs ht hvm hw hB hz1 hk1 hS => ?_)
                subst hw
                obtain ⟨x_451, x_452, x_453, f_454, hr_450_0, hr_450_1, hr_450_2, hr_450_3, hr_450_4, hP, hK1, hD1⟩ := hB
                rw [ht] at hP
                have hD := hD1.weaken (fun k q _ h => hFc q.1 h)
                clear hz1 hk1 hFc hD1 hK1 hvm
                generalize H1 = H at hP hS ⊢
                have rg_x_451 := i_rng x_451
                have rg_x_452 := i_rng x_452
                have rg_x_453 := i_rng x_453
                have rg_r_450 := i_rng r_450
                have hP : va_P (dC, dI) vwCl (mW ad kc x0 x1 x2 x3 x4 x_423 x_424 x_451 x_452 x_453 x10 x11 x12 x13 x14 x15 x16 x17 x18 x19 x20 x21 f_454 f1 f2 f3 f4 f5 f6 f7 f8 f9 f10 f11 f12 f13 f14 f15 f16 f17 f18 f19 f20 f21 fL fN fP fM fO) H := hP
                have hD : va_D A (mW ad kc x0 x1 x2 x3 x4 x_423 x_424 x_451 x_452 x_453 x10 x11 x12 x13 x14 x15 x16 x17 x18 x19 x20 x21 f_454 f1 f2 f3 f4 f5 f6 f7 f8 f9 f10 f11 f12 f13 f14 f15 f16 f17 f18 f19 f20 f21 fL fN fP fM fO) := hD
                have hq9 := hr_450_0
                have hq8 := hr_450_1
                refine lv_if_eq (tgt := 101) hx hb dX10_aLine_88 (by decide) (fun k_455 => ?_) (fun k_455 => ?_)
                · have tk_455 := c_eq (a := r_450.toInt) (b := 0) rfl (by decide) k_455
                  refine lv_iconst (v := 0) hx hb dX10_aLine_101 (by decide) ?_
                  have lit_455 : (0 : Int32).toInt = 0 := by decide
                  exact W.zret hx hb hr (z_nar (by first | assumption | decide | exact z_of (by omega))) (fun t ht hW => ⟨⟨_, _, rfl, rfl, x_423, x_424, x_451, x_452, x_453, x11, f_454, hq9, hq8, (by first | omega | assumption | rfl | decide), (by first | omega | assumption | rfl | decide), (by first | omega | assumption | rfl | decide), (fun h9 => by omega), by rw [ht]; exact hP, va_K.moved hW.alike hK, hD⟩, hS.F ht⟩) hS.2.2 dX10_aLine_102
                · have tk_455 := c_ne (a := r_450.toInt) (b := 0) rfl (by decide) k_455
                  refine lv_goto (tgt := 103) hx hb dX10_aLine_91 (by decide) ?_
                  refine lv_aload_n hx hb dX10_aLine_103 rfl (lv_at hl 1 rfl) ?_
                  have hFc := m_free hD hS hA
                  refine va_callv (va_runV (As := []) (rest := []) ⟨hx, hb, hml, hown, hts⟩ (m_ahead l dC dI ad kc x0 x1 x2 x3 x4 x_423 x_424 x_451 x_452 x_453 x10 x11 x12 x13 x14 x15 x16 x17 x18 x19 x20 x21 f_454 f1 f2 f3 f4 f5 f6 f7 f8 f9 f10 f11 f12 f13 f14 f15 f16 f17 f18 f19 f20 f21 fL fN fP fM fO H.size (by first | omega | assumption | decide | (have l0 := Int32.toInt_zero; omega)) (by first | omega | assumption | decide | (have l0 := Int32.toInt_zero; omega)) (by first | omega | assumption | decide | (have l0 := Int32.toInt_zero; omega))) (cwV 0 hts mg_X10_aLinem_X10_ahead_184 rfl rfl rfl (by decide +kernel) ⟨Nat.le_of_ble_eq_true rfl, Nat.le_of_ble_eq_true rfl⟩) ⟨fun a U g mk q => by obtain ⟨q0, q1, qP, qK, qD⟩ := q; exact ⟨q0, q1, qP, va_K.moved (u := U) (U := U.calling g mk a) (Vm.Alike.refl U.vm) qK, qD⟩, va_recv hK hP (ci := 10) (q0 := 0) rfl rfl, fun U hU hW => ⟨rfl, by rw [hU], by rw [hU]; exact hP, va_K.moved hW.alike hK, hD.weaken (fun _ _ _ _ => trivial)⟩⟩ rfl rfl hl.1 rfl (lv_room (Nat.le_of_ble_eq_true rfl)) dX10_aLine_104 ⟨Nat.le_of_ble_eq_true rfl, Nat.le_of_ble_eq_true rfl⟩) hS (fun q _ h => hFc q h) hFc (fun u t H1 locs ht hvm hw hB hz1 hk1 hS => ?_)
                  obtain ⟨x_458, x_459, x_460, hr_457_0, hr_457_1, hr_457_2, hr_457_3, hr_457_4, hP, hK1, hD1⟩ := hB
                  rw [ht] at hP
                  have hD := hD1.weaken (fun k q _ h => hFc q.1 h)
                  clear hz1 hk1 hFc hD1 hK1 hvm
                  generalize H1 = H at hP hS ⊢
                  have rg_x_458 := i_rng x_458
                  have rg_x_459 := i_rng x_459
                  have rg_x_460 := i_rng x_460
                  have hP : va_P (dC, dI) vwCl (mW ad kc x0 x1 x2 x3 x4 x_458 x_459 x_460 x_452 x_453 x10 x11 x12 x13 x14 x15 x16 x17 x18 x19 x20 x21 f_454 f1 f2 f3 f4 f5 f6 f7 f8 f9 f10 f11 f12 f13 f14 f15 f16 f17 f18 f19 f20 f21 fL fN fP fM fO) H := hP
                  have hD : va_D A (mW ad kc x0 x1 x2 x3 x4 x_458 x_459 x_460 x_452 x_453 x10 x11 x12 x13 x14 x15 x16 x17 x18 x19 x20 x21 f_454 f1 f2 f3 f4 f5 f6 f7 f8 f9 f10 f11 f12 f13 f14 f15 f16 f17 f18 f19 f20 f21 fL fN fP fM fO) := hD
                  refine lv_aload_n hx hb dX10_aLine_107 rfl (lv_at hl 1 rfl) ?_
                  refine va_get (D := (dC, dI)) (ci := 10) (v := .int x_458) (C := RX10) (T := TX10) (N := 48) hx hb hts fin_X10_aLinem_X10 hown hK hP 0 rfl rfl 8 (by decide) (hts (.fieldLink RX10 120 "PatternGateModel" "token" "I") (List.mem_of_getElem? (i := 9) (by decide +kernel))) (fun _ h9 => h9) rfl dX10_aLine_108 ?_
                  refine lv_iconst (v := 4) hx hb dX10_aLine_111 (by decide) ?_
                  refine lv_icmp_eq (tgt := 121) hx hb dX10_aLine_112 (by decide) (fun k_461 => ?_) (fun k_461 => ?_)
                  · have tk_461 := c_eq (a := x_458.toInt) (b := 4) rfl (by decide) k_461
                    refine lv_aload_n hx hb dX10_aLine_121 rfl (lv_at hl 1 rfl) ?_
                    have hFc := m_free hD hS hA
                    refine va_callv (va_runV (As := []) (rest := []) ⟨hx, hb, hml, hown, hts⟩ (m_ahead l dC dI ad kc x0 x1 x2 x3 x4 x_458 x_459 x_460 x_452 x_453 x10 x11 x12 x13 x14 x15 x16 x17 x18 x19 x20 x21 f_454 f1 f2 f3 f4 f5 f6 f7 f8 f9 f10 f11 f12 f13 f14 f15 f16 f17 f18 f19 f20 f21 fL fN fP fM fO H.size (by first | omega | assumption | decide | (have l0 := Int32.toInt_zero; omega)) (by first | omega | assumption | decide | (have l0 := Int32.toInt_zero; omega)) (by first | omega | assumption | decide | (have l0 := Int32.toInt_zero; omega))) (cwV 0 hts mg_X10_aLinem_X10_ahead_184 rfl rfl rfl (by decide +kernel) ⟨Nat.le_of_ble_eq_true rfl, Nat.le_of_ble_eq_true rfl⟩) ⟨fun a U g mk q => by obtain ⟨q0, q1, qP, qK, qD⟩ := q; exact ⟨q0, q1, qP, va_K.moved (u := U) (U := U.calling g mk a) (Vm.Alike.refl U.vm) qK, qD⟩, va_recv hK hP (ci := 10) (q0 := 0) rfl rfl, fun U hU hW => ⟨rfl, by rw [hU], by rw [hU]; exact hP, va_K.moved hW.alike hK, hD.weaken (fun _ _ _ _ => trivial)⟩⟩ rfl rfl hl.1 rfl (lv_room (Nat.le_of_ble_eq_true rfl)) dX10_aLine_122 ⟨Nat.le_of_ble_eq_true rfl, Nat.le_of_ble_eq_true rfl⟩) hS (fun q _ h => hFc q h) hFc (fun u t H1 locs ht hvm hw hB hz1 hk1 hS => ?_)
                    obtain ⟨x_463, x_464, x_465, hr_462_0, hr_462_1, hr_462_2, hr_462_3, hr_462_4, hP, hK1, hD1⟩ := hB
                    rw [ht] at hP
                    have hD := hD1.weaken (fun k q _ h => hFc q.1 h)
                    clear hz1 hk1 hFc hD1 hK1 hvm
                    generalize H1 = H at hP hS ⊢
                    have rg_x_463 := i_rng x_463
                    have rg_x_464 := i_rng x_464
                    have rg_x_465 := i_rng x_465
                    have hP : va_P (dC, dI) vwCl (mW ad kc x0 x1 x2 x3 x4 x_463 x_464 x_465 x_452 x_453 x10 x11 x12 x13 x14 x15 x16 x17 x18 x19 x20 x21 f_454 f1 f2 f3 f4 f5 f6 f7 f8 f9 f10 f11 f12 f13 f14 f15 f16 f17 f18 f19 f20 f21 fL fN fP fM fO) H := hP
                    have hD : va_D A (mW ad kc x0 x1 x2 x3 x4 x_463 x_464 x_465 x_452 x_453 x10 x11 x12 x13 x14 x15 x16 x17 x18 x19 x20 x21 f_454 f1 f2 f3 f4 f5 f6 f7 f8 f9 f10 f11 f12 f13 f14 f15 f16 f17 f18 f19 f20 f21 fL fN fP fM fO) := hD
                    refine lv_iconst (v := 1) hx hb dX10_aLine_125 (by decide) ?_
                    have lit_465 : (1 : Int32).toInt = 1 := by decide
                    exact W.zret hx hb hr (z_nar (by first | assumption | decide | exact z_of (by omega))) (fun t ht hW => ⟨⟨_, _, rfl, rfl, x_463, x_464, x_465, x_452, x_453, x11, f_454, hq9, hq8, (by first | omega | assumption | rfl | decide), (by first | omega | assumption | rfl | decide), (by first | omega | assumption | rfl | decide), (fun h9 => by omega), by rw [ht]; exact hP, va_K.moved hW.alike hK, hD⟩, hS.F ht⟩) hS.2.2 dX10_aLine_126
                  · have tk_461 := c_ne (a := x_458.toInt) (b := 4) rfl (by decide) k_461
                    refine lv_aload_n hx hb dX10_aLine_115 rfl (lv_at hl 1 rfl) ?_
                    refine lv_iconst (v := 2) hx hb dX10_aLine_116 (by decide) ?_
                    have lit_466 : (2 : Int32).toInt = 2 := by decide
                    have hFc := m_free hD hS hA
                    refine va_calli (va_runV (As := [.int 2]) (rest := []) ⟨hx, hb, hml, hown, hts⟩ (m_fails l dC dI ad kc x0 x1 x2 x3 x4 x_458 x_459 x_460 x_452 x_453 x10 x11 x12 x13 x14 x15 x16 x17 x18 x19 x20 x21 f_454 f1 f2 f3 f4 f5 f6 f7 f8 f9 f10 f11 f12 f13 f14 f15 f16 f17 f18 f19 f20 f21 fL fN fP fM fO H.size 2 ) (cwV 1 hts mg_X10_aLinem_X10_fails_181 rfl rfl rfl (by decide +kernel) ⟨Nat.le_of_ble_eq_true rfl, Nat.le_of_ble_eq_true rfl⟩) ⟨fun a U g mk q => by obtain ⟨q0, q1, qP, qK, qD⟩ := q; exact ⟨q0, q1, qP, va_K.moved (u := U) (U := U.calling g mk a) (Vm.Alike.refl U.vm) qK, qD⟩, va_recv hK hP (ci := 10) (q0 := 0) rfl rfl, fun U hU hW => ⟨rfl, by rw [hU], by rw [hU]; exact hP, va_K.moved hW.alike hK, hD.weaken (fun _ _ _ _ => trivial)⟩⟩ rfl rfl hl.1 rfl (lv_room (Nat.le_of_ble_eq_true rfl)) dX10_aLine_117 ⟨Nat.le_of_ble_eq_true rfl, Nat.le_of_ble_eq_true rfl⟩) hS (fun q _ h => hFc q h) hFc (fun r_468 u t H1 locs ht hvm hw hB hz1 hk1 hS => ?_)
                    subst hw
                    obtain ⟨x_469, x_470, hr_468_0, hP, hK1, hD1⟩ := hB
                    rw [ht] at hP
                    have hD := hD1.weaken (fun k q _ h => hFc q.1 h)
                    clear hz1 hk1 hFc hD1 hK1 hvm
                    generalize H1 = H at hP hS ⊢
                    have rg_x_469 := i_rng x_469
                    have rg_x_470 := i_rng x_470
                    have rg_r_468 := i_rng r_468
                    have hP : va_P (dC, dI) vwCl (mW ad kc x0 x1 x2 x3 x4 x_458 x_459 x_460 x_469 x_470 x10 x11 x12 x13 x14 x15 x16 x17 x18 x19 x20 x21 f_454 f1 f2 f3 f4 f5 f6 f7 f8 f9 f10 f11 f12 f13 f14 f15 f16 f17 f18 f19 f20 f21 fL fN fP fM fO) H := hP
                    have hD : va_D A (mW ad kc x0 x1 x2 x3 x4 x_458 x_459 x_460 x_469 x_470 x10 x11 x12 x13 x14 x15 x16 x17 x18 x19 x20 x21 f_454 f1 f2 f3 f4 f5 f6 f7 f8 f9 f10 f11 f12 f13 f14 f15 f16 f17 f18 f19 f20 f21 fL fN fP fM fO) := hD
                    exact W.zret hx hb hr (z_nar (by first | assumption | decide | exact z_of (by omega))) (fun t ht hW => ⟨⟨_, _, rfl, rfl, x_458, x_459, x_460, x_469, x_470, x11, f_454, hq9, hq8, (by first | omega | assumption | rfl | decide), (by first | omega | assumption | rfl | decide), (by first | omega | assumption | rfl | decide), (fun h9 => by omega), by rw [ht]; exact hP, va_K.moved hW.alike hK, hD⟩, hS.F ht⟩) hS.2.2 dX10_aLine_120
            · have tk_426 := c_ne (a := x_423.toInt) (b := 3) rfl (by decide) k_426
              refine lv_aload_n hx hb dX10_aLine_74 rfl (lv_at hl 1 rfl) ?_
              refine lv_iconst (v := 2) hx hb dX10_aLine_75 (by decide) ?_
              have lit_470 : (2 : Int32).toInt = 2 := by decide
              have hFc := m_free hD hS hA
              refine va_calli (va_runV (As := [.int 2]) (rest := []) ⟨hx, hb, hml, hown, hts⟩ (m_fails l dC dI ad kc x0 x1 x2 x3 x4 x_423 x_424 x_425 x8 x9 x10 x11 x12 x13 x14 x15 x16 x17 x18 x19 x20 x21 f0 f1 f2 f3 f4 f5 f6 f7 f8 f9 f10 f11 f12 f13 f14 f15 f16 f17 f18 f19 f20 f21 fL fN fP fM fO H.size 2 ) (cwV 1 hts mg_X10_aLinem_X10_fails_181 rfl rfl rfl (by decide +kernel) ⟨Nat.le_of_ble_eq_true rfl, Nat.le_of_ble_eq_true rfl⟩) ⟨fun a U g mk q => by obtain ⟨q0, q1, qP, qK, qD⟩ := q; exact ⟨q0, q1, qP, va_K.moved (u := U) (U := U.calling g mk a) (Vm.Alike.refl U.vm) qK, qD⟩, va_recv hK hP (ci := 10) (q0 := 0) rfl rfl, fun U hU hW => ⟨rfl, by rw [hU], by rw [hU]; exact hP, va_K.moved hW.alike hK, hD.weaken (fun _ _ _ _ => trivial)⟩⟩ rfl rfl hl.1 rfl (lv_room (Nat.le_of_ble_eq_true rfl)) dX10_aLine_76 ⟨Nat.le_of_ble_eq_true rfl, Nat.le_of_ble_eq_true rfl⟩) hS (fun q _ h => hFc q h) hFc (fun r_472 u t H1 locs ht hvm hw hB hz1 hk1 hS => ?_)
              subst hw
              obtain ⟨x_473, x_474, hr_472_0, hP, hK1, hD1⟩ := hB
              rw [ht] at hP
              have hD := hD1.weaken (fun k q _ h => hFc q.1 h)
              clear hz1 hk1 hFc hD1 hK1 hvm
              generalize H1 = H at hP hS ⊢
              have rg_x_473 := i_rng x_473
              have rg_x_474 := i_rng x_474
              have rg_r_472 := i_rng r_472
              have hP : va_P (dC, dI) vwCl (mW ad kc x0 x1 x2 x3 x4 x_423 x_424 x_425 x_473 x_474 x10 x11 x12 x13 x14 x15 x16 x17 x18 x19 x20 x21 f0 f1 f2 f3 f4 f5 f6 f7 f8 f9 f10 f11 f12 f13 f14 f15 f16 f17 f18 f19 f20 f21 fL fN fP fM fO) H := hP
              have hD : va_D A (mW ad kc x0 x1 x2 x3 x4 x_423 x_424 x_425 x_473 x_474 x10 x11 x12 x13 x14 x15 x16 x17 x18 x19 x20 x21 f0 f1 f2 f3 f4 f5 f6 f7 f8 f9 f10 f11 f12 f13 f14 f15 f16 f17 f18 f19 f20 f21 fL fN fP fM fO) := hD
              exact W.zret hx hb hr (z_nar (by first | assumption | decide | exact z_of (by omega))) (fun t ht hW => ⟨⟨_, _, rfl, rfl, x_423, x_424, x_425, x_473, x_474, x11, f0, q0, (fun _ _ => rfl), (by first | omega | assumption | rfl | decide), (by first | omega | assumption | rfl | decide), (by first | omega | assumption | rfl | decide), (fun h9 => by omega), by rw [ht]; exact hP, va_K.moved hW.alike hK, hD⟩, hS.F ht⟩) hS.2.2 dX10_aLine_79
          · have tk_421 := c_eq (a := y_361.toInt) (b := 10) rfl (by decide) k_421
            refine lv_aload_n hx hb dX10_aLine_56 rfl (lv_at hl 1 rfl) ?_
            refine lv_iconst (v := 3) hx hb dX10_aLine_57 (by decide) ?_
            have lit_474 : (3 : Int32).toInt = 3 := by decide
            have hFc := m_free hD hS hA
            refine va_calli (va_runV (As := [.int 3]) (rest := []) ⟨hx, hb, hml, hown, hts⟩ (m_fails l dC dI ad kc x0 x1 x2 x3 x4 x5 x6 x7 x8 x9 x10 x11 x12 x13 x14 x15 x16 x17 x18 x19 x20 x21 f0 f1 f2 f3 f4 f5 f6 f7 f8 f9 f10 f11 f12 f13 f14 f15 f16 f17 f18 f19 f20 f21 fL fN fP fM fO H.size 3 ) (cwV 1 hts mg_X10_aLinem_X10_fails_181 rfl rfl rfl (by decide +kernel) ⟨Nat.le_of_ble_eq_true rfl, Nat.le_of_ble_eq_true rfl⟩) ⟨fun a U g mk q => by obtain ⟨q0, q1, qP, qK, qD⟩ := q; exact ⟨q0, q1, qP, va_K.moved (u := U) (U := U.calling g mk a) (Vm.Alike.refl U.vm) qK, qD⟩, va_recv hK hP (ci := 10) (q0 := 0) rfl rfl, fun U hU hW => ⟨rfl, by rw [hU], by rw [hU]; exact hP, va_K.moved hW.alike hK, hD.weaken (fun _ _ _ _ => trivial)⟩⟩ rfl rfl hl.1 rfl (lv_room (Nat.le_of_ble_eq_true rfl)) dX10_aLine_58 ⟨Nat.le_of_ble_eq_true rfl, Nat.le_of_ble_eq_true rfl⟩) hS (fun q _ h => hFc q h) hFc (fun r_476 u t H1 locs ht hvm hw hB hz1 hk1 hS => ?_)
            subst hw
            obtain ⟨x_477, x_478, hr_476_0, hP, hK1, hD1⟩ := hB
            rw [ht] at hP
            have hD := hD1.weaken (fun k q _ h => hFc q.1 h)
            clear hz1 hk1 hFc hD1 hK1 hvm
            generalize H1 = H at hP hS ⊢
            have rg_x_477 := i_rng x_477
            have rg_x_478 := i_rng x_478
            have rg_r_476 := i_rng r_476
            have hP : va_P (dC, dI) vwCl (mW ad kc x0 x1 x2 x3 x4 x5 x6 x7 x_477 x_478 x10 x11 x12 x13 x14 x15 x16 x17 x18 x19 x20 x21 f0 f1 f2 f3 f4 f5 f6 f7 f8 f9 f10 f11 f12 f13 f14 f15 f16 f17 f18 f19 f20 f21 fL fN fP fM fO) H := hP
            have hD : va_D A (mW ad kc x0 x1 x2 x3 x4 x5 x6 x7 x_477 x_478 x10 x11 x12 x13 x14 x15 x16 x17 x18 x19 x20 x21 f0 f1 f2 f3 f4 f5 f6 f7 f8 f9 f10 f11 f12 f13 f14 f15 f16 f17 f18 f19 f20 f21 fL fN fP fM fO) := hD
            exact W.zret hx hb hr (z_nar (by first | assumption | decide | exact z_of (by omega))) (fun t ht hW => ⟨⟨_, _, rfl, rfl, x5, x6, x7, x_477, x_478, x11, f0, q0, (fun _ _ => rfl), (by first | omega | assumption | rfl | decide), (by first | omega | assumption | rfl | decide), (by first | omega | assumption | rfl | decide), (fun h9 => by omega), by rw [ht]; exact hP, va_K.moved hW.alike hK, hD⟩, hS.F ht⟩) hS.2.2 dX10_aLine_61
    · have tk_241 := c_eq (a := r_240.toInt) (b := 0) rfl (by decide) k_241
      refine lv_aload_n hx hb dX10_aLine_20 rfl (lv_at hl 1 rfl) ?_
      refine lv_iconst (v := 2) hx hb dX10_aLine_21 (by decide) ?_
      have lit_478 : (2 : Int32).toInt = 2 := by decide
      have hFc := m_free hD hS hA
      refine va_calli (va_runV (As := [.int 2]) (rest := []) ⟨hx, hb, hml, hown, hts⟩ (m_fails l dC dI ad kc x0 x1 x2 x3 x4 x5 x6 x7 x8 x9 x10 x11 x12 x13 x14 x15 x16 x17 x18 x19 x20 x21 f0 f1 f2 f3 f4 f5 f6 f7 f8 f9 f10 f11 f12 f13 f14 f15 f16 f17 f18 f19 f20 f21 fL fN fP fM fO H.size 2 ) (cwV 1 hts mg_X10_aLinem_X10_fails_181 rfl rfl rfl (by decide +kernel) ⟨Nat.le_of_ble_eq_true rfl, Nat.le_of_ble_eq_true rfl⟩) ⟨fun a U g mk q => by obtain ⟨q0, q1, qP, qK, qD⟩ := q; exact ⟨q0, q1, qP, va_K.moved (u := U) (U := U.calling g mk a) (Vm.Alike.refl U.vm) qK, qD⟩, va_recv hK hP (ci := 10) (q0 := 0) rfl rfl, fun U hU hW => ⟨rfl, by rw [hU], by rw [hU]; exact hP, va_K.moved hW.alike hK, hD.weaken (fun _ _ _ _ => trivial)⟩⟩ rfl rfl hl.1 rfl (lv_room (Nat.le_of_ble_eq_true rfl)) dX10_aLine_22 ⟨Nat.le_of_ble_eq_true rfl, Nat.le_of_ble_eq_true rfl⟩) hS (fun q _ h => hFc q h) hFc (fun r_480 u t H1 locs ht hvm hw hB hz1 hk1 hS => ?_)
      subst hw
      obtain ⟨x_481, x_482, hr_480_0, hP, hK1, hD1⟩ := hB
      rw [ht] at hP
      have hD := hD1.weaken (fun k q _ h => hFc q.1 h)
      clear hz1 hk1 hFc hD1 hK1 hvm
      generalize H1 = H at hP hS ⊢
      have rg_x_481 := i_rng x_481
      have rg_x_482 := i_rng x_482
      have rg_r_480 := i_rng r_480
      have hP : va_P (dC, dI) vwCl (mW ad kc x0 x1 x2 x3 x4 x5 x6 x7 x_481 x_482 x10 x11 x12 x13 x14 x15 x16 x17 x18 x19 x20 x21 f0 f1 f2 f3 f4 f5 f6 f7 f8 f9 f10 f11 f12 f13 f14 f15 f16 f17 f18 f19 f20 f21 fL fN fP fM fO) H := hP
      have hD : va_D A (mW ad kc x0 x1 x2 x3 x4 x5 x6 x7 x_481 x_482 x10 x11 x12 x13 x14 x15 x16 x17 x18 x19 x20 x21 f0 f1 f2 f3 f4 f5 f6 f7 f8 f9 f10 f11 f12 f13 f14 f15 f16 f17 f18 f19 f20 f21 fL fN fP fM fO) := hD
      exact W.zret hx hb hr (z_nar (by first | assumption | decide | exact z_of (by omega))) (fun t ht hW => ⟨⟨_, _, rfl, rfl, x5, x6, x7, x_481, x_482, x11, f0, q0, (fun _ _ => rfl), (by first | omega | assumption | rfl | decide), (by first | omega | assumption | rfl | decide), (by first | omega | assumption | rfl | decide), (fun h9 => by omega), by rw [ht]; exact hP, va_K.moved hW.alike hK, hD⟩, hS.F ht⟩) hS.2.2 dX10_aLine_25
theorem OKd.anew {f g h : Nat → Int32} (q : OKd f 0) (h1 : U1 f g 0 0) (h2 : U1 g h 611 0) : OKd h 0 := by
  have e0 : vI h 0 = 0 := (h2.2 0 (by omega) (by omega)).trans h1.1
  have e1 : vI h (0 + 611) = 0 := h2.1
  exact ⟨by omega, fun d a b => by omega, by omega, fun p a b => by omega⟩
theorem dX10_reads_0 : decode cX10_reads 0 = .ok (.aload_n 0, 1) := by decide +kernel
theorem dX10_reads_1 : decode cX10_reads 1 = .ok (.iload_n 1, 1) := by decide +kernel
theorem dX10_reads_2 : decode cX10_reads 2 = .ok (.putfield 114, 3) := by decide +kernel
theorem dX10_reads_5 : decode cX10_reads 5 = .ok (.iconst 0, 1) := by decide +kernel
theorem dX10_reads_6 : decode cX10_reads 6 = .ok (.istore_n 3, 1) := by decide +kernel
theorem dX10_reads_7 : decode cX10_reads 7 = .ok (.iload_n 3, 1) := by decide +kernel
theorem dX10_reads_8 : decode cX10_reads 8 = .ok (.iload_n 1, 1) := by decide +kernel
theorem dX10_reads_9 : decode cX10_reads 9 = .ok (.if_icmp .ge 21, 3) := by decide +kernel
theorem dX10_reads_12 : decode cX10_reads 12 = .ok (.aload_n 0, 1) := by decide +kernel
theorem dX10_reads_13 : decode cX10_reads 13 = .ok (.getfield 18, 3) := by decide +kernel
theorem dX10_reads_16 : decode cX10_reads 16 = .ok (.iload_n 3, 1) := by decide +kernel
theorem dX10_reads_17 : decode cX10_reads 17 = .ok (.aload_n 0, 1) := by decide +kernel
theorem dX10_reads_18 : decode cX10_reads 18 = .ok (.getfield 14, 3) := by decide +kernel
theorem dX10_reads_21 : decode cX10_reads 21 = .ok (.iload_n 3, 1) := by decide +kernel
theorem dX10_reads_22 : decode cX10_reads 22 = .ok (.baload, 1) := by decide +kernel
theorem dX10_reads_23 : decode cX10_reads 23 = .ok (.bastore, 1) := by decide +kernel
theorem dX10_reads_24 : decode cX10_reads 24 = .ok (.iinc 3 1, 3) := by decide +kernel
theorem dX10_reads_27 : decode cX10_reads 27 = .ok (.goto (-20), 3) := by decide +kernel
theorem dX10_reads_30 : decode cX10_reads 30 = .ok (.aload_n 0, 1) := by decide +kernel
theorem dX10_reads_31 : decode cX10_reads 31 = .ok (.iconst 0, 1) := by decide +kernel
theorem dX10_reads_32 : decode cX10_reads 32 = .ok (.putfield 107, 3) := by decide +kernel
theorem dX10_reads_35 : decode cX10_reads 35 = .ok (.aload_n 0, 1) := by decide +kernel
theorem dX10_reads_36 : decode cX10_reads 36 = .ok (.iconst 0, 1) := by decide +kernel
theorem dX10_reads_37 : decode cX10_reads 37 = .ok (.putfield 117, 3) := by decide +kernel
theorem dX10_reads_40 : decode cX10_reads 40 = .ok (.aload_n 0, 1) := by decide +kernel
theorem dX10_reads_41 : decode cX10_reads 41 = .ok (.iconst (-1), 1) := by decide +kernel
theorem dX10_reads_42 : decode cX10_reads 42 = .ok (.putfield 21, 3) := by decide +kernel
theorem dX10_reads_45 : decode cX10_reads 45 = .ok (.aload_n 0, 1) := by decide +kernel
theorem dX10_reads_46 : decode cX10_reads 46 = .ok (.iconst 0, 1) := by decide +kernel
theorem dX10_reads_47 : decode cX10_reads 47 = .ok (.putfield 130, 3) := by decide +kernel
theorem dX10_reads_50 : decode cX10_reads 50 = .ok (.aload_n 0, 1) := by decide +kernel
theorem dX10_reads_51 : decode cX10_reads 51 = .ok (.iconst 0, 1) := by decide +kernel
theorem dX10_reads_52 : decode cX10_reads 52 = .ok (.sipush 7820, 3) := by decide +kernel
theorem dX10_reads_55 : decode cX10_reads 55 = .ok (.invokevirtual 193, 3) := by decide +kernel
theorem dX10_reads_58 : decode cX10_reads 58 = .ok (.iload_n 2, 1) := by decide +kernel
theorem dX10_reads_59 : decode cX10_reads 59 = .ok (.ifCond .eq 19, 3) := by decide +kernel
theorem dX10_reads_62 : decode cX10_reads 62 = .ok (.aload_n 0, 1) := by decide +kernel
theorem dX10_reads_63 : decode cX10_reads 63 = .ok (.getfield 8, 3) := by decide +kernel
theorem dX10_reads_66 : decode cX10_reads 66 = .ok (.iconst 0, 1) := by decide +kernel
theorem dX10_reads_67 : decode cX10_reads 67 = .ok (.iconst 0, 1) := by decide +kernel
theorem dX10_reads_68 : decode cX10_reads 68 = .ok (.iastore, 1) := by decide +kernel
theorem dX10_reads_69 : decode cX10_reads 69 = .ok (.aload_n 0, 1) := by decide +kernel
theorem dX10_reads_70 : decode cX10_reads 70 = .ok (.getfield 8, 3) := by decide +kernel
theorem dX10_reads_73 : decode cX10_reads 73 = .ok (.sipush 611, 3) := by decide +kernel
theorem dX10_reads_76 : decode cX10_reads 76 = .ok (.iconst 0, 1) := by decide +kernel
theorem dX10_reads_77 : decode cX10_reads 77 = .ok (.iastore, 1) := by decide +kernel
theorem dX10_reads_78 : decode cX10_reads 78 = .ok (.aload_n 0, 1) := by decide +kernel
theorem dX10_reads_79 : decode cX10_reads 79 = .ok (.invokevirtual 184, 3) := by decide +kernel
theorem dX10_reads_82 : decode cX10_reads 82 = .ok (.iconst 1, 1) := by decide +kernel
theorem dX10_reads_83 : decode cX10_reads 83 = .ok (.istore_n 3, 1) := by decide +kernel
theorem dX10_reads_84 : decode cX10_reads 84 = .ok (.iload_n 3, 1) := by decide +kernel
theorem dX10_reads_85 : decode cX10_reads 85 = .ok (.ifCond .eq 18, 3) := by decide +kernel
theorem dX10_reads_88 : decode cX10_reads 88 = .ok (.aload_n 0, 1) := by decide +kernel
theorem dX10_reads_89 : decode cX10_reads 89 = .ok (.getfield 120, 3) := by decide +kernel
theorem dX10_reads_92 : decode cX10_reads 92 = .ok (.ifCond .eq 11, 3) := by decide +kernel
theorem dX10_reads_95 : decode cX10_reads 95 = .ok (.aload_n 0, 1) := by decide +kernel
theorem dX10_reads_96 : decode cX10_reads 96 = .ok (.invokevirtual 197, 3) := by decide +kernel
theorem dX10_reads_99 : decode cX10_reads 99 = .ok (.istore_n 3, 1) := by decide +kernel
theorem dX10_reads_100 : decode cX10_reads 100 = .ok (.goto (-16), 3) := by decide +kernel
theorem dX10_reads_103 : decode cX10_reads 103 = .ok (.aload_n 0, 1) := by decide +kernel
theorem dX10_reads_104 : decode cX10_reads 104 = .ok (.aload_n 0, 1) := by decide +kernel
theorem dX10_reads_105 : decode cX10_reads 105 = .ok (.getfield 117, 3) := by decide +kernel
theorem dX10_reads_108 : decode cX10_reads 108 = .ok (.putfield 25, 3) := by decide +kernel
theorem dX10_reads_111 : decode cX10_reads 111 = .ok (.aload_n 0, 1) := by decide +kernel
theorem dX10_reads_112 : decode cX10_reads 112 = .ok (.getfield 117, 3) := by decide +kernel
theorem dX10_reads_115 : decode cX10_reads 115 = .ok (.ifCond .le 11, 3) := by decide +kernel
theorem dX10_reads_118 : decode cX10_reads 118 = .ok (.aload_n 0, 1) := by decide +kernel
theorem dX10_reads_119 : decode cX10_reads 119 = .ok (.sipush 7820, 3) := by decide +kernel
theorem dX10_reads_122 : decode cX10_reads 122 = .ok (.iconst 0, 1) := by decide +kernel
theorem dX10_reads_123 : decode cX10_reads 123 = .ok (.invokevirtual 193, 3) := by decide +kernel
theorem dX10_reads_126 : decode cX10_reads 126 = .ok (.aload_n 0, 1) := by decide +kernel
theorem dX10_reads_127 : decode cX10_reads 127 = .ok (.getfield 117, 3) := by decide +kernel
theorem dX10_reads_130 : decode cX10_reads 130 = .ok (.ifCond .ne 7, 3) := by decide +kernel
theorem dX10_reads_133 : decode cX10_reads 133 = .ok (.iconst 1, 1) := by decide +kernel
theorem dX10_reads_134 : decode cX10_reads 134 = .ok (.goto 4, 3) := by decide +kernel
theorem dX10_reads_137 : decode cX10_reads 137 = .ok (.iconst 0, 1) := by decide +kernel
theorem dX10_reads_138 : decode cX10_reads 138 = .ok (.ireturn, 1) := by decide +kernel
def mwX10_readsm : List Cond := .code yX10_reads cX10_reads 4 (some .boolean) :: (([.fieldLink RX10 114 "PatternGateModel" "size" "I", .fieldLink RX10 107 "PatternGateModel" "taped" "I", .fieldLink RX10 117 "PatternGateModel" "faults" "I", .fieldLink RX10 21 "PatternGateModel" "faultPlace" "I", .fieldLink RX10 130 "PatternGateModel" "end" "I", .methodLink RX10 193 yX10_copies, .instanceMethod yX10_copies, .selects RX10 yX10_copies yX10_copies, .initialized RX10, .methodLink RX10 184 yX10_ahead, .instanceMethod yX10_ahead, .selects RX10 yX10_ahead yX10_ahead, .fieldLink RX10 25 "PatternGateModel" "faultKind" "I", .fieldLink RX10 120 "PatternGateModel" "token" "I", .methodLink RX10 197 yX10_aLine, .instanceMethod yX10_aLine, .selects RX10 yX10_aLine yX10_aLine, .fieldLink RX10 8 "PatternGateModel" "all" "[I", .fieldLink RX10 18 "PatternGateModel" "text" "[B", .fieldLink RX10 14 "PatternGateModel" "tape" "[B"] : List Cond) ++ (wsX100 ++ (mwX10_copiesm ++ (mwX10_aheadm ++ (mwX10_aLinem)))))
theorem fin_X10_readsm_X10 : ∀ w ∈ wsX100, w ∈ mwX10_readsm := fun w h => List.mem_cons_of_mem _ (List.mem_append_right _ (List.mem_append_left _ h))
set_option maxRecDepth 100000 in
theorem gd_mwX10_aLinem : mwX10_aLinem.all goodWord = true := by decide +kernel
set_option maxRecDepth 20000 in
theorem mg_X10_readsm_X10_copies_193 : GoodIn mwX10_readsm (wsV RX10 193 RX10 yX10_copies mwX10_copiesm) := gi_app (A := [.methodLink RX10 193 yX10_copies, .instanceMethod yX10_copies, .selects RX10 yX10_copies yX10_copies, .initialized RX10]) (goodIn_r _ [6, 7, 8, 9] (by decide +kernel) (by decide +kernel)) (gi_sub gd_mwX10_copiesm (fun w h => List.mem_cons_of_mem _ (List.mem_append_right _ (List.mem_append_right _ (List.mem_append_left _ h)))))
set_option maxRecDepth 20000 in
theorem mg_X10_readsm_X10_ahead_184 : GoodIn mwX10_readsm (wsV RX10 184 RX10 yX10_ahead mwX10_aheadm) := gi_app (A := [.methodLink RX10 184 yX10_ahead, .instanceMethod yX10_ahead, .selects RX10 yX10_ahead yX10_ahead, .initialized RX10]) (goodIn_r _ [10, 11, 12, 9] (by decide +kernel) (by decide +kernel)) (gi_sub gd_mwX10_aheadm (fun w h => List.mem_cons_of_mem _ (List.mem_append_right _ (List.mem_append_right _ (List.mem_append_right _ (List.mem_append_left _ h))))))
set_option maxRecDepth 20000 in
theorem mg_X10_readsm_X10_aLine_197 : GoodIn mwX10_readsm (wsV RX10 197 RX10 yX10_aLine mwX10_aLinem) := gi_app (A := [.methodLink RX10 197 yX10_aLine, .instanceMethod yX10_aLine, .selects RX10 yX10_aLine yX10_aLine, .initialized RX10]) (goodIn_r _ [15, 16, 17, 9] (by decide +kernel) (by decide +kernel)) (gi_sub gd_mwX10_aLinem (fun w h => List.mem_cons_of_mem _ (List.mem_append_right _ (List.mem_append_right _ (List.mem_append_right _ (List.mem_append_right _ (h)))))))
set_option maxHeartbeats 4000000 in
set_option maxRecDepth 100000 in
theorem m_reads (l : Launch) (dC : Nat → ClassId) (dI : Nat → Nat → Nat) (ad : Nat → Nat) (kc : Nat → ClassId) (x0 x1 x2 x3 x4 x5 x6 x7 x8 x9 x10 x11 x12 x13 x14 x15 x16 x17 x18 x19 x20 x21 : Int32) (f0 f1 f2 f3 f4 f5 f6 f7 f8 f9 f10 f11 f12 f13 f14 f15 f16 f17 f18 f19 f20 f21 : Nat → Int32) (fL : Nat → Nat → Int64) (fN : Nat → Nat → Int32) (fP : Nat → Nat → Nat) (fM : Nat → Nat → Int32) (fO : Nat → Nat → Int32) (sz : Nat) (i1 i2 : Int32) (q0 : mI x1.toInt x2.toInt x3.toInt f0 fP) (q1 : 0 ≤ i1.toInt ∧ i1.toInt ≤ 900) (q2 : i2.toInt = 0 ∨ i2.toInt = 1) : Met l yX10_reads mwX10_readsm ({ frames := 23, cells := 0, slots := 0, locals := 1380 }) (va_Pc [.ref (ad 0), .int i1, .int i2] (fun U => U.heap.size = sz ∧ va_P (dC, dI) vwCl (mW ad kc x0 x1 x2 x3 x4 x5 x6 x7 x8 x9 x10 x11 x12 x13 x14 x15 x16 x17 x18 x19 x20 x21 f0 f1 f2 f3 f4 f5 f6 f7 f8 f9 f10 f11 f12 f13 f14 f15 f16 f17 f18 f19 f20 f21 fL fN fP fM fO) U.heap ∧ va_K (dC, dI) vwCl (mT kc) U ∧ va_D (fun _ => True) (mW ad kc x0 x1 x2 x3 x4 x5 x6 x7 x8 x9 x10 x11 x12 x13 x14 x15 x16 x17 x18 x19 x20 x21 f0 f1 f2 f3 f4 f5 f6 f7 f8 f9 f10 f11 f12 f13 f14 f15 f16 f17 f18 f19 f20 f21 fL fN fP fM fO) ∧ sW (va_A (mW ad kc x0 x1 x2 x3 x4 x5 x6 x7 x8 x9 x10 x11 x12 x13 x14 x15 x16 x17 x18 x19 x20 x21 f0 f1 f2 f3 f4 f5 f6 f7 f8 f9 f10 f11 f12 f13 f14 f15 f16 f17 f18 f19 f20 f21 fL fN fP fM fO) sz) U U.heap)) (va_Qi (fun (o9 u9 : Int32) => o9 = u9) (fun (o9 : Int32) t => ∃ (y3 y4 y5 y6 y7 y8 y9 y10 y11 : Int32) (g0 g2 : Nat → Int32), (OKd g0 0) ∧ (mC x1.toInt x2.toInt g0) ∧ (y3.toInt = 0) ∧ (o9.toInt = 0 ∨ o9.toInt = 1) ∧ va_P (dC, dI) vwCl (mW ad kc x0 x1 x2 y3 y4 y5 y6 y7 y8 y9 y10 y11 x12 x13 x14 x15 x16 x17 x18 x19 x20 x21 g0 f1 g2 f3 f4 f5 f6 f7 f8 f9 f10 f11 f12 f13 f14 f15 f16 f17 f18 f19 f20 f21 fL fN fP fM fO) t.heap ∧ va_K (dC, dI) vwCl (mT kc) t ∧ va_D (va_A (mW ad kc x0 x1 x2 x3 x4 x5 x6 x7 x8 x9 x10 x11 x12 x13 x14 x15 x16 x17 x18 x19 x20 x21 f0 f1 f2 f3 f4 f5 f6 f7 f8 f9 f10 f11 f12 f13 f14 f15 f16 f17 f18 f19 f20 f21 fL fN fP fM fO) sz) (mW ad kc x0 x1 x2 y3 y4 y5 y6 y7 y8 y9 y10 y11 x12 x13 x14 x15 x16 x17 x18 x19 x20 x21 g0 f1 g2 f3 f4 f5 f6 f7 f8 f9 f10 f11 f12 f13 f14 f15 f16 f17 f18 f19 f20 f21 fL fN fP fM fO)) (va_A (mW ad kc x0 x1 x2 x3 x4 x5 x6 x7 x8 x9 x10 x11 x12 x13 x14 x15 x16 x17 x18 x19 x20 x21 f0 f1 f2 f3 f4 f5 f6 f7 f8 f9 f10 f11 f12 f13 f14 f15 f16 f17 f18 f19 f20 f21 fL fN fP fM fO) sz)) 0 0 (va_A (mW ad kc x0 x1 x2 x3 x4 x5 x6 x7 x8 x9 x10 x11 x12 x13 x14 x15 x16 x17 x18 x19 x20 x21 f0 f1 f2 f3 f4 f5 f6 f7 f8 f9 f10 f11 f12 f13 f14 f15 f16 f17 f18 f19 f20 f21 fL fN fP fM fO) sz) := by
  refine Met.ofW (cc := cX10_reads) (maxL := 4) (ret := (some .boolean)) (by decide +kernel) rfl ?_
  intro p e s m args below meth c s₁ B hml hv
  obtain ⟨rfl, hsz, hP, hK, hD0, hSW⟩ := hv
  have hx := B.exec
  have hb := B.bytes
  have hr := B.returns
  have hts := atoms_spec (ws := mwX10_readsm) B.pre
  have hown : s.vm.findClass RX10 = some m.cls := findClass_of_methodNamed B.named
  have hlocks := B.notSynchronized
  subst hsz
  have hD := hD0.self (sz := s.heap.size)
  generalize hAe : va_A (mW ad kc x0 x1 x2 x3 x4 x5 x6 x7 x8 x9 x10 x11 x12 x13 x14 x15 x16 x17 x18 x19 x20 x21 f0 f1 f2 f3 f4 f5 f6 f7 f8 f9 f10 f11 f12 f13 f14 f15 f16 f17 f18 f19 f20 f21 fL fN fP fM fO) s.heap.size = A at hD hSW ⊢
  have hA : ∀ q : Nat, s.heap.size ≤ q → A q := fun q h => by rw [← hAe]; exact Or.inr h
  have hP : va_P (dC, dI) vwCl (mW ad kc x0 x1 x2 x3 x4 x5 x6 x7 x8 x9 x10 x11 x12 x13 x14 x15 x16 x17 x18 x19 x20 x21 f0 f1 f2 f3 f4 f5 f6 f7 f8 f9 f10 f11 f12 f13 f14 f15 f16 f17 f18 f19 f20 f21 fL fN fP fM fO) s.heap := hP
  have hD : va_D A (mW ad kc x0 x1 x2 x3 x4 x5 x6 x7 x8 x9 x10 x11 x12 x13 x14 x15 x16 x17 x18 x19 x20 x21 f0 f1 f2 f3 f4 f5 f6 f7 f8 f9 f10 f11 f12 f13 f14 f15 f16 f17 f18 f19 f20 f21 fL fN fP fM fO) := hD
  have hK : va_K (dC, dI) vwCl (mT kc) s := hK
  generalize hH : s.heap = H at hP ⊢
  have hS : va_S A s.heap H [] := by rw [← hH]; exact va_S.rf
  have hl := lv_entry ([.ref (ad 0), .int i1, .int i2]) (n := 4) (Nat.le_of_ble_eq_true rfl)
  rw [lg_entry_eq]
  generalize (lg_sl ([.ref (ad 0), .int i1, .int i2]) ++ List.replicate (4 - (lg_sl ([.ref (ad 0), .int i1, .int i2])).length) Slot.unset).toArray = ls at hl ⊢
  have hl : lv_has ls 4 [(0, .ref (ad 0)), (1, .int i1), (2, .int i2)] := hl
  have rg_i1 := i_rng i1
  have rg_i2 := i_rng i2
  have hd := q0.d
  have hpi := q0.p
  have hq1 := q0.1
  have hq2 := q0.2.1
  have hq3 := q0.2.2.1
  have hd10 := hd.n0
  have hp8 := hd.P0
  refine lv_aload_n hx hb dX10_reads_0 rfl (lv_at hl 0 rfl) ?_
  refine lv_iload_n hx hb dX10_reads_1 rfl (lv_at hl 1 rfl) ?_
  refine va_put (D := (dC, dI)) (ci := 10) (v := .int i1) (ty := .int) (C := RX10) (T := TX10) (N := 48) hx hb hts fin_X10_readsm_X10 tyX10 tyX10_ok nmX10 hown hK hP hD hS 0 rfl rfl 7 (by decide) (hts (.fieldLink RX10 114 "PatternGateModel" "size" "I") (List.mem_of_getElem? (i := 1) (by decide +kernel))) (fun _ h9 => h9) rfl (by decide +kernel) rfl rfl (Nat.le_of_ble_eq_true rfl) dX10_reads_2 (fun H locs hP hD hS => ?_)
  have hP : va_P (dC, dI) vwCl (mW ad kc x0 x1 x2 x3 i1 x5 x6 x7 x8 x9 x10 x11 x12 x13 x14 x15 x16 x17 x18 x19 x20 x21 f0 f1 f2 f3 f4 f5 f6 f7 f8 f9 f10 f11 f12 f13 f14 f15 f16 f17 f18 f19 f20 f21 fL fN fP fM fO) H := hP
  have hD : va_D A (mW ad kc x0 x1 x2 x3 i1 x5 x6 x7 x8 x9 x10 x11 x12 x13 x14 x15 x16 x17 x18 x19 x20 x21 f0 f1 f2 f3 f4 f5 f6 f7 f8 f9 f10 f11 f12 f13 f14 f15 f16 f17 f18 f19 f20 f21 fL fN fP fM fO) := hD
  refine lv_iconst (v := 0) hx hb dX10_reads_5 (by decide) ?_
  refine lv_istore_n (lv' := [(3, .int 0), (0, .ref (ad 0)), (1, .int i1), (2, .int i2)]) hx hb dX10_reads_6 rfl hl (by decide) rfl (fun ls hl => ?_)
  have loop7 : ∀ (lm7 : Nat) (kk : Int32) (gt : Nat → Int32), (0 ≤ kk.toInt ∧ kk.toInt ≤ i1.toInt) → ((i1.toInt - kk.toInt).toNat) < lm7 → ∀ (H : Heap) (locs : List Loc) (ls : Array Slot), va_P (dC, dI) vwCl (mW ad kc x0 x1 x2 x3 i1 x5 x6 x7 x8 x9 x10 x11 x12 x13 x14 x15 x16 x17 x18 x19 x20 x21 f0 f1 gt f3 f4 f5 f6 f7 f8 f9 f10 f11 f12 f13 f14 f15 f16 f17 f18 f19 f20 f21 fL fN fP fM fO) H → va_D A (mW ad kc x0 x1 x2 x3 i1 x5 x6 x7 x8 x9 x10 x11 x12 x13 x14 x15 x16 x17 x18 x19 x20 x21 f0 f1 gt f3 f4 f5 f6 f7 f8 f9 f10 f11 f12 f13 f14 f15 f16 f17 f18 f19 f20 f21 fL fN fP fM fO) → va_S A s.heap H locs → lv_has ls 4 [(3, .int kk), (0, .ref (ad 0)), (1, .int i1), (2, .int i2)] → W p l e (headSpec mwX10_readsm ({ frames := 23, cells := 0, slots := 0, locals := 1380 })).room s m ([.ref (ad 0), .int i1, .int i2]).toArray below meth c H locs 0 0 (MQ below (va_Qi (fun (o9 u9 : Int32) => o9 = u9) (fun (o9 : Int32) t => ∃ (y3 y4 y5 y6 y7 y8 y9 y10 y11 : Int32) (g0 g2 : Nat → Int32), (OKd g0 0) ∧ (mC x1.toInt x2.toInt g0) ∧ (y3.toInt = 0) ∧ (o9.toInt = 0 ∨ o9.toInt = 1) ∧ va_P (dC, dI) vwCl (mW ad kc x0 x1 x2 y3 y4 y5 y6 y7 y8 y9 y10 y11 x12 x13 x14 x15 x16 x17 x18 x19 x20 x21 g0 f1 g2 f3 f4 f5 f6 f7 f8 f9 f10 f11 f12 f13 f14 f15 f16 f17 f18 f19 f20 f21 fL fN fP fM fO) t.heap ∧ va_K (dC, dI) vwCl (mT kc) t ∧ va_D A (mW ad kc x0 x1 x2 y3 y4 y5 y6 y7 y8 y9 y10 y11 x12 x13 x14 x15 x16 x17 x18 x19 x20 x21 g0 f1 g2 f3 f4 f5 f6 f7 f8 f9 f10 f11 f12 f13 f14 f15 f16 f17 f18 f19 f20 f21 fL fN fP fM fO)) A) ([.ref (ad 0), .int i1, .int i2]).toArray s 0 0 A) (F0 m 7 ls []) := by
    intro lm7
    induction lm7 with
    | zero => intro kk gt v7_0 hm7; exact absurd hm7 (Nat.not_lt_zero _)
    | succ lm7 ih7 =>
      intro kk gt v7_0 hm7 H locs ls hP hD hS hl
      have rg_kk := i_rng kk
      refine lv_iload_n hx hb dX10_reads_7 rfl (lv_at hl 0 rfl) ?_
      refine lv_iload_n hx hb dX10_reads_8 rfl (lv_at hl 2 rfl) ?_
      refine lv_icmp_ge (tgt := 30) hx hb dX10_reads_9 (by decide) (fun k_1 => ?_) (fun k_1 => ?_)
      · have tk_1 := c_ge (a := kk.toInt) (b := i1.toInt) rfl rfl k_1
        refine lv_aload_n hx hb dX10_reads_30 rfl (lv_at hl 1 rfl) ?_
        refine lv_iconst (v := 0) hx hb dX10_reads_31 (by decide) ?_
        refine va_put (D := (dC, dI)) (ci := 10) (v := .int 0) (ty := .int) (C := RX10) (T := TX10) (N := 48) hx hb hts fin_X10_readsm_X10 tyX10 tyX10_ok nmX10 hown hK hP hD hS 0 rfl rfl 6 (by decide) (hts (.fieldLink RX10 107 "PatternGateModel" "taped" "I") (List.mem_of_getElem? (i := 2) (by decide +kernel))) (fun _ h9 => h9) rfl (by decide +kernel) rfl rfl (Nat.le_of_ble_eq_true rfl) dX10_reads_32 (fun H locs hP hD hS => ?_)
        have hP : va_P (dC, dI) vwCl (mW ad kc x0 x1 x2 0 i1 x5 x6 x7 x8 x9 x10 x11 x12 x13 x14 x15 x16 x17 x18 x19 x20 x21 f0 f1 gt f3 f4 f5 f6 f7 f8 f9 f10 f11 f12 f13 f14 f15 f16 f17 f18 f19 f20 f21 fL fN fP fM fO) H := hP
        have hD : va_D A (mW ad kc x0 x1 x2 0 i1 x5 x6 x7 x8 x9 x10 x11 x12 x13 x14 x15 x16 x17 x18 x19 x20 x21 f0 f1 gt f3 f4 f5 f6 f7 f8 f9 f10 f11 f12 f13 f14 f15 f16 f17 f18 f19 f20 f21 fL fN fP fM fO) := hD
        have lit_1 : (0 : Int32).toInt = 0 := by decide
        refine lv_aload_n hx hb dX10_reads_35 rfl (lv_at hl 1 rfl) ?_
        refine lv_iconst (v := 0) hx hb dX10_reads_36 (by decide) ?_
        refine va_put (D := (dC, dI)) (ci := 10) (v := .int 0) (ty := .int) (C := RX10) (T := TX10) (N := 48) hx hb hts fin_X10_readsm_X10 tyX10 tyX10_ok nmX10 hown hK hP hD hS 0 rfl rfl 11 (by decide) (hts (.fieldLink RX10 117 "PatternGateModel" "faults" "I") (List.mem_of_getElem? (i := 3) (by decide +kernel))) (fun _ h9 => h9) rfl (by decide +kernel) rfl rfl (Nat.le_of_ble_eq_true rfl) dX10_reads_37 (fun H locs hP hD hS => ?_)
        have hP : va_P (dC, dI) vwCl (mW ad kc x0 x1 x2 0 i1 x5 x6 x7 0 x9 x10 x11 x12 x13 x14 x15 x16 x17 x18 x19 x20 x21 f0 f1 gt f3 f4 f5 f6 f7 f8 f9 f10 f11 f12 f13 f14 f15 f16 f17 f18 f19 f20 f21 fL fN fP fM fO) H := hP
        have hD : va_D A (mW ad kc x0 x1 x2 0 i1 x5 x6 x7 0 x9 x10 x11 x12 x13 x14 x15 x16 x17 x18 x19 x20 x21 f0 f1 gt f3 f4 f5 f6 f7 f8 f9 f10 f11 f12 f13 f14 f15 f16 f17 f18 f19 f20 f21 fL fN fP fM fO) := hD
        have lit_2 : (0 : Int32).toInt = 0 := by decide
        refine lv_aload_n hx hb dX10_reads_40 rfl (lv_at hl 1 rfl) ?_
        refine lv_iconst (v := (-1)) hx hb dX10_reads_41 (by decide) ?_
        refine va_put (D := (dC, dI)) (ci := 10) (v := .int (-1)) (ty := .int) (C := RX10) (T := TX10) (N := 48) hx hb hts fin_X10_readsm_X10 tyX10 tyX10_ok nmX10 hown hK hP hD hS 0 rfl rfl 12 (by decide) (hts (.fieldLink RX10 21 "PatternGateModel" "faultPlace" "I") (List.mem_of_getElem? (i := 4) (by decide +kernel))) (fun _ h9 => h9) rfl (by decide +kernel) rfl rfl (Nat.le_of_ble_eq_true rfl) dX10_reads_42 (fun H locs hP hD hS => ?_)
        have hP : va_P (dC, dI) vwCl (mW ad kc x0 x1 x2 0 i1 x5 x6 x7 0 (-1) x10 x11 x12 x13 x14 x15 x16 x17 x18 x19 x20 x21 f0 f1 gt f3 f4 f5 f6 f7 f8 f9 f10 f11 f12 f13 f14 f15 f16 f17 f18 f19 f20 f21 fL fN fP fM fO) H := hP
        have hD : va_D A (mW ad kc x0 x1 x2 0 i1 x5 x6 x7 0 (-1) x10 x11 x12 x13 x14 x15 x16 x17 x18 x19 x20 x21 f0 f1 gt f3 f4 f5 f6 f7 f8 f9 f10 f11 f12 f13 f14 f15 f16 f17 f18 f19 f20 f21 fL fN fP fM fO) := hD
        have lit_3 : ((-1) : Int32).toInt = (-1) := by decide
        refine lv_aload_n hx hb dX10_reads_45 rfl (lv_at hl 1 rfl) ?_
        refine lv_iconst (v := 0) hx hb dX10_reads_46 (by decide) ?_
        refine va_put (D := (dC, dI)) (ci := 10) (v := .int 0) (ty := .int) (C := RX10) (T := TX10) (N := 48) hx hb hts fin_X10_readsm_X10 tyX10 tyX10_ok nmX10 hown hK hP hD hS 0 rfl rfl 10 (by decide) (hts (.fieldLink RX10 130 "PatternGateModel" "end" "I") (List.mem_of_getElem? (i := 5) (by decide +kernel))) (fun _ h9 => h9) rfl (by decide +kernel) rfl rfl (Nat.le_of_ble_eq_true rfl) dX10_reads_47 (fun H locs hP hD hS => ?_)
        have hP : va_P (dC, dI) vwCl (mW ad kc x0 x1 x2 0 i1 x5 x6 0 0 (-1) x10 x11 x12 x13 x14 x15 x16 x17 x18 x19 x20 x21 f0 f1 gt f3 f4 f5 f6 f7 f8 f9 f10 f11 f12 f13 f14 f15 f16 f17 f18 f19 f20 f21 fL fN fP fM fO) H := hP
        have hD : va_D A (mW ad kc x0 x1 x2 0 i1 x5 x6 0 0 (-1) x10 x11 x12 x13 x14 x15 x16 x17 x18 x19 x20 x21 f0 f1 gt f3 f4 f5 f6 f7 f8 f9 f10 f11 f12 f13 f14 f15 f16 f17 f18 f19 f20 f21 fL fN fP fM fO) := hD
        have lit_4 : (0 : Int32).toInt = 0 := by decide
        refine lv_aload_n hx hb dX10_reads_50 rfl (lv_at hl 1 rfl) ?_
        refine lv_iconst (v := 0) hx hb dX10_reads_51 (by decide) ?_
        refine lv_sipush (v := 7820) hx hb dX10_reads_52 (by decide) ?_
        have lit_5 : (0 : Int32).toInt = 0 := by decide
        have lit_6 : (7820 : Int32).toInt = 7820 := by decide
        have hFc := m_free hD hS hA
        refine va_callv (va_runV (As := [.int 0, .int 7820]) (rest := []) ⟨hx, hb, hml, hown, hts⟩ (m_copies l dC dI ad kc x0 x1 x2 0 i1 x5 x6 0 0 (-1) x10 x11 x12 x13 x14 x15 x16 x17 x18 x19 x20 x21 f0 f1 gt f3 f4 f5 f6 f7 f8 f9 f10 f11 f12 f13 f14 f15 f16 f17 f18 f19 f20 f21 fL fN fP fM fO H.size 0 7820 (by first | omega | assumption | decide | (have l0 := Int32.toInt_zero; omega)) (by first | omega | assumption | decide | (have l0 := Int32.toInt_zero; omega)) (by first | omega | assumption | decide | (have l0 := Int32.toInt_zero; omega)) (by first | omega | assumption | decide | (have l0 := Int32.toInt_zero; omega)) (by first | omega | assumption | decide | (have l0 := Int32.toInt_zero; omega))) (cwV 2 hts mg_X10_readsm_X10_copies_193 rfl rfl rfl (by decide +kernel) ⟨Nat.le_of_ble_eq_true rfl, Nat.le_of_ble_eq_true rfl⟩) ⟨fun a U g mk q => by obtain ⟨q0, q1, qP, qK, qD⟩ := q; exact ⟨q0, q1, qP, va_K.moved (u := U) (U := U.calling g mk a) (Vm.Alike.refl U.vm) qK, qD⟩, va_recv hK hP (ci := 10) (q0 := 0) rfl rfl, fun U hU hW => ⟨rfl, by rw [hU], by rw [hU]; exact hP, va_K.moved hW.alike hK, hD.weaken (fun _ _ _ _ => trivial)⟩⟩ rfl rfl hl.1 rfl (lv_room (Nat.le_of_ble_eq_true rfl)) dX10_reads_55 ⟨Nat.le_of_ble_eq_true rfl, Nat.le_of_ble_eq_true rfl⟩) hS (fun q _ h => hFc q h) hFc (fun u t H1 locs ht hvm hw hB hz1 hk1 hS => ?_)
        obtain ⟨f_9, hr_8_0, hP, hK1, hD1⟩ := hB
        rw [ht] at hP
        have hD := hD1.weaken (fun k q _ h => hFc q.1 h)
        clear hz1 hk1 hFc hD1 hK1 hvm
        generalize H1 = H at hP hS ⊢
        have hP : va_P (dC, dI) vwCl (mW ad kc x0 x1 x2 0 i1 x5 x6 0 0 (-1) x10 x11 x12 x13 x14 x15 x16 x17 x18 x19 x20 x21 f_9 f1 gt f3 f4 f5 f6 f7 f8 f9 f10 f11 f12 f13 f14 f15 f16 f17 f18 f19 f20 f21 fL fN fP fM fO) H := hP
        have hD : va_D A (mW ad kc x0 x1 x2 0 i1 x5 x6 0 0 (-1) x10 x11 x12 x13 x14 x15 x16 x17 x18 x19 x20 x21 f_9 f1 gt f3 f4 f5 f6 f7 f8 f9 f10 f11 f12 f13 f14 f15 f16 f17 f18 f19 f20 f21 fL fN fP fM fO) := hD
        have hc9 : CP f0 f_9 0 7820 := by have h9 := hr_8_0; rw [(show (0 : Int32).toInt = 0 by decide), (show (7820 : Int32).toInt = 7820 by decide)] at h9; exact h9
        have hA9 := q0.aside hc9
        have hd9 := hA9.1
        have hm9 := hA9.2
        have hsm : ∀ z : Int, 0 ≤ z → z < 7820 → vI f_9 z = vI f0 z := fun z h1 h2 => by rw [hc9 z h1, if_neg (by omega)]
        refine lv_iload_n hx hb dX10_reads_58 rfl (lv_at hl 3 rfl) ?_
        refine lv_if_eq (tgt := 78) hx hb dX10_reads_59 (by decide) (fun k_10 => ?_) (fun k_10 => ?_)
        · have tk_10 := c_eq (a := i2.toInt) (b := 0) rfl (by decide) k_10
          have hdA := hd9
          have hmA := hm9
          refine lv_aload_n hx hb dX10_reads_78 rfl (lv_at hl 1 rfl) ?_
          have hFc := m_free hD hS hA
          refine va_callv (va_runV (As := []) (rest := []) ⟨hx, hb, hml, hown, hts⟩ (m_ahead l dC dI ad kc x0 x1 x2 0 i1 x5 x6 0 0 (-1) x10 x11 x12 x13 x14 x15 x16 x17 x18 x19 x20 x21 f_9 f1 gt f3 f4 f5 f6 f7 f8 f9 f10 f11 f12 f13 f14 f15 f16 f17 f18 f19 f20 f21 fL fN fP fM fO H.size (by first | omega | assumption | decide | (have l0 := Int32.toInt_zero; omega)) (by first | omega | assumption | decide | (have l0 := Int32.toInt_zero; omega)) (by first | omega | assumption | decide | (have l0 := Int32.toInt_zero; omega))) (cwV 0 hts mg_X10_readsm_X10_ahead_184 rfl rfl rfl (by decide +kernel) ⟨Nat.le_of_ble_eq_true rfl, Nat.le_of_ble_eq_true rfl⟩) ⟨fun a U g mk q => by obtain ⟨q0, q1, qP, qK, qD⟩ := q; exact ⟨q0, q1, qP, va_K.moved (u := U) (U := U.calling g mk a) (Vm.Alike.refl U.vm) qK, qD⟩, va_recv hK hP (ci := 10) (q0 := 0) rfl rfl, fun U hU hW => ⟨rfl, by rw [hU], by rw [hU]; exact hP, va_K.moved hW.alike hK, hD.weaken (fun _ _ _ _ => trivial)⟩⟩ rfl rfl hl.1 rfl (lv_room (Nat.le_of_ble_eq_true rfl)) dX10_reads_79 ⟨Nat.le_of_ble_eq_true rfl, Nat.le_of_ble_eq_true rfl⟩) hS (fun q _ h => hFc q h) hFc (fun u t H1 locs ht hvm hw hB hz1 hk1 hS => ?_)
          obtain ⟨x_12, x_13, x_14, hr_11_0, hr_11_1, hr_11_2, hr_11_3, hr_11_4, hP, hK1, hD1⟩ := hB
          rw [ht] at hP
          have hD := hD1.weaken (fun k q _ h => hFc q.1 h)
          clear hz1 hk1 hFc hD1 hK1 hvm
          generalize H1 = H at hP hS ⊢
          have rg_x_12 := i_rng x_12
          have rg_x_13 := i_rng x_13
          have rg_x_14 := i_rng x_14
          have hP : va_P (dC, dI) vwCl (mW ad kc x0 x1 x2 0 i1 x_12 x_13 x_14 0 (-1) x10 x11 x12 x13 x14 x15 x16 x17 x18 x19 x20 x21 f_9 f1 gt f3 f4 f5 f6 f7 f8 f9 f10 f11 f12 f13 f14 f15 f16 f17 f18 f19 f20 f21 fL fN fP fM fO) H := hP
          have hD : va_D A (mW ad kc x0 x1 x2 0 i1 x_12 x_13 x_14 0 (-1) x10 x11 x12 x13 x14 x15 x16 x17 x18 x19 x20 x21 f_9 f1 gt f3 f4 f5 f6 f7 f8 f9 f10 f11 f12 f13 f14 f15 f16 f17 f18 f19 f20 f21 fL fN fP fM fO) := hD
          refine lv_iconst (v := 1) hx hb dX10_reads_82 (by decide) ?_
          refine lv_istore_n (lv' := [(3, .int 1), (0, .ref (ad 0)), (1, .int i1), (2, .int i2)]) hx hb dX10_reads_83 rfl hl (by decide) rfl (fun ls hl => ?_)
          have loop84 : ∀ (lm84 : Nat) (go to be en fa fp sp : Int32) (ga : Nat → Int32), (go.toInt = 0 ∨ go.toInt = 1) → (OKd ga 0) → (mC x1.toInt x2.toInt ga) → (0 ≤ be.toInt ∧ be.toInt ≤ en.toInt) → (en.toInt ≤ i1.toInt) → ((if go.toInt = 0 then 0 else (i1.toInt + 1 - en.toInt)).toNat) < lm84 → ∀ (H : Heap) (locs : List Loc) (ls : Array Slot), va_P (dC, dI) vwCl (mW ad kc x0 x1 x2 0 i1 to be en fa fp x10 sp x12 x13 x14 x15 x16 x17 x18 x19 x20 x21 ga f1 gt f3 f4 f5 f6 f7 f8 f9 f10 f11 f12 f13 f14 f15 f16 f17 f18 f19 f20 f21 fL fN fP fM fO) H → va_D A (mW ad kc x0 x1 x2 0 i1 to be en fa fp x10 sp x12 x13 x14 x15 x16 x17 x18 x19 x20 x21 ga f1 gt f3 f4 f5 f6 f7 f8 f9 f10 f11 f12 f13 f14 f15 f16 f17 f18 f19 f20 f21 fL fN fP fM fO) → va_S A s.heap H locs → lv_has ls 4 [(3, .int go), (0, .ref (ad 0)), (1, .int i1), (2, .int i2)] → W p l e (headSpec mwX10_readsm ({ frames := 23, cells := 0, slots := 0, locals := 1380 })).room s m ([.ref (ad 0), .int i1, .int i2]).toArray below meth c H locs 0 0 (MQ below (va_Qi (fun (o9 u9 : Int32) => o9 = u9) (fun (o9 : Int32) t => ∃ (y3 y4 y5 y6 y7 y8 y9 y10 y11 : Int32) (g0 g2 : Nat → Int32), (OKd g0 0) ∧ (mC x1.toInt x2.toInt g0) ∧ (y3.toInt = 0) ∧ (o9.toInt = 0 ∨ o9.toInt = 1) ∧ va_P (dC, dI) vwCl (mW ad kc x0 x1 x2 y3 y4 y5 y6 y7 y8 y9 y10 y11 x12 x13 x14 x15 x16 x17 x18 x19 x20 x21 g0 f1 g2 f3 f4 f5 f6 f7 f8 f9 f10 f11 f12 f13 f14 f15 f16 f17 f18 f19 f20 f21 fL fN fP fM fO) t.heap ∧ va_K (dC, dI) vwCl (mT kc) t ∧ va_D A (mW ad kc x0 x1 x2 y3 y4 y5 y6 y7 y8 y9 y10 y11 x12 x13 x14 x15 x16 x17 x18 x19 x20 x21 g0 f1 g2 f3 f4 f5 f6 f7 f8 f9 f10 f11 f12 f13 f14 f15 f16 f17 f18 f19 f20 f21 fL fN fP fM fO)) A) ([.ref (ad 0), .int i1, .int i2]).toArray s 0 0 A) (F0 m 84 ls []) := by
            intro lm84
            induction lm84 with
            | zero => intro go to be en fa fp sp ga v84_0 v84_1 v84_2 v84_3 v84_4 hm84; exact absurd hm84 (Nat.not_lt_zero _)
            | succ lm84 ih84 =>
              intro go to be en fa fp sp ga v84_0 v84_1 v84_2 v84_3 v84_4 hm84 H locs ls hP hD hS hl
              have rg_go := i_rng go
              have rg_to := i_rng to
              have rg_be := i_rng be
              have rg_en := i_rng en
              have rg_fa := i_rng fa
              have rg_fp := i_rng fp
              have rg_sp := i_rng sp
              refine lv_iload_n hx hb dX10_reads_84 rfl (lv_at hl 0 rfl) ?_
              refine lv_if_eq (tgt := 103) hx hb dX10_reads_85 (by decide) (fun k_15 => ?_) (fun k_15 => ?_)
              · have tk_15 := c_eq (a := go.toInt) (b := 0) rfl (by decide) k_15
                refine lv_aload_n hx hb dX10_reads_103 rfl (lv_at hl 1 rfl) ?_
                refine lv_aload_n hx hb dX10_reads_104 rfl (lv_at hl 1 rfl) ?_
                refine va_get (D := (dC, dI)) (ci := 10) (v := .int fa) (C := RX10) (T := TX10) (N := 48) hx hb hts fin_X10_readsm_X10 hown hK hP 0 rfl rfl 11 (by decide) (hts (.fieldLink RX10 117 "PatternGateModel" "faults" "I") (List.mem_of_getElem? (i := 3) (by decide +kernel))) (fun _ h9 => h9) rfl dX10_reads_105 ?_
                refine va_put (D := (dC, dI)) (ci := 10) (v := .int fa) (ty := .int) (C := RX10) (T := TX10) (N := 48) hx hb hts fin_X10_readsm_X10 tyX10 tyX10_ok nmX10 hown hK hP hD hS 0 rfl rfl 13 (by decide) (hts (.fieldLink RX10 25 "PatternGateModel" "faultKind" "I") (List.mem_of_getElem? (i := 13) (by decide +kernel))) (fun _ h9 => h9) rfl (by decide +kernel) rfl rfl (Nat.le_of_ble_eq_true rfl) dX10_reads_108 (fun H locs hP hD hS => ?_)
                have hP : va_P (dC, dI) vwCl (mW ad kc x0 x1 x2 0 i1 to be en fa fp fa sp x12 x13 x14 x15 x16 x17 x18 x19 x20 x21 ga f1 gt f3 f4 f5 f6 f7 f8 f9 f10 f11 f12 f13 f14 f15 f16 f17 f18 f19 f20 f21 fL fN fP fM fO) H := hP
                have hD : va_D A (mW ad kc x0 x1 x2 0 i1 to be en fa fp fa sp x12 x13 x14 x15 x16 x17 x18 x19 x20 x21 ga f1 gt f3 f4 f5 f6 f7 f8 f9 f10 f11 f12 f13 f14 f15 f16 f17 f18 f19 f20 f21 fL fN fP fM fO) := hD
                refine lv_aload_n hx hb dX10_reads_111 rfl (lv_at hl 1 rfl) ?_
                refine va_get (D := (dC, dI)) (ci := 10) (v := .int fa) (C := RX10) (T := TX10) (N := 48) hx hb hts fin_X10_readsm_X10 hown hK hP 0 rfl rfl 11 (by decide) (hts (.fieldLink RX10 117 "PatternGateModel" "faults" "I") (List.mem_of_getElem? (i := 3) (by decide +kernel))) (fun _ h9 => h9) rfl dX10_reads_112 ?_
                refine lv_if_le (tgt := 126) hx hb dX10_reads_115 (by decide) (fun k_16 => ?_) (fun k_16 => ?_)
                · have tk_16 := c_le (a := fa.toInt) (b := 0) rfl (by decide) k_16
                  refine lv_aload_n hx hb dX10_reads_126 rfl (lv_at hl 1 rfl) ?_
                  refine va_get (D := (dC, dI)) (ci := 10) (v := .int fa) (C := RX10) (T := TX10) (N := 48) hx hb hts fin_X10_readsm_X10 hown hK hP 0 rfl rfl 11 (by decide) (hts (.fieldLink RX10 117 "PatternGateModel" "faults" "I") (List.mem_of_getElem? (i := 3) (by decide +kernel))) (fun _ h9 => h9) rfl dX10_reads_127 ?_
                  refine lv_if_ne (tgt := 137) hx hb dX10_reads_130 (by decide) (fun k_17 => ?_) (fun k_17 => ?_)
                  · have tk_17 := c_ne (a := fa.toInt) (b := 0) rfl (by decide) k_17
                    refine lv_iconst (v := 0) hx hb dX10_reads_137 (by decide) ?_
                    have lit_17 : (0 : Int32).toInt = 0 := by decide
                    have lit_18 : (0 : Int32).toInt = 0 := by decide
                    exact W.zret hx hb hr (z_nar (by first | assumption | decide | exact z_of (by omega))) (fun t ht hW => ⟨⟨_, _, rfl, rfl, 0, i1, to, be, en, fa, fp, fa, sp, ga, gt, v84_1, v84_2, (by first | omega | assumption | rfl | decide), (by first | omega | assumption | rfl | decide), by rw [ht]; exact hP, va_K.moved hW.alike hK, hD⟩, hS.F ht⟩) hS.2.2 dX10_reads_138
                  · have tk_17 := c_eq (a := fa.toInt) (b := 0) rfl (by decide) k_17
                    refine lv_iconst (v := 1) hx hb dX10_reads_133 (by decide) ?_
                    refine lv_goto (tgt := 138) hx hb dX10_reads_134 (by decide) ?_
                    have lit_19 : (1 : Int32).toInt = 1 := by decide
                    have lit_20 : (0 : Int32).toInt = 0 := by decide
                    exact W.zret hx hb hr (z_nar (by first | assumption | decide | exact z_of (by omega))) (fun t ht hW => ⟨⟨_, _, rfl, rfl, 0, i1, to, be, en, fa, fp, fa, sp, ga, gt, v84_1, v84_2, (by first | omega | assumption | rfl | decide), (by first | omega | assumption | rfl | decide), by rw [ht]; exact hP, va_K.moved hW.alike hK, hD⟩, hS.F ht⟩) hS.2.2 dX10_reads_138
                · have tk_16 := c_nle (a := fa.toInt) (b := 0) rfl (by decide) k_16
                  refine lv_aload_n hx hb dX10_reads_118 rfl (lv_at hl 1 rfl) ?_
                  refine lv_sipush (v := 7820) hx hb dX10_reads_119 (by decide) ?_
                  refine lv_iconst (v := 0) hx hb dX10_reads_122 (by decide) ?_
                  have lit_21 : (7820 : Int32).toInt = 7820 := by decide
                  have lit_22 : (0 : Int32).toInt = 0 := by decide
                  have hFc := m_free hD hS hA
                  refine va_callv (va_runV (As := [.int 7820, .int 0]) (rest := []) ⟨hx, hb, hml, hown, hts⟩ (m_copies l dC dI ad kc x0 x1 x2 0 i1 to be en fa fp fa sp x12 x13 x14 x15 x16 x17 x18 x19 x20 x21 ga f1 gt f3 f4 f5 f6 f7 f8 f9 f10 f11 f12 f13 f14 f15 f16 f17 f18 f19 f20 f21 fL fN fP fM fO H.size 7820 0 (by first | omega | assumption | decide | (have l0 := Int32.toInt_zero; omega)) (by first | omega | assumption | decide | (have l0 := Int32.toInt_zero; omega)) (by first | omega | assumption | decide | (have l0 := Int32.toInt_zero; omega)) (by first | omega | assumption | decide | (have l0 := Int32.toInt_zero; omega)) (by first | omega | assumption | decide | (have l0 := Int32.toInt_zero; omega))) (cwV 2 hts mg_X10_readsm_X10_copies_193 rfl rfl rfl (by decide +kernel) ⟨Nat.le_of_ble_eq_true rfl, Nat.le_of_ble_eq_true rfl⟩) ⟨fun a U g mk q => by obtain ⟨q0, q1, qP, qK, qD⟩ := q; exact ⟨q0, q1, qP, va_K.moved (u := U) (U := U.calling g mk a) (Vm.Alike.refl U.vm) qK, qD⟩, va_recv hK hP (ci := 10) (q0 := 0) rfl rfl, fun U hU hW => ⟨rfl, by rw [hU], by rw [hU]; exact hP, va_K.moved hW.alike hK, hD.weaken (fun _ _ _ _ => trivial)⟩⟩ rfl rfl hl.1 rfl (lv_room (Nat.le_of_ble_eq_true rfl)) dX10_reads_123 ⟨Nat.le_of_ble_eq_true rfl, Nat.le_of_ble_eq_true rfl⟩) hS (fun q _ h => hFc q h) hFc (fun u t H1 locs ht hvm hw hB hz1 hk1 hS => ?_)
                  obtain ⟨f_25, hr_24_0, hP, hK1, hD1⟩ := hB
                  rw [ht] at hP
                  have hD := hD1.weaken (fun k q _ h => hFc q.1 h)
                  clear hz1 hk1 hFc hD1 hK1 hvm
                  generalize H1 = H at hP hS ⊢
                  have hP : va_P (dC, dI) vwCl (mW ad kc x0 x1 x2 0 i1 to be en fa fp fa sp x12 x13 x14 x15 x16 x17 x18 x19 x20 x21 f_25 f1 gt f3 f4 f5 f6 f7 f8 f9 f10 f11 f12 f13 f14 f15 f16 f17 f18 f19 f20 f21 fL fN fP fM fO) H := hP
                  have hD : va_D A (mW ad kc x0 x1 x2 0 i1 to be en fa fp fa sp x12 x13 x14 x15 x16 x17 x18 x19 x20 x21 f_25 f1 gt f3 f4 f5 f6 f7 f8 f9 f10 f11 f12 f13 f14 f15 f16 f17 f18 f19 f20 f21 fL fN fP fM fO) := hD
                  have hc8 : CP ga f_25 7820 0 := by have h9 := hr_24_0; rw [(show (7820 : Int32).toInt = 7820 by decide), (show (0 : Int32).toInt = 0 by decide)] at h9; exact h9
                  have hdZ := hc8.there (by omega) v84_2.1
                  have hmZ : mC x1.toInt x2.toInt f_25 := ⟨hc8.else_ (by omega) (by omega) v84_2.1, fun j a1 a2 => hc8.else_ (by omega) (by omega) (v84_2.2.1 j a1 a2), fun j a1 a2 => hc8.else_ (by omega) (by omega) (v84_2.2.2 j a1 a2)⟩
                  refine lv_aload_n hx hb dX10_reads_126 rfl (lv_at hl 1 rfl) ?_
                  refine va_get (D := (dC, dI)) (ci := 10) (v := .int fa) (C := RX10) (T := TX10) (N := 48) hx hb hts fin_X10_readsm_X10 hown hK hP 0 rfl rfl 11 (by decide) (hts (.fieldLink RX10 117 "PatternGateModel" "faults" "I") (List.mem_of_getElem? (i := 3) (by decide +kernel))) (fun _ h9 => h9) rfl dX10_reads_127 ?_
                  refine lv_if_ne (tgt := 137) hx hb dX10_reads_130 (by decide) (fun k_26 => ?_) (fun k_26 => ?_)
                  · have tk_26 := c_ne (a := fa.toInt) (b := 0) rfl (by decide) k_26
                    refine lv_iconst (v := 0) hx hb dX10_reads_137 (by decide) ?_
                    have lit_26 : (0 : Int32).toInt = 0 := by decide
                    have lit_27 : (0 : Int32).toInt = 0 := by decide
                    exact W.zret hx hb hr (z_nar (by first | assumption | decide | exact z_of (by omega))) (fun t ht hW => ⟨⟨_, _, rfl, rfl, 0, i1, to, be, en, fa, fp, fa, sp, f_25, gt, hdZ, hmZ, (by first | omega | assumption | rfl | decide), (by first | omega | assumption | rfl | decide), by rw [ht]; exact hP, va_K.moved hW.alike hK, hD⟩, hS.F ht⟩) hS.2.2 dX10_reads_138
                  · have tk_26 := c_eq (a := fa.toInt) (b := 0) rfl (by decide) k_26
                    refine lv_iconst (v := 1) hx hb dX10_reads_133 (by decide) ?_
                    refine lv_goto (tgt := 138) hx hb dX10_reads_134 (by decide) ?_
                    have lit_28 : (1 : Int32).toInt = 1 := by decide
                    have lit_29 : (0 : Int32).toInt = 0 := by decide
                    exact W.zret hx hb hr (z_nar (by first | assumption | decide | exact z_of (by omega))) (fun t ht hW => ⟨⟨_, _, rfl, rfl, 0, i1, to, be, en, fa, fp, fa, sp, f_25, gt, hdZ, hmZ, (by first | omega | assumption | rfl | decide), (by first | omega | assumption | rfl | decide), by rw [ht]; exact hP, va_K.moved hW.alike hK, hD⟩, hS.F ht⟩) hS.2.2 dX10_reads_138
              · have tk_15 := c_ne (a := go.toInt) (b := 0) rfl (by decide) k_15
                refine lv_aload_n hx hb dX10_reads_88 rfl (lv_at hl 1 rfl) ?_
                refine va_get (D := (dC, dI)) (ci := 10) (v := .int to) (C := RX10) (T := TX10) (N := 48) hx hb hts fin_X10_readsm_X10 hown hK hP 0 rfl rfl 8 (by decide) (hts (.fieldLink RX10 120 "PatternGateModel" "token" "I") (List.mem_of_getElem? (i := 14) (by decide +kernel))) (fun _ h9 => h9) rfl dX10_reads_89 ?_
                refine lv_if_eq (tgt := 103) hx hb dX10_reads_92 (by decide) (fun k_31 => ?_) (fun k_31 => ?_)
                · have tk_31 := c_eq (a := to.toInt) (b := 0) rfl (by decide) k_31
                  refine lv_aload_n hx hb dX10_reads_103 rfl (lv_at hl 1 rfl) ?_
                  refine lv_aload_n hx hb dX10_reads_104 rfl (lv_at hl 1 rfl) ?_
                  refine va_get (D := (dC, dI)) (ci := 10) (v := .int fa) (C := RX10) (T := TX10) (N := 48) hx hb hts fin_X10_readsm_X10 hown hK hP 0 rfl rfl 11 (by decide) (hts (.fieldLink RX10 117 "PatternGateModel" "faults" "I") (List.mem_of_getElem? (i := 3) (by decide +kernel))) (fun _ h9 => h9) rfl dX10_reads_105 ?_
                  refine va_put (D := (dC, dI)) (ci := 10) (v := .int fa) (ty := .int) (C := RX10) (T := TX10) (N := 48) hx hb hts fin_X10_readsm_X10 tyX10 tyX10_ok nmX10 hown hK hP hD hS 0 rfl rfl 13 (by decide) (hts (.fieldLink RX10 25 "PatternGateModel" "faultKind" "I") (List.mem_of_getElem? (i := 13) (by decide +kernel))) (fun _ h9 => h9) rfl (by decide +kernel) rfl rfl (Nat.le_of_ble_eq_true rfl) dX10_reads_108 (fun H locs hP hD hS => ?_)
                  have hP : va_P (dC, dI) vwCl (mW ad kc x0 x1 x2 0 i1 to be en fa fp fa sp x12 x13 x14 x15 x16 x17 x18 x19 x20 x21 ga f1 gt f3 f4 f5 f6 f7 f8 f9 f10 f11 f12 f13 f14 f15 f16 f17 f18 f19 f20 f21 fL fN fP fM fO) H := hP
                  have hD : va_D A (mW ad kc x0 x1 x2 0 i1 to be en fa fp fa sp x12 x13 x14 x15 x16 x17 x18 x19 x20 x21 ga f1 gt f3 f4 f5 f6 f7 f8 f9 f10 f11 f12 f13 f14 f15 f16 f17 f18 f19 f20 f21 fL fN fP fM fO) := hD
                  refine lv_aload_n hx hb dX10_reads_111 rfl (lv_at hl 1 rfl) ?_
                  refine va_get (D := (dC, dI)) (ci := 10) (v := .int fa) (C := RX10) (T := TX10) (N := 48) hx hb hts fin_X10_readsm_X10 hown hK hP 0 rfl rfl 11 (by decide) (hts (.fieldLink RX10 117 "PatternGateModel" "faults" "I") (List.mem_of_getElem? (i := 3) (by decide +kernel))) (fun _ h9 => h9) rfl dX10_reads_112 ?_
                  refine lv_if_le (tgt := 126) hx hb dX10_reads_115 (by decide) (fun k_32 => ?_) (fun k_32 => ?_)
                  · have tk_32 := c_le (a := fa.toInt) (b := 0) rfl (by decide) k_32
                    refine lv_aload_n hx hb dX10_reads_126 rfl (lv_at hl 1 rfl) ?_
                    refine va_get (D := (dC, dI)) (ci := 10) (v := .int fa) (C := RX10) (T := TX10) (N := 48) hx hb hts fin_X10_readsm_X10 hown hK hP 0 rfl rfl 11 (by decide) (hts (.fieldLink RX10 117 "PatternGateModel" "faults" "I") (List.mem_of_getElem? (i := 3) (by decide +kernel))) (fun _ h9 => h9) rfl dX10_reads_127 ?_
                    refine lv_if_ne (tgt := 137) hx hb dX10_reads_130 (by decide) (fun k_33 => ?_) (fun k_33 => ?_)
                    · have tk_33 := c_ne (a := fa.toInt) (b := 0) rfl (by decide) k_33
                      refine lv_iconst (v := 0) hx hb dX10_reads_137 (by decide) ?_
                      have lit_33 : (0 : Int32).toInt = 0 := by decide
                      have lit_34 : (0 : Int32).toInt = 0 := by decide
                      exact W.zret hx hb hr (z_nar (by first | assumption | decide | exact z_of (by omega))) (fun t ht hW => ⟨⟨_, _, rfl, rfl, 0, i1, to, be, en, fa, fp, fa, sp, ga, gt, v84_1, v84_2, (by first | omega | assumption | rfl | decide), (by first | omega | assumption | rfl | decide), by rw [ht]; exact hP, va_K.moved hW.alike hK, hD⟩, hS.F ht⟩) hS.2.2 dX10_reads_138
                    · have tk_33 := c_eq (a := fa.toInt) (b := 0) rfl (by decide) k_33
                      refine lv_iconst (v := 1) hx hb dX10_reads_133 (by decide) ?_
                      refine lv_goto (tgt := 138) hx hb dX10_reads_134 (by decide) ?_
                      have lit_35 : (1 : Int32).toInt = 1 := by decide
                      have lit_36 : (0 : Int32).toInt = 0 := by decide
                      exact W.zret hx hb hr (z_nar (by first | assumption | decide | exact z_of (by omega))) (fun t ht hW => ⟨⟨_, _, rfl, rfl, 0, i1, to, be, en, fa, fp, fa, sp, ga, gt, v84_1, v84_2, (by first | omega | assumption | rfl | decide), (by first | omega | assumption | rfl | decide), by rw [ht]; exact hP, va_K.moved hW.alike hK, hD⟩, hS.F ht⟩) hS.2.2 dX10_reads_138
                  · have tk_32 := c_nle (a := fa.toInt) (b := 0) rfl (by decide) k_32
                    refine lv_aload_n hx hb dX10_reads_118 rfl (lv_at hl 1 rfl) ?_
                    refine lv_sipush (v := 7820) hx hb dX10_reads_119 (by decide) ?_
                    refine lv_iconst (v := 0) hx hb dX10_reads_122 (by decide) ?_
                    have lit_37 : (7820 : Int32).toInt = 7820 := by decide
                    have lit_38 : (0 : Int32).toInt = 0 := by decide
                    have hFc := m_free hD hS hA
                    refine va_callv (va_runV (As := [.int 7820, .int 0]) (rest := []) ⟨hx, hb, hml, hown, hts⟩ (m_copies l dC dI ad kc x0 x1 x2 0 i1 to be en fa fp fa sp x12 x13 x14 x15 x16 x17 x18 x19 x20 x21 ga f1 gt f3 f4 f5 f6 f7 f8 f9 f10 f11 f12 f13 f14 f15 f16 f17 f18 f19 f20 f21 fL fN fP fM fO H.size 7820 0 (by first | omega | assumption | decide | (have l0 := Int32.toInt_zero; omega)) (by first | omega | assumption | decide | (have l0 := Int32.toInt_zero; omega)) (by first | omega | assumption | decide | (have l0 := Int32.toInt_zero; omega)) (by first | omega | assumption | decide | (have l0 := Int32.toInt_zero; omega)) (by first | omega | assumption | decide | (have l0 := Int32.toInt_zero; omega))) (cwV 2 hts mg_X10_readsm_X10_copies_193 rfl rfl rfl (by decide +kernel) ⟨Nat.le_of_ble_eq_true rfl, Nat.le_of_ble_eq_true rfl⟩) ⟨fun a U g mk q => by obtain ⟨q0, q1, qP, qK, qD⟩ := q; exact ⟨q0, q1, qP, va_K.moved (u := U) (U := U.calling g mk a) (Vm.Alike.refl U.vm) qK, qD⟩, va_recv hK hP (ci := 10) (q0 := 0) rfl rfl, fun U hU hW => ⟨rfl, by rw [hU], by rw [hU]; exact hP, va_K.moved hW.alike hK, hD.weaken (fun _ _ _ _ => trivial)⟩⟩ rfl rfl hl.1 rfl (lv_room (Nat.le_of_ble_eq_true rfl)) dX10_reads_123 ⟨Nat.le_of_ble_eq_true rfl, Nat.le_of_ble_eq_true rfl⟩) hS (fun q _ h => hFc q h) hFc (fun u t H1 locs ht hvm hw hB hz1 hk1 hS => ?_)
                    obtain ⟨f_41, hr_40_0, hP, hK1, hD1⟩ := hB
                    rw [ht] at hP
                    have hD := hD1.weaken (fun k q _ h => hFc q.1 h)
                    clear hz1 hk1 hFc hD1 hK1 hvm
                    generalize H1 = H at hP hS ⊢
                    have hP : va_P (dC, dI) vwCl (mW ad kc x0 x1 x2 0 i1 to be en fa fp fa sp x12 x13 x14 x15 x16 x17 x18 x19 x20 x21 f_41 f1 gt f3 f4 f5 f6 f7 f8 f9 f10 f11 f12 f13 f14 f15 f16 f17 f18 f19 f20 f21 fL fN fP fM fO) H := hP
                    have hD : va_D A (mW ad kc x0 x1 x2 0 i1 to be en fa fp fa sp x12 x13 x14 x15 x16 x17 x18 x19 x20 x21 f_41 f1 gt f3 f4 f5 f6 f7 f8 f9 f10 f11 f12 f13 f14 f15 f16 f17 f18 f19 f20 f21 fL fN fP fM fO) := hD
                    have hc8 : CP ga f_41 7820 0 := by have h9 := hr_40_0; rw [(show (7820 : Int32).toInt = 7820 by decide), (show (0 : Int32).toInt = 0 by decide)] at h9; exact h9
                    have hdZ := hc8.there (by omega) v84_2.1
                    have hmZ : mC x1.toInt x2.toInt f_41 := ⟨hc8.else_ (by omega) (by omega) v84_2.1, fun j a1 a2 => hc8.else_ (by omega) (by omega) (v84_2.2.1 j a1 a2), fun j a1 a2 => hc8.else_ (by omega) (by omega) (v84_2.2.2 j a1 a2)⟩
                    refine lv_aload_n hx hb dX10_reads_126 rfl (lv_at hl 1 rfl) ?_
                    refine va_get (D := (dC, dI)) (ci := 10) (v := .int fa) (C := RX10) (T := TX10) (N := 48) hx hb hts fin_X10_readsm_X10 hown hK hP 0 rfl rfl 11 (by decide) (hts (.fieldLink RX10 117 "PatternGateModel" "faults" "I") (List.mem_of_getElem? (i := 3) (by decide +kernel))) (fun _ h9 => h9) rfl dX10_reads_127 ?_
                    refine lv_if_ne (tgt := 137) hx hb dX10_reads_130 (by decide) (fun k_42 => ?_) (fun k_42 => ?_)
                    · have tk_42 := c_ne (a := fa.toInt) (b := 0) rfl (by decide) k_42
                      refine lv_iconst (v := 0) hx hb dX10_reads_137 (by decide) ?_
                      have lit_42 : (0 : Int32).toInt = 0 := by decide
                      have lit_43 : (0 : Int32).toInt = 0 := by decide
                      exact W.zret hx hb hr (z_nar (by first | assumption | decide | exact z_of (by omega))) (fun t ht hW => ⟨⟨_, _, rfl, rfl, 0, i1, to, be, en, fa, fp, fa, sp, f_41, gt, hdZ, hmZ, (by first | omega | assumption | rfl | decide), (by first | omega | assumption | rfl | decide), by rw [ht]; exact hP, va_K.moved hW.alike hK, hD⟩, hS.F ht⟩) hS.2.2 dX10_reads_138
                    · have tk_42 := c_eq (a := fa.toInt) (b := 0) rfl (by decide) k_42
                      refine lv_iconst (v := 1) hx hb dX10_reads_133 (by decide) ?_
                      refine lv_goto (tgt := 138) hx hb dX10_reads_134 (by decide) ?_
                      have lit_44 : (1 : Int32).toInt = 1 := by decide
                      have lit_45 : (0 : Int32).toInt = 0 := by decide
                      exact W.zret hx hb hr (z_nar (by first | assumption | decide | exact z_of (by omega))) (fun t ht hW => ⟨⟨_, _, rfl, rfl, 0, i1, to, be, en, fa, fp, fa, sp, f_41, gt, hdZ, hmZ, (by first | omega | assumption | rfl | decide), (by first | omega | assumption | rfl | decide), by rw [ht]; exact hP, va_K.moved hW.alike hK, hD⟩, hS.F ht⟩) hS.2.2 dX10_reads_138
                · have tk_31 := c_ne (a := to.toInt) (b := 0) rfl (by decide) k_31
                  refine lv_aload_n hx hb dX10_reads_95 rfl (lv_at hl 1 rfl) ?_
                  have hFc := m_free hD hS hA
                  refine va_calli (va_runV (As := []) (rest := []) ⟨hx, hb, hml, hown, hts⟩ (m_aLine l dC dI ad kc x0 x1 x2 0 i1 to be en fa fp x10 sp x12 x13 x14 x15 x16 x17 x18 x19 x20 x21 ga f1 gt f3 f4 f5 f6 f7 f8 f9 f10 f11 f12 f13 f14 f15 f16 f17 f18 f19 f20 f21 fL fN fP fM fO H.size (by first | omega | assumption | decide | (have l0 := Int32.toInt_zero; omega)) (by first | omega | assumption | decide | (have l0 := Int32.toInt_zero; omega)) (by first | omega | assumption | decide | (have l0 := Int32.toInt_zero; omega))) (cwV 0 hts mg_X10_readsm_X10_aLine_197 rfl rfl rfl (by decide +kernel) ⟨Nat.le_of_ble_eq_true rfl, Nat.le_of_ble_eq_true rfl⟩) ⟨fun a U g mk q => by obtain ⟨q0, q1, qP, qK, qD, qE0⟩ := q; exact ⟨q0, q1, qP, va_K.moved (u := U) (U := U.calling g mk a) (Vm.Alike.refl U.vm) qK, qD, sW.call qE0⟩, va_recv hK hP (ci := 10) (q0 := 0) rfl rfl, fun U hU hW => ⟨rfl, by rw [hU], by rw [hU]; exact hP, va_K.moved hW.alike hK, hD.weaken (fun _ _ _ _ => trivial), sW.to hSW hS hFc hW hU⟩⟩ rfl rfl hl.1 rfl (lv_room (Nat.le_of_ble_eq_true rfl)) dX10_reads_96 ⟨Nat.le_of_ble_eq_true rfl, Nat.le_of_ble_eq_true rfl⟩) hS (fun q _ h => hFc q h) hFc (fun r_47 u t H1 locs ht hvm hw hB hz1 hk1 hS => ?_)
                  subst hw
                  obtain ⟨x_48, x_49, x_50, x_51, x_52, x_53, f_54, hr_47_0, hr_47_1, hr_47_2, hr_47_3, hr_47_4, hr_47_5, hP, hK1, hD1⟩ := hB
                  rw [ht] at hP
                  have hD := hD1.weaken (fun k q _ h => hFc q.1 h)
                  clear hz1 hk1 hFc hD1 hK1 hvm
                  generalize H1 = H at hP hS ⊢
                  have rg_x_48 := i_rng x_48
                  have rg_x_49 := i_rng x_49
                  have rg_x_50 := i_rng x_50
                  have rg_x_51 := i_rng x_51
                  have rg_x_52 := i_rng x_52
                  have rg_x_53 := i_rng x_53
                  have rg_r_47 := i_rng r_47
                  have hP : va_P (dC, dI) vwCl (mW ad kc x0 x1 x2 0 i1 x_48 x_49 x_50 x_51 x_52 x10 x_53 x12 x13 x14 x15 x16 x17 x18 x19 x20 x21 f_54 f1 gt f3 f4 f5 f6 f7 f8 f9 f10 f11 f12 f13 f14 f15 f16 f17 f18 f19 f20 f21 fL fN fP fM fO) H := hP
                  have hD : va_D A (mW ad kc x0 x1 x2 0 i1 x_48 x_49 x_50 x_51 x_52 x10 x_53 x12 x13 x14 x15 x16 x17 x18 x19 x20 x21 f_54 f1 gt f3 f4 f5 f6 f7 f8 f9 f10 f11 f12 f13 f14 f15 f16 f17 f18 f19 f20 f21 fL fN fP fM fO) := hD
                  refine lv_istore_n (lv' := [(3, .int r_47), (0, .ref (ad 0)), (1, .int i1), (2, .int i2)]) hx hb dX10_reads_99 rfl hl (by decide) rfl (fun ls hl => ?_)
                  refine lv_goto (tgt := 84) hx hb dX10_reads_100 (by decide) ?_
                  exact ih84 r_47 x_48 x_49 x_50 x_51 x_52 x_53 f_54 (by first | omega | assumption | decide) hr_47_0 (v84_2.far hr_47_1) (by first | omega | assumption | decide) (by first | omega | assumption | decide) (by omega) _ _ ls hP hD hS (lv_sub hl [0, 1, 2, 3] rfl)
          have lit_54 : (1 : Int32).toInt = 1 := by decide
          have lit_55 : (0 : Int32).toInt = 0 := by decide
          have lit_56 : ((-1) : Int32).toInt = (-1) := by decide
          exact loop84 _ 1 x_12 x_13 x_14 0 (-1) x11 f_9 (by first | omega | assumption | decide) hdA hmA (by first | omega | assumption | decide) (by first | omega | assumption | decide) (Nat.lt_succ_self _) _ _ ls hP hD hS (lv_sub hl [0, 1, 2, 3] rfl)
        · have tk_10 := c_ne (a := i2.toInt) (b := 0) rfl (by decide) k_10
          refine lv_aload_n hx hb dX10_reads_62 rfl (lv_at hl 1 rfl) ?_
          refine va_get (D := (dC, dI)) (ci := 10) (v := .ref (ad 1)) (C := RX10) (T := TX10) (N := 48) hx hb hts fin_X10_readsm_X10 hown hK hP 0 rfl rfl 0 (by decide) (hts (.fieldLink RX10 8 "PatternGateModel" "all" "[I") (List.mem_of_getElem? (i := 18) (by decide +kernel))) (fun _ h9 => h9) rfl dX10_reads_63 ?_
          refine lv_iconst (v := 0) hx hb dX10_reads_66 (by decide) ?_
          refine lv_iconst (v := 0) hx hb dX10_reads_67 (by decide) ?_
          refine va_iast hx hb hK hP hD hS 1 0 rfl rfl (i := 0) (by unfold vp_in; decide +kernel) dX10_reads_68 (fun H locs hP hD hS => ?_)
          generalize hf_f_58 : upd f_9 _ _ = f_58 at hP hD
          have uf_58 := vI_up (a := 0) (b := 0) hf_f_58 (by first | omega | decide) (by omega) (by decide)
          have hP : va_P (dC, dI) vwCl (mW ad kc x0 x1 x2 0 i1 x5 x6 0 0 (-1) x10 x11 x12 x13 x14 x15 x16 x17 x18 x19 x20 x21 f_58 f1 gt f3 f4 f5 f6 f7 f8 f9 f10 f11 f12 f13 f14 f15 f16 f17 f18 f19 f20 f21 fL fN fP fM fO) H := hP
          have hD : va_D A (mW ad kc x0 x1 x2 0 i1 x5 x6 0 0 (-1) x10 x11 x12 x13 x14 x15 x16 x17 x18 x19 x20 x21 f_58 f1 gt f3 f4 f5 f6 f7 f8 f9 f10 f11 f12 f13 f14 f15 f16 f17 f18 f19 f20 f21 fL fN fP fM fO) := hD
          refine lv_aload_n hx hb dX10_reads_69 rfl (lv_at hl 1 rfl) ?_
          refine va_get (D := (dC, dI)) (ci := 10) (v := .ref (ad 1)) (C := RX10) (T := TX10) (N := 48) hx hb hts fin_X10_readsm_X10 hown hK hP 0 rfl rfl 0 (by decide) (hts (.fieldLink RX10 8 "PatternGateModel" "all" "[I") (List.mem_of_getElem? (i := 18) (by decide +kernel))) (fun _ h9 => h9) rfl dX10_reads_70 ?_
          refine lv_sipush (v := 611) hx hb dX10_reads_73 (by decide) ?_
          refine lv_iconst (v := 0) hx hb dX10_reads_76 (by decide) ?_
          refine va_iast hx hb hK hP hD hS 1 0 rfl rfl (i := 611) (by unfold vp_in; decide +kernel) dX10_reads_77 (fun H locs hP hD hS => ?_)
          generalize hf_f_59 : upd f_58 _ _ = f_59 at hP hD
          have uf_59 := vI_up (a := 611) (b := 0) hf_f_59 (by first | omega | decide) (by omega) (by decide)
          have hP : va_P (dC, dI) vwCl (mW ad kc x0 x1 x2 0 i1 x5 x6 0 0 (-1) x10 x11 x12 x13 x14 x15 x16 x17 x18 x19 x20 x21 f_59 f1 gt f3 f4 f5 f6 f7 f8 f9 f10 f11 f12 f13 f14 f15 f16 f17 f18 f19 f20 f21 fL fN fP fM fO) H := hP
          have hD : va_D A (mW ad kc x0 x1 x2 0 i1 x5 x6 0 0 (-1) x10 x11 x12 x13 x14 x15 x16 x17 x18 x19 x20 x21 f_59 f1 gt f3 f4 f5 f6 f7 f8 f9 f10 f11 f12 f13 f14 f15 f16 f17 f18 f19 f20 f21 fL fN fP fM fO) := hD
          have hdA := hd9.anew (show U1 _ _ 0 0 from uf_58) (show U1 _ _ 611 0 from uf_59)
          have hmA := hm9.far (fun z hz => (uf_59.2 z (by omega) (by omega)).trans (uf_58.2 z (by omega) (by omega)))
          refine lv_aload_n hx hb dX10_reads_78 rfl (lv_at hl 1 rfl) ?_
          have hFc := m_free hD hS hA
          refine va_callv (va_runV (As := []) (rest := []) ⟨hx, hb, hml, hown, hts⟩ (m_ahead l dC dI ad kc x0 x1 x2 0 i1 x5 x6 0 0 (-1) x10 x11 x12 x13 x14 x15 x16 x17 x18 x19 x20 x21 f_59 f1 gt f3 f4 f5 f6 f7 f8 f9 f10 f11 f12 f13 f14 f15 f16 f17 f18 f19 f20 f21 fL fN fP fM fO H.size (by first | omega | assumption | decide | (have l0 := Int32.toInt_zero; omega)) (by first | omega | assumption | decide | (have l0 := Int32.toInt_zero; omega)) (by first | omega | assumption | decide | (have l0 := Int32.toInt_zero; omega))) (cwV 0 hts mg_X10_readsm_X10_ahead_184 rfl rfl rfl (by decide +kernel) ⟨Nat.le_of_ble_eq_true rfl, Nat.le_of_ble_eq_true rfl⟩) ⟨fun a U g mk q => by obtain ⟨q0, q1, qP, qK, qD⟩ := q; exact ⟨q0, q1, qP, va_K.moved (u := U) (U := U.calling g mk a) (Vm.Alike.refl U.vm) qK, qD⟩, va_recv hK hP (ci := 10) (q0 := 0) rfl rfl, fun U hU hW => ⟨rfl, by rw [hU], by rw [hU]; exact hP, va_K.moved hW.alike hK, hD.weaken (fun _ _ _ _ => trivial)⟩⟩ rfl rfl hl.1 rfl (lv_room (Nat.le_of_ble_eq_true rfl)) dX10_reads_79 ⟨Nat.le_of_ble_eq_true rfl, Nat.le_of_ble_eq_true rfl⟩) hS (fun q _ h => hFc q h) hFc (fun u t H1 locs ht hvm hw hB hz1 hk1 hS => ?_)
          obtain ⟨x_61, x_62, x_63, hr_60_0, hr_60_1, hr_60_2, hr_60_3, hr_60_4, hP, hK1, hD1⟩ := hB
          rw [ht] at hP
          have hD := hD1.weaken (fun k q _ h => hFc q.1 h)
          clear hz1 hk1 hFc hD1 hK1 hvm
          generalize H1 = H at hP hS ⊢
          have rg_x_61 := i_rng x_61
          have rg_x_62 := i_rng x_62
          have rg_x_63 := i_rng x_63
          have hP : va_P (dC, dI) vwCl (mW ad kc x0 x1 x2 0 i1 x_61 x_62 x_63 0 (-1) x10 x11 x12 x13 x14 x15 x16 x17 x18 x19 x20 x21 f_59 f1 gt f3 f4 f5 f6 f7 f8 f9 f10 f11 f12 f13 f14 f15 f16 f17 f18 f19 f20 f21 fL fN fP fM fO) H := hP
          have hD : va_D A (mW ad kc x0 x1 x2 0 i1 x_61 x_62 x_63 0 (-1) x10 x11 x12 x13 x14 x15 x16 x17 x18 x19 x20 x21 f_59 f1 gt f3 f4 f5 f6 f7 f8 f9 f10 f11 f12 f13 f14 f15 f16 f17 f18 f19 f20 f21 fL fN fP fM fO) := hD
          refine lv_iconst (v := 1) hx hb dX10_reads_82 (by decide) ?_
          refine lv_istore_n (lv' := [(3, .int 1), (0, .ref (ad 0)), (1, .int i1), (2, .int i2)]) hx hb dX10_reads_83 rfl hl (by decide) rfl (fun ls hl => ?_)
          have loop84 : ∀ (lm84 : Nat) (go to be en fa fp sp : Int32) (ga : Nat → Int32), (go.toInt = 0 ∨ go.toInt = 1) → (OKd ga 0) → (mC x1.toInt x2.toInt ga) → (0 ≤ be.toInt ∧ be.toInt ≤ en.toInt) → (en.toInt ≤ i1.toInt) → ((if go.toInt = 0 then 0 else (i1.toInt + 1 - en.toInt)).toNat) < lm84 → ∀ (H : Heap) (locs : List Loc) (ls : Array Slot), va_P (dC, dI) vwCl (mW ad kc x0 x1 x2 0 i1 to be en fa fp x10 sp x12 x13 x14 x15 x16 x17 x18 x19 x20 x21 ga f1 gt f3 f4 f5 f6 f7 f8 f9 f10 f11 f12 f13 f14 f15 f16 f17 f18 f19 f20 f21 fL fN fP fM fO) H → va_D A (mW ad kc x0 x1 x2 0 i1 to be en fa fp x10 sp x12 x13 x14 x15 x16 x17 x18 x19 x20 x21 ga f1 gt f3 f4 f5 f6 f7 f8 f9 f10 f11 f12 f13 f14 f15 f16 f17 f18 f19 f20 f21 fL fN fP fM fO) → va_S A s.heap H locs → lv_has ls 4 [(3, .int go), (0, .ref (ad 0)), (1, .int i1), (2, .int i2)] → W p l e (headSpec mwX10_readsm ({ frames := 23, cells := 0, slots := 0, locals := 1380 })).room s m ([.ref (ad 0), .int i1, .int i2]).toArray below meth c H locs 0 0 (MQ below (va_Qi (fun (o9 u9 : Int32) => o9 = u9) (fun (o9 : Int32) t => ∃ (y3 y4 y5 y6 y7 y8 y9 y10 y11 : Int32) (g0 g2 : Nat → Int32), (OKd g0 0) ∧ (mC x1.toInt x2.toInt g0) ∧ (y3.toInt = 0) ∧ (o9.toInt = 0 ∨ o9.toInt = 1) ∧ va_P (dC, dI) vwCl (mW ad kc x0 x1 x2 y3 y4 y5 y6 y7 y8 y9 y10 y11 x12 x13 x14 x15 x16 x17 x18 x19 x20 x21 g0 f1 g2 f3 f4 f5 f6 f7 f8 f9 f10 f11 f12 f13 f14 f15 f16 f17 f18 f19 f20 f21 fL fN fP fM fO) t.heap ∧ va_K (dC, dI) vwCl (mT kc) t ∧ va_D A (mW ad kc x0 x1 x2 y3 y4 y5 y6 y7 y8 y9 y10 y11 x12 x13 x14 x15 x16 x17 x18 x19 x20 x21 g0 f1 g2 f3 f4 f5 f6 f7 f8 f9 f10 f11 f12 f13 f14 f15 f16 f17 f18 f19 f20 f21 fL fN fP fM fO)) A) ([.ref (ad 0), .int i1, .int i2]).toArray s 0 0 A) (F0 m 84 ls []) := by
            intro lm84
            induction lm84 with
            | zero => intro go to be en fa fp sp ga v84_0 v84_1 v84_2 v84_3 v84_4 hm84; exact absurd hm84 (Nat.not_lt_zero _)
            | succ lm84 ih84 =>
              intro go to be en fa fp sp ga v84_0 v84_1 v84_2 v84_3 v84_4 hm84 H locs ls hP hD hS hl
              have rg_go := i_rng go
              have rg_to := i_rng to
              have rg_be := i_rng be
              have rg_en := i_rng en
              have rg_fa := i_rng fa
              have rg_fp := i_rng fp
              have rg_sp := i_rng sp
              refine lv_iload_n hx hb dX10_reads_84 rfl (lv_at hl 0 rfl) ?_
              refine lv_if_eq (tgt := 103) hx hb dX10_reads_85 (by decide) (fun k_64 => ?_) (fun k_64 => ?_)
              · have tk_64 := c_eq (a := go.toInt) (b := 0) rfl (by decide) k_64
                refine lv_aload_n hx hb dX10_reads_103 rfl (lv_at hl 1 rfl) ?_
                refine lv_aload_n hx hb dX10_reads_104 rfl (lv_at hl 1 rfl) ?_
                refine va_get (D := (dC, dI)) (ci := 10) (v := .int fa) (C := RX10) (T := TX10) (N := 48) hx hb hts fin_X10_readsm_X10 hown hK hP 0 rfl rfl 11 (by decide) (hts (.fieldLink RX10 117 "PatternGateModel" "faults" "I") (List.mem_of_getElem? (i := 3) (by decide +kernel))) (fun _ h9 => h9) rfl dX10_reads_105 ?_
                refine va_put (D := (dC, dI)) (ci := 10) (v := .int fa) (ty := .int) (C := RX10) (T := TX10) (N := 48) hx hb hts fin_X10_readsm_X10 tyX10 tyX10_ok nmX10 hown hK hP hD hS 0 rfl rfl 13 (by decide) (hts (.fieldLink RX10 25 "PatternGateModel" "faultKind" "I") (List.mem_of_getElem? (i := 13) (by decide +kernel))) (fun _ h9 => h9) rfl (by decide +kernel) rfl rfl (Nat.le_of_ble_eq_true rfl) dX10_reads_108 (fun H locs hP hD hS => ?_)
                have hP : va_P (dC, dI) vwCl (mW ad kc x0 x1 x2 0 i1 to be en fa fp fa sp x12 x13 x14 x15 x16 x17 x18 x19 x20 x21 ga f1 gt f3 f4 f5 f6 f7 f8 f9 f10 f11 f12 f13 f14 f15 f16 f17 f18 f19 f20 f21 fL fN fP fM fO) H := hP
                have hD : va_D A (mW ad kc x0 x1 x2 0 i1 to be en fa fp fa sp x12 x13 x14 x15 x16 x17 x18 x19 x20 x21 ga f1 gt f3 f4 f5 f6 f7 f8 f9 f10 f11 f12 f13 f14 f15 f16 f17 f18 f19 f20 f21 fL fN fP fM fO) := hD
                refine lv_aload_n hx hb dX10_reads_111 rfl (lv_at hl 1 rfl) ?_
                refine va_get (D := (dC, dI)) (ci := 10) (v := .int fa) (C := RX10) (T := TX10) (N := 48) hx hb hts fin_X10_readsm_X10 hown hK hP 0 rfl rfl 11 (by decide) (hts (.fieldLink RX10 117 "PatternGateModel" "faults" "I") (List.mem_of_getElem? (i := 3) (by decide +kernel))) (fun _ h9 => h9) rfl dX10_reads_112 ?_
                refine lv_if_le (tgt := 126) hx hb dX10_reads_115 (by decide) (fun k_65 => ?_) (fun k_65 => ?_)
                · have tk_65 := c_le (a := fa.toInt) (b := 0) rfl (by decide) k_65
                  refine lv_aload_n hx hb dX10_reads_126 rfl (lv_at hl 1 rfl) ?_
                  refine va_get (D := (dC, dI)) (ci := 10) (v := .int fa) (C := RX10) (T := TX10) (N := 48) hx hb hts fin_X10_readsm_X10 hown hK hP 0 rfl rfl 11 (by decide) (hts (.fieldLink RX10 117 "PatternGateModel" "faults" "I") (List.mem_of_getElem? (i := 3) (by decide +kernel))) (fun _ h9 => h9) rfl dX10_reads_127 ?_
                  refine lv_if_ne (tgt := 137) hx hb dX10_reads_130 (by decide) (fun k_66 => ?_) (fun k_66 => ?_)
                  · have tk_66 := c_ne (a := fa.toInt) (b := 0) rfl (by decide) k_66
                    refine lv_iconst (v := 0) hx hb dX10_reads_137 (by decide) ?_
                    have lit_66 : (0 : Int32).toInt = 0 := by decide
                    have lit_67 : (0 : Int32).toInt = 0 := by decide
                    exact W.zret hx hb hr (z_nar (by first | assumption | decide | exact z_of (by omega))) (fun t ht hW => ⟨⟨_, _, rfl, rfl, 0, i1, to, be, en, fa, fp, fa, sp, ga, gt, v84_1, v84_2, (by first | omega | assumption | rfl | decide), (by first | omega | assumption | rfl | decide), by rw [ht]; exact hP, va_K.moved hW.alike hK, hD⟩, hS.F ht⟩) hS.2.2 dX10_reads_138
                  · have tk_66 := c_eq (a := fa.toInt) (b := 0) rfl (by decide) k_66
                    refine lv_iconst (v := 1) hx hb dX10_reads_133 (by decide) ?_
                    refine lv_goto (tgt := 138) hx hb dX10_reads_134 (by decide) ?_
                    have lit_68 : (1 : Int32).toInt = 1 := by decide
                    have lit_69 : (0 : Int32).toInt = 0 := by decide
                    exact W.zret hx hb hr (z_nar (by first | assumption | decide | exact z_of (by omega))) (fun t ht hW => ⟨⟨_, _, rfl, rfl, 0, i1, to, be, en, fa, fp, fa, sp, ga, gt, v84_1, v84_2, (by first | omega | assumption | rfl | decide), (by first | omega | assumption | rfl | decide), by rw [ht]; exact hP, va_K.moved hW.alike hK, hD⟩, hS.F ht⟩) hS.2.2 dX10_reads_138
                · have tk_65 := c_nle (a := fa.toInt) (b := 0) rfl (by decide) k_65
                  refine lv_aload_n hx hb dX10_reads_118 rfl (lv_at hl 1 rfl) ?_
                  refine lv_sipush (v := 7820) hx hb dX10_reads_119 (by decide) ?_
                  refine lv_iconst (v := 0) hx hb dX10_reads_122 (by decide) ?_
                  have lit_70 : (7820 : Int32).toInt = 7820 := by decide
                  have lit_71 : (0 : Int32).toInt = 0 := by decide
                  have hFc := m_free hD hS hA
                  refine va_callv (va_runV (As := [.int 7820, .int 0]) (rest := []) ⟨hx, hb, hml, hown, hts⟩ (m_copies l dC dI ad kc x0 x1 x2 0 i1 to be en fa fp fa sp x12 x13 x14 x15 x16 x17 x18 x19 x20 x21 ga f1 gt f3 f4 f5 f6 f7 f8 f9 f10 f11 f12 f13 f14 f15 f16 f17 f18 f19 f20 f21 fL fN fP fM fO H.size 7820 0 (by first | omega | assumption | decide | (have l0 := Int32.toInt_zero; omega)) (by first | omega | assumption | decide | (have l0 := Int32.toInt_zero; omega)) (by first | omega | assumption | decide | (have l0 := Int32.toInt_zero; omega)) (by first | omega | assumption | decide | (have l0 := Int32.toInt_zero; omega)) (by first | omega | assumption | decide | (have l0 := Int32.toInt_zero; omega))) (cwV 2 hts mg_X10_readsm_X10_copies_193 rfl rfl rfl (by decide +kernel) ⟨Nat.le_of_ble_eq_true rfl, Nat.le_of_ble_eq_true rfl⟩) ⟨fun a U g mk q => by obtain ⟨q0, q1, qP, qK, qD⟩ := q; exact ⟨q0, q1, qP, va_K.moved (u := U) (U := U.calling g mk a) (Vm.Alike.refl U.vm) qK, qD⟩, va_recv hK hP (ci := 10) (q0 := 0) rfl rfl, fun U hU hW => ⟨rfl, by rw [hU], by rw [hU]; exact hP, va_K.moved hW.alike hK, hD.weaken (fun _ _ _ _ => trivial)⟩⟩ rfl rfl hl.1 rfl (lv_room (Nat.le_of_ble_eq_true rfl)) dX10_reads_123 ⟨Nat.le_of_ble_eq_true rfl, Nat.le_of_ble_eq_true rfl⟩) hS (fun q _ h => hFc q h) hFc (fun u t H1 locs ht hvm hw hB hz1 hk1 hS => ?_)
                  obtain ⟨f_74, hr_73_0, hP, hK1, hD1⟩ := hB
                  rw [ht] at hP
                  have hD := hD1.weaken (fun k q _ h => hFc q.1 h)
                  clear hz1 hk1 hFc hD1 hK1 hvm
                  generalize H1 = H at hP hS ⊢
                  have hP : va_P (dC, dI) vwCl (mW ad kc x0 x1 x2 0 i1 to be en fa fp fa sp x12 x13 x14 x15 x16 x17 x18 x19 x20 x21 f_74 f1 gt f3 f4 f5 f6 f7 f8 f9 f10 f11 f12 f13 f14 f15 f16 f17 f18 f19 f20 f21 fL fN fP fM fO) H := hP
                  have hD : va_D A (mW ad kc x0 x1 x2 0 i1 to be en fa fp fa sp x12 x13 x14 x15 x16 x17 x18 x19 x20 x21 f_74 f1 gt f3 f4 f5 f6 f7 f8 f9 f10 f11 f12 f13 f14 f15 f16 f17 f18 f19 f20 f21 fL fN fP fM fO) := hD
                  have hc8 : CP ga f_74 7820 0 := by have h9 := hr_73_0; rw [(show (7820 : Int32).toInt = 7820 by decide), (show (0 : Int32).toInt = 0 by decide)] at h9; exact h9
                  have hdZ := hc8.there (by omega) v84_2.1
                  have hmZ : mC x1.toInt x2.toInt f_74 := ⟨hc8.else_ (by omega) (by omega) v84_2.1, fun j a1 a2 => hc8.else_ (by omega) (by omega) (v84_2.2.1 j a1 a2), fun j a1 a2 => hc8.else_ (by omega) (by omega) (v84_2.2.2 j a1 a2)⟩
                  refine lv_aload_n hx hb dX10_reads_126 rfl (lv_at hl 1 rfl) ?_
                  refine va_get (D := (dC, dI)) (ci := 10) (v := .int fa) (C := RX10) (T := TX10) (N := 48) hx hb hts fin_X10_readsm_X10 hown hK hP 0 rfl rfl 11 (by decide) (hts (.fieldLink RX10 117 "PatternGateModel" "faults" "I") (List.mem_of_getElem? (i := 3) (by decide +kernel))) (fun _ h9 => h9) rfl dX10_reads_127 ?_
                  refine lv_if_ne (tgt := 137) hx hb dX10_reads_130 (by decide) (fun k_75 => ?_) (fun k_75 => ?_)
                  · have tk_75 := c_ne (a := fa.toInt) (b := 0) rfl (by decide) k_75
                    refine lv_iconst (v := 0) hx hb dX10_reads_137 (by decide) ?_
                    have lit_75 : (0 : Int32).toInt = 0 := by decide
                    have lit_76 : (0 : Int32).toInt = 0 := by decide
                    exact W.zret hx hb hr (z_nar (by first | assumption | decide | exact z_of (by omega))) (fun t ht hW => ⟨⟨_, _, rfl, rfl, 0, i1, to, be, en, fa, fp, fa, sp, f_74, gt, hdZ, hmZ, (by first | omega | assumption | rfl | decide), (by first | omega | assumption | rfl | decide), by rw [ht]; exact hP, va_K.moved hW.alike hK, hD⟩, hS.F ht⟩) hS.2.2 dX10_reads_138
                  · have tk_75 := c_eq (a := fa.toInt) (b := 0) rfl (by decide) k_75
                    refine lv_iconst (v := 1) hx hb dX10_reads_133 (by decide) ?_
                    refine lv_goto (tgt := 138) hx hb dX10_reads_134 (by decide) ?_
                    have lit_77 : (1 : Int32).toInt = 1 := by decide
                    have lit_78 : (0 : Int32).toInt = 0 := by decide
                    exact W.zret hx hb hr (z_nar (by first | assumption | decide | exact z_of (by omega))) (fun t ht hW => ⟨⟨_, _, rfl, rfl, 0, i1, to, be, en, fa, fp, fa, sp, f_74, gt, hdZ, hmZ, (by first | omega | assumption | rfl | decide), (by first | omega | assumption | rfl | decide), by rw [ht]; exact hP, va_K.moved hW.alike hK, hD⟩, hS.F ht⟩) hS.2.2 dX10_reads_138
              · have tk_64 := c_ne (a := go.toInt) (b := 0) rfl (by decide) k_64
                refine lv_aload_n hx hb dX10_reads_88 rfl (lv_at hl 1 rfl) ?_
                refine va_get (D := (dC, dI)) (ci := 10) (v := .int to) (C := RX10) (T := TX10) (N := 48) hx hb hts fin_X10_readsm_X10 hown hK hP 0 rfl rfl 8 (by decide) (hts (.fieldLink RX10 120 "PatternGateModel" "token" "I") (List.mem_of_getElem? (i := 14) (by decide +kernel))) (fun _ h9 => h9) rfl dX10_reads_89 ?_
                refine lv_if_eq (tgt := 103) hx hb dX10_reads_92 (by decide) (fun k_80 => ?_) (fun k_80 => ?_)
                · have tk_80 := c_eq (a := to.toInt) (b := 0) rfl (by decide) k_80
                  refine lv_aload_n hx hb dX10_reads_103 rfl (lv_at hl 1 rfl) ?_
                  refine lv_aload_n hx hb dX10_reads_104 rfl (lv_at hl 1 rfl) ?_
                  refine va_get (D := (dC, dI)) (ci := 10) (v := .int fa) (C := RX10) (T := TX10) (N := 48) hx hb hts fin_X10_readsm_X10 hown hK hP 0 rfl rfl 11 (by decide) (hts (.fieldLink RX10 117 "PatternGateModel" "faults" "I") (List.mem_of_getElem? (i := 3) (by decide +kernel))) (fun _ h9 => h9) rfl dX10_reads_105 ?_
                  refine va_put (D := (dC, dI)) (ci := 10) (v := .int fa) (ty := .int) (C := RX10) (T := TX10) (N := 48) hx hb hts fin_X10_readsm_X10 tyX10 tyX10_ok nmX10 hown hK hP hD hS 0 rfl rfl 13 (by decide) (hts (.fieldLink RX10 25 "PatternGateModel" "faultKind" "I") (List.mem_of_getElem? (i := 13) (by decide +kernel))) (fun _ h9 => h9) rfl (by decide +kernel) rfl rfl (Nat.le_of_ble_eq_true rfl) dX10_reads_108 (fun H locs hP hD hS => ?_)
                  have hP : va_P (dC, dI) vwCl (mW ad kc x0 x1 x2 0 i1 to be en fa fp fa sp x12 x13 x14 x15 x16 x17 x18 x19 x20 x21 ga f1 gt f3 f4 f5 f6 f7 f8 f9 f10 f11 f12 f13 f14 f15 f16 f17 f18 f19 f20 f21 fL fN fP fM fO) H := hP
                  have hD : va_D A (mW ad kc x0 x1 x2 0 i1 to be en fa fp fa sp x12 x13 x14 x15 x16 x17 x18 x19 x20 x21 ga f1 gt f3 f4 f5 f6 f7 f8 f9 f10 f11 f12 f13 f14 f15 f16 f17 f18 f19 f20 f21 fL fN fP fM fO) := hD
                  refine lv_aload_n hx hb dX10_reads_111 rfl (lv_at hl 1 rfl) ?_
                  refine va_get (D := (dC, dI)) (ci := 10) (v := .int fa) (C := RX10) (T := TX10) (N := 48) hx hb hts fin_X10_readsm_X10 hown hK hP 0 rfl rfl 11 (by decide) (hts (.fieldLink RX10 117 "PatternGateModel" "faults" "I") (List.mem_of_getElem? (i := 3) (by decide +kernel))) (fun _ h9 => h9) rfl dX10_reads_112 ?_
                  refine lv_if_le (tgt := 126) hx hb dX10_reads_115 (by decide) (fun k_81 => ?_) (fun k_81 => ?_)
                  · have tk_81 := c_le (a := fa.toInt) (b := 0) rfl (by decide) k_81
                    refine lv_aload_n hx hb dX10_reads_126 rfl (lv_at hl 1 rfl) ?_
                    refine va_get (D := (dC, dI)) (ci := 10) (v := .int fa) (C := RX10) (T := TX10) (N := 48) hx hb hts fin_X10_readsm_X10 hown hK hP 0 rfl rfl 11 (by decide) (hts (.fieldLink RX10 117 "PatternGateModel" "faults" "I") (List.mem_of_getElem? (i := 3) (by decide +kernel))) (fun _ h9 => h9) rfl dX10_reads_127 ?_
                    refine lv_if_ne (tgt := 137) hx hb dX10_reads_130 (by decide) (fun k_82 => ?_) (fun k_82 => ?_)
                    · have tk_82 := c_ne (a := fa.toInt) (b := 0) rfl (by decide) k_82
                      refine lv_iconst (v := 0) hx hb dX10_reads_137 (by decide) ?_
                      have lit_82 : (0 : Int32).toInt = 0 := by decide
                      have lit_83 : (0 : Int32).toInt = 0 := by decide
                      exact W.zret hx hb hr (z_nar (by first | assumption | decide | exact z_of (by omega))) (fun t ht hW => ⟨⟨_, _, rfl, rfl, 0, i1, to, be, en, fa, fp, fa, sp, ga, gt, v84_1, v84_2, (by first | omega | assumption | rfl | decide), (by first | omega | assumption | rfl | decide), by rw [ht]; exact hP, va_K.moved hW.alike hK, hD⟩, hS.F ht⟩) hS.2.2 dX10_reads_138
                    · have tk_82 := c_eq (a := fa.toInt) (b := 0) rfl (by decide) k_82
                      refine lv_iconst (v := 1) hx hb dX10_reads_133 (by decide) ?_
                      refine lv_goto (tgt := 138) hx hb dX10_reads_134 (by decide) ?_
                      have lit_84 : (1 : Int32).toInt = 1 := by decide
                      have lit_85 : (0 : Int32).toInt = 0 := by decide
                      exact W.zret hx hb hr (z_nar (by first | assumption | decide | exact z_of (by omega))) (fun t ht hW => ⟨⟨_, _, rfl, rfl, 0, i1, to, be, en, fa, fp, fa, sp, ga, gt, v84_1, v84_2, (by first | omega | assumption | rfl | decide), (by first | omega | assumption | rfl | decide), by rw [ht]; exact hP, va_K.moved hW.alike hK, hD⟩, hS.F ht⟩) hS.2.2 dX10_reads_138
                  · have tk_81 := c_nle (a := fa.toInt) (b := 0) rfl (by decide) k_81
                    refine lv_aload_n hx hb dX10_reads_118 rfl (lv_at hl 1 rfl) ?_
                    refine lv_sipush (v := 7820) hx hb dX10_reads_119 (by decide) ?_
                    refine lv_iconst (v := 0) hx hb dX10_reads_122 (by decide) ?_
                    have lit_86 : (7820 : Int32).toInt = 7820 := by decide
                    have lit_87 : (0 : Int32).toInt = 0 := by decide
                    have hFc := m_free hD hS hA
                    refine va_callv (va_runV (As := [.int 7820, .int 0]) (rest := []) ⟨hx, hb, hml, hown, hts⟩ (m_copies l dC dI ad kc x0 x1 x2 0 i1 to be en fa fp fa sp x12 x13 x14 x15 x16 x17 x18 x19 x20 x21 ga f1 gt f3 f4 f5 f6 f7 f8 f9 f10 f11 f12 f13 f14 f15 f16 f17 f18 f19 f20 f21 fL fN fP fM fO H.size 7820 0 (by first | omega | assumption | decide | (have l0 := Int32.toInt_zero; omega)) (by first | omega | assumption | decide | (have l0 := Int32.toInt_zero; omega)) (by first | omega | assumption | decide | (have l0 := Int32.toInt_zero; omega)) (by first | omega | assumption | decide | (have l0 := Int32.toInt_zero; omega)) (by first | omega | assumption | decide | (have l0 := Int32.toInt_zero; omega))) (cwV 2 hts mg_X10_readsm_X10_copies_193 rfl rfl rfl (by decide +kernel) ⟨Nat.le_of_ble_eq_true rfl, Nat.le_of_ble_eq_true rfl⟩) ⟨fun a U g mk q => by obtain ⟨q0, q1, qP, qK, qD⟩ := q; exact ⟨q0, q1, qP, va_K.moved (u := U) (U := U.calling g mk a) (Vm.Alike.refl U.vm) qK, qD⟩, va_recv hK hP (ci := 10) (q0 := 0) rfl rfl, fun U hU hW => ⟨rfl, by rw [hU], by rw [hU]; exact hP, va_K.moved hW.alike hK, hD.weaken (fun _ _ _ _ => trivial)⟩⟩ rfl rfl hl.1 rfl (lv_room (Nat.le_of_ble_eq_true rfl)) dX10_reads_123 ⟨Nat.le_of_ble_eq_true rfl, Nat.le_of_ble_eq_true rfl⟩) hS (fun q _ h => hFc q h) hFc (fun u t H1 locs ht hvm hw hB hz1 hk1 hS => ?_)
                    obtain ⟨f_90, hr_89_0, hP, hK1, hD1⟩ := hB
                    rw [ht] at hP
                    have hD := hD1.weaken (fun k q _ h => hFc q.1 h)
                    clear hz1 hk1 hFc hD1 hK1 hvm
                    generalize H1 = H at hP hS ⊢
                    have hP : va_P (dC, dI) vwCl (mW ad kc x0 x1 x2 0 i1 to be en fa fp fa sp x12 x13 x14 x15 x16 x17 x18 x19 x20 x21 f_90 f1 gt f3 f4 f5 f6 f7 f8 f9 f10 f11 f12 f13 f14 f15 f16 f17 f18 f19 f20 f21 fL fN fP fM fO) H := hP
                    have hD : va_D A (mW ad kc x0 x1 x2 0 i1 to be en fa fp fa sp x12 x13 x14 x15 x16 x17 x18 x19 x20 x21 f_90 f1 gt f3 f4 f5 f6 f7 f8 f9 f10 f11 f12 f13 f14 f15 f16 f17 f18 f19 f20 f21 fL fN fP fM fO) := hD
                    have hc8 : CP ga f_90 7820 0 := by have h9 := hr_89_0; rw [(show (7820 : Int32).toInt = 7820 by decide), (show (0 : Int32).toInt = 0 by decide)] at h9; exact h9
                    have hdZ := hc8.there (by omega) v84_2.1
                    have hmZ : mC x1.toInt x2.toInt f_90 := ⟨hc8.else_ (by omega) (by omega) v84_2.1, fun j a1 a2 => hc8.else_ (by omega) (by omega) (v84_2.2.1 j a1 a2), fun j a1 a2 => hc8.else_ (by omega) (by omega) (v84_2.2.2 j a1 a2)⟩
                    refine lv_aload_n hx hb dX10_reads_126 rfl (lv_at hl 1 rfl) ?_
                    refine va_get (D := (dC, dI)) (ci := 10) (v := .int fa) (C := RX10) (T := TX10) (N := 48) hx hb hts fin_X10_readsm_X10 hown hK hP 0 rfl rfl 11 (by decide) (hts (.fieldLink RX10 117 "PatternGateModel" "faults" "I") (List.mem_of_getElem? (i := 3) (by decide +kernel))) (fun _ h9 => h9) rfl dX10_reads_127 ?_
                    refine lv_if_ne (tgt := 137) hx hb dX10_reads_130 (by decide) (fun k_91 => ?_) (fun k_91 => ?_)
                    · have tk_91 := c_ne (a := fa.toInt) (b := 0) rfl (by decide) k_91
                      refine lv_iconst (v := 0) hx hb dX10_reads_137 (by decide) ?_
                      have lit_91 : (0 : Int32).toInt = 0 := by decide
                      have lit_92 : (0 : Int32).toInt = 0 := by decide
                      exact W.zret hx hb hr (z_nar (by first | assumption | decide | exact z_of (by omega))) (fun t ht hW => ⟨⟨_, _, rfl, rfl, 0, i1, to, be, en, fa, fp, fa, sp, f_90, gt, hdZ, hmZ, (by first | omega | assumption | rfl | decide), (by first | omega | assumption | rfl | decide), by rw [ht]; exact hP, va_K.moved hW.alike hK, hD⟩, hS.F ht⟩) hS.2.2 dX10_reads_138
                    · have tk_91 := c_eq (a := fa.toInt) (b := 0) rfl (by decide) k_91
                      refine lv_iconst (v := 1) hx hb dX10_reads_133 (by decide) ?_
                      refine lv_goto (tgt := 138) hx hb dX10_reads_134 (by decide) ?_
                      have lit_93 : (1 : Int32).toInt = 1 := by decide
                      have lit_94 : (0 : Int32).toInt = 0 := by decide
                      exact W.zret hx hb hr (z_nar (by first | assumption | decide | exact z_of (by omega))) (fun t ht hW => ⟨⟨_, _, rfl, rfl, 0, i1, to, be, en, fa, fp, fa, sp, f_90, gt, hdZ, hmZ, (by first | omega | assumption | rfl | decide), (by first | omega | assumption | rfl | decide), by rw [ht]; exact hP, va_K.moved hW.alike hK, hD⟩, hS.F ht⟩) hS.2.2 dX10_reads_138
                · have tk_80 := c_ne (a := to.toInt) (b := 0) rfl (by decide) k_80
                  refine lv_aload_n hx hb dX10_reads_95 rfl (lv_at hl 1 rfl) ?_
                  have hFc := m_free hD hS hA
                  refine va_calli (va_runV (As := []) (rest := []) ⟨hx, hb, hml, hown, hts⟩ (m_aLine l dC dI ad kc x0 x1 x2 0 i1 to be en fa fp x10 sp x12 x13 x14 x15 x16 x17 x18 x19 x20 x21 ga f1 gt f3 f4 f5 f6 f7 f8 f9 f10 f11 f12 f13 f14 f15 f16 f17 f18 f19 f20 f21 fL fN fP fM fO H.size (by first | omega | assumption | decide | (have l0 := Int32.toInt_zero; omega)) (by first | omega | assumption | decide | (have l0 := Int32.toInt_zero; omega)) (by first | omega | assumption | decide | (have l0 := Int32.toInt_zero; omega))) (cwV 0 hts mg_X10_readsm_X10_aLine_197 rfl rfl rfl (by decide +kernel) ⟨Nat.le_of_ble_eq_true rfl, Nat.le_of_ble_eq_true rfl⟩) ⟨fun a U g mk q => by obtain ⟨q0, q1, qP, qK, qD, qE0⟩ := q; exact ⟨q0, q1, qP, va_K.moved (u := U) (U := U.calling g mk a) (Vm.Alike.refl U.vm) qK, qD, sW.call qE0⟩, va_recv hK hP (ci := 10) (q0 := 0) rfl rfl, fun U hU hW => ⟨rfl, by rw [hU], by rw [hU]; exact hP, va_K.moved hW.alike hK, hD.weaken (fun _ _ _ _ => trivial), sW.to hSW hS hFc hW hU⟩⟩ rfl rfl hl.1 rfl (lv_room (Nat.le_of_ble_eq_true rfl)) dX10_reads_96 ⟨Nat.le_of_ble_eq_true rfl, Nat.le_of_ble_eq_true rfl⟩) hS (fun q _ h => hFc q h) hFc (fun r_96 u t H1 locs ht hvm hw hB hz1 hk1 hS => ?_)
                  subst hw
                  obtain ⟨x_97, x_98, x_99, x_100, x_101, x_102, f_103, hr_96_0, hr_96_1, hr_96_2, hr_96_3, hr_96_4, hr_96_5, hP, hK1, hD1⟩ := hB
                  rw [ht] at hP
                  have hD := hD1.weaken (fun k q _ h => hFc q.1 h)
                  clear hz1 hk1 hFc hD1 hK1 hvm
                  generalize H1 = H at hP hS ⊢
                  have rg_x_97 := i_rng x_97
                  have rg_x_98 := i_rng x_98
                  have rg_x_99 := i_rng x_99
                  have rg_x_100 := i_rng x_100
                  have rg_x_101 := i_rng x_101
                  have rg_x_102 := i_rng x_102
                  have rg_r_96 := i_rng r_96
                  have hP : va_P (dC, dI) vwCl (mW ad kc x0 x1 x2 0 i1 x_97 x_98 x_99 x_100 x_101 x10 x_102 x12 x13 x14 x15 x16 x17 x18 x19 x20 x21 f_103 f1 gt f3 f4 f5 f6 f7 f8 f9 f10 f11 f12 f13 f14 f15 f16 f17 f18 f19 f20 f21 fL fN fP fM fO) H := hP
                  have hD : va_D A (mW ad kc x0 x1 x2 0 i1 x_97 x_98 x_99 x_100 x_101 x10 x_102 x12 x13 x14 x15 x16 x17 x18 x19 x20 x21 f_103 f1 gt f3 f4 f5 f6 f7 f8 f9 f10 f11 f12 f13 f14 f15 f16 f17 f18 f19 f20 f21 fL fN fP fM fO) := hD
                  refine lv_istore_n (lv' := [(3, .int r_96), (0, .ref (ad 0)), (1, .int i1), (2, .int i2)]) hx hb dX10_reads_99 rfl hl (by decide) rfl (fun ls hl => ?_)
                  refine lv_goto (tgt := 84) hx hb dX10_reads_100 (by decide) ?_
                  exact ih84 r_96 x_97 x_98 x_99 x_100 x_101 x_102 f_103 (by first | omega | assumption | decide) hr_96_0 (v84_2.far hr_96_1) (by first | omega | assumption | decide) (by first | omega | assumption | decide) (by omega) _ _ ls hP hD hS (lv_sub hl [0, 1, 2, 3] rfl)
          have lit_103 : (1 : Int32).toInt = 1 := by decide
          have lit_104 : (0 : Int32).toInt = 0 := by decide
          have lit_105 : ((-1) : Int32).toInt = (-1) := by decide
          exact loop84 _ 1 x_61 x_62 x_63 0 (-1) x11 f_59 (by first | omega | assumption | decide) hdA hmA (by first | omega | assumption | decide) (by first | omega | assumption | decide) (Nat.lt_succ_self _) _ _ ls hP hD hS (lv_sub hl [0, 1, 2, 3] rfl)
      · have tk_1 := c_nge (a := kk.toInt) (b := i1.toInt) rfl rfl k_1
        refine lv_aload_n hx hb dX10_reads_12 rfl (lv_at hl 1 rfl) ?_
        refine va_get (D := (dC, dI)) (ci := 10) (v := .ref (ad 3)) (C := RX10) (T := TX10) (N := 48) hx hb hts fin_X10_readsm_X10 hown hK hP 0 rfl rfl 5 (by decide) (hts (.fieldLink RX10 18 "PatternGateModel" "text" "[B") (List.mem_of_getElem? (i := 19) (by decide +kernel))) (fun _ h9 => h9) rfl dX10_reads_13 ?_
        refine lv_iload_n hx hb dX10_reads_16 rfl (lv_at hl 0 rfl) ?_
        refine lv_aload_n hx hb dX10_reads_17 rfl (lv_at hl 1 rfl) ?_
        refine va_get (D := (dC, dI)) (ci := 10) (v := .ref (ad 2)) (C := RX10) (T := TX10) (N := 48) hx hb hts fin_X10_readsm_X10 hown hK hP 0 rfl rfl 4 (by decide) (hts (.fieldLink RX10 14 "PatternGateModel" "tape" "[B") (List.mem_of_getElem? (i := 20) (by decide +kernel))) (fun _ h9 => h9) rfl dX10_reads_18 ?_
        refine lv_iload_n hx hb dX10_reads_21 rfl (lv_at hl 0 rfl) ?_
        refine va_bald hx hb hK hP 2 1 rfl rfl (i := kk) (vp_of (a := kk.toInt) rfl (by omega) (by omega)) dX10_reads_22 ?_
        refine lv_topi (fun y_107 ey_107 => ?_)
        have rg_y_107 := i_rng y_107
        refine va_bast hx hb hK hP hD hS 3 2 rfl rfl (i := kk) (vp_of (a := kk.toInt) rfl (by omega) (by omega)) dX10_reads_23 (fun H locs hP hD hS => ?_)
        generalize hf_f_108 : upd gt _ _ = f_108 at hP hD
        have hP : va_P (dC, dI) vwCl (mW ad kc x0 x1 x2 x3 i1 x5 x6 x7 x8 x9 x10 x11 x12 x13 x14 x15 x16 x17 x18 x19 x20 x21 f0 f1 f_108 f3 f4 f5 f6 f7 f8 f9 f10 f11 f12 f13 f14 f15 f16 f17 f18 f19 f20 f21 fL fN fP fM fO) H := hP
        have hD : va_D A (mW ad kc x0 x1 x2 x3 i1 x5 x6 x7 x8 x9 x10 x11 x12 x13 x14 x15 x16 x17 x18 x19 x20 x21 f0 f1 f_108 f3 f4 f5 f6 f7 f8 f9 f10 f11 f12 f13 f14 f15 f16 f17 f18 f19 f20 f21 fL fN fP fM fO) := hD
        obtain ⟨y_109, ey_109⟩ : ∃ y : Int32, y = kk + 1 := ⟨_, rfl⟩
        first | have ty_109 := i_add (a := kk.toInt) (b := 1) rfl (by decide) ey_109 (by omega) (by omega) | skip
        refine lv_iinc (v := y_109) (lv' := [(3, .int y_109), (0, .ref (ad 0)), (1, .int i1), (2, .int i2)]) hx hb dX10_reads_24 hl (k := 0) rfl (by rw [ey_109]; rfl) (by decide) rfl (fun ls hl => ?_)
        refine lv_goto (tgt := 7) hx hb dX10_reads_27 (by decide) ?_
        exact ih7 y_109 f_108 (by first | omega | assumption | decide) (by omega) _ _ ls hP hD hS (lv_sub hl [0, 1, 2, 3] rfl)
  have lit_109 : (0 : Int32).toInt = 0 := by decide
  exact loop7 _ 0 f2 (by first | omega | assumption | decide) (Nat.lt_succ_self _) _ _ ls hP hD hS (lv_sub hl [0, 1, 2, 3] rfl)
theorem dX10_load_0 : decode cX10_load 0 = .ok (.iload_n 1, 1) := by decide +kernel
theorem dX10_load_1 : decode cX10_load 1 = .ok (.iconst 0, 1) := by decide +kernel
theorem dX10_load_2 : decode cX10_load 2 = .ok (.aload_n 0, 1) := by decide +kernel
theorem dX10_load_3 : decode cX10_load 3 = .ok (.getfield 107, 3) := by decide +kernel
theorem dX10_load_6 : decode cX10_load 6 = .ok (.invokestatic 200, 3) := by decide +kernel
theorem dX10_load_9 : decode cX10_load 9 = .ok (.ifCond .ne 9, 3) := by decide +kernel
theorem dX10_load_12 : decode cX10_load 12 = .ok (.aload_n 0, 1) := by decide +kernel
theorem dX10_load_13 : decode cX10_load 13 = .ok (.iconst 1, 1) := by decide +kernel
theorem dX10_load_14 : decode cX10_load 14 = .ok (.invokevirtual 204, 3) := by decide +kernel
theorem dX10_load_17 : decode cX10_load 17 = .ok (.ireturn, 1) := by decide +kernel
theorem dX10_load_18 : decode cX10_load 18 = .ok (.aload_n 0, 1) := by decide +kernel
theorem dX10_load_19 : decode cX10_load 19 = .ok (.iload_n 1, 1) := by decide +kernel
theorem dX10_load_20 : decode cX10_load 20 = .ok (.iconst 1, 1) := by decide +kernel
theorem dX10_load_21 : decode cX10_load 21 = .ok (.invokevirtual 207, 3) := by decide +kernel
theorem dX10_load_24 : decode cX10_load 24 = .ok (.ifCond .ne 10, 3) := by decide +kernel
theorem dX10_load_27 : decode cX10_load 27 = .ok (.aload_n 0, 1) := by decide +kernel
theorem dX10_load_28 : decode cX10_load 28 = .ok (.bipush 9, 2) := by decide +kernel
theorem dX10_load_30 : decode cX10_load 30 = .ok (.invokevirtual 204, 3) := by decide +kernel
theorem dX10_load_33 : decode cX10_load 33 = .ok (.ireturn, 1) := by decide +kernel
theorem dX10_load_34 : decode cX10_load 34 = .ok (.aload_n 0, 1) := by decide +kernel
theorem dX10_load_35 : decode cX10_load 35 = .ok (.invokevirtual 211, 3) := by decide +kernel
theorem dX10_load_38 : decode cX10_load 38 = .ok (.aload_n 0, 1) := by decide +kernel
theorem dX10_load_39 : decode cX10_load 39 = .ok (.aload_n 0, 1) := by decide +kernel
theorem dX10_load_40 : decode cX10_load 40 = .ok (.getfield 8, 3) := by decide +kernel
theorem dX10_load_43 : decode cX10_load 43 = .ok (.iconst 0, 1) := by decide +kernel
theorem dX10_load_44 : decode cX10_load 44 = .ok (.iaload, 1) := by decide +kernel
theorem dX10_load_45 : decode cX10_load 45 = .ok (.invokevirtual 214, 3) := by decide +kernel
theorem dX10_load_48 : decode cX10_load 48 = .ok (.ireturn, 1) := by decide +kernel
def mwX10_loadm : List Cond := .code yX10_load cX10_load 2 (some .int) :: (([.fieldLink RX10 107 "PatternGateModel" "taped" "I", .methodLink RX10 200 yX10_isFrom, .static yX10_isFrom, .initialized RX10, .methodLink RX10 207 yX10_reads, .instanceMethod yX10_reads, .selects RX10 yX10_reads yX10_reads, .methodLink RX10 211 yX10_acted, .instanceMethod yX10_acted, .selects RX10 yX10_acted yX10_acted, .fieldLink RX10 8 "PatternGateModel" "all" "[I", .methodLink RX10 214 yX10_gives, .instanceMethod yX10_gives, .selects RX10 yX10_gives yX10_gives, .methodLink RX10 204 yX10_refuse, .instanceMethod yX10_refuse, .selects RX10 yX10_refuse yX10_refuse] : List Cond) ++ (wsX100 ++ (mwX10_isFromm ++ (mwX10_readsm ++ (mwX10_actedm ++ (mwX10_givesm ++ (mwX10_refusem)))))))
theorem fin_X10_loadm_X10 : ∀ w ∈ wsX100, w ∈ mwX10_loadm := fun w h => List.mem_cons_of_mem _ (List.mem_append_right _ (List.mem_append_left _ h))
set_option maxRecDepth 100000 in
theorem gd_mwX10_readsm : mwX10_readsm.all goodWord = true := by decide +kernel
set_option maxRecDepth 20000 in
theorem mg_X10_loadm_X10_isFrom_200 : GoodIn mwX10_loadm (va_wsS RX10 200 yX10_isFrom mwX10_isFromm) := gi_app (A := [.methodLink RX10 200 yX10_isFrom, .static yX10_isFrom, .initialized RX10]) (goodIn_r _ [2, 3, 4] (by decide +kernel) (by decide +kernel)) (gi_sub gd_mwX10_isFromm (fun w h => List.mem_cons_of_mem _ (List.mem_append_right _ (List.mem_append_right _ (List.mem_append_left _ h)))))
set_option maxRecDepth 20000 in
theorem mg_X10_loadm_X10_reads_207 : GoodIn mwX10_loadm (wsV RX10 207 RX10 yX10_reads mwX10_readsm) := gi_app (A := [.methodLink RX10 207 yX10_reads, .instanceMethod yX10_reads, .selects RX10 yX10_reads yX10_reads, .initialized RX10]) (goodIn_r _ [5, 6, 7, 4] (by decide +kernel) (by decide +kernel)) (gi_sub gd_mwX10_readsm (fun w h => List.mem_cons_of_mem _ (List.mem_append_right _ (List.mem_append_right _ (List.mem_append_right _ (List.mem_append_left _ h))))))
set_option maxRecDepth 20000 in
theorem mg_X10_loadm_X10_acted_211 : GoodIn mwX10_loadm (wsV RX10 211 RX10 yX10_acted mwX10_actedm) := gi_app (A := [.methodLink RX10 211 yX10_acted, .instanceMethod yX10_acted, .selects RX10 yX10_acted yX10_acted, .initialized RX10]) (goodIn_r _ [8, 9, 10, 4] (by decide +kernel) (by decide +kernel)) (gi_sub gd_mwX10_actedm (fun w h => List.mem_cons_of_mem _ (List.mem_append_right _ (List.mem_append_right _ (List.mem_append_right _ (List.mem_append_right _ (List.mem_append_left _ h)))))))
set_option maxRecDepth 20000 in
theorem mg_X10_loadm_X10_gives_214 : GoodIn mwX10_loadm (wsV RX10 214 RX10 yX10_gives mwX10_givesm) := gi_app (A := [.methodLink RX10 214 yX10_gives, .instanceMethod yX10_gives, .selects RX10 yX10_gives yX10_gives, .initialized RX10]) (goodIn_r _ [12, 13, 14, 4] (by decide +kernel) (by decide +kernel)) (gi_sub gd_mwX10_givesm (fun w h => List.mem_cons_of_mem _ (List.mem_append_right _ (List.mem_append_right _ (List.mem_append_right _ (List.mem_append_right _ (List.mem_append_right _ (List.mem_append_left _ h))))))))
set_option maxRecDepth 20000 in
theorem mg_X10_loadm_X10_refuse_204 : GoodIn mwX10_loadm (wsV RX10 204 RX10 yX10_refuse mwX10_refusem) := gi_app (A := [.methodLink RX10 204 yX10_refuse, .instanceMethod yX10_refuse, .selects RX10 yX10_refuse yX10_refuse, .initialized RX10]) (goodIn_r _ [15, 16, 17, 4] (by decide +kernel) (by decide +kernel)) (gi_sub gd_mwX10_refusem (fun w h => List.mem_cons_of_mem _ (List.mem_append_right _ (List.mem_append_right _ (List.mem_append_right _ (List.mem_append_right _ (List.mem_append_right _ (List.mem_append_right _ (h)))))))))
set_option maxHeartbeats 4000000 in
set_option maxRecDepth 100000 in
theorem m_load (l : Launch) (dC : Nat → ClassId) (dI : Nat → Nat → Nat) (ad : Nat → Nat) (kc : Nat → ClassId) (x0 x1 x2 x3 x4 x5 x6 x7 x8 x9 x10 x11 x12 x13 x14 x15 x16 x17 x18 x19 x20 x21 : Int32) (f0 f1 f2 f3 f4 f5 f6 f7 f8 f9 f10 f11 f12 f13 f14 f15 f16 f17 f18 f19 f20 f21 : Nat → Int32) (fL : Nat → Nat → Int64) (fN : Nat → Nat → Int32) (fP : Nat → Nat → Nat) (fM : Nat → Nat → Int32) (fO : Nat → Nat → Int32) (sz : Nat) (i1 : Int32) (q0 : mI x1.toInt x2.toInt x3.toInt f0 fP) : Met l yX10_load mwX10_loadm ({ frames := 24, cells := 0, slots := 0, locals := 1440 }) (va_Pc [.ref (ad 0), .int i1] (fun U => U.heap.size = sz ∧ va_P (dC, dI) vwCl (mW ad kc x0 x1 x2 x3 x4 x5 x6 x7 x8 x9 x10 x11 x12 x13 x14 x15 x16 x17 x18 x19 x20 x21 f0 f1 f2 f3 f4 f5 f6 f7 f8 f9 f10 f11 f12 f13 f14 f15 f16 f17 f18 f19 f20 f21 fL fN fP fM fO) U.heap ∧ va_K (dC, dI) vwCl (mT kc) U ∧ va_D (fun _ => True) (mW ad kc x0 x1 x2 x3 x4 x5 x6 x7 x8 x9 x10 x11 x12 x13 x14 x15 x16 x17 x18 x19 x20 x21 f0 f1 f2 f3 f4 f5 f6 f7 f8 f9 f10 f11 f12 f13 f14 f15 f16 f17 f18 f19 f20 f21 fL fN fP fM fO) ∧ sW (va_A (mW ad kc x0 x1 x2 x3 x4 x5 x6 x7 x8 x9 x10 x11 x12 x13 x14 x15 x16 x17 x18 x19 x20 x21 f0 f1 f2 f3 f4 f5 f6 f7 f8 f9 f10 f11 f12 f13 f14 f15 f16 f17 f18 f19 f20 f21 fL fN fP fM fO) sz) U U.heap)) (va_Qi (fun (o9 u9 : Int32) => o9 = u9) (fun (o9 : Int32) t => ∃ (y0 y1 y3 y4 y5 y6 y7 y8 y9 y10 y11 : Int32) (g0 g2 : Nat → Int32), (mI y1.toInt x2.toInt y3.toInt g0 fP) ∧ ((0 ≤ i1.toInt ∧ i1.toInt ≤ x3.toInt ∧ y3.toInt = 0) ∨ ((i1.toInt < 0 ∨ x3.toInt < i1.toInt) ∧ y3.toInt = x3.toInt)) ∧ va_P (dC, dI) vwCl (mW ad kc y0 y1 x2 y3 y4 y5 y6 y7 y8 y9 y10 y11 x12 x13 x14 x15 x16 x17 x18 x19 x20 x21 g0 f1 g2 f3 f4 f5 f6 f7 f8 f9 f10 f11 f12 f13 f14 f15 f16 f17 f18 f19 f20 f21 fL fN fP fM fO) t.heap ∧ va_K (dC, dI) vwCl (mT kc) t ∧ va_D (va_A (mW ad kc x0 x1 x2 x3 x4 x5 x6 x7 x8 x9 x10 x11 x12 x13 x14 x15 x16 x17 x18 x19 x20 x21 f0 f1 f2 f3 f4 f5 f6 f7 f8 f9 f10 f11 f12 f13 f14 f15 f16 f17 f18 f19 f20 f21 fL fN fP fM fO) sz) (mW ad kc y0 y1 x2 y3 y4 y5 y6 y7 y8 y9 y10 y11 x12 x13 x14 x15 x16 x17 x18 x19 x20 x21 g0 f1 g2 f3 f4 f5 f6 f7 f8 f9 f10 f11 f12 f13 f14 f15 f16 f17 f18 f19 f20 f21 fL fN fP fM fO)) (va_A (mW ad kc x0 x1 x2 x3 x4 x5 x6 x7 x8 x9 x10 x11 x12 x13 x14 x15 x16 x17 x18 x19 x20 x21 f0 f1 f2 f3 f4 f5 f6 f7 f8 f9 f10 f11 f12 f13 f14 f15 f16 f17 f18 f19 f20 f21 fL fN fP fM fO) sz)) 0 0 (va_A (mW ad kc x0 x1 x2 x3 x4 x5 x6 x7 x8 x9 x10 x11 x12 x13 x14 x15 x16 x17 x18 x19 x20 x21 f0 f1 f2 f3 f4 f5 f6 f7 f8 f9 f10 f11 f12 f13 f14 f15 f16 f17 f18 f19 f20 f21 fL fN fP fM fO) sz) := by
  refine Met.ofW (cc := cX10_load) (maxL := 2) (ret := (some .int)) (by decide +kernel) rfl ?_
  intro p e s m args below meth c s₁ B hml hv
  obtain ⟨rfl, hsz, hP, hK, hD0, hSW⟩ := hv
  have hx := B.exec
  have hb := B.bytes
  have hr := B.returns
  have hts := atoms_spec (ws := mwX10_loadm) B.pre
  have hown : s.vm.findClass RX10 = some m.cls := findClass_of_methodNamed B.named
  have hlocks := B.notSynchronized
  subst hsz
  have hD := hD0.self (sz := s.heap.size)
  generalize hAe : va_A (mW ad kc x0 x1 x2 x3 x4 x5 x6 x7 x8 x9 x10 x11 x12 x13 x14 x15 x16 x17 x18 x19 x20 x21 f0 f1 f2 f3 f4 f5 f6 f7 f8 f9 f10 f11 f12 f13 f14 f15 f16 f17 f18 f19 f20 f21 fL fN fP fM fO) s.heap.size = A at hD hSW ⊢
  have hA : ∀ q : Nat, s.heap.size ≤ q → A q := fun q h => by rw [← hAe]; exact Or.inr h
  have hP : va_P (dC, dI) vwCl (mW ad kc x0 x1 x2 x3 x4 x5 x6 x7 x8 x9 x10 x11 x12 x13 x14 x15 x16 x17 x18 x19 x20 x21 f0 f1 f2 f3 f4 f5 f6 f7 f8 f9 f10 f11 f12 f13 f14 f15 f16 f17 f18 f19 f20 f21 fL fN fP fM fO) s.heap := hP
  have hD : va_D A (mW ad kc x0 x1 x2 x3 x4 x5 x6 x7 x8 x9 x10 x11 x12 x13 x14 x15 x16 x17 x18 x19 x20 x21 f0 f1 f2 f3 f4 f5 f6 f7 f8 f9 f10 f11 f12 f13 f14 f15 f16 f17 f18 f19 f20 f21 fL fN fP fM fO) := hD
  have hK : va_K (dC, dI) vwCl (mT kc) s := hK
  generalize hH : s.heap = H at hP ⊢
  have hS : va_S A s.heap H [] := by rw [← hH]; exact va_S.rf
  have hl := lv_entry ([.ref (ad 0), .int i1]) (n := 2) (Nat.le_of_ble_eq_true rfl)
  rw [lg_entry_eq]
  generalize (lg_sl ([.ref (ad 0), .int i1]) ++ List.replicate (2 - (lg_sl ([.ref (ad 0), .int i1])).length) Slot.unset).toArray = ls at hl ⊢
  have hl : lv_has ls 2 [(0, .ref (ad 0)), (1, .int i1)] := hl
  have rg_i1 := i_rng i1
  have hd := q0.d
  have hpi := q0.p
  have hq1 := q0.1
  have hq2 := q0.2.1
  have hq3 := q0.2.2.1
  have hd10 := hd.n0
  have hp8 := hd.P0
  refine lv_iload_n hx hb dX10_load_0 rfl (lv_at hl 1 rfl) ?_
  refine lv_iconst (v := 0) hx hb dX10_load_1 (by decide) ?_
  refine lv_aload_n hx hb dX10_load_2 rfl (lv_at hl 0 rfl) ?_
  refine va_get (D := (dC, dI)) (ci := 10) (v := .int x3) (C := RX10) (T := TX10) (N := 48) hx hb hts fin_X10_loadm_X10 hown hK hP 0 rfl rfl 6 (by decide) (hts (.fieldLink RX10 107 "PatternGateModel" "taped" "I") (List.mem_of_getElem? (i := 1) (by decide +kernel))) (fun _ h9 => h9) rfl dX10_load_3 ?_
  have lit_0 : (0 : Int32).toInt = 0 := by decide
  refine vp_callSi (W.runS (As := [.int i1, .int 0, .int x3]) (rest := []) ⟨hx, hb, hml, hown, hts⟩ (m_isFrom l dC dI  i1 0 x3 ) (va_cwS 3 hts mg_X10_loadm_X10_isFrom_200 rfl rfl rfl (by decide +kernel) ⟨Nat.le_of_ble_eq_true rfl, Nat.le_of_ble_eq_true rfl⟩) ⟨fun a U g mk q => ⟨q.1, trivial⟩, fun U hU hW => ⟨rfl, trivial⟩⟩ rfl rfl hl.1 rfl (lv_room (Nat.le_of_ble_eq_true rfl)) dX10_load_6 ⟨Nat.le_of_ble_eq_true rfl, Nat.le_of_ble_eq_true rfl⟩) (fun r_2 hr_2 => ?_)
  have rg_r_2 := i_rng r_2
  refine lv_if_ne (tgt := 18) hx hb dX10_load_9 (by decide) (fun k_3 => ?_) (fun k_3 => ?_)
  · have tk_3 := c_ne (a := r_2.toInt) (b := 0) rfl (by decide) k_3
    refine lv_aload_n hx hb dX10_load_18 rfl (lv_at hl 0 rfl) ?_
    refine lv_iload_n hx hb dX10_load_19 rfl (lv_at hl 1 rfl) ?_
    refine lv_iconst (v := 1) hx hb dX10_load_20 (by decide) ?_
    have lit_3 : (1 : Int32).toInt = 1 := by decide
    have hFc := m_free hD hS hA
    refine va_calli (va_runV (As := [.int i1, .int 1]) (rest := []) ⟨hx, hb, hml, hown, hts⟩ (m_reads l dC dI ad kc x0 x1 x2 x3 x4 x5 x6 x7 x8 x9 x10 x11 x12 x13 x14 x15 x16 x17 x18 x19 x20 x21 f0 f1 f2 f3 f4 f5 f6 f7 f8 f9 f10 f11 f12 f13 f14 f15 f16 f17 f18 f19 f20 f21 fL fN fP fM fO H.size i1 1 (by first | omega | assumption | decide | (have l0 := Int32.toInt_zero; omega)) (by first | omega | assumption | decide | (have l0 := Int32.toInt_zero; omega)) (by first | omega | assumption | decide | (have l0 := Int32.toInt_zero; omega))) (cwV 2 hts mg_X10_loadm_X10_reads_207 rfl rfl rfl (by decide +kernel) ⟨Nat.le_of_ble_eq_true rfl, Nat.le_of_ble_eq_true rfl⟩) ⟨fun a U g mk q => by obtain ⟨q0, q1, qP, qK, qD, qE0⟩ := q; exact ⟨q0, q1, qP, va_K.moved (u := U) (U := U.calling g mk a) (Vm.Alike.refl U.vm) qK, qD, sW.call qE0⟩, va_recv hK hP (ci := 10) (q0 := 0) rfl rfl, fun U hU hW => ⟨rfl, by rw [hU], by rw [hU]; exact hP, va_K.moved hW.alike hK, hD.weaken (fun _ _ _ _ => trivial), sW.to hSW hS hFc hW hU⟩⟩ rfl rfl hl.1 rfl (lv_room (Nat.le_of_ble_eq_true rfl)) dX10_load_21 ⟨Nat.le_of_ble_eq_true rfl, Nat.le_of_ble_eq_true rfl⟩) hS (fun q _ h => hFc q h) hFc (fun r_5 u t H1 locs ht hvm hw hB hz1 hk1 hS => ?_)
    subst hw
    obtain ⟨x_6, x_7, x_8, x_9, x_10, x_11, x_12, x_13, x_14, f_15, f_16, hr_5_0, hr_5_1, hr_5_2, hr_5_3, hP, hK1, hD1⟩ := hB
    rw [ht] at hP
    have hD := hD1.weaken (fun k q _ h => hFc q.1 h)
    clear hz1 hk1 hFc hD1 hK1 hvm
    generalize H1 = H at hP hS ⊢
    have rg_x_6 := i_rng x_6
    have rg_x_7 := i_rng x_7
    have rg_x_8 := i_rng x_8
    have rg_x_9 := i_rng x_9
    have rg_x_10 := i_rng x_10
    have rg_x_11 := i_rng x_11
    have rg_x_12 := i_rng x_12
    have rg_x_13 := i_rng x_13
    have rg_x_14 := i_rng x_14
    have rg_r_5 := i_rng r_5
    have hP : va_P (dC, dI) vwCl (mW ad kc x0 x1 x2 x_6 x_7 x_8 x_9 x_10 x_11 x_12 x_13 x_14 x12 x13 x14 x15 x16 x17 x18 x19 x20 x21 f_15 f1 f_16 f3 f4 f5 f6 f7 f8 f9 f10 f11 f12 f13 f14 f15 f16 f17 f18 f19 f20 f21 fL fN fP fM fO) H := hP
    have hD : va_D A (mW ad kc x0 x1 x2 x_6 x_7 x_8 x_9 x_10 x_11 x_12 x_13 x_14 x12 x13 x14 x15 x16 x17 x18 x19 x20 x21 f_15 f1 f_16 f3 f4 f5 f6 f7 f8 f9 f10 f11 f12 f13 f14 f15 f16 f17 f18 f19 f20 f21 fL fN fP fM fO) := hD
    have hdR := hr_5_0
    have hmR := hr_5_1
    refine lv_if_ne (tgt := 34) hx hb dX10_load_24 (by decide) (fun k_17 => ?_) (fun k_17 => ?_)
    · have tk_17 := c_ne (a := r_5.toInt) (b := 0) rfl (by decide) k_17
      refine lv_aload_n hx hb dX10_load_34 rfl (lv_at hl 0 rfl) ?_
      have hFc := m_free hD hS hA
      refine va_callv (va_runV (As := []) (rest := []) ⟨hx, hb, hml, hown, hts⟩ (m_acted l dC dI ad kc x0 x1 x2 x_6 x_7 x_8 x_9 x_10 x_11 x_12 x_13 x_14 x12 x13 x14 x15 x16 x17 x18 x19 x20 x21 f_15 f1 f_16 f3 f4 f5 f6 f7 f8 f9 f10 f11 f12 f13 f14 f15 f16 f17 f18 f19 f20 f21 fL fN fP fM fO H.size (by first | omega | assumption | decide | (have l0 := Int32.toInt_zero; omega)) (by first | omega | assumption | decide | (have l0 := Int32.toInt_zero; omega)) (by first | omega | assumption | decide | (have l0 := Int32.toInt_zero; omega)) (by first | omega | assumption | decide | (have l0 := Int32.toInt_zero; omega))) (cwV 0 hts mg_X10_loadm_X10_acted_211 rfl rfl rfl (by decide +kernel) ⟨Nat.le_of_ble_eq_true rfl, Nat.le_of_ble_eq_true rfl⟩) ⟨fun a U g mk q => by obtain ⟨q0, q1, qP, qK, qD⟩ := q; exact ⟨q0, q1, qP, va_K.moved (u := U) (U := U.calling g mk a) (Vm.Alike.refl U.vm) qK, qD⟩, va_recv hK hP (ci := 10) (q0 := 0) rfl rfl, fun U hU hW => ⟨rfl, by rw [hU], by rw [hU]; exact hP, va_K.moved hW.alike hK, hD.weaken (fun _ _ _ _ => trivial)⟩⟩ rfl rfl hl.1 rfl (lv_room (Nat.le_of_ble_eq_true rfl)) dX10_load_35 ⟨Nat.le_of_ble_eq_true rfl, Nat.le_of_ble_eq_true rfl⟩) hS (fun q _ h => hFc q h) hFc (fun u t H1 locs ht hvm hw hB hz1 hk1 hS => ?_)
      obtain ⟨x_19, f_20, hr_18_0, hr_18_1, hr_18_2, hP, hK1, hD1⟩ := hB
      rw [ht] at hP
      have hD := hD1.weaken (fun k q _ h => hFc q.1 h)
      clear hz1 hk1 hFc hD1 hK1 hvm
      generalize H1 = H at hP hS ⊢
      have rg_x_19 := i_rng x_19
      have hP : va_P (dC, dI) vwCl (mW ad kc x0 x_19 x2 x_6 x_7 x_8 x_9 x_10 x_11 x_12 x_13 x_14 x12 x13 x14 x15 x16 x17 x18 x19 x20 x21 f_20 f1 f_16 f3 f4 f5 f6 f7 f8 f9 f10 f11 f12 f13 f14 f15 f16 f17 f18 f19 f20 f21 fL fN fP fM fO) H := hP
      have hD : va_D A (mW ad kc x0 x_19 x2 x_6 x_7 x_8 x_9 x_10 x_11 x_12 x_13 x_14 x12 x13 x14 x15 x16 x17 x18 x19 x20 x21 f_20 f1 f_16 f3 f4 f5 f6 f7 f8 f9 f10 f11 f12 f13 f14 f15 f16 f17 f18 f19 f20 f21 fL fN fP fM fO) := hD
      refine lv_aload_n hx hb dX10_load_38 rfl (lv_at hl 0 rfl) ?_
      refine lv_aload_n hx hb dX10_load_39 rfl (lv_at hl 0 rfl) ?_
      refine va_get (D := (dC, dI)) (ci := 10) (v := .ref (ad 1)) (C := RX10) (T := TX10) (N := 48) hx hb hts fin_X10_loadm_X10 hown hK hP 0 rfl rfl 0 (by decide) (hts (.fieldLink RX10 8 "PatternGateModel" "all" "[I") (List.mem_of_getElem? (i := 11) (by decide +kernel))) (fun _ h9 => h9) rfl dX10_load_40 ?_
      refine lv_iconst (v := 0) hx hb dX10_load_43 (by decide) ?_
      refine va_iald hx hb hK hP 1 0 rfl rfl (i := 0) (by unfold vp_in; decide +kernel) dX10_load_44 ?_
      refine lv_topi (fun y_21 ey_21 => ?_)
      have rg_y_21 := i_rng y_21
      have vy_21 := vI_lda (f := f_20) (i := 0) (a := 0) ey_21 (by first | omega | decide)
      have rg_y_21 := i_rng y_21
      have hFc := m_free hD hS hA
      refine va_calli (va_runV (As := [.int y_21]) (rest := []) ⟨hx, hb, hml, hown, hts⟩ (m_gives l dC dI ad kc x0 x_19 x2 x_6 x_7 x_8 x_9 x_10 x_11 x_12 x_13 x_14 x12 x13 x14 x15 x16 x17 x18 x19 x20 x21 f_20 f1 f_16 f3 f4 f5 f6 f7 f8 f9 f10 f11 f12 f13 f14 f15 f16 f17 f18 f19 f20 f21 fL fN fP fM fO H.size y_21 ) (cwV 1 hts mg_X10_loadm_X10_gives_214 rfl rfl rfl (by decide +kernel) ⟨Nat.le_of_ble_eq_true rfl, Nat.le_of_ble_eq_true rfl⟩) ⟨fun a U g mk q => by obtain ⟨q0, q1, qP, qK, qD⟩ := q; exact ⟨q0, q1, qP, va_K.moved (u := U) (U := U.calling g mk a) (Vm.Alike.refl U.vm) qK, qD⟩, va_recv hK hP (ci := 10) (q0 := 0) rfl rfl, fun U hU hW => ⟨rfl, by rw [hU], by rw [hU]; exact hP, va_K.moved hW.alike hK, hD.weaken (fun _ _ _ _ => trivial)⟩⟩ rfl rfl hl.1 rfl (lv_room (Nat.le_of_ble_eq_true rfl)) dX10_load_45 ⟨Nat.le_of_ble_eq_true rfl, Nat.le_of_ble_eq_true rfl⟩) hS (fun q _ h => hFc q h) hFc (fun r_22 u t H1 locs ht hvm hw hB hz1 hk1 hS => ?_)
      subst hw
      obtain ⟨hr_22_0, hP, hK1, hD1⟩ := hB
      rw [ht] at hP
      have hD := hD1.weaken (fun k q _ h => hFc q.1 h)
      clear hz1 hk1 hFc hD1 hK1 hvm
      generalize H1 = H at hP hS ⊢
      have rg_r_22 := i_rng r_22
      have hP : va_P (dC, dI) vwCl (mW ad kc 0 x_19 x2 x_6 x_7 x_8 x_9 x_10 x_11 x_12 x_13 x_14 x12 x13 x14 x15 x16 x17 x18 x19 x20 x21 f_20 f1 f_16 f3 f4 f5 f6 f7 f8 f9 f10 f11 f12 f13 f14 f15 f16 f17 f18 f19 f20 f21 fL fN fP fM fO) H := hP
      have hD : va_D A (mW ad kc 0 x_19 x2 x_6 x_7 x_8 x_9 x_10 x_11 x_12 x_13 x_14 x12 x13 x14 x15 x16 x17 x18 x19 x20 x21 f_20 f1 f_16 f3 f4 f5 f6 f7 f8 f9 f10 f11 f12 f13 f14 f15 f16 f17 f18 f19 f20 f21 fL fN fP fM fO) := hD
      have lit_22 : (0 : Int32).toInt = 0 := by decide
      exact W.iret hx hb hr (fun t ht hW => ⟨⟨_, _, rfl, rfl, 0, x_19, x_6, x_7, x_8, x_9, x_10, x_11, x_12, x_13, x_14, f_20, f_16, (mC.mI hr_18_1 hr_18_0 (by have h9 := hr_18_2; omega) hq2 (by omega) hpi), (by first | omega | assumption | rfl | decide), by rw [ht]; exact hP, va_K.moved hW.alike hK, hD⟩, hS.F ht⟩) hS.2.2 dX10_load_48
    · have tk_17 := c_eq (a := r_5.toInt) (b := 0) rfl (by decide) k_17
      refine lv_aload_n hx hb dX10_load_27 rfl (lv_at hl 0 rfl) ?_
      refine lv_bipush (v := 9) hx hb dX10_load_28 (by decide) ?_
      have lit_23 : (9 : Int32).toInt = 9 := by decide
      have hFc := m_free hD hS hA
      refine va_calli (va_runV (As := [.int 9]) (rest := []) ⟨hx, hb, hml, hown, hts⟩ (m_refuse l dC dI ad kc x0 x1 x2 x_6 x_7 x_8 x_9 x_10 x_11 x_12 x_13 x_14 x12 x13 x14 x15 x16 x17 x18 x19 x20 x21 f_15 f1 f_16 f3 f4 f5 f6 f7 f8 f9 f10 f11 f12 f13 f14 f15 f16 f17 f18 f19 f20 f21 fL fN fP fM fO H.size 9 ) (cwV 1 hts mg_X10_loadm_X10_refuse_204 rfl rfl rfl (by decide +kernel) ⟨Nat.le_of_ble_eq_true rfl, Nat.le_of_ble_eq_true rfl⟩) ⟨fun a U g mk q => by obtain ⟨q0, q1, qP, qK, qD⟩ := q; exact ⟨q0, q1, qP, va_K.moved (u := U) (U := U.calling g mk a) (Vm.Alike.refl U.vm) qK, qD⟩, va_recv hK hP (ci := 10) (q0 := 0) rfl rfl, fun U hU hW => ⟨rfl, by rw [hU], by rw [hU]; exact hP, va_K.moved hW.alike hK, hD.weaken (fun _ _ _ _ => trivial)⟩⟩ rfl rfl hl.1 rfl (lv_room (Nat.le_of_ble_eq_true rfl)) dX10_load_30 ⟨Nat.le_of_ble_eq_true rfl, Nat.le_of_ble_eq_true rfl⟩) hS (fun q _ h => hFc q h) hFc (fun r_25 u t H1 locs ht hvm hw hB hz1 hk1 hS => ?_)
      subst hw
      obtain ⟨hr_25_0, hP, hK1, hD1⟩ := hB
      rw [ht] at hP
      have hD := hD1.weaken (fun k q _ h => hFc q.1 h)
      clear hz1 hk1 hFc hD1 hK1 hvm
      generalize H1 = H at hP hS ⊢
      have rg_r_25 := i_rng r_25
      have hP : va_P (dC, dI) vwCl (mW ad kc 9 x1 x2 x_6 x_7 x_8 x_9 x_10 x_11 x_12 x_13 x_14 x12 x13 x14 x15 x16 x17 x18 x19 x20 x21 f_15 f1 f_16 f3 f4 f5 f6 f7 f8 f9 f10 f11 f12 f13 f14 f15 f16 f17 f18 f19 f20 f21 fL fN fP fM fO) H := hP
      have hD : va_D A (mW ad kc 9 x1 x2 x_6 x_7 x_8 x_9 x_10 x_11 x_12 x_13 x_14 x12 x13 x14 x15 x16 x17 x18 x19 x20 x21 f_15 f1 f_16 f3 f4 f5 f6 f7 f8 f9 f10 f11 f12 f13 f14 f15 f16 f17 f18 f19 f20 f21 fL fN fP fM fO) := hD
      have lit_25 : (9 : Int32).toInt = 9 := by decide
      exact W.iret hx hb hr (fun t ht hW => ⟨⟨_, _, rfl, rfl, 9, x1, x_6, x_7, x_8, x_9, x_10, x_11, x_12, x_13, x_14, f_15, f_16, (mC.mI hmR hdR hq1 hq2 (by omega) hpi), (by first | omega | assumption | rfl | decide), by rw [ht]; exact hP, va_K.moved hW.alike hK, hD⟩, hS.F ht⟩) hS.2.2 dX10_load_33
  · have tk_3 := c_eq (a := r_2.toInt) (b := 0) rfl (by decide) k_3
    refine lv_aload_n hx hb dX10_load_12 rfl (lv_at hl 0 rfl) ?_
    refine lv_iconst (v := 1) hx hb dX10_load_13 (by decide) ?_
    have lit_26 : (1 : Int32).toInt = 1 := by decide
    have hFc := m_free hD hS hA
    refine va_calli (va_runV (As := [.int 1]) (rest := []) ⟨hx, hb, hml, hown, hts⟩ (m_refuse l dC dI ad kc x0 x1 x2 x3 x4 x5 x6 x7 x8 x9 x10 x11 x12 x13 x14 x15 x16 x17 x18 x19 x20 x21 f0 f1 f2 f3 f4 f5 f6 f7 f8 f9 f10 f11 f12 f13 f14 f15 f16 f17 f18 f19 f20 f21 fL fN fP fM fO H.size 1 ) (cwV 1 hts mg_X10_loadm_X10_refuse_204 rfl rfl rfl (by decide +kernel) ⟨Nat.le_of_ble_eq_true rfl, Nat.le_of_ble_eq_true rfl⟩) ⟨fun a U g mk q => by obtain ⟨q0, q1, qP, qK, qD⟩ := q; exact ⟨q0, q1, qP, va_K.moved (u := U) (U := U.calling g mk a) (Vm.Alike.refl U.vm) qK, qD⟩, va_recv hK hP (ci := 10) (q0 := 0) rfl rfl, fun U hU hW => ⟨rfl, by rw [hU], by rw [hU]; exact hP, va_K.moved hW.alike hK, hD.weaken (fun _ _ _ _ => trivial)⟩⟩ rfl rfl hl.1 rfl (lv_room (Nat.le_of_ble_eq_true rfl)) dX10_load_14 ⟨Nat.le_of_ble_eq_true rfl, Nat.le_of_ble_eq_true rfl⟩) hS (fun q _ h => hFc q h) hFc (fun r_28 u t H1 locs ht hvm hw hB hz1 hk1 hS => ?_)
    subst hw
    obtain ⟨hr_28_0, hP, hK1, hD1⟩ := hB
    rw [ht] at hP
    have hD := hD1.weaken (fun k q _ h => hFc q.1 h)
    clear hz1 hk1 hFc hD1 hK1 hvm
    generalize H1 = H at hP hS ⊢
    have rg_r_28 := i_rng r_28
    have hP : va_P (dC, dI) vwCl (mW ad kc 1 x1 x2 x3 x4 x5 x6 x7 x8 x9 x10 x11 x12 x13 x14 x15 x16 x17 x18 x19 x20 x21 f0 f1 f2 f3 f4 f5 f6 f7 f8 f9 f10 f11 f12 f13 f14 f15 f16 f17 f18 f19 f20 f21 fL fN fP fM fO) H := hP
    have hD : va_D A (mW ad kc 1 x1 x2 x3 x4 x5 x6 x7 x8 x9 x10 x11 x12 x13 x14 x15 x16 x17 x18 x19 x20 x21 f0 f1 f2 f3 f4 f5 f6 f7 f8 f9 f10 f11 f12 f13 f14 f15 f16 f17 f18 f19 f20 f21 fL fN fP fM fO) := hD
    have lit_28 : (1 : Int32).toInt = 1 := by decide
    exact W.iret hx hb hr (fun t ht hW => ⟨⟨_, _, rfl, rfl, 1, x1, x3, x4, x5, x6, x7, x8, x9, x10, x11, f0, f2, q0, (by first | omega | assumption | rfl | decide), by rw [ht]; exact hP, va_K.moved hW.alike hK, hD⟩, hS.F ht⟩) hS.2.2 dX10_load_17
theorem dX10_more_0 : decode cX10_more 0 = .ok (.iload_n 1, 1) := by decide +kernel
theorem dX10_more_1 : decode cX10_more 1 = .ok (.iconst 0, 1) := by decide +kernel
theorem dX10_more_2 : decode cX10_more 2 = .ok (.aload_n 0, 1) := by decide +kernel
theorem dX10_more_3 : decode cX10_more 3 = .ok (.getfield 107, 3) := by decide +kernel
theorem dX10_more_6 : decode cX10_more 6 = .ok (.invokestatic 200, 3) := by decide +kernel
theorem dX10_more_9 : decode cX10_more 9 = .ok (.ifCond .ne 9, 3) := by decide +kernel
theorem dX10_more_12 : decode cX10_more 12 = .ok (.aload_n 0, 1) := by decide +kernel
theorem dX10_more_13 : decode cX10_more 13 = .ok (.iconst 1, 1) := by decide +kernel
theorem dX10_more_14 : decode cX10_more 14 = .ok (.invokevirtual 204, 3) := by decide +kernel
theorem dX10_more_17 : decode cX10_more 17 = .ok (.ireturn, 1) := by decide +kernel
theorem dX10_more_18 : decode cX10_more 18 = .ok (.aload_n 0, 1) := by decide +kernel
theorem dX10_more_19 : decode cX10_more 19 = .ok (.iload_n 1, 1) := by decide +kernel
theorem dX10_more_20 : decode cX10_more 20 = .ok (.iconst 0, 1) := by decide +kernel
theorem dX10_more_21 : decode cX10_more 21 = .ok (.invokevirtual 207, 3) := by decide +kernel
theorem dX10_more_24 : decode cX10_more 24 = .ok (.ifCond .ne 10, 3) := by decide +kernel
theorem dX10_more_27 : decode cX10_more 27 = .ok (.aload_n 0, 1) := by decide +kernel
theorem dX10_more_28 : decode cX10_more 28 = .ok (.bipush 9, 2) := by decide +kernel
theorem dX10_more_30 : decode cX10_more 30 = .ok (.invokevirtual 204, 3) := by decide +kernel
theorem dX10_more_33 : decode cX10_more 33 = .ok (.ireturn, 1) := by decide +kernel
theorem dX10_more_34 : decode cX10_more 34 = .ok (.aload_n 0, 1) := by decide +kernel
theorem dX10_more_35 : decode cX10_more 35 = .ok (.invokevirtual 211, 3) := by decide +kernel
theorem dX10_more_38 : decode cX10_more 38 = .ok (.aload_n 0, 1) := by decide +kernel
theorem dX10_more_39 : decode cX10_more 39 = .ok (.aload_n 0, 1) := by decide +kernel
theorem dX10_more_40 : decode cX10_more 40 = .ok (.getfield 8, 3) := by decide +kernel
theorem dX10_more_43 : decode cX10_more 43 = .ok (.iconst 0, 1) := by decide +kernel
theorem dX10_more_44 : decode cX10_more 44 = .ok (.iaload, 1) := by decide +kernel
theorem dX10_more_45 : decode cX10_more 45 = .ok (.aload_n 0, 1) := by decide +kernel
theorem dX10_more_46 : decode cX10_more 46 = .ok (.getfield 8, 3) := by decide +kernel
theorem dX10_more_49 : decode cX10_more 49 = .ok (.sipush 611, 3) := by decide +kernel
theorem dX10_more_52 : decode cX10_more 52 = .ok (.iaload, 1) := by decide +kernel
theorem dX10_more_53 : decode cX10_more 53 = .ok (.iadd, 1) := by decide +kernel
theorem dX10_more_54 : decode cX10_more 54 = .ok (.aload_n 0, 1) := by decide +kernel
theorem dX10_more_55 : decode cX10_more 55 = .ok (.getfield 8, 3) := by decide +kernel
theorem dX10_more_58 : decode cX10_more 58 = .ok (.sipush 7820, 3) := by decide +kernel
theorem dX10_more_61 : decode cX10_more 61 = .ok (.iaload, 1) := by decide +kernel
theorem dX10_more_62 : decode cX10_more 62 = .ok (.isub, 1) := by decide +kernel
theorem dX10_more_63 : decode cX10_more 63 = .ok (.aload_n 0, 1) := by decide +kernel
theorem dX10_more_64 : decode cX10_more 64 = .ok (.getfield 8, 3) := by decide +kernel
theorem dX10_more_67 : decode cX10_more 67 = .ok (.sipush 8431, 3) := by decide +kernel
theorem dX10_more_70 : decode cX10_more 70 = .ok (.iaload, 1) := by decide +kernel
theorem dX10_more_71 : decode cX10_more 71 = .ok (.isub, 1) := by decide +kernel
theorem dX10_more_72 : decode cX10_more 72 = .ok (.invokevirtual 214, 3) := by decide +kernel
theorem dX10_more_75 : decode cX10_more 75 = .ok (.ireturn, 1) := by decide +kernel
def mwX10_morem : List Cond := .code yX10_more cX10_more 2 (some .int) :: (([.fieldLink RX10 107 "PatternGateModel" "taped" "I", .methodLink RX10 200 yX10_isFrom, .static yX10_isFrom, .initialized RX10, .methodLink RX10 207 yX10_reads, .instanceMethod yX10_reads, .selects RX10 yX10_reads yX10_reads, .methodLink RX10 211 yX10_acted, .instanceMethod yX10_acted, .selects RX10 yX10_acted yX10_acted, .fieldLink RX10 8 "PatternGateModel" "all" "[I", .methodLink RX10 214 yX10_gives, .instanceMethod yX10_gives, .selects RX10 yX10_gives yX10_gives, .methodLink RX10 204 yX10_refuse, .instanceMethod yX10_refuse, .selects RX10 yX10_refuse yX10_refuse] : List Cond) ++ (wsX100 ++ (mwX10_isFromm ++ (mwX10_readsm ++ (mwX10_actedm ++ (mwX10_givesm ++ (mwX10_refusem)))))))
theorem fin_X10_morem_X10 : ∀ w ∈ wsX100, w ∈ mwX10_morem := fun w h => List.mem_cons_of_mem _ (List.mem_append_right _ (List.mem_append_left _ h))
set_option maxRecDepth 20000 in
theorem mg_X10_morem_X10_isFrom_200 : GoodIn mwX10_morem (va_wsS RX10 200 yX10_isFrom mwX10_isFromm) := gi_app (A := [.methodLink RX10 200 yX10_isFrom, .static yX10_isFrom, .initialized RX10]) (goodIn_r _ [2, 3, 4] (by decide +kernel) (by decide +kernel)) (gi_sub gd_mwX10_isFromm (fun w h => List.mem_cons_of_mem _ (List.mem_append_right _ (List.mem_append_right _ (List.mem_append_left _ h)))))
set_option maxRecDepth 20000 in
theorem mg_X10_morem_X10_reads_207 : GoodIn mwX10_morem (wsV RX10 207 RX10 yX10_reads mwX10_readsm) := gi_app (A := [.methodLink RX10 207 yX10_reads, .instanceMethod yX10_reads, .selects RX10 yX10_reads yX10_reads, .initialized RX10]) (goodIn_r _ [5, 6, 7, 4] (by decide +kernel) (by decide +kernel)) (gi_sub gd_mwX10_readsm (fun w h => List.mem_cons_of_mem _ (List.mem_append_right _ (List.mem_append_right _ (List.mem_append_right _ (List.mem_append_left _ h))))))
set_option maxRecDepth 20000 in
theorem mg_X10_morem_X10_acted_211 : GoodIn mwX10_morem (wsV RX10 211 RX10 yX10_acted mwX10_actedm) := gi_app (A := [.methodLink RX10 211 yX10_acted, .instanceMethod yX10_acted, .selects RX10 yX10_acted yX10_acted, .initialized RX10]) (goodIn_r _ [8, 9, 10, 4] (by decide +kernel) (by decide +kernel)) (gi_sub gd_mwX10_actedm (fun w h => List.mem_cons_of_mem _ (List.mem_append_right _ (List.mem_append_right _ (List.mem_append_right _ (List.mem_append_right _ (List.mem_append_left _ h)))))))
set_option maxRecDepth 20000 in
theorem mg_X10_morem_X10_gives_214 : GoodIn mwX10_morem (wsV RX10 214 RX10 yX10_gives mwX10_givesm) := gi_app (A := [.methodLink RX10 214 yX10_gives, .instanceMethod yX10_gives, .selects RX10 yX10_gives yX10_gives, .initialized RX10]) (goodIn_r _ [12, 13, 14, 4] (by decide +kernel) (by decide +kernel)) (gi_sub gd_mwX10_givesm (fun w h => List.mem_cons_of_mem _ (List.mem_append_right _ (List.mem_append_right _ (List.mem_append_right _ (List.mem_append_right _ (List.mem_append_right _ (List.mem_append_left _ h))))))))
set_option maxRecDepth 20000 in
theorem mg_X10_morem_X10_refuse_204 : GoodIn mwX10_morem (wsV RX10 204 RX10 yX10_refuse mwX10_refusem) := gi_app (A := [.methodLink RX10 204 yX10_refuse, .instanceMethod yX10_refuse, .selects RX10 yX10_refuse yX10_refuse, .initialized RX10]) (goodIn_r _ [15, 16, 17, 4] (by decide +kernel) (by decide +kernel)) (gi_sub gd_mwX10_refusem (fun w h => List.mem_cons_of_mem _ (List.mem_append_right _ (List.mem_append_right _ (List.mem_append_right _ (List.mem_append_right _ (List.mem_append_right _ (List.mem_append_right _ (h)))))))))
set_option maxHeartbeats 4000000 in
set_option maxRecDepth 100000 in
theorem m_more (l : Launch) (dC : Nat → ClassId) (dI : Nat → Nat → Nat) (ad : Nat → Nat) (kc : Nat → ClassId) (x0 x1 x2 x3 x4 x5 x6 x7 x8 x9 x10 x11 x12 x13 x14 x15 x16 x17 x18 x19 x20 x21 : Int32) (f0 f1 f2 f3 f4 f5 f6 f7 f8 f9 f10 f11 f12 f13 f14 f15 f16 f17 f18 f19 f20 f21 : Nat → Int32) (fL : Nat → Nat → Int64) (fN : Nat → Nat → Int32) (fP : Nat → Nat → Nat) (fM : Nat → Nat → Int32) (fO : Nat → Nat → Int32) (sz : Nat) (i1 : Int32) (q0 : mI x1.toInt x2.toInt x3.toInt f0 fP) : Met l yX10_more mwX10_morem ({ frames := 24, cells := 0, slots := 0, locals := 1440 }) (va_Pc [.ref (ad 0), .int i1] (fun U => U.heap.size = sz ∧ va_P (dC, dI) vwCl (mW ad kc x0 x1 x2 x3 x4 x5 x6 x7 x8 x9 x10 x11 x12 x13 x14 x15 x16 x17 x18 x19 x20 x21 f0 f1 f2 f3 f4 f5 f6 f7 f8 f9 f10 f11 f12 f13 f14 f15 f16 f17 f18 f19 f20 f21 fL fN fP fM fO) U.heap ∧ va_K (dC, dI) vwCl (mT kc) U ∧ va_D (fun _ => True) (mW ad kc x0 x1 x2 x3 x4 x5 x6 x7 x8 x9 x10 x11 x12 x13 x14 x15 x16 x17 x18 x19 x20 x21 f0 f1 f2 f3 f4 f5 f6 f7 f8 f9 f10 f11 f12 f13 f14 f15 f16 f17 f18 f19 f20 f21 fL fN fP fM fO) ∧ sW (va_A (mW ad kc x0 x1 x2 x3 x4 x5 x6 x7 x8 x9 x10 x11 x12 x13 x14 x15 x16 x17 x18 x19 x20 x21 f0 f1 f2 f3 f4 f5 f6 f7 f8 f9 f10 f11 f12 f13 f14 f15 f16 f17 f18 f19 f20 f21 fL fN fP fM fO) sz) U U.heap)) (va_Qi (fun (o9 u9 : Int32) => o9 = u9) (fun (o9 : Int32) t => ∃ (y0 y1 y3 y4 y5 y6 y7 y8 y9 y10 y11 : Int32) (g0 g2 : Nat → Int32), (mI y1.toInt x2.toInt y3.toInt g0 fP) ∧ ((0 ≤ i1.toInt ∧ i1.toInt ≤ x3.toInt ∧ y3.toInt = 0) ∨ ((i1.toInt < 0 ∨ x3.toInt < i1.toInt) ∧ y3.toInt = x3.toInt)) ∧ va_P (dC, dI) vwCl (mW ad kc y0 y1 x2 y3 y4 y5 y6 y7 y8 y9 y10 y11 x12 x13 x14 x15 x16 x17 x18 x19 x20 x21 g0 f1 g2 f3 f4 f5 f6 f7 f8 f9 f10 f11 f12 f13 f14 f15 f16 f17 f18 f19 f20 f21 fL fN fP fM fO) t.heap ∧ va_K (dC, dI) vwCl (mT kc) t ∧ va_D (va_A (mW ad kc x0 x1 x2 x3 x4 x5 x6 x7 x8 x9 x10 x11 x12 x13 x14 x15 x16 x17 x18 x19 x20 x21 f0 f1 f2 f3 f4 f5 f6 f7 f8 f9 f10 f11 f12 f13 f14 f15 f16 f17 f18 f19 f20 f21 fL fN fP fM fO) sz) (mW ad kc y0 y1 x2 y3 y4 y5 y6 y7 y8 y9 y10 y11 x12 x13 x14 x15 x16 x17 x18 x19 x20 x21 g0 f1 g2 f3 f4 f5 f6 f7 f8 f9 f10 f11 f12 f13 f14 f15 f16 f17 f18 f19 f20 f21 fL fN fP fM fO)) (va_A (mW ad kc x0 x1 x2 x3 x4 x5 x6 x7 x8 x9 x10 x11 x12 x13 x14 x15 x16 x17 x18 x19 x20 x21 f0 f1 f2 f3 f4 f5 f6 f7 f8 f9 f10 f11 f12 f13 f14 f15 f16 f17 f18 f19 f20 f21 fL fN fP fM fO) sz)) 0 0 (va_A (mW ad kc x0 x1 x2 x3 x4 x5 x6 x7 x8 x9 x10 x11 x12 x13 x14 x15 x16 x17 x18 x19 x20 x21 f0 f1 f2 f3 f4 f5 f6 f7 f8 f9 f10 f11 f12 f13 f14 f15 f16 f17 f18 f19 f20 f21 fL fN fP fM fO) sz) := by
  refine Met.ofW (cc := cX10_more) (maxL := 2) (ret := (some .int)) (by decide +kernel) rfl ?_
  intro p e s m args below meth c s₁ B hml hv
  obtain ⟨rfl, hsz, hP, hK, hD0, hSW⟩ := hv
  have hx := B.exec
  have hb := B.bytes
  have hr := B.returns
  have hts := atoms_spec (ws := mwX10_morem) B.pre
  have hown : s.vm.findClass RX10 = some m.cls := findClass_of_methodNamed B.named
  have hlocks := B.notSynchronized
  subst hsz
  have hD := hD0.self (sz := s.heap.size)
  generalize hAe : va_A (mW ad kc x0 x1 x2 x3 x4 x5 x6 x7 x8 x9 x10 x11 x12 x13 x14 x15 x16 x17 x18 x19 x20 x21 f0 f1 f2 f3 f4 f5 f6 f7 f8 f9 f10 f11 f12 f13 f14 f15 f16 f17 f18 f19 f20 f21 fL fN fP fM fO) s.heap.size = A at hD hSW ⊢
  have hA : ∀ q : Nat, s.heap.size ≤ q → A q := fun q h => by rw [← hAe]; exact Or.inr h
  have hP : va_P (dC, dI) vwCl (mW ad kc x0 x1 x2 x3 x4 x5 x6 x7 x8 x9 x10 x11 x12 x13 x14 x15 x16 x17 x18 x19 x20 x21 f0 f1 f2 f3 f4 f5 f6 f7 f8 f9 f10 f11 f12 f13 f14 f15 f16 f17 f18 f19 f20 f21 fL fN fP fM fO) s.heap := hP
  have hD : va_D A (mW ad kc x0 x1 x2 x3 x4 x5 x6 x7 x8 x9 x10 x11 x12 x13 x14 x15 x16 x17 x18 x19 x20 x21 f0 f1 f2 f3 f4 f5 f6 f7 f8 f9 f10 f11 f12 f13 f14 f15 f16 f17 f18 f19 f20 f21 fL fN fP fM fO) := hD
  have hK : va_K (dC, dI) vwCl (mT kc) s := hK
  generalize hH : s.heap = H at hP ⊢
  have hS : va_S A s.heap H [] := by rw [← hH]; exact va_S.rf
  have hl := lv_entry ([.ref (ad 0), .int i1]) (n := 2) (Nat.le_of_ble_eq_true rfl)
  rw [lg_entry_eq]
  generalize (lg_sl ([.ref (ad 0), .int i1]) ++ List.replicate (2 - (lg_sl ([.ref (ad 0), .int i1])).length) Slot.unset).toArray = ls at hl ⊢
  have hl : lv_has ls 2 [(0, .ref (ad 0)), (1, .int i1)] := hl
  have rg_i1 := i_rng i1
  have hd := q0.d
  have hpi := q0.p
  have hq1 := q0.1
  have hq2 := q0.2.1
  have hq3 := q0.2.2.1
  have hd10 := hd.n0
  have hp8 := hd.P0
  refine lv_iload_n hx hb dX10_more_0 rfl (lv_at hl 1 rfl) ?_
  refine lv_iconst (v := 0) hx hb dX10_more_1 (by decide) ?_
  refine lv_aload_n hx hb dX10_more_2 rfl (lv_at hl 0 rfl) ?_
  refine va_get (D := (dC, dI)) (ci := 10) (v := .int x3) (C := RX10) (T := TX10) (N := 48) hx hb hts fin_X10_morem_X10 hown hK hP 0 rfl rfl 6 (by decide) (hts (.fieldLink RX10 107 "PatternGateModel" "taped" "I") (List.mem_of_getElem? (i := 1) (by decide +kernel))) (fun _ h9 => h9) rfl dX10_more_3 ?_
  have lit_0 : (0 : Int32).toInt = 0 := by decide
  refine vp_callSi (W.runS (As := [.int i1, .int 0, .int x3]) (rest := []) ⟨hx, hb, hml, hown, hts⟩ (m_isFrom l dC dI  i1 0 x3 ) (va_cwS 3 hts mg_X10_morem_X10_isFrom_200 rfl rfl rfl (by decide +kernel) ⟨Nat.le_of_ble_eq_true rfl, Nat.le_of_ble_eq_true rfl⟩) ⟨fun a U g mk q => ⟨q.1, trivial⟩, fun U hU hW => ⟨rfl, trivial⟩⟩ rfl rfl hl.1 rfl (lv_room (Nat.le_of_ble_eq_true rfl)) dX10_more_6 ⟨Nat.le_of_ble_eq_true rfl, Nat.le_of_ble_eq_true rfl⟩) (fun r_2 hr_2 => ?_)
  have rg_r_2 := i_rng r_2
  refine lv_if_ne (tgt := 18) hx hb dX10_more_9 (by decide) (fun k_3 => ?_) (fun k_3 => ?_)
  · have tk_3 := c_ne (a := r_2.toInt) (b := 0) rfl (by decide) k_3
    refine lv_aload_n hx hb dX10_more_18 rfl (lv_at hl 0 rfl) ?_
    refine lv_iload_n hx hb dX10_more_19 rfl (lv_at hl 1 rfl) ?_
    refine lv_iconst (v := 0) hx hb dX10_more_20 (by decide) ?_
    have lit_3 : (0 : Int32).toInt = 0 := by decide
    have hFc := m_free hD hS hA
    refine va_calli (va_runV (As := [.int i1, .int 0]) (rest := []) ⟨hx, hb, hml, hown, hts⟩ (m_reads l dC dI ad kc x0 x1 x2 x3 x4 x5 x6 x7 x8 x9 x10 x11 x12 x13 x14 x15 x16 x17 x18 x19 x20 x21 f0 f1 f2 f3 f4 f5 f6 f7 f8 f9 f10 f11 f12 f13 f14 f15 f16 f17 f18 f19 f20 f21 fL fN fP fM fO H.size i1 0 (by first | omega | assumption | decide | (have l0 := Int32.toInt_zero; omega)) (by first | omega | assumption | decide | (have l0 := Int32.toInt_zero; omega)) (by first | omega | assumption | decide | (have l0 := Int32.toInt_zero; omega))) (cwV 2 hts mg_X10_morem_X10_reads_207 rfl rfl rfl (by decide +kernel) ⟨Nat.le_of_ble_eq_true rfl, Nat.le_of_ble_eq_true rfl⟩) ⟨fun a U g mk q => by obtain ⟨q0, q1, qP, qK, qD, qE0⟩ := q; exact ⟨q0, q1, qP, va_K.moved (u := U) (U := U.calling g mk a) (Vm.Alike.refl U.vm) qK, qD, sW.call qE0⟩, va_recv hK hP (ci := 10) (q0 := 0) rfl rfl, fun U hU hW => ⟨rfl, by rw [hU], by rw [hU]; exact hP, va_K.moved hW.alike hK, hD.weaken (fun _ _ _ _ => trivial), sW.to hSW hS hFc hW hU⟩⟩ rfl rfl hl.1 rfl (lv_room (Nat.le_of_ble_eq_true rfl)) dX10_more_21 ⟨Nat.le_of_ble_eq_true rfl, Nat.le_of_ble_eq_true rfl⟩) hS (fun q _ h => hFc q h) hFc (fun r_5 u t H1 locs ht hvm hw hB hz1 hk1 hS => ?_)
    subst hw
    obtain ⟨x_6, x_7, x_8, x_9, x_10, x_11, x_12, x_13, x_14, f_15, f_16, hr_5_0, hr_5_1, hr_5_2, hr_5_3, hP, hK1, hD1⟩ := hB
    rw [ht] at hP
    have hD := hD1.weaken (fun k q _ h => hFc q.1 h)
    clear hz1 hk1 hFc hD1 hK1 hvm
    generalize H1 = H at hP hS ⊢
    have rg_x_6 := i_rng x_6
    have rg_x_7 := i_rng x_7
    have rg_x_8 := i_rng x_8
    have rg_x_9 := i_rng x_9
    have rg_x_10 := i_rng x_10
    have rg_x_11 := i_rng x_11
    have rg_x_12 := i_rng x_12
    have rg_x_13 := i_rng x_13
    have rg_x_14 := i_rng x_14
    have rg_r_5 := i_rng r_5
    have hP : va_P (dC, dI) vwCl (mW ad kc x0 x1 x2 x_6 x_7 x_8 x_9 x_10 x_11 x_12 x_13 x_14 x12 x13 x14 x15 x16 x17 x18 x19 x20 x21 f_15 f1 f_16 f3 f4 f5 f6 f7 f8 f9 f10 f11 f12 f13 f14 f15 f16 f17 f18 f19 f20 f21 fL fN fP fM fO) H := hP
    have hD : va_D A (mW ad kc x0 x1 x2 x_6 x_7 x_8 x_9 x_10 x_11 x_12 x_13 x_14 x12 x13 x14 x15 x16 x17 x18 x19 x20 x21 f_15 f1 f_16 f3 f4 f5 f6 f7 f8 f9 f10 f11 f12 f13 f14 f15 f16 f17 f18 f19 f20 f21 fL fN fP fM fO) := hD
    have hdR := hr_5_0
    have hmR := hr_5_1
    refine lv_if_ne (tgt := 34) hx hb dX10_more_24 (by decide) (fun k_17 => ?_) (fun k_17 => ?_)
    · have tk_17 := c_ne (a := r_5.toInt) (b := 0) rfl (by decide) k_17
      refine lv_aload_n hx hb dX10_more_34 rfl (lv_at hl 0 rfl) ?_
      have hFc := m_free hD hS hA
      refine va_callv (va_runV (As := []) (rest := []) ⟨hx, hb, hml, hown, hts⟩ (m_acted l dC dI ad kc x0 x1 x2 x_6 x_7 x_8 x_9 x_10 x_11 x_12 x_13 x_14 x12 x13 x14 x15 x16 x17 x18 x19 x20 x21 f_15 f1 f_16 f3 f4 f5 f6 f7 f8 f9 f10 f11 f12 f13 f14 f15 f16 f17 f18 f19 f20 f21 fL fN fP fM fO H.size (by first | omega | assumption | decide | (have l0 := Int32.toInt_zero; omega)) (by first | omega | assumption | decide | (have l0 := Int32.toInt_zero; omega)) (by first | omega | assumption | decide | (have l0 := Int32.toInt_zero; omega)) (by first | omega | assumption | decide | (have l0 := Int32.toInt_zero; omega))) (cwV 0 hts mg_X10_morem_X10_acted_211 rfl rfl rfl (by decide +kernel) ⟨Nat.le_of_ble_eq_true rfl, Nat.le_of_ble_eq_true rfl⟩) ⟨fun a U g mk q => by obtain ⟨q0, q1, qP, qK, qD⟩ := q; exact ⟨q0, q1, qP, va_K.moved (u := U) (U := U.calling g mk a) (Vm.Alike.refl U.vm) qK, qD⟩, va_recv hK hP (ci := 10) (q0 := 0) rfl rfl, fun U hU hW => ⟨rfl, by rw [hU], by rw [hU]; exact hP, va_K.moved hW.alike hK, hD.weaken (fun _ _ _ _ => trivial)⟩⟩ rfl rfl hl.1 rfl (lv_room (Nat.le_of_ble_eq_true rfl)) dX10_more_35 ⟨Nat.le_of_ble_eq_true rfl, Nat.le_of_ble_eq_true rfl⟩) hS (fun q _ h => hFc q h) hFc (fun u t H1 locs ht hvm hw hB hz1 hk1 hS => ?_)
      obtain ⟨x_19, f_20, hr_18_0, hr_18_1, hr_18_2, hP, hK1, hD1⟩ := hB
      rw [ht] at hP
      have hD := hD1.weaken (fun k q _ h => hFc q.1 h)
      clear hz1 hk1 hFc hD1 hK1 hvm
      generalize H1 = H at hP hS ⊢
      have rg_x_19 := i_rng x_19
      have hP : va_P (dC, dI) vwCl (mW ad kc x0 x_19 x2 x_6 x_7 x_8 x_9 x_10 x_11 x_12 x_13 x_14 x12 x13 x14 x15 x16 x17 x18 x19 x20 x21 f_20 f1 f_16 f3 f4 f5 f6 f7 f8 f9 f10 f11 f12 f13 f14 f15 f16 f17 f18 f19 f20 f21 fL fN fP fM fO) H := hP
      have hD : va_D A (mW ad kc x0 x_19 x2 x_6 x_7 x_8 x_9 x_10 x_11 x_12 x_13 x_14 x12 x13 x14 x15 x16 x17 x18 x19 x20 x21 f_20 f1 f_16 f3 f4 f5 f6 f7 f8 f9 f10 f11 f12 f13 f14 f15 f16 f17 f18 f19 f20 f21 fL fN fP fM fO) := hD
      refine lv_aload_n hx hb dX10_more_38 rfl (lv_at hl 0 rfl) ?_
      refine lv_aload_n hx hb dX10_more_39 rfl (lv_at hl 0 rfl) ?_
      refine va_get (D := (dC, dI)) (ci := 10) (v := .ref (ad 1)) (C := RX10) (T := TX10) (N := 48) hx hb hts fin_X10_morem_X10 hown hK hP 0 rfl rfl 0 (by decide) (hts (.fieldLink RX10 8 "PatternGateModel" "all" "[I") (List.mem_of_getElem? (i := 11) (by decide +kernel))) (fun _ h9 => h9) rfl dX10_more_40 ?_
      refine lv_iconst (v := 0) hx hb dX10_more_43 (by decide) ?_
      refine va_iald hx hb hK hP 1 0 rfl rfl (i := 0) (by unfold vp_in; decide +kernel) dX10_more_44 ?_
      refine lv_topi (fun y_21 ey_21 => ?_)
      have rg_y_21 := i_rng y_21
      have vy_21 := vI_lda (f := f_20) (i := 0) (a := 0) ey_21 (by first | omega | decide)
      have rg_y_21 := i_rng y_21
      refine lv_aload_n hx hb dX10_more_45 rfl (lv_at hl 0 rfl) ?_
      refine va_get (D := (dC, dI)) (ci := 10) (v := .ref (ad 1)) (C := RX10) (T := TX10) (N := 48) hx hb hts fin_X10_morem_X10 hown hK hP 0 rfl rfl 0 (by decide) (hts (.fieldLink RX10 8 "PatternGateModel" "all" "[I") (List.mem_of_getElem? (i := 11) (by decide +kernel))) (fun _ h9 => h9) rfl dX10_more_46 ?_
      refine lv_sipush (v := 611) hx hb dX10_more_49 (by decide) ?_
      refine va_iald hx hb hK hP 1 0 rfl rfl (i := 611) (by unfold vp_in; decide +kernel) dX10_more_52 ?_
      refine lv_topi (fun y_22 ey_22 => ?_)
      have rg_y_22 := i_rng y_22
      have vy_22 := vI_lda (f := f_20) (i := 611) (a := 611) ey_22 (by first | omega | decide)
      have rg_y_22 := i_rng y_22
      refine lv_iadd hx hb dX10_more_53 ?_
      refine lv_topi (fun y_23 ey_23 => ?_)
      first | have ty_23 := i_add (a := y_21.toInt) (b := y_22.toInt) rfl rfl ey_23 (by omega) (by omega) | skip
      refine lv_aload_n hx hb dX10_more_54 rfl (lv_at hl 0 rfl) ?_
      refine va_get (D := (dC, dI)) (ci := 10) (v := .ref (ad 1)) (C := RX10) (T := TX10) (N := 48) hx hb hts fin_X10_morem_X10 hown hK hP 0 rfl rfl 0 (by decide) (hts (.fieldLink RX10 8 "PatternGateModel" "all" "[I") (List.mem_of_getElem? (i := 11) (by decide +kernel))) (fun _ h9 => h9) rfl dX10_more_55 ?_
      refine lv_sipush (v := 7820) hx hb dX10_more_58 (by decide) ?_
      refine va_iald hx hb hK hP 1 0 rfl rfl (i := 7820) (by unfold vp_in; decide +kernel) dX10_more_61 ?_
      refine lv_topi (fun y_24 ey_24 => ?_)
      have rg_y_24 := i_rng y_24
      have vy_24 := vI_lda (f := f_20) (i := 7820) (a := 7820) ey_24 (by first | omega | decide)
      have rg_y_24 := i_rng y_24
      refine lv_isub hx hb dX10_more_62 ?_
      refine lv_topi (fun y_25 ey_25 => ?_)
      first | have ty_25 := i_sub (a := y_23.toInt) (b := y_24.toInt) rfl rfl ey_25 (by omega) (by omega) | skip
      refine lv_aload_n hx hb dX10_more_63 rfl (lv_at hl 0 rfl) ?_
      refine va_get (D := (dC, dI)) (ci := 10) (v := .ref (ad 1)) (C := RX10) (T := TX10) (N := 48) hx hb hts fin_X10_morem_X10 hown hK hP 0 rfl rfl 0 (by decide) (hts (.fieldLink RX10 8 "PatternGateModel" "all" "[I") (List.mem_of_getElem? (i := 11) (by decide +kernel))) (fun _ h9 => h9) rfl dX10_more_64 ?_
      refine lv_sipush (v := 8431) hx hb dX10_more_67 (by decide) ?_
      refine va_iald hx hb hK hP 1 0 rfl rfl (i := 8431) (by unfold vp_in; decide +kernel) dX10_more_70 ?_
      refine lv_topi (fun y_26 ey_26 => ?_)
      have rg_y_26 := i_rng y_26
      have vy_26 := vI_lda (f := f_20) (i := 8431) (a := 8431) ey_26 (by first | omega | decide)
      have rg_y_26 := i_rng y_26
      refine lv_isub hx hb dX10_more_71 ?_
      refine lv_topi (fun y_27 ey_27 => ?_)
      first | have ty_27 := i_sub (a := y_25.toInt) (b := y_26.toInt) rfl rfl ey_27 (by omega) (by omega) | skip
      have hFc := m_free hD hS hA
      refine va_calli (va_runV (As := [.int y_27]) (rest := []) ⟨hx, hb, hml, hown, hts⟩ (m_gives l dC dI ad kc x0 x_19 x2 x_6 x_7 x_8 x_9 x_10 x_11 x_12 x_13 x_14 x12 x13 x14 x15 x16 x17 x18 x19 x20 x21 f_20 f1 f_16 f3 f4 f5 f6 f7 f8 f9 f10 f11 f12 f13 f14 f15 f16 f17 f18 f19 f20 f21 fL fN fP fM fO H.size y_27 ) (cwV 1 hts mg_X10_morem_X10_gives_214 rfl rfl rfl (by decide +kernel) ⟨Nat.le_of_ble_eq_true rfl, Nat.le_of_ble_eq_true rfl⟩) ⟨fun a U g mk q => by obtain ⟨q0, q1, qP, qK, qD⟩ := q; exact ⟨q0, q1, qP, va_K.moved (u := U) (U := U.calling g mk a) (Vm.Alike.refl U.vm) qK, qD⟩, va_recv hK hP (ci := 10) (q0 := 0) rfl rfl, fun U hU hW => ⟨rfl, by rw [hU], by rw [hU]; exact hP, va_K.moved hW.alike hK, hD.weaken (fun _ _ _ _ => trivial)⟩⟩ rfl rfl hl.1 rfl (lv_room (Nat.le_of_ble_eq_true rfl)) dX10_more_72 ⟨Nat.le_of_ble_eq_true rfl, Nat.le_of_ble_eq_true rfl⟩) hS (fun q _ h => hFc q h) hFc (fun r_28 u t H1 locs ht hvm hw hB hz1 hk1 hS => ?_)
      subst hw
      obtain ⟨hr_28_0, hP, hK1, hD1⟩ := hB
      rw [ht] at hP
      have hD := hD1.weaken (fun k q _ h => hFc q.1 h)
      clear hz1 hk1 hFc hD1 hK1 hvm
      generalize H1 = H at hP hS ⊢
      have rg_r_28 := i_rng r_28
      have hP : va_P (dC, dI) vwCl (mW ad kc 0 x_19 x2 x_6 x_7 x_8 x_9 x_10 x_11 x_12 x_13 x_14 x12 x13 x14 x15 x16 x17 x18 x19 x20 x21 f_20 f1 f_16 f3 f4 f5 f6 f7 f8 f9 f10 f11 f12 f13 f14 f15 f16 f17 f18 f19 f20 f21 fL fN fP fM fO) H := hP
      have hD : va_D A (mW ad kc 0 x_19 x2 x_6 x_7 x_8 x_9 x_10 x_11 x_12 x_13 x_14 x12 x13 x14 x15 x16 x17 x18 x19 x20 x21 f_20 f1 f_16 f3 f4 f5 f6 f7 f8 f9 f10 f11 f12 f13 f14 f15 f16 f17 f18 f19 f20 f21 fL fN fP fM fO) := hD
      have lit_28 : (0 : Int32).toInt = 0 := by decide
      exact W.iret hx hb hr (fun t ht hW => ⟨⟨_, _, rfl, rfl, 0, x_19, x_6, x_7, x_8, x_9, x_10, x_11, x_12, x_13, x_14, f_20, f_16, (mC.mI hr_18_1 hr_18_0 (by have h9 := hr_18_2; omega) hq2 (by omega) hpi), (by first | omega | assumption | rfl | decide), by rw [ht]; exact hP, va_K.moved hW.alike hK, hD⟩, hS.F ht⟩) hS.2.2 dX10_more_75
    · have tk_17 := c_eq (a := r_5.toInt) (b := 0) rfl (by decide) k_17
      refine lv_aload_n hx hb dX10_more_27 rfl (lv_at hl 0 rfl) ?_
      refine lv_bipush (v := 9) hx hb dX10_more_28 (by decide) ?_
      have lit_29 : (9 : Int32).toInt = 9 := by decide
      have hFc := m_free hD hS hA
      refine va_calli (va_runV (As := [.int 9]) (rest := []) ⟨hx, hb, hml, hown, hts⟩ (m_refuse l dC dI ad kc x0 x1 x2 x_6 x_7 x_8 x_9 x_10 x_11 x_12 x_13 x_14 x12 x13 x14 x15 x16 x17 x18 x19 x20 x21 f_15 f1 f_16 f3 f4 f5 f6 f7 f8 f9 f10 f11 f12 f13 f14 f15 f16 f17 f18 f19 f20 f21 fL fN fP fM fO H.size 9 ) (cwV 1 hts mg_X10_morem_X10_refuse_204 rfl rfl rfl (by decide +kernel) ⟨Nat.le_of_ble_eq_true rfl, Nat.le_of_ble_eq_true rfl⟩) ⟨fun a U g mk q => by obtain ⟨q0, q1, qP, qK, qD⟩ := q; exact ⟨q0, q1, qP, va_K.moved (u := U) (U := U.calling g mk a) (Vm.Alike.refl U.vm) qK, qD⟩, va_recv hK hP (ci := 10) (q0 := 0) rfl rfl, fun U hU hW => ⟨rfl, by rw [hU], by rw [hU]; exact hP, va_K.moved hW.alike hK, hD.weaken (fun _ _ _ _ => trivial)⟩⟩ rfl rfl hl.1 rfl (lv_room (Nat.le_of_ble_eq_true rfl)) dX10_more_30 ⟨Nat.le_of_ble_eq_true rfl, Nat.le_of_ble_eq_true rfl⟩) hS (fun q _ h => hFc q h) hFc (fun r_31 u t H1 locs ht hvm hw hB hz1 hk1 hS => ?_)
      subst hw
      obtain ⟨hr_31_0, hP, hK1, hD1⟩ := hB
      rw [ht] at hP
      have hD := hD1.weaken (fun k q _ h => hFc q.1 h)
      clear hz1 hk1 hFc hD1 hK1 hvm
      generalize H1 = H at hP hS ⊢
      have rg_r_31 := i_rng r_31
      have hP : va_P (dC, dI) vwCl (mW ad kc 9 x1 x2 x_6 x_7 x_8 x_9 x_10 x_11 x_12 x_13 x_14 x12 x13 x14 x15 x16 x17 x18 x19 x20 x21 f_15 f1 f_16 f3 f4 f5 f6 f7 f8 f9 f10 f11 f12 f13 f14 f15 f16 f17 f18 f19 f20 f21 fL fN fP fM fO) H := hP
      have hD : va_D A (mW ad kc 9 x1 x2 x_6 x_7 x_8 x_9 x_10 x_11 x_12 x_13 x_14 x12 x13 x14 x15 x16 x17 x18 x19 x20 x21 f_15 f1 f_16 f3 f4 f5 f6 f7 f8 f9 f10 f11 f12 f13 f14 f15 f16 f17 f18 f19 f20 f21 fL fN fP fM fO) := hD
      have lit_31 : (9 : Int32).toInt = 9 := by decide
      exact W.iret hx hb hr (fun t ht hW => ⟨⟨_, _, rfl, rfl, 9, x1, x_6, x_7, x_8, x_9, x_10, x_11, x_12, x_13, x_14, f_15, f_16, (mC.mI hmR hdR hq1 hq2 (by omega) hpi), (by first | omega | assumption | rfl | decide), by rw [ht]; exact hP, va_K.moved hW.alike hK, hD⟩, hS.F ht⟩) hS.2.2 dX10_more_33
  · have tk_3 := c_eq (a := r_2.toInt) (b := 0) rfl (by decide) k_3
    refine lv_aload_n hx hb dX10_more_12 rfl (lv_at hl 0 rfl) ?_
    refine lv_iconst (v := 1) hx hb dX10_more_13 (by decide) ?_
    have lit_32 : (1 : Int32).toInt = 1 := by decide
    have hFc := m_free hD hS hA
    refine va_calli (va_runV (As := [.int 1]) (rest := []) ⟨hx, hb, hml, hown, hts⟩ (m_refuse l dC dI ad kc x0 x1 x2 x3 x4 x5 x6 x7 x8 x9 x10 x11 x12 x13 x14 x15 x16 x17 x18 x19 x20 x21 f0 f1 f2 f3 f4 f5 f6 f7 f8 f9 f10 f11 f12 f13 f14 f15 f16 f17 f18 f19 f20 f21 fL fN fP fM fO H.size 1 ) (cwV 1 hts mg_X10_morem_X10_refuse_204 rfl rfl rfl (by decide +kernel) ⟨Nat.le_of_ble_eq_true rfl, Nat.le_of_ble_eq_true rfl⟩) ⟨fun a U g mk q => by obtain ⟨q0, q1, qP, qK, qD⟩ := q; exact ⟨q0, q1, qP, va_K.moved (u := U) (U := U.calling g mk a) (Vm.Alike.refl U.vm) qK, qD⟩, va_recv hK hP (ci := 10) (q0 := 0) rfl rfl, fun U hU hW => ⟨rfl, by rw [hU], by rw [hU]; exact hP, va_K.moved hW.alike hK, hD.weaken (fun _ _ _ _ => trivial)⟩⟩ rfl rfl hl.1 rfl (lv_room (Nat.le_of_ble_eq_true rfl)) dX10_more_14 ⟨Nat.le_of_ble_eq_true rfl, Nat.le_of_ble_eq_true rfl⟩) hS (fun q _ h => hFc q h) hFc (fun r_34 u t H1 locs ht hvm hw hB hz1 hk1 hS => ?_)
    subst hw
    obtain ⟨hr_34_0, hP, hK1, hD1⟩ := hB
    rw [ht] at hP
    have hD := hD1.weaken (fun k q _ h => hFc q.1 h)
    clear hz1 hk1 hFc hD1 hK1 hvm
    generalize H1 = H at hP hS ⊢
    have rg_r_34 := i_rng r_34
    have hP : va_P (dC, dI) vwCl (mW ad kc 1 x1 x2 x3 x4 x5 x6 x7 x8 x9 x10 x11 x12 x13 x14 x15 x16 x17 x18 x19 x20 x21 f0 f1 f2 f3 f4 f5 f6 f7 f8 f9 f10 f11 f12 f13 f14 f15 f16 f17 f18 f19 f20 f21 fL fN fP fM fO) H := hP
    have hD : va_D A (mW ad kc 1 x1 x2 x3 x4 x5 x6 x7 x8 x9 x10 x11 x12 x13 x14 x15 x16 x17 x18 x19 x20 x21 f0 f1 f2 f3 f4 f5 f6 f7 f8 f9 f10 f11 f12 f13 f14 f15 f16 f17 f18 f19 f20 f21 fL fN fP fM fO) := hD
    have lit_34 : (1 : Int32).toInt = 1 := by decide
    exact W.iret hx hb hr (fun t ht hW => ⟨⟨_, _, rfl, rfl, 1, x1, x3, x4, x5, x6, x7, x8, x9, x10, x11, f0, f2, q0, (by first | omega | assumption | rfl | decide), by rw [ht]; exact hP, va_K.moved hW.alike hK, hD⟩, hS.F ht⟩) hS.2.2 dX10_more_17

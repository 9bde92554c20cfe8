/-- a constant text of n signs -/
def sX (A : Nat → Prop) (U : State) (H : Heap) (q n : Nat) : Prop := va_O "java/lang/String" q A U H ∧ va_OF "java/lang/String" "coder" "B" (.int 0) q A U H ∧ ∃ (v : Nat) (g : Nat → Int32), va_OF "java/lang/String" "value" "[B" (.ref v) q A U H ∧ va_T .byte v n (fun j => .int (g j)) A U H
def sC (A : Nat → Prop) (U : State) (H : Heap) : Prop := va_Z "java/lang/String" "COMPACT_STRINGS" "Z" (.int 1) A U H ∧ va_Zq "jdk/internal/util/Preconditions" "SIOOBE_FORMATTER" "Ljava/util/function/BiFunction;" A U H
theorem sX.moved {A : Nat → Prop} {u U : State} {H : Heap} {q n : Nat} (hvm : u.vm.Alike U.vm) (h : sX A u H q n) : sX A U H q n := by
  obtain ⟨h1, h2, v, g, h3, h4⟩ := h
  exact ⟨h1.moved hvm, h2.moved hvm, v, g, h3.moved hvm, h4.moved hvm⟩
theorem sX.kept {A : Nat → Prop} {U : State} {H H1 : Heap} {q n : Nat} (h : sX A U H q n) (hq : ∀ a : Nat, a < H.size → ¬ A a → H1[a]? = H[a]?) : sX A U H1 q n := by
  obtain ⟨h1, h2, v, g, h3, h4⟩ := h
  exact ⟨h1.kept hq, h2.kept hq, v, g, h3.kept hq, h4.kept hq⟩
theorem sX.narrow {A B : Nat → Prop} {U : State} {H : Heap} {q n : Nat} (h : sX A U H q n) (hAB : ∀ q, B q → A q) : sX B U H q n := by
  obtain ⟨h1, h2, v, g, h3, h4⟩ := h
  exact ⟨h1.narrow hAB, h2.narrow hAB, v, g, h3.narrow hAB, h4.narrow hAB⟩
theorem sC.moved {A : Nat → Prop} {u U : State} {H : Heap} (hvm : u.vm.Alike U.vm) (h : sC A u H) : sC A U H := ⟨h.1.moved hvm, h.2.moved hvm⟩
theorem sC.kept {A : Nat → Prop} {U : State} {H H1 : Heap} (h : sC A U H) (hq : ∀ a : Nat, a < H.size → ¬ A a → H1[a]? = H[a]?) : sC A U H1 := ⟨h.1.kept hq, h.2.kept hq⟩
theorem sC.narrow {A B : Nat → Prop} {U : State} {H : Heap} (h : sC A U H) (hAB : ∀ q, B q → A q) : sC B U H := ⟨h.1.narrow hAB, h.2.narrow hAB⟩
def sN : Nat → Prop := fun _ => False
def sP (q n : Nat) (U : State) : Prop := sX sN U U.heap q n ∧ sC sN U U.heap
theorem sP.call {q n : Nat} {U : State} {g : JFrame} {mk : MethodId} {a : Array Value} (h : sP q n U) : sP q n (U.calling g mk a) := ⟨sX.moved (u := U) (U := U.calling g mk a) (Vm.Alike.refl U.vm) h.1, sC.moved (u := U) (U := U.calling g mk a) (Vm.Alike.refl U.vm) h.2⟩
theorem sP.of {A : Nat → Prop} {s U : State} {H : Heap} {locs : List Loc} {q n : Nat} (h1 : sX A s s.heap q n) (h2 : sC A s s.heap) (hS : va_S A s.heap H locs) (hv : s.vm.Alike U.vm) (hU : U.heap = H) : sP q n U := by
  refine ⟨?_, ?_⟩
  · rw [hU]; exact ((h1.kept hS.2.1).narrow (fun _ h => h.elim)).moved hv
  · rw [hU]; exact ((h2.kept hS.2.1).narrow (fun _ h => h.elim)).moved hv
theorem sX.recv {A : Nat → Prop} {s : State} {H : Heap} {locs : List Loc} {q n : Nat} (h1 : sX A s s.heap q n) (hS : va_S A s.heap H locs) : ∃ cell : Cell, H[q]? = some cell ∧ cell.vm.isStatics = false ∧ s.vm.findClass "java/lang/String" = some cell.cls := by
  obtain ⟨cell, a1, a2, a3, -⟩ := h1.1.kept hS.2.1
  exact ⟨cell, a1, a2, a3⟩
theorem sN_S {H : Heap} : va_S sN H H [] := va_S.rf
theorem dJ0_coder_7d493_0 : decode cJ0_coder_7d493 0 = .ok (.getstatic 38, 3) := by decide +kernel
theorem dJ0_coder_7d493_3 : decode cJ0_coder_7d493 3 = .ok (.ifCond .eq 10, 3) := by decide +kernel
theorem dJ0_coder_7d493_6 : decode cJ0_coder_7d493 6 = .ok (.aload_n 0, 1) := by decide +kernel
theorem dJ0_coder_7d493_7 : decode cJ0_coder_7d493 7 = .ok (.getfield 15, 3) := by decide +kernel
theorem dJ0_coder_7d493_10 : decode cJ0_coder_7d493 10 = .ok (.goto 4, 3) := by decide +kernel
theorem dJ0_coder_7d493_14 : decode cJ0_coder_7d493 14 = .ok (.ireturn, 1) := by decide +kernel
def mwJ0_coder_7d493j : List Cond := .code yJ0_coder_7d493 cJ0_coder_7d493 1 (some .byte) :: (([.fieldLink RJ0 38 "java/lang/String" "COMPACT_STRINGS" "Z", .fieldLink RJ0 15 "java/lang/String" "coder" "B"] : List Cond))
set_option maxHeartbeats 4000000 in
set_option maxRecDepth 100000 in
theorem j_coder (l : Launch) (q n : Nat) : Met l yJ0_coder_7d493 mwJ0_coder_7d493j ({ frames := 0, cells := 0, slots := 0, locals := 0 }) (va_Pc [.ref q] (fun U => sP q n U)) (vp_Si (fun o9 => o9 = 0)) 0 0 (fun _ => False) := by
  refine Met.ofW (cc := cJ0_coder_7d493) (maxL := 1) (ret := (some .byte)) (by decide +kernel) rfl ?_
  intro p e s m args below meth c s₁ B hml hv
  obtain ⟨rfl, hv0⟩ := hv
  have hx := B.exec
  have hb := B.bytes
  have hr := B.returns
  have hts := atoms_spec (ws := mwJ0_coder_7d493j) B.pre
  have hown : s.vm.findClass RJ0 = some m.cls := findClass_of_methodNamed B.named
  obtain ⟨hX0, hC0⟩ := hv0
  obtain ⟨v0, g0, hV0, hT0⟩ := hX0.2.2
  have hl := lv_entry ([.ref q]) (n := 1) (Nat.le_of_ble_eq_true rfl)
  rw [lg_entry_eq]
  generalize (lg_sl ([.ref q]) ++ List.replicate (1 - (lg_sl ([.ref q])).length) Slot.unset).toArray = ls at hl ⊢
  have hl : lv_has ls 1 [(0, .ref q)] := hl
  refine va_gets hx hb hC0.1 sN_S hown (hts (.fieldLink RJ0 38 "java/lang/String" "COMPACT_STRINGS" "Z") (List.mem_of_getElem? (i := 1) (by decide +kernel))) (fun _ h => h) dJ0_coder_7d493_0 ?_
  refine lv_if_eq (tgt := 13) hx hb dJ0_coder_7d493_3 (by decide) (fun k_1 => absurd k_1 (by decide)) (fun k_1 => ?_)
  have tk_1 := c_ne (a := 1) (b := 0) (by decide) (by decide) k_1
  refine lv_aload_n hx hb dJ0_coder_7d493_6 rfl (lv_at hl 0 rfl) ?_
  refine vk_getf hx hb hX0.2.1 sN_S hown (hts (.fieldLink RJ0 15 "java/lang/String" "coder" "B") (List.mem_of_getElem? (i := 2) (by decide +kernel))) (fun _ h => h) dJ0_coder_7d493_7 ?_
  refine lv_goto (tgt := 14) hx hb dJ0_coder_7d493_10 (by decide) ?_
  exact W.zret hx hb hr rfl (fun t ht hW => ⟨_, rfl, rfl, ht⟩) t_nil dJ0_coder_7d493_14
theorem dJ0_isLatin1_aae02_0 : decode cJ0_isLatin1_aae02 0 = .ok (.getstatic 38, 3) := by decide +kernel
theorem dJ0_isLatin1_aae02_3 : decode cJ0_isLatin1_aae02 3 = .ok (.ifCond .eq 14, 3) := by decide +kernel
theorem dJ0_isLatin1_aae02_6 : decode cJ0_isLatin1_aae02 6 = .ok (.aload_n 0, 1) := by decide +kernel
theorem dJ0_isLatin1_aae02_7 : decode cJ0_isLatin1_aae02 7 = .ok (.getfield 15, 3) := by decide +kernel
theorem dJ0_isLatin1_aae02_10 : decode cJ0_isLatin1_aae02 10 = .ok (.ifCond .ne 7, 3) := by decide +kernel
theorem dJ0_isLatin1_aae02_13 : decode cJ0_isLatin1_aae02 13 = .ok (.iconst 1, 1) := by decide +kernel
theorem dJ0_isLatin1_aae02_14 : decode cJ0_isLatin1_aae02 14 = .ok (.goto 4, 3) := by decide +kernel
theorem dJ0_isLatin1_aae02_18 : decode cJ0_isLatin1_aae02 18 = .ok (.ireturn, 1) := by decide +kernel
def mwJ0_isLatin1_aae02j : List Cond := .code yJ0_isLatin1_aae02 cJ0_isLatin1_aae02 1 (some .boolean) :: (([.fieldLink RJ0 38 "java/lang/String" "COMPACT_STRINGS" "Z", .fieldLink RJ0 15 "java/lang/String" "coder" "B"] : List Cond))
set_option maxHeartbeats 4000000 in
set_option maxRecDepth 100000 in
theorem j_isLatin1 (l : Launch) (q n : Nat) : Met l yJ0_isLatin1_aae02 mwJ0_isLatin1_aae02j ({ frames := 0, cells := 0, slots := 0, locals := 0 }) (va_Pc [.ref q] (fun U => sP q n U)) (vp_Si (fun o9 => o9 = 1)) 0 0 (fun _ => False) := by
  refine Met.ofW (cc := cJ0_isLatin1_aae02) (maxL := 1) (ret := (some .boolean)) (by decide +kernel) rfl ?_
  intro p e s m args below meth c s₁ B hml hv
  obtain ⟨rfl, hv0⟩ := hv
  have hx := B.exec
  have hb := B.bytes
  have hr := B.returns
  have hts := atoms_spec (ws := mwJ0_isLatin1_aae02j) B.pre
  have hown : s.vm.findClass RJ0 = some m.cls := findClass_of_methodNamed B.named
  obtain ⟨hX0, hC0⟩ := hv0
  obtain ⟨v0, g0, hV0, hT0⟩ := hX0.2.2
  have hl := lv_entry ([.ref q]) (n := 1) (Nat.le_of_ble_eq_true rfl)
  rw [lg_entry_eq]
  generalize (lg_sl ([.ref q]) ++ List.replicate (1 - (lg_sl ([.ref q])).length) Slot.unset).toArray = ls at hl ⊢
  have hl : lv_has ls 1 [(0, .ref q)] := hl
  refine va_gets hx hb hC0.1 sN_S hown (hts (.fieldLink RJ0 38 "java/lang/String" "COMPACT_STRINGS" "Z") (List.mem_of_getElem? (i := 1) (by decide +kernel))) (fun _ h => h) dJ0_isLatin1_aae02_0 ?_
  refine lv_if_eq (tgt := 17) hx hb dJ0_isLatin1_aae02_3 (by decide) (fun k_1 => absurd k_1 (by decide)) (fun k_1 => ?_)
  have tk_1 := c_ne (a := 1) (b := 0) (by decide) (by decide) k_1
  refine lv_aload_n hx hb dJ0_isLatin1_aae02_6 rfl (lv_at hl 0 rfl) ?_
  refine vk_getf hx hb hX0.2.1 sN_S hown (hts (.fieldLink RJ0 15 "java/lang/String" "coder" "B") (List.mem_of_getElem? (i := 2) (by decide +kernel))) (fun _ h => h) dJ0_isLatin1_aae02_7 ?_
  refine lv_if_ne (tgt := 17) hx hb dJ0_isLatin1_aae02_10 (by decide) (fun k_2 => absurd (by decide) k_2) (fun k_2 => ?_)
  have tk_2 := c_eq (a := 0) (b := 0) (by decide) (by decide) k_2
  refine lv_iconst (v := 1) hx hb dJ0_isLatin1_aae02_13 (by decide) ?_
  refine lv_goto (tgt := 18) hx hb dJ0_isLatin1_aae02_14 (by decide) ?_
  exact W.zret hx hb hr rfl (fun t ht hW => ⟨_, rfl, rfl, ht⟩) t_nil dJ0_isLatin1_aae02_18
theorem dJ3_checkIndex_8e157_0 : decode cJ3_checkIndex_8e157 0 = .ok (.iload_n 0, 1) := by decide +kernel
theorem dJ3_checkIndex_8e157_1 : decode cJ3_checkIndex_8e157 1 = .ok (.ifCond .lt 8, 3) := by decide +kernel
theorem dJ3_checkIndex_8e157_4 : decode cJ3_checkIndex_8e157 4 = .ok (.iload_n 0, 1) := by decide +kernel
theorem dJ3_checkIndex_8e157_5 : decode cJ3_checkIndex_8e157 5 = .ok (.iload_n 1, 1) := by decide +kernel
theorem dJ3_checkIndex_8e157_6 : decode cJ3_checkIndex_8e157 6 = .ok (.if_icmp .lt 10, 3) := by decide +kernel
theorem dJ3_checkIndex_8e157_16 : decode cJ3_checkIndex_8e157 16 = .ok (.iload_n 0, 1) := by decide +kernel
theorem dJ3_checkIndex_8e157_17 : decode cJ3_checkIndex_8e157 17 = .ok (.ireturn, 1) := by decide +kernel
def mwJ3_checkIndex_8e157jnull : List Cond := .code yJ3_checkIndex_8e157 cJ3_checkIndex_8e157 3 (some .int) :: (([] : List Cond))
set_option maxHeartbeats 4000000 in
set_option maxRecDepth 100000 in
theorem j_check3null (l : Launch) (i k : Int32) (h1 : 0 ≤ i.toInt) (h2 : i.toInt < k.toInt) : Met l yJ3_checkIndex_8e157 mwJ3_checkIndex_8e157jnull ({ frames := 0, cells := 0, slots := 0, locals := 0 }) (va_Pc [.int i, .int k, .null] (fun U => True)) (vp_Si (fun _ => True)) 0 0 (fun _ => False) := by
  refine Met.ofW (cc := cJ3_checkIndex_8e157) (maxL := 3) (ret := (some .int)) (by decide +kernel) rfl ?_
  intro p e s m args below meth c s₁ B hml hv
  obtain ⟨rfl, -⟩ := hv
  have hx := B.exec
  have hb := B.bytes
  have hr := B.returns
  have hts := atoms_spec (ws := mwJ3_checkIndex_8e157jnull) B.pre
  have hown : s.vm.findClass RJ3 = some m.cls := findClass_of_methodNamed B.named
  have hl := lv_entry ([.int i, .int k, .null]) (n := 3) (Nat.le_of_ble_eq_true rfl)
  rw [lg_entry_eq]
  generalize (lg_sl ([.int i, .int k, .null]) ++ List.replicate (3 - (lg_sl ([.int i, .int k, .null])).length) Slot.unset).toArray = ls at hl ⊢
  have hl : lv_has ls 3 [(0, .int i), (1, .int k), (2, .null)] := hl
  refine lv_iload_n hx hb dJ3_checkIndex_8e157_0 rfl (lv_at hl 0 rfl) ?_
  refine lv_if_lt (tgt := 9) hx hb dJ3_checkIndex_8e157_1 (by decide) (fun k_1 => absurd k_1 (i_nn (x := i) rfl h1)) (fun k_1 => ?_)
  have tk_1 := c_nlt (a := i.toInt) (b := 0) rfl (by decide) k_1
  refine lv_iload_n hx hb dJ3_checkIndex_8e157_4 rfl (lv_at hl 0 rfl) ?_
  refine lv_iload_n hx hb dJ3_checkIndex_8e157_5 rfl (lv_at hl 1 rfl) ?_
  refine lv_icmp_lt (tgt := 16) hx hb dJ3_checkIndex_8e157_6 (by decide) (fun k_2 => ?_) (fun k_2 => absurd (by rw [Int32.lt_iff_toInt_lt]; omega) k_2)
  have tk_2 := c_lt (a := i.toInt) (b := k.toInt) rfl rfl k_2
  refine lv_iload_n hx hb dJ3_checkIndex_8e157_16 rfl (lv_at hl 0 rfl) ?_
  exact W.iret hx hb hr (fun t ht hW => ⟨_, rfl, trivial, ht⟩) t_nil dJ3_checkIndex_8e157_17
def mwJ3_checkIndex_8e157jref : List Cond := .code yJ3_checkIndex_8e157 cJ3_checkIndex_8e157 3 (some .int) :: (([] : List Cond))
set_option maxHeartbeats 4000000 in
set_option maxRecDepth 100000 in
theorem j_check3ref (l : Launch) (i k : Int32) (t9 : Nat) (h1 : 0 ≤ i.toInt) (h2 : i.toInt < k.toInt) : Met l yJ3_checkIndex_8e157 mwJ3_checkIndex_8e157jref ({ frames := 0, cells := 0, slots := 0, locals := 0 }) (va_Pc [.int i, .int k, .ref t9] (fun U => True)) (vp_Si (fun _ => True)) 0 0 (fun _ => False) := by
  refine Met.ofW (cc := cJ3_checkIndex_8e157) (maxL := 3) (ret := (some .int)) (by decide +kernel) rfl ?_
  intro p e s m args below meth c s₁ B hml hv
  obtain ⟨rfl, -⟩ := hv
  have hx := B.exec
  have hb := B.bytes
  have hr := B.returns
  have hts := atoms_spec (ws := mwJ3_checkIndex_8e157jref) B.pre
  have hown : s.vm.findClass RJ3 = some m.cls := findClass_of_methodNamed B.named
  have hl := lv_entry ([.int i, .int k, .ref t9]) (n := 3) (Nat.le_of_ble_eq_true rfl)
  rw [lg_entry_eq]
  generalize (lg_sl ([.int i, .int k, .ref t9]) ++ List.replicate (3 - (lg_sl ([.int i, .int k, .ref t9])).length) Slot.unset).toArray = ls at hl ⊢
  have hl : lv_has ls 3 [(0, .int i), (1, .int k), (2, .ref t9)] := hl
  refine lv_iload_n hx hb dJ3_checkIndex_8e157_0 rfl (lv_at hl 0 rfl) ?_
  refine lv_if_lt (tgt := 9) hx hb dJ3_checkIndex_8e157_1 (by decide) (fun k_1 => absurd k_1 (i_nn (x := i) rfl h1)) (fun k_1 => ?_)
  have tk_1 := c_nlt (a := i.toInt) (b := 0) rfl (by decide) k_1
  refine lv_iload_n hx hb dJ3_checkIndex_8e157_4 rfl (lv_at hl 0 rfl) ?_
  refine lv_iload_n hx hb dJ3_checkIndex_8e157_5 rfl (lv_at hl 1 rfl) ?_
  refine lv_icmp_lt (tgt := 16) hx hb dJ3_checkIndex_8e157_6 (by decide) (fun k_2 => ?_) (fun k_2 => absurd (by rw [Int32.lt_iff_toInt_lt]; omega) k_2)
  have tk_2 := c_lt (a := i.toInt) (b := k.toInt) rfl rfl k_2
  refine lv_iload_n hx hb dJ3_checkIndex_8e157_16 rfl (lv_at hl 0 rfl) ?_
  exact W.iret hx hb hr (fun t ht hW => ⟨_, rfl, trivial, ht⟩) t_nil dJ3_checkIndex_8e157_17
theorem dJ0_checkIndex_df160_0 : decode cJ0_checkIndex_df160 0 = .ok (.iload_n 0, 1) := by decide +kernel
theorem dJ0_checkIndex_df160_1 : decode cJ0_checkIndex_df160 1 = .ok (.iload_n 1, 1) := by decide +kernel
theorem dJ0_checkIndex_df160_2 : decode cJ0_checkIndex_df160 2 = .ok (.getstatic 1053, 3) := by decide +kernel
theorem dJ0_checkIndex_df160_5 : decode cJ0_checkIndex_df160 5 = .ok (.invokestatic 1059, 3) := by decide +kernel
theorem dJ0_checkIndex_df160_8 : decode cJ0_checkIndex_df160 8 = .ok (.pop, 1) := by decide +kernel
theorem dJ0_checkIndex_df160_9 : decode cJ0_checkIndex_df160 9 = .ok (.return_, 1) := by decide +kernel
def mwJ0_checkIndex_df160j : List Cond := .code yJ0_checkIndex_df160 cJ0_checkIndex_df160 2 none :: (([.fieldLink RJ0 1053 "jdk/internal/util/Preconditions" "SIOOBE_FORMATTER" "Ljava/util/function/BiFunction;", .methodLink RJ0 1059 yJ3_checkIndex_8e157, .static yJ3_checkIndex_8e157, .initialized RJ3] : List Cond) ++ (mwJ3_checkIndex_8e157jnull ++ (mwJ3_checkIndex_8e157jref)))
set_option maxRecDepth 100000 in
theorem gd_mwJ3_checkIndex_8e157jnull : mwJ3_checkIndex_8e157jnull.all goodWord = true := by decide +kernel
set_option maxRecDepth 100000 in
theorem gd_mwJ3_checkIndex_8e157jref : mwJ3_checkIndex_8e157jref.all goodWord = true := by decide +kernel
set_option maxRecDepth 20000 in
theorem mg_J0_checkIndex_df160j_J3_checkIndex_8e157_1059 : GoodIn mwJ0_checkIndex_df160j (va_wsS RJ0 1059 yJ3_checkIndex_8e157 mwJ3_checkIndex_8e157jnull) := gi_app (A := [.methodLink RJ0 1059 yJ3_checkIndex_8e157, .static yJ3_checkIndex_8e157, .initialized RJ3]) (goodIn_r _ [2, 3, 4] (by decide +kernel) (by decide +kernel)) (gi_sub gd_mwJ3_checkIndex_8e157jnull (fun w h => List.mem_cons_of_mem _ (List.mem_append_right _ (List.mem_append_left _ h))))
set_option maxRecDepth 20000 in
theorem mg_J0_checkIndex_df160j_J3_checkIndex_8e157_1059_mwJ3_checkIndex_8e157jref : GoodIn mwJ0_checkIndex_df160j (va_wsS RJ0 1059 yJ3_checkIndex_8e157 mwJ3_checkIndex_8e157jref) := gi_app (A := [.methodLink RJ0 1059 yJ3_checkIndex_8e157, .static yJ3_checkIndex_8e157, .initialized RJ3]) (goodIn_r _ [2, 3, 4] (by decide +kernel) (by decide +kernel)) (gi_sub gd_mwJ3_checkIndex_8e157jref (fun w h => List.mem_cons_of_mem _ (List.mem_append_right _ (List.mem_append_right _ (h)))))
set_option maxHeartbeats 4000000 in
set_option maxRecDepth 100000 in
theorem j_check0 (l : Launch) (i k : Int32) (h1 : 0 ≤ i.toInt) (h2 : i.toInt < k.toInt) : Met l yJ0_checkIndex_df160 mwJ0_checkIndex_df160j ({ frames := 1, cells := 0, slots := 0, locals := 60 }) (va_Pc [.int i, .int k] (fun U => sC sN U U.heap)) (va_Sv (fun _ => True)) 0 0 (fun _ => False) := by
  refine Met.ofW (cc := cJ0_checkIndex_df160) (maxL := 2) (ret := none) (by decide +kernel) rfl ?_
  intro p e s m args below meth c s₁ B hml hv
  obtain ⟨rfl, hC0⟩ := hv
  have hx := B.exec
  have hb := B.bytes
  have hr := B.returns
  have hts := atoms_spec (ws := mwJ0_checkIndex_df160j) B.pre
  have hown : s.vm.findClass RJ0 = some m.cls := findClass_of_methodNamed B.named
  have hl := lv_entry ([.int i, .int k]) (n := 2) (Nat.le_of_ble_eq_true rfl)
  rw [lg_entry_eq]
  generalize (lg_sl ([.int i, .int k]) ++ List.replicate (2 - (lg_sl ([.int i, .int k])).length) Slot.unset).toArray = ls at hl ⊢
  have hl : lv_has ls 2 [(0, .int i), (1, .int k)] := hl
  refine lv_iload_n hx hb dJ0_checkIndex_df160_0 rfl (lv_at hl 0 rfl) ?_
  refine lv_iload_n hx hb dJ0_checkIndex_df160_1 rfl (lv_at hl 1 rfl) ?_
  rcases hC0.2 with hz9 | ⟨t9, hz9⟩
  · refine va_gets hx hb hz9 sN_S hown (hts (.fieldLink RJ0 1053 "jdk/internal/util/Preconditions" "SIOOBE_FORMATTER" "Ljava/util/function/BiFunction;") (List.mem_of_getElem? (i := 1) (by decide +kernel))) (fun _ h => h) dJ0_checkIndex_df160_2 ?_
    refine vp_callSi (W.runS (As := [.int i, .int k, .null]) (rest := []) ⟨hx, hb, hml, hown, hts⟩ (j_check3null l i k h1 h2) (va_cwS 3 hts mg_J0_checkIndex_df160j_J3_checkIndex_8e157_1059 rfl rfl rfl (by decide +kernel) ⟨Nat.le_of_ble_eq_true rfl, Nat.le_of_ble_eq_true rfl⟩) ⟨fun a U g mk q => ⟨q.1, trivial⟩, fun U hU hW => ⟨rfl, trivial⟩⟩ rfl rfl hl.1 rfl (lv_room (Nat.le_of_ble_eq_true rfl)) dJ0_checkIndex_df160_5 ⟨Nat.le_of_ble_eq_true rfl, Nat.le_of_ble_eq_true rfl⟩) (fun r_1 hw => ?_)
    refine lv_pop hx hb dJ0_checkIndex_df160_8 rfl ?_
    exact W.vret hx hb hr (fun t ht hW => ⟨rfl, trivial, ht⟩) t_nil dJ0_checkIndex_df160_9
  · refine va_gets hx hb hz9 sN_S hown (hts (.fieldLink RJ0 1053 "jdk/internal/util/Preconditions" "SIOOBE_FORMATTER" "Ljava/util/function/BiFunction;") (List.mem_of_getElem? (i := 1) (by decide +kernel))) (fun _ h => h) dJ0_checkIndex_df160_2 ?_
    refine vp_callSi (W.runS (As := [.int i, .int k, .ref t9]) (rest := []) ⟨hx, hb, hml, hown, hts⟩ (j_check3ref l i k t9 h1 h2) (va_cwS 3 hts mg_J0_checkIndex_df160j_J3_checkIndex_8e157_1059_mwJ3_checkIndex_8e157jref rfl rfl rfl (by decide +kernel) ⟨Nat.le_of_ble_eq_true rfl, Nat.le_of_ble_eq_true rfl⟩) ⟨fun a U g mk q => ⟨q.1, trivial⟩, fun U hU hW => ⟨rfl, trivial⟩⟩ rfl rfl hl.1 rfl (lv_room (Nat.le_of_ble_eq_true rfl)) dJ0_checkIndex_df160_5 ⟨Nat.le_of_ble_eq_true rfl, Nat.le_of_ble_eq_true rfl⟩) (fun r_2 hw => ?_)
    refine lv_pop hx hb dJ0_checkIndex_df160_8 rfl ?_
    exact W.vret hx hb hr (fun t ht hW => ⟨rfl, trivial, ht⟩) t_nil dJ0_checkIndex_df160_9
theorem dJ1_charAt_3b067_0 : decode cJ1_charAt_3b067 0 = .ok (.iload_n 1, 1) := by decide +kernel
theorem dJ1_charAt_3b067_1 : decode cJ1_charAt_3b067 1 = .ok (.aload_n 0, 1) := by decide +kernel
theorem dJ1_charAt_3b067_2 : decode cJ1_charAt_3b067 2 = .ok (.arraylength, 1) := by decide +kernel
theorem dJ1_charAt_3b067_3 : decode cJ1_charAt_3b067 3 = .ok (.invokestatic 9, 3) := by decide +kernel
theorem dJ1_charAt_3b067_6 : decode cJ1_charAt_3b067 6 = .ok (.aload_n 0, 1) := by decide +kernel
theorem dJ1_charAt_3b067_7 : decode cJ1_charAt_3b067 7 = .ok (.iload_n 1, 1) := by decide +kernel
theorem dJ1_charAt_3b067_8 : decode cJ1_charAt_3b067 8 = .ok (.baload, 1) := by decide +kernel
theorem dJ1_charAt_3b067_9 : decode cJ1_charAt_3b067 9 = .ok (.sipush 255, 3) := by decide +kernel
theorem dJ1_charAt_3b067_12 : decode cJ1_charAt_3b067 12 = .ok (.iand, 1) := by decide +kernel
theorem dJ1_charAt_3b067_13 : decode cJ1_charAt_3b067 13 = .ok (.i2c, 1) := by decide +kernel
theorem dJ1_charAt_3b067_14 : decode cJ1_charAt_3b067 14 = .ok (.ireturn, 1) := by decide +kernel
def mwJ1_charAt_3b067j : List Cond := .code yJ1_charAt_3b067 cJ1_charAt_3b067 2 (some .char) :: (([.methodLink RJ1 9 yJ0_checkIndex_df160, .static yJ0_checkIndex_df160, .initialized RJ0] : List Cond) ++ (mwJ0_checkIndex_df160j))
set_option maxRecDepth 100000 in
theorem gd_mwJ0_checkIndex_df160j : mwJ0_checkIndex_df160j.all goodWord = true := by decide +kernel
set_option maxRecDepth 20000 in
theorem mg_J1_charAt_3b067j_J0_checkIndex_df160_9 : GoodIn mwJ1_charAt_3b067j (va_wsS RJ1 9 yJ0_checkIndex_df160 mwJ0_checkIndex_df160j) := gi_app (A := [.methodLink RJ1 9 yJ0_checkIndex_df160, .static yJ0_checkIndex_df160, .initialized RJ0]) (goodIn_r _ [1, 2, 3] (by decide +kernel) (by decide +kernel)) (gi_sub gd_mwJ0_checkIndex_df160j (fun w h => List.mem_cons_of_mem _ (List.mem_append_right _ (h))))
set_option maxHeartbeats 4000000 in
set_option maxRecDepth 100000 in
theorem j_charAt1 (l : Launch) (v0 n : Nat) (g0 : Nat → Int32) (i1 : Int32) (h1 : 0 ≤ i1.toInt) (h2 : i1.toInt < n) (h3 : n < 1000) : Met l yJ1_charAt_3b067 mwJ1_charAt_3b067j ({ frames := 2, cells := 0, slots := 0, locals := 120 }) (va_Pc [.ref v0, .int i1] (fun U => va_T .byte v0 n (fun j => .int (g0 j)) sN U U.heap ∧ sC sN U U.heap)) (vp_Si (fun o9 => ∃ z : Int32, o9 = z &&& 255)) 0 0 (fun _ => False) := by
  refine Met.ofW (cc := cJ1_charAt_3b067) (maxL := 2) (ret := (some .char)) (by decide +kernel) rfl ?_
  intro p e s m args below meth c s₁ B hml hv
  obtain ⟨rfl, hT0, hC0⟩ := hv
  have hx := B.exec
  have hb := B.bytes
  have hr := B.returns
  have hts := atoms_spec (ws := mwJ1_charAt_3b067j) B.pre
  have hown : s.vm.findClass RJ1 = some m.cls := findClass_of_methodNamed B.named
  have hl := lv_entry ([.ref v0, .int i1]) (n := 2) (Nat.le_of_ble_eq_true rfl)
  rw [lg_entry_eq]
  generalize (lg_sl ([.ref v0, .int i1]) ++ List.replicate (2 - (lg_sl ([.ref v0, .int i1])).length) Slot.unset).toArray = ls at hl ⊢
  have hl : lv_has ls 2 [(0, .ref v0), (1, .int i1)] := hl
  refine lv_iload_n hx hb dJ1_charAt_3b067_0 rfl (lv_at hl 1 rfl) ?_
  refine lv_aload_n hx hb dJ1_charAt_3b067_1 rfl (lv_at hl 0 rfl) ?_
  obtain ⟨y_1, ey_1⟩ : ∃ y : Int32, y = nI n := ⟨_, rfl⟩
  have ty_1 : y_1.toInt = (n : Int) := by rw [ey_1]; exact nI_toInt (by omega)
  refine va_tlen (v := y_1) hx hb hT0 sN_S ey_1.symm dJ1_charAt_3b067_2 ?_
  refine va_csv (W.runS (As := [.int i1, .int y_1]) (rest := []) ⟨hx, hb, hml, hown, hts⟩ (j_check0 l i1 y_1 (by omega) (by omega)) (va_cwS 2 hts mg_J1_charAt_3b067j_J0_checkIndex_df160_9 rfl rfl rfl (by decide +kernel) ⟨Nat.le_of_ble_eq_true rfl, Nat.le_of_ble_eq_true rfl⟩) ⟨fun a U g mk q => ⟨q.1, sC.moved (u := U) (U := U.calling g mk a) (Vm.Alike.refl U.vm) q.2⟩, fun U hU hW => ⟨rfl, by show sC sN U U.heap; rw [hU]; exact sC.moved hW.alike hC0⟩⟩ rfl rfl hl.1 rfl (lv_room (Nat.le_of_ble_eq_true rfl)) dJ1_charAt_3b067_3 ⟨Nat.le_of_ble_eq_true rfl, Nat.le_of_ble_eq_true rfl⟩) (fun _ => ?_)
  refine lv_aload_n hx hb dJ1_charAt_3b067_6 rfl (lv_at hl 0 rfl) ?_
  refine lv_iload_n hx hb dJ1_charAt_3b067_7 rfl (lv_at hl 1 rfl) ?_
  refine va_tb hx hb hT0 sN_S (i := i1) (vp_of (a := i1.toInt) rfl (by omega) (by omega)) rfl dJ1_charAt_3b067_8 ?_
  refine lv_topi (fun y_3 ey_3 => ?_)
  have rg_y_3 := i_rng y_3
  refine lv_sipush (v := 255) hx hb dJ1_charAt_3b067_9 (by decide) ?_
  refine lv_iand hx hb dJ1_charAt_3b067_12 ?_
  refine lv_topi (fun y_4 ey_4 => ?_)
  refine lv_i2c hx hb dJ1_charAt_3b067_13 rfl ?_
  refine lv_topi (fun y_5 ey_5 => ?_)
  have cy_5 : y_5 = g0 i1.toNatClampNeg &&& 255 := by rw [ey_5, ey_4, ey_3]; exact sc_c2 _
  exact W.zret hx hb hr (by rw [cy_5]; exact sc_nar _) (fun t ht hW => ⟨_, rfl, ⟨_, cy_5⟩, ht⟩) t_nil dJ1_charAt_3b067_14
theorem dJ0_length_8abf5_0 : decode cJ0_length_8abf5 0 = .ok (.aload_n 0, 1) := by decide +kernel
theorem dJ0_length_8abf5_1 : decode cJ0_length_8abf5 1 = .ok (.getfield 9, 3) := by decide +kernel
theorem dJ0_length_8abf5_4 : decode cJ0_length_8abf5 4 = .ok (.arraylength, 1) := by decide +kernel
theorem dJ0_length_8abf5_5 : decode cJ0_length_8abf5 5 = .ok (.aload_n 0, 1) := by decide +kernel
theorem dJ0_length_8abf5_6 : decode cJ0_length_8abf5 6 = .ok (.invokevirtual 335, 3) := by decide +kernel
theorem dJ0_length_8abf5_9 : decode cJ0_length_8abf5 9 = .ok (.ishr, 1) := by decide +kernel
theorem dJ0_length_8abf5_10 : decode cJ0_length_8abf5 10 = .ok (.ireturn, 1) := by decide +kernel
def mwJ0_length_8abf5j : List Cond := .code yJ0_length_8abf5 cJ0_length_8abf5 1 (some .int) :: (([.fieldLink RJ0 9 "java/lang/String" "value" "[B", .methodLink RJ0 335 yJ0_coder_7d493, .instanceMethod yJ0_coder_7d493, .selects RJ0 yJ0_coder_7d493 yJ0_coder_7d493, .initialized RJ0] : List Cond) ++ (mwJ0_coder_7d493j))
set_option maxRecDepth 100000 in
theorem gd_mwJ0_coder_7d493j : mwJ0_coder_7d493j.all goodWord = true := by decide +kernel
set_option maxRecDepth 20000 in
theorem mg_J0_length_8abf5j_J0_coder_7d493_335 : GoodIn mwJ0_length_8abf5j (wsV RJ0 335 RJ0 yJ0_coder_7d493 mwJ0_coder_7d493j) := gi_app (A := [.methodLink RJ0 335 yJ0_coder_7d493, .instanceMethod yJ0_coder_7d493, .selects RJ0 yJ0_coder_7d493 yJ0_coder_7d493, .initialized RJ0]) (goodIn_r _ [2, 3, 4, 5] (by decide +kernel) (by decide +kernel)) (gi_sub gd_mwJ0_coder_7d493j (fun w h => List.mem_cons_of_mem _ (List.mem_append_right _ (h))))
set_option maxHeartbeats 4000000 in
set_option maxRecDepth 100000 in
theorem j_length (l : Launch) (q n : Nat) (h3 : n < 1000) : Met l yJ0_length_8abf5 mwJ0_length_8abf5j ({ frames := 1, cells := 0, slots := 0, locals := 60 }) (va_Pc [.ref q] (fun U => sP q n U)) (vp_Si (fun o9 => o9.toInt = (n : Int))) 0 0 (fun _ => False) := by
  refine Met.ofW (cc := cJ0_length_8abf5) (maxL := 1) (ret := (some .int)) (by decide +kernel) rfl ?_
  intro p e s m args below meth c s₁ B hml hv
  obtain ⟨rfl, hv0⟩ := hv
  have hx := B.exec
  have hb := B.bytes
  have hr := B.returns
  have hts := atoms_spec (ws := mwJ0_length_8abf5j) B.pre
  have hown : s.vm.findClass RJ0 = some m.cls := findClass_of_methodNamed B.named
  obtain ⟨hX0, hC0⟩ := hv0
  obtain ⟨v0, g0, hV0, hT0⟩ := hX0.2.2
  have hl := lv_entry ([.ref q]) (n := 1) (Nat.le_of_ble_eq_true rfl)
  rw [lg_entry_eq]
  generalize (lg_sl ([.ref q]) ++ List.replicate (1 - (lg_sl ([.ref q])).length) Slot.unset).toArray = ls at hl ⊢
  have hl : lv_has ls 1 [(0, .ref q)] := hl
  refine lv_aload_n hx hb dJ0_length_8abf5_0 rfl (lv_at hl 0 rfl) ?_
  refine vk_getf hx hb hV0 sN_S hown (hts (.fieldLink RJ0 9 "java/lang/String" "value" "[B") (List.mem_of_getElem? (i := 1) (by decide +kernel))) (fun _ h => h) dJ0_length_8abf5_1 ?_
  obtain ⟨y_1, ey_1⟩ : ∃ y : Int32, y = nI n := ⟨_, rfl⟩
  have ty_1 : y_1.toInt = (n : Int) := by rw [ey_1]; exact nI_toInt (by omega)
  refine va_tlen (v := y_1) hx hb hT0 sN_S ey_1.symm dJ0_length_8abf5_4 ?_
  refine lv_aload_n hx hb dJ0_length_8abf5_5 rfl (lv_at hl 0 rfl) ?_
  refine vp_callSi (W.runV (As := []) (rest := [.int y_1]) ⟨hx, hb, hml, hown, hts⟩ (j_coder l q n) (cwV 0 hts mg_J0_length_8abf5j_J0_coder_7d493_335 rfl rfl rfl (by decide +kernel) ⟨Nat.le_of_ble_eq_true rfl, Nat.le_of_ble_eq_true rfl⟩) ⟨fun a U g mk q => ⟨q.1, sP.call q.2⟩, sX.recv hX0 sN_S, fun U hU hW => ⟨rfl, sP.of hX0 hC0 sN_S hW.alike hU⟩⟩ rfl rfl hl.1 rfl (lv_room (Nat.le_of_ble_eq_true rfl)) dJ0_length_8abf5_6 ⟨Nat.le_of_ble_eq_true rfl, Nat.le_of_ble_eq_true rfl⟩) (fun r_2 hw => ?_)
  subst hw
  refine lv_ishr hx hb dJ0_length_8abf5_9 ?_
  refine lv_topi (fun y_3 ey_3 => ?_)
  have rg_y_3 := i_rng y_3
  exact W.iret hx hb hr (fun t ht hW => ⟨_, rfl, by rw [ey_3, ey_1, sc_shr0 (by omega)]; exact nI_toInt (by omega), ht⟩) t_nil dJ0_length_8abf5_10
theorem dJ0_charAt_5068e_0 : decode cJ0_charAt_5068e 0 = .ok (.aload_n 0, 1) := by decide +kernel
theorem dJ0_charAt_5068e_1 : decode cJ0_charAt_5068e 1 = .ok (.invokevirtual 492, 3) := by decide +kernel
theorem dJ0_charAt_5068e_4 : decode cJ0_charAt_5068e 4 = .ok (.ifCond .eq 12, 3) := by decide +kernel
theorem dJ0_charAt_5068e_7 : decode cJ0_charAt_5068e 7 = .ok (.aload_n 0, 1) := by decide +kernel
theorem dJ0_charAt_5068e_8 : decode cJ0_charAt_5068e 8 = .ok (.getfield 9, 3) := by decide +kernel
theorem dJ0_charAt_5068e_11 : decode cJ0_charAt_5068e 11 = .ok (.iload_n 1, 1) := by decide +kernel
theorem dJ0_charAt_5068e_12 : decode cJ0_charAt_5068e 12 = .ok (.invokestatic 495, 3) := by decide +kernel
theorem dJ0_charAt_5068e_15 : decode cJ0_charAt_5068e 15 = .ok (.ireturn, 1) := by decide +kernel
def mwJ0_charAt_5068ej : List Cond := .code yJ0_charAt_5068e cJ0_charAt_5068e 2 (some .char) :: (([.methodLink RJ0 492 yJ0_isLatin1_aae02, .instanceMethod yJ0_isLatin1_aae02, .selects RJ0 yJ0_isLatin1_aae02 yJ0_isLatin1_aae02, .initialized RJ0, .fieldLink RJ0 9 "java/lang/String" "value" "[B", .methodLink RJ0 495 yJ1_charAt_3b067, .static yJ1_charAt_3b067, .initialized RJ1] : List Cond) ++ (mwJ0_isLatin1_aae02j ++ (mwJ1_charAt_3b067j)))
set_option maxRecDepth 100000 in
theorem gd_mwJ0_isLatin1_aae02j : mwJ0_isLatin1_aae02j.all goodWord = true := by decide +kernel
set_option maxRecDepth 100000 in
theorem gd_mwJ1_charAt_3b067j : mwJ1_charAt_3b067j.all goodWord = true := by decide +kernel
set_option maxRecDepth 20000 in
theorem mg_J0_charAt_5068ej_J0_isLatin1_aae02_492 : GoodIn mwJ0_charAt_5068ej (wsV RJ0 492 RJ0 yJ0_isLatin1_aae02 mwJ0_isLatin1_aae02j) := gi_app (A := [.methodLink RJ0 492 yJ0_isLatin1_aae02, .instanceMethod yJ0_isLatin1_aae02, .selects RJ0 yJ0_isLatin1_aae02 yJ0_isLatin1_aae02, .initialized RJ0]) (goodIn_r _ [1, 2, 3, 4] (by decide +kernel) (by decide +kernel)) (gi_sub gd_mwJ0_isLatin1_aae02j (fun w h => List.mem_cons_of_mem _ (List.mem_append_right _ (List.mem_append_left _ h))))
set_option maxRecDepth 20000 in
theorem mg_J0_charAt_5068ej_J1_charAt_3b067_495 : GoodIn mwJ0_charAt_5068ej (va_wsS RJ0 495 yJ1_charAt_3b067 mwJ1_charAt_3b067j) := gi_app (A := [.methodLink RJ0 495 yJ1_charAt_3b067, .static yJ1_charAt_3b067, .initialized RJ1]) (goodIn_r _ [6, 7, 8] (by decide +kernel) (by decide +kernel)) (gi_sub gd_mwJ1_charAt_3b067j (fun w h => List.mem_cons_of_mem _ (List.mem_append_right _ (List.mem_append_right _ (h)))))
set_option maxHeartbeats 4000000 in
set_option maxRecDepth 100000 in
theorem j_charAt (l : Launch) (q n : Nat) (i1 : Int32) (h1 : 0 ≤ i1.toInt) (h2 : i1.toInt < n) (h3 : n < 1000) : Met l yJ0_charAt_5068e mwJ0_charAt_5068ej ({ frames := 3, cells := 0, slots := 0, locals := 180 }) (va_Pc [.ref q, .int i1] (fun U => sP q n U)) (vp_Si (fun _ => True)) 0 0 (fun _ => False) := by
  refine Met.ofW (cc := cJ0_charAt_5068e) (maxL := 2) (ret := (some .char)) (by decide +kernel) rfl ?_
  intro p e s m args below meth c s₁ B hml hv
  obtain ⟨rfl, hv0⟩ := hv
  have hx := B.exec
  have hb := B.bytes
  have hr := B.returns
  have hts := atoms_spec (ws := mwJ0_charAt_5068ej) B.pre
  have hown : s.vm.findClass RJ0 = some m.cls := findClass_of_methodNamed B.named
  obtain ⟨hX0, hC0⟩ := hv0
  obtain ⟨v0, g0, hV0, hT0⟩ := hX0.2.2
  have hl := lv_entry ([.ref q, .int i1]) (n := 2) (Nat.le_of_ble_eq_true rfl)
  rw [lg_entry_eq]
  generalize (lg_sl ([.ref q, .int i1]) ++ List.replicate (2 - (lg_sl ([.ref q, .int i1])).length) Slot.unset).toArray = ls at hl ⊢
  have hl : lv_has ls 2 [(0, .ref q), (1, .int i1)] := hl
  refine lv_aload_n hx hb dJ0_charAt_5068e_0 rfl (lv_at hl 0 rfl) ?_
  refine vp_callSi (W.runV (As := []) (rest := []) ⟨hx, hb, hml, hown, hts⟩ (j_isLatin1 l q n) (cwV 0 hts mg_J0_charAt_5068ej_J0_isLatin1_aae02_492 rfl rfl rfl (by decide +kernel) ⟨Nat.le_of_ble_eq_true rfl, Nat.le_of_ble_eq_true rfl⟩) ⟨fun a U g mk q => ⟨q.1, sP.call q.2⟩, sX.recv hX0 sN_S, fun U hU hW => ⟨rfl, sP.of hX0 hC0 sN_S hW.alike hU⟩⟩ rfl rfl hl.1 rfl (lv_room (Nat.le_of_ble_eq_true rfl)) dJ0_charAt_5068e_1 ⟨Nat.le_of_ble_eq_true rfl, Nat.le_of_ble_eq_true rfl⟩) (fun r_1 hw => ?_)
  subst hw
  refine lv_if_eq (tgt := 16) hx hb dJ0_charAt_5068e_4 (by decide) (fun k_2 => absurd k_2 (by decide)) (fun k_2 => ?_)
  have tk_2 := c_ne (a := 1) (b := 0) (by decide) (by decide) k_2
  refine lv_aload_n hx hb dJ0_charAt_5068e_7 rfl (lv_at hl 0 rfl) ?_
  refine vk_getf hx hb hV0 sN_S hown (hts (.fieldLink RJ0 9 "java/lang/String" "value" "[B") (List.mem_of_getElem? (i := 5) (by decide +kernel))) (fun _ h => h) dJ0_charAt_5068e_8 ?_
  refine lv_iload_n hx hb dJ0_charAt_5068e_11 rfl (lv_at hl 1 rfl) ?_
  refine vp_callSi (W.runS (As := [.ref v0, .int i1]) (rest := []) ⟨hx, hb, hml, hown, hts⟩ (j_charAt1 l v0 n g0 i1 h1 h2 h3) (va_cwS 2 hts mg_J0_charAt_5068ej_J1_charAt_3b067_495 rfl rfl rfl (by decide +kernel) ⟨Nat.le_of_ble_eq_true rfl, Nat.le_of_ble_eq_true rfl⟩) ⟨fun a U g mk q => ⟨q.1, va_T.moved (u := U) (U := U.calling g mk a) (Vm.Alike.refl U.vm) q.2.1, sC.moved (u := U) (U := U.calling g mk a) (Vm.Alike.refl U.vm) q.2.2⟩, fun U hU hW => ⟨rfl, by show va_T .byte v0 n (fun j => .int (g0 j)) sN U U.heap ∧ sC sN U U.heap; rw [hU]; exact ⟨hT0.moved hW.alike, sC.moved hW.alike hC0⟩⟩⟩ rfl rfl hl.1 rfl (lv_room (Nat.le_of_ble_eq_true rfl)) dJ0_charAt_5068e_12 ⟨Nat.le_of_ble_eq_true rfl, Nat.le_of_ble_eq_true rfl⟩) (fun r_3 hw => ?_)
  obtain ⟨zr_3, hw⟩ := hw
  exact W.zret hx hb hr (by rw [hw]; exact sc_nar _) (fun t ht hW => ⟨_, rfl, trivial, ht⟩) t_nil dJ0_charAt_5068e_15

/-- a constant text of n signs, with its signs -/
def sY (A : Nat → Prop) (U : State) (H : Heap) (q n : Nat) (g : Nat → Int32) : Prop := va_O "java/lang/String" q A U H ∧ va_OF "java/lang/String" "coder" "B" (.int 0) q A U H ∧ ∃ v : Nat, va_OF "java/lang/String" "value" "[B" (.ref v) q A U H ∧ va_T .byte v n (fun j => .int (g j)) A U H
theorem sY.sX {A : Nat → Prop} {U : State} {H : Heap} {q n : Nat} {g : Nat → Int32} (h : sY A U H q n g) : sX A U H q n := by
  obtain ⟨h1, h2, v, h3, h4⟩ := h
  exact ⟨h1, h2, v, g, h3, h4⟩
theorem sY.moved {A : Nat → Prop} {u U : State} {H : Heap} {q n : Nat} {g : Nat → Int32} (hvm : u.vm.Alike U.vm) (h : sY A u H q n g) : sY A U H q n g := by
  obtain ⟨h1, h2, v, h3, h4⟩ := h
  exact ⟨h1.moved hvm, h2.moved hvm, v, h3.moved hvm, h4.moved hvm⟩
theorem sY.kept {A : Nat → Prop} {U : State} {H H1 : Heap} {q n : Nat} {g : Nat → Int32} (h : sY A U H q n g) (hq : ∀ a : Nat, a < H.size → ¬ A a → H1[a]? = H[a]?) : sY A U H1 q n g := by
  obtain ⟨h1, h2, v, h3, h4⟩ := h
  exact ⟨h1.kept hq, h2.kept hq, v, h3.kept hq, h4.kept hq⟩
theorem sY.narrow {A B : Nat → Prop} {U : State} {H : Heap} {q n : Nat} {g : Nat → Int32} (h : sY A U H q n g) (hAB : ∀ q, B q → A q) : sY B U H q n g := by
  obtain ⟨h1, h2, v, h3, h4⟩ := h
  exact ⟨h1.narrow hAB, h2.narrow hAB, v, h3.narrow hAB, h4.narrow hAB⟩
def sPg (q n : Nat) (g : Nat → Int32) (U : State) : Prop := sY sN U U.heap q n g ∧ sC sN U U.heap
theorem sPg.call {q n : Nat} {gs : Nat → Int32} {U : State} {g : JFrame} {mk : MethodId} {a : Array Value} (h : sPg q n gs U) : sPg q n gs (U.calling g mk a) := ⟨sY.moved (u := U) (U := U.calling g mk a) (Vm.Alike.refl U.vm) h.1, sC.moved (u := U) (U := U.calling g mk a) (Vm.Alike.refl U.vm) h.2⟩
theorem sPg.of {A : Nat → Prop} {s U : State} {H : Heap} {locs : List Loc} {q n : Nat} {g : Nat → Int32} (h1 : sY A s s.heap q n g) (h2 : sC A s s.heap) (hS : va_S A s.heap H locs) (hv : s.vm.Alike U.vm) (hU : U.heap = H) : sPg q n g U := by
  refine ⟨?_, ?_⟩
  · rw [hU]; exact ((h1.kept hS.2.1).narrow (fun _ h => h.elim)).moved hv
  · rw [hU]; exact ((h2.kept hS.2.1).narrow (fun _ h => h.elim)).moved hv
theorem sY.to {A B : Nat → Prop} {s U : State} {H : Heap} {locs : List Loc} {q n : Nat} {g : Nat → Int32} (h : sY A s s.heap q n g) (hS : va_S A s.heap H locs) (hF : ∀ q, B q → A q) (hW : s.WarmedH U.vm) (hU : U.heap = H) : sY B U U.heap q n g := by
  rw [hU]; exact ((h.kept hS.2.1).narrow hF).moved hW.alike
def sW2 (A : Nat → Prop) (U : State) (H : Heap) : Prop := ∃ qd qp : Nat, vk_R RX10 173 "doc" qd U ∧ vk_R RX10 179 "pattern" qp U ∧ sY A U H qd 3 gDoc ∧ sY A U H qp 7 gPat ∧ sC A U H
theorem sW2.call {A : Nat → Prop} {U : State} {H : Heap} {g : JFrame} {mk : MethodId} {a : Array Value} (h : sW2 A U H) : sW2 A (U.calling g mk a) H := by
  obtain ⟨qd, qp, h1, h2, h3, h4, h5⟩ := h
  exact ⟨qd, qp, vk_R.same (u := U) rfl h1, vk_R.same (u := U) rfl h2, sY.moved (u := U) (U := U.calling g mk a) (Vm.Alike.refl U.vm) h3, sY.moved (u := U) (U := U.calling g mk a) (Vm.Alike.refl U.vm) h4, sC.moved (u := U) (U := U.calling g mk a) (Vm.Alike.refl U.vm) h5⟩
theorem sW2.to {A B : Nat → Prop} {s U : State} {H : Heap} {locs : List Loc} (h : sW2 A s s.heap) (hS : va_S A s.heap H locs) (hF : ∀ q, B q → A q) (hW : s.WarmedH U.vm) (hU : U.heap = H) : sW2 B U U.heap := by
  obtain ⟨qd, qp, h1, h2, h3, h4, h5⟩ := h
  rw [hU]
  exact ⟨qd, qp, vk_R.warm hW h1, vk_R.warm hW h2, ((h3.kept hS.2.1).narrow hF).moved hW.alike, ((h4.kept hS.2.1).narrow hF).moved hW.alike, ((h5.kept hS.2.1).narrow hF).moved hW.alike⟩
def sR2 (A : Nat → Prop) (U : State) (H : Heap) : Prop := ∃ qd qp : Nat, vk_R RX6 75 "doc" qd U ∧ vk_R RX6 81 "pattern" qp U ∧ sY A U H qd 3 gDoc ∧ sY A U H qp 7 gPat ∧ sC A U H
theorem sR2.call {A : Nat → Prop} {U : State} {H : Heap} {g : JFrame} {mk : MethodId} {a : Array Value} (h : sR2 A U H) : sR2 A (U.calling g mk a) H := by
  obtain ⟨qd, qp, h1, h2, h3, h4, h5⟩ := h
  exact ⟨qd, qp, vk_R.same (u := U) rfl h1, vk_R.same (u := U) rfl h2, sY.moved (u := U) (U := U.calling g mk a) (Vm.Alike.refl U.vm) h3, sY.moved (u := U) (U := U.calling g mk a) (Vm.Alike.refl U.vm) h4, sC.moved (u := U) (U := U.calling g mk a) (Vm.Alike.refl U.vm) h5⟩
theorem sR2.to {A B : Nat → Prop} {s U : State} {H : Heap} {locs : List Loc} (h : sR2 A s s.heap) (hS : va_S A s.heap H locs) (hF : ∀ q, B q → A q) (hW : s.WarmedH U.vm) (hU : U.heap = H) : sR2 B U U.heap := by
  obtain ⟨qd, qp, h1, h2, h3, h4, h5⟩ := h
  rw [hU]
  exact ⟨qd, qp, vk_R.warm hW h1, vk_R.warm hW h2, ((h3.kept hS.2.1).narrow hF).moved hW.alike, ((h4.kept hS.2.1).narrow hF).moved hW.alike, ((h5.kept hS.2.1).narrow hF).moved hW.alike⟩
def mwJ1_charAt_3b067jq : List Cond := .code yJ1_charAt_3b067 cJ1_charAt_3b067 2 (some .char) :: (([.methodLink RJ1 9 yJ0_checkIndex_df160, .static yJ0_checkIndex_df160, .initialized RJ0] : List Cond) ++ (mwJ0_checkIndex_df160j))
set_option maxRecDepth 20000 in
theorem mg_J1_charAt_3b067jq_J0_checkIndex_df160_9 : GoodIn mwJ1_charAt_3b067jq (va_wsS RJ1 9 yJ0_checkIndex_df160 mwJ0_checkIndex_df160j) := gi_app (A := [.methodLink RJ1 9 yJ0_checkIndex_df160, .static yJ0_checkIndex_df160, .initialized RJ0]) (goodIn_r _ [1, 2, 3] (by decide +kernel) (by decide +kernel)) (gi_sub gd_mwJ0_checkIndex_df160j (fun w h => List.mem_cons_of_mem _ (List.mem_append_right _ (h))))
set_option maxHeartbeats 4000000 in
set_option maxRecDepth 100000 in
theorem j_charAt1_q (l : Launch) (v0 n : Nat) (g0 : Nat → Int32) (i1 : Int32) (h1 : 0 ≤ i1.toInt) (h2 : i1.toInt < n) (h3 : n < 1000) : Met l yJ1_charAt_3b067 mwJ1_charAt_3b067jq ({ frames := 2, cells := 0, slots := 0, locals := 120 }) (va_Pc [.ref v0, .int i1] (fun U => va_T .byte v0 n (fun j => .int (g0 j)) sN U U.heap ∧ sC sN U U.heap)) (vp_Si (fun o9 => o9 = g0 i1.toNatClampNeg &&& 255)) 0 0 (fun _ => False) := by
  refine Met.ofW (cc := cJ1_charAt_3b067) (maxL := 2) (ret := (some .char)) (by decide +kernel) rfl ?_
  intro p e s m args below meth c s₁ B hml hv
  obtain ⟨rfl, hT0, hC0⟩ := hv
  have hx := B.exec
  have hb := B.bytes
  have hr := B.returns
  have hts := atoms_spec (ws := mwJ1_charAt_3b067jq) B.pre
  have hown : s.vm.findClass RJ1 = some m.cls := findClass_of_methodNamed B.named
  have hl := lv_entry ([.ref v0, .int i1]) (n := 2) (Nat.le_of_ble_eq_true rfl)
  rw [lg_entry_eq]
  generalize (lg_sl ([.ref v0, .int i1]) ++ List.replicate (2 - (lg_sl ([.ref v0, .int i1])).length) Slot.unset).toArray = ls at hl ⊢
  have hl : lv_has ls 2 [(0, .ref v0), (1, .int i1)] := hl
  refine lv_iload_n hx hb dJ1_charAt_3b067_0 rfl (lv_at hl 1 rfl) ?_
  refine lv_aload_n hx hb dJ1_charAt_3b067_1 rfl (lv_at hl 0 rfl) ?_
  obtain ⟨y_1, ey_1⟩ : ∃ y : Int32, y = nI n := ⟨_, rfl⟩
  have ty_1 : y_1.toInt = (n : Int) := by rw [ey_1]; exact nI_toInt (by omega)
  refine va_tlen (v := y_1) hx hb hT0 sN_S ey_1.symm dJ1_charAt_3b067_2 ?_
  refine va_csv (W.runS (As := [.int i1, .int y_1]) (rest := []) ⟨hx, hb, hml, hown, hts⟩ (j_check0 l i1 y_1 (by omega) (by omega)) (va_cwS 2 hts mg_J1_charAt_3b067jq_J0_checkIndex_df160_9 rfl rfl rfl (by decide +kernel) ⟨Nat.le_of_ble_eq_true rfl, Nat.le_of_ble_eq_true rfl⟩) ⟨fun a U g mk q => ⟨q.1, sC.moved (u := U) (U := U.calling g mk a) (Vm.Alike.refl U.vm) q.2⟩, fun U hU hW => ⟨rfl, by show sC sN U U.heap; rw [hU]; exact sC.moved hW.alike hC0⟩⟩ rfl rfl hl.1 rfl (lv_room (Nat.le_of_ble_eq_true rfl)) dJ1_charAt_3b067_3 ⟨Nat.le_of_ble_eq_true rfl, Nat.le_of_ble_eq_true rfl⟩) (fun _ => ?_)
  refine lv_aload_n hx hb dJ1_charAt_3b067_6 rfl (lv_at hl 0 rfl) ?_
  refine lv_iload_n hx hb dJ1_charAt_3b067_7 rfl (lv_at hl 1 rfl) ?_
  refine va_tb hx hb hT0 sN_S (i := i1) (vp_of (a := i1.toInt) rfl (by omega) (by omega)) rfl dJ1_charAt_3b067_8 ?_
  refine lv_topi (fun y_3 ey_3 => ?_)
  have rg_y_3 := i_rng y_3
  refine lv_sipush (v := 255) hx hb dJ1_charAt_3b067_9 (by decide) ?_
  refine lv_iand hx hb dJ1_charAt_3b067_12 ?_
  refine lv_topi (fun y_4 ey_4 => ?_)
  refine lv_i2c hx hb dJ1_charAt_3b067_13 rfl ?_
  refine lv_topi (fun y_5 ey_5 => ?_)
  have cy_5 : y_5 = g0 i1.toNatClampNeg &&& 255 := by rw [ey_5, ey_4, ey_3]; exact sc_c2 _
  exact W.zret hx hb hr (by rw [cy_5]; exact sc_nar _) (fun t ht hW => ⟨_, rfl, cy_5, ht⟩) t_nil dJ1_charAt_3b067_14
def mwJ0_charAt_5068ejq : List Cond := .code yJ0_charAt_5068e cJ0_charAt_5068e 2 (some .char) :: (([.methodLink RJ0 492 yJ0_isLatin1_aae02, .instanceMethod yJ0_isLatin1_aae02, .selects RJ0 yJ0_isLatin1_aae02 yJ0_isLatin1_aae02, .initialized RJ0, .fieldLink RJ0 9 "java/lang/String" "value" "[B", .methodLink RJ0 495 yJ1_charAt_3b067, .static yJ1_charAt_3b067, .initialized RJ1] : List Cond) ++ (mwJ0_isLatin1_aae02j ++ (mwJ1_charAt_3b067jq)))
set_option maxRecDepth 100000 in
theorem gd_mwJ1_charAt_3b067jq : mwJ1_charAt_3b067jq.all goodWord = true := by decide +kernel
set_option maxRecDepth 20000 in
theorem mg_J0_charAt_5068ejq_J0_isLatin1_aae02_492 : GoodIn mwJ0_charAt_5068ejq (wsV RJ0 492 RJ0 yJ0_isLatin1_aae02 mwJ0_isLatin1_aae02j) := gi_app (A := [.methodLink RJ0 492 yJ0_isLatin1_aae02, .instanceMethod yJ0_isLatin1_aae02, .selects RJ0 yJ0_isLatin1_aae02 yJ0_isLatin1_aae02, .initialized RJ0]) (goodIn_r _ [1, 2, 3, 4] (by decide +kernel) (by decide +kernel)) (gi_sub gd_mwJ0_isLatin1_aae02j (fun w h => List.mem_cons_of_mem _ (List.mem_append_right _ (List.mem_append_left _ h))))
set_option maxRecDepth 20000 in
theorem mg_J0_charAt_5068ejq_J1_charAt_3b067_495 : GoodIn mwJ0_charAt_5068ejq (va_wsS RJ0 495 yJ1_charAt_3b067 mwJ1_charAt_3b067jq) := gi_app (A := [.methodLink RJ0 495 yJ1_charAt_3b067, .static yJ1_charAt_3b067, .initialized RJ1]) (goodIn_r _ [6, 7, 8] (by decide +kernel) (by decide +kernel)) (gi_sub gd_mwJ1_charAt_3b067jq (fun w h => List.mem_cons_of_mem _ (List.mem_append_right _ (List.mem_append_right _ (h)))))
set_option maxHeartbeats 4000000 in
set_option maxRecDepth 100000 in
theorem j_charAt_q (l : Launch) (q n : Nat) (g0 : Nat → Int32) (i1 : Int32) (h1 : 0 ≤ i1.toInt) (h2 : i1.toInt < n) (h3 : n < 1000) : Met l yJ0_charAt_5068e mwJ0_charAt_5068ejq ({ frames := 3, cells := 0, slots := 0, locals := 180 }) (va_Pc [.ref q, .int i1] (fun U => sPg q n g0 U)) (vp_Si (fun o9 => o9.toInt = vI g0 i1.toInt % 256)) 0 0 (fun _ => False) := by
  refine Met.ofW (cc := cJ0_charAt_5068e) (maxL := 2) (ret := (some .char)) (by decide +kernel) rfl ?_
  intro p e s m args below meth c s₁ B hml hv
  obtain ⟨rfl, hv0⟩ := hv
  have hx := B.exec
  have hb := B.bytes
  have hr := B.returns
  have hts := atoms_spec (ws := mwJ0_charAt_5068ejq) B.pre
  have hown : s.vm.findClass RJ0 = some m.cls := findClass_of_methodNamed B.named
  obtain ⟨hY0, hC0⟩ := hv0
  have hX0 := hY0.sX
  obtain ⟨v0, hV0, hT0⟩ := hY0.2.2
  have hl := lv_entry ([.ref q, .int i1]) (n := 2) (Nat.le_of_ble_eq_true rfl)
  rw [lg_entry_eq]
  generalize (lg_sl ([.ref q, .int i1]) ++ List.replicate (2 - (lg_sl ([.ref q, .int i1])).length) Slot.unset).toArray = ls at hl ⊢
  have hl : lv_has ls 2 [(0, .ref q), (1, .int i1)] := hl
  refine lv_aload_n hx hb dJ0_charAt_5068e_0 rfl (lv_at hl 0 rfl) ?_
  refine vp_callSi (W.runV (As := []) (rest := []) ⟨hx, hb, hml, hown, hts⟩ (j_isLatin1 l q n) (cwV 0 hts mg_J0_charAt_5068ejq_J0_isLatin1_aae02_492 rfl rfl rfl (by decide +kernel) ⟨Nat.le_of_ble_eq_true rfl, Nat.le_of_ble_eq_true rfl⟩) ⟨fun a U g mk q => ⟨q.1, sP.call q.2⟩, sX.recv hX0 sN_S, fun U hU hW => ⟨rfl, sP.of hX0 hC0 sN_S hW.alike hU⟩⟩ rfl rfl hl.1 rfl (lv_room (Nat.le_of_ble_eq_true rfl)) dJ0_charAt_5068e_1 ⟨Nat.le_of_ble_eq_true rfl, Nat.le_of_ble_eq_true rfl⟩) (fun r_1 hw => ?_)
  subst hw
  refine lv_if_eq (tgt := 16) hx hb dJ0_charAt_5068e_4 (by decide) (fun k_2 => absurd k_2 (by decide)) (fun k_2 => ?_)
  have tk_2 := c_ne (a := 1) (b := 0) (by decide) (by decide) k_2
  refine lv_aload_n hx hb dJ0_charAt_5068e_7 rfl (lv_at hl 0 rfl) ?_
  refine vk_getf hx hb hV0 sN_S hown (hts (.fieldLink RJ0 9 "java/lang/String" "value" "[B") (List.mem_of_getElem? (i := 5) (by decide +kernel))) (fun _ h => h) dJ0_charAt_5068e_8 ?_
  refine lv_iload_n hx hb dJ0_charAt_5068e_11 rfl (lv_at hl 1 rfl) ?_
  refine vp_callSi (W.runS (As := [.ref v0, .int i1]) (rest := []) ⟨hx, hb, hml, hown, hts⟩ (j_charAt1_q l v0 n g0 i1 h1 h2 h3) (va_cwS 2 hts mg_J0_charAt_5068ejq_J1_charAt_3b067_495 rfl rfl rfl (by decide +kernel) ⟨Nat.le_of_ble_eq_true rfl, Nat.le_of_ble_eq_true rfl⟩) ⟨fun a U g mk q => ⟨q.1, va_T.moved (u := U) (U := U.calling g mk a) (Vm.Alike.refl U.vm) q.2.1, sC.moved (u := U) (U := U.calling g mk a) (Vm.Alike.refl U.vm) q.2.2⟩, fun U hU hW => ⟨rfl, by show va_T .byte v0 n (fun j => .int (g0 j)) sN U U.heap ∧ sC sN U U.heap; rw [hU]; exact ⟨hT0.moved hW.alike, sC.moved hW.alike hC0⟩⟩⟩ rfl rfl hl.1 rfl (lv_room (Nat.le_of_ble_eq_true rfl)) dJ0_charAt_5068e_12 ⟨Nat.le_of_ble_eq_true rfl, Nat.le_of_ble_eq_true rfl⟩) (fun r_3 hw => ?_)
  exact W.zret hx hb hr (by rw [hw]; exact sc_nar _) (fun t ht hW => ⟨_, rfl, (i_and255 hw), ht⟩) t_nil dJ0_charAt_5068e_15

theorem nw_moved {C T : String} {s U : State} (h : s.vm.Alike U.vm) (hZ : va_Nw (.castable C T) s) : va_Nw (.castable C T) U := va_tabs rfl (rfl : (s.setVm U.vm).vm = U.vm) (by rw [Cond.castable_setVm h]; exact hZ)
theorem w_poolW {D : va_G} {cl : List vw_C} {W : va_W} {H : Heap} (h : va_P D cl W H) : ∀ q ∈ W, ¬ va_A [] H.size q.1 := fun q hq hA => by
  obtain ⟨k, hk⟩ := List.getElem?_of_mem hq
  have h1 := (h k q hk).lt
  rcases hA with ⟨j, e, hj⟩ | hj
  · cases hj
  · omega
theorem dJ7_checkLength_df160_0 : decode cJ7_checkLength_df160 0 = .ok (.iload_n 1, 1) := by decide +kernel
theorem dJ7_checkLength_df160_1 : decode cJ7_checkLength_df160 1 = .ok (.iload_n 0, 1) := by decide +kernel
theorem dJ7_checkLength_df160_2 : decode cJ7_checkLength_df160 2 = .ok (.if_icmp .ge 35, 3) := by decide +kernel
theorem dJ7_checkLength_df160_37 : decode cJ7_checkLength_df160 37 = .ok (.return_, 1) := by decide +kernel
def mwJ7_checkLength_df160 : List Cond := .code yJ7_checkLength_df160 cJ7_checkLength_df160 2 none :: (([] : List Cond))
set_option maxHeartbeats 4000000 in
set_option maxRecDepth 100000 in
/-- Arrays.checkLength -/
theorem s_checkLength (l : Launch) (dC : Nat → ClassId) (dI : Nat → Nat → Nat) (i j : Int32) (h0 : i.toInt ≤ j.toInt) : Met l yJ7_checkLength_df160 mwJ7_checkLength_df160 ({ frames := 0, cells := 0, slots := 0, locals := 0 }) (va_Pc [.int i, .int j] (fun _ => True)) (va_Sv (fun _ => True)) 0 0 (fun _ => False) := by
  refine Met.ofW (cc := cJ7_checkLength_df160) (maxL := 2) (ret := none) (by decide +kernel) rfl ?_
  intro p e s m args below meth c s₁ B hml hv
  obtain ⟨rfl, -⟩ := hv
  have hx := B.exec
  have hb := B.bytes
  have hr := B.returns
  have hts := atoms_spec (ws := mwJ7_checkLength_df160) B.pre
  have hown : s.vm.findClass RJ7 = some m.cls := findClass_of_methodNamed B.named
  have hlocks := B.notSynchronized
  have hl := lv_entry ([.int i, .int j]) (n := 2) (Nat.le_of_ble_eq_true rfl)
  rw [lg_entry_eq]
  generalize (lg_sl ([.int i, .int j]) ++ List.replicate (2 - (lg_sl ([.int i, .int j])).length) Slot.unset).toArray = ls at hl ⊢
  have hl : lv_has ls 2 [(0, .int i), (1, .int j)] := hl
  have rg_i := i_rng i
  have rg_j := i_rng j
  refine lv_iload_n hx hb dJ7_checkLength_df160_0 rfl (lv_at hl 1 rfl) ?_
  refine lv_iload_n hx hb dJ7_checkLength_df160_1 rfl (lv_at hl 0 rfl) ?_
  refine lv_icmp_ge (tgt := 37) hx hb dJ7_checkLength_df160_2 (by decide) (fun k_1 => ?_) (fun k_1 => absurd (by rw [Int32.le_iff_toInt_le]; omega) k_1)
  have tk_1 := c_ge (a := j.toInt) (b := i.toInt) rfl rfl k_1
  exact W.vret hx hb hr (fun t ht hW => ⟨rfl, trivial, ht⟩) t_nil dJ7_checkLength_df160_37
theorem dJ7_copyOfRangeInt_feecc_0 : decode cJ7_copyOfRangeInt_feecc 0 = .ok (.iload_n 1, 1) := by decide +kernel
theorem dJ7_copyOfRangeInt_feecc_1 : decode cJ7_copyOfRangeInt_feecc 1 = .ok (.iload_n 2, 1) := by decide +kernel
theorem dJ7_copyOfRangeInt_feecc_2 : decode cJ7_copyOfRangeInt_feecc 2 = .ok (.invokestatic 343, 3) := by decide +kernel
theorem dJ7_copyOfRangeInt_feecc_5 : decode cJ7_copyOfRangeInt_feecc 5 = .ok (.iload_n 2, 1) := by decide +kernel
theorem dJ7_copyOfRangeInt_feecc_6 : decode cJ7_copyOfRangeInt_feecc 6 = .ok (.iload_n 1, 1) := by decide +kernel
theorem dJ7_copyOfRangeInt_feecc_7 : decode cJ7_copyOfRangeInt_feecc 7 = .ok (.isub, 1) := by decide +kernel
theorem dJ7_copyOfRangeInt_feecc_8 : decode cJ7_copyOfRangeInt_feecc 8 = .ok (.istore_n 3, 1) := by decide +kernel
theorem dJ7_copyOfRangeInt_feecc_9 : decode cJ7_copyOfRangeInt_feecc 9 = .ok (.iload_n 3, 1) := by decide +kernel
theorem dJ7_copyOfRangeInt_feecc_10 : decode cJ7_copyOfRangeInt_feecc 10 = .ok (.newarray .int, 2) := by decide +kernel
theorem dJ7_copyOfRangeInt_feecc_12 : decode cJ7_copyOfRangeInt_feecc 12 = .ok (.astore 4, 2) := by decide +kernel
theorem dJ7_copyOfRangeInt_feecc_14 : decode cJ7_copyOfRangeInt_feecc 14 = .ok (.aload_n 0, 1) := by decide +kernel
theorem dJ7_copyOfRangeInt_feecc_15 : decode cJ7_copyOfRangeInt_feecc 15 = .ok (.iload_n 1, 1) := by decide +kernel
theorem dJ7_copyOfRangeInt_feecc_16 : decode cJ7_copyOfRangeInt_feecc 16 = .ok (.aload 4, 2) := by decide +kernel
theorem dJ7_copyOfRangeInt_feecc_18 : decode cJ7_copyOfRangeInt_feecc 18 = .ok (.iconst 0, 1) := by decide +kernel
theorem dJ7_copyOfRangeInt_feecc_19 : decode cJ7_copyOfRangeInt_feecc 19 = .ok (.aload_n 0, 1) := by decide +kernel
theorem dJ7_copyOfRangeInt_feecc_20 : decode cJ7_copyOfRangeInt_feecc 20 = .ok (.arraylength, 1) := by decide +kernel
theorem dJ7_copyOfRangeInt_feecc_21 : decode cJ7_copyOfRangeInt_feecc 21 = .ok (.iload_n 1, 1) := by decide +kernel
theorem dJ7_copyOfRangeInt_feecc_22 : decode cJ7_copyOfRangeInt_feecc 22 = .ok (.isub, 1) := by decide +kernel
theorem dJ7_copyOfRangeInt_feecc_23 : decode cJ7_copyOfRangeInt_feecc 23 = .ok (.iload_n 3, 1) := by decide +kernel
theorem dJ7_copyOfRangeInt_feecc_24 : decode cJ7_copyOfRangeInt_feecc 24 = .ok (.invokestatic 304, 3) := by decide +kernel
theorem dJ7_copyOfRangeInt_feecc_27 : decode cJ7_copyOfRangeInt_feecc 27 = .ok (.invokestatic 150, 3) := by decide +kernel
theorem dJ7_copyOfRangeInt_feecc_30 : decode cJ7_copyOfRangeInt_feecc 30 = .ok (.aload 4, 2) := by decide +kernel
theorem dJ7_copyOfRangeInt_feecc_32 : decode cJ7_copyOfRangeInt_feecc 32 = .ok (.areturn, 1) := by decide +kernel
def mwJ7_copyOfRangeInt_feecc : List Cond := .code yJ7_copyOfRangeInt_feecc cJ7_copyOfRangeInt_feecc 5 (some (.array .int)) :: (([.methodLink RJ7 343 yJ7_checkLength_df160, .static yJ7_checkLength_df160, .initialized RJ7, .arrayClass .int, .methodLink RJ7 304 Lib.Math.min.name, .static Lib.Math.min.name, .initialized "java/lang/Math", .code Lib.Math.min.name Lib.Math.min.code 2 (some .int), .methodLink RJ7 150 arraycopyName, .native arraycopyName, .static arraycopyName, .initialized "java/lang/System"] : List Cond) ++ (mwJ7_checkLength_df160))
set_option maxRecDepth 100000 in
theorem gd_mwJ7_checkLength_df160 : mwJ7_checkLength_df160.all goodWord = true := by decide +kernel
set_option maxRecDepth 20000 in
theorem mg_J7_copyOfRangeInt_feecc_J7_checkLength_df160_343 : GoodIn mwJ7_copyOfRangeInt_feecc (va_wsS RJ7 343 yJ7_checkLength_df160 mwJ7_checkLength_df160) := gi_app (A := [.methodLink RJ7 343 yJ7_checkLength_df160, .static yJ7_checkLength_df160, .initialized RJ7]) (goodIn_r _ [1, 2, 3] (by decide +kernel) (by decide +kernel)) (gi_sub gd_mwJ7_checkLength_df160 (fun w h => List.mem_cons_of_mem _ (List.mem_append_right _ (h))))
set_option maxHeartbeats 4000000 in
set_option maxRecDepth 100000 in
/-- Arrays.copyOfRangeInt -/
theorem s_copyOfRangeInt (l : Launch) (dC : Nat → ClassId) (dI : Nat → Nat → Nat) (W9 : va_W) (T9 : List (ClassId × FieldType)) (sa ks : Nat) (cs : ClassId) (fs : Nat → Int32) (U9 sz : Nat) (i1 i2 : Int32) (hm : (sa, .inl (cs, ks, .inl fs)) ∈ W9) (hmt : (cs, .int) ∈ T9) (hks : ks ≤ 900) (h0 : 0 ≤ i1.toInt ∧ i1.toInt ≤ i2.toInt ∧ i2.toInt ≤ ks) (hU9 : i2.toInt - i1.toInt ≤ U9) : Met l yJ7_copyOfRangeInt_feecc mwJ7_copyOfRangeInt_feecc ({ frames := 1, cells := 1, slots := (U9), locals := 60 }) (va_Pc [.ref sa, .int i1, .int i2] (fun U => U.heap.size = sz ∧ va_P (dC, dI) vwCl ([]) U.heap ∧ va_K (dC, dI) vwCl ([]) U ∧ va_D (fun _ => True) ([]) ∧ va_P (dC, dI) vwCl W9 U.heap ∧ va_K (dC, dI) vwCl T9 U ∧ (∀ q ∈ W9, ¬ va_A ([]) sz q.1))) (va_Qr (fun (_ : Unit) => True) (fun _ a t => ∃ (k9 : Nat) (f9 : Nat → Int32) (cN : ClassId), (k9 : Int) = i2.toInt - i1.toInt ∧ va_P (dC, dI) vwCl [(a, .inl (cN, k9, .inl f9))] t.heap ∧ va_K (dC, dI) vwCl [(cN, .int)] t ∧ va_D (va_A ([]) sz) [(a, .inl (cN, k9, .inl f9))]) (va_A ([]) sz)) 1 (U9) (va_A ([]) sz) := by
  refine Met.ofW (cc := cJ7_copyOfRangeInt_feecc) (maxL := 5) (ret := (some (.array .int))) (by decide +kernel) rfl ?_
  intro p e s m args below meth c s₁ B hml hv
  obtain ⟨rfl, hsz, hP, hK, hD0, hQ0, hKQ, hQA⟩ := hv
  have hx := B.exec
  have hb := B.bytes
  have hr := B.returns
  have hts := atoms_spec (ws := mwJ7_copyOfRangeInt_feecc) B.pre
  have hown : s.vm.findClass RJ7 = some m.cls := findClass_of_methodNamed B.named
  have hlocks := B.notSynchronized
  subst hsz
  have hD := hD0.self (sz := s.heap.size)
  generalize hAe : va_A ([]) s.heap.size = A at hD hQA ⊢
  have hA : ∀ q : Nat, s.heap.size ≤ q → A q := fun q h => by rw [← hAe]; exact Or.inr h
  have hP : va_P (dC, dI) vwCl [] s.heap := hP
  have hD : va_D A [] := hD
  have hK : va_K (dC, dI) vwCl [] s := hK
  generalize hH : s.heap = H at hP ⊢
  have hS : va_S A s.heap H [] := by rw [← hH]; exact va_S.rf
  have hQ := q_at hQ0 hQA hS
  have hl := lv_entry ([.ref sa, .int i1, .int i2]) (n := 5) (Nat.le_of_ble_eq_true rfl)
  rw [lg_entry_eq]
  generalize (lg_sl ([.ref sa, .int i1, .int i2]) ++ List.replicate (5 - (lg_sl ([.ref sa, .int i1, .int i2])).length) Slot.unset).toArray = ls at hl ⊢
  have hl : lv_has ls 5 [(0, .ref sa), (1, .int i1), (2, .int i2)] := hl
  have rg_i1 := i_rng i1
  have rg_i2 := i_rng i2
  obtain ⟨k_1, hk_1⟩ := List.getElem?_of_mem hm
  obtain ⟨j_2, hj_2⟩ := List.getElem?_of_mem hmt
  refine lv_iload_n hx hb dJ7_copyOfRangeInt_feecc_0 rfl (lv_at hl 1 rfl) ?_
  refine lv_iload_n hx hb dJ7_copyOfRangeInt_feecc_1 rfl (lv_at hl 2 rfl) ?_
  refine va_csv (W.runS (As := [.int i1, .int i2]) (rest := []) ⟨hx, hb, hml, hown, hts⟩ (s_checkLength l dC dI i1 i2 (by omega)) (va_cwS 2 hts mg_J7_copyOfRangeInt_feecc_J7_checkLength_df160_343 rfl rfl rfl (by decide +kernel) ⟨Nat.le_of_ble_eq_true rfl, Nat.le_of_ble_eq_true rfl⟩) ⟨fun a U g mk q => ⟨q.1, trivial⟩, fun U hU hW => ⟨rfl, trivial⟩⟩ rfl rfl hl.1 rfl (lv_room (Nat.le_of_ble_eq_true rfl)) dJ7_copyOfRangeInt_feecc_2 ⟨Nat.le_of_ble_eq_true rfl, Nat.le_of_ble_eq_true rfl⟩) (fun _ => ?_)
  refine lv_iload_n hx hb dJ7_copyOfRangeInt_feecc_5 rfl (lv_at hl 2 rfl) ?_
  refine lv_iload_n hx hb dJ7_copyOfRangeInt_feecc_6 rfl (lv_at hl 1 rfl) ?_
  refine lv_isub hx hb dJ7_copyOfRangeInt_feecc_7 ?_
  refine lv_topi (fun y_5 ey_5 => ?_)
  first | have ty_5 := i_sub (a := i2.toInt) (b := i1.toInt) rfl rfl ey_5 (by omega) (by omega) | skip
  refine lv_istore_n (lv' := [(3, .int y_5), (0, .ref sa), (1, .int i1), (2, .int i2)]) hx hb dJ7_copyOfRangeInt_feecc_8 rfl hl (by decide) rfl (fun ls hl => ?_)
  refine lv_iload_n hx hb dJ7_copyOfRangeInt_feecc_9 rfl (lv_at hl 0 rfl) ?_
  obtain ⟨n_8, hn_8, en_8⟩ := nI_of (i_nn (x := y_5) rfl (by omega))
  have tn_8 : y_5.toInt = (n_8 : Int) := by rw [en_8]; exact nI_toInt hn_8
  have un_8 : n_8 ≤ (U9) := by omega
  refine va_newa (atype := .int) (ty := .int) (n := y_5) (N' := n_8) (a0 := (n_8, .inl (fun _ => 0))) hx hb (hts (.arrayClass .int) (List.mem_of_getElem? (i := 4) (by decide +kernel))) rfl hK hP hD hS hA (fun _ => rfl) (i_nn rfl (by omega)) (by rw [en_8]; exact nI_clamp hn_8) (by show n_8 * 4 ≤ 536870912; omega) (Nat.le_of_ble_eq_true rfl) (Nat.le_trans (Nat.add_le_add_left un_8 _) (show 0 + (U9) ≤ (U9) by omega)) dJ7_copyOfRangeInt_feecc_10 (fun q_6 c_7 H hK hP hD hS => ?_)
  have hP : va_P (dC, dI) vwCl [(q_6, .inl (c_7, n_8, .inl (fun _ => 0)))] H := hP
  have hD : va_D A [(q_6, .inl (c_7, n_8, .inl (fun _ => 0)))] := hD
  have hQ := q_at hQ0 hQA hS
  have hK : va_K (dC, dI) vwCl [(c_7, .int)] s := hK
  refine W.widen (k := 1) (n := (U9)) (by omega) (by omega) ?_
  refine lv_astore (lv' := [(4, .ref q_6), (3, .int y_5), (0, .ref sa), (1, .int i1), (2, .int i2)]) hx hb dJ7_copyOfRangeInt_feecc_12 hl (by decide) rfl (fun ls hl => ?_)
  refine lv_aload_n hx hb dJ7_copyOfRangeInt_feecc_14 rfl (lv_at hl 2 rfl) ?_
  refine lv_iload_n hx hb dJ7_copyOfRangeInt_feecc_15 rfl (lv_at hl 3 rfl) ?_
  refine lv_aload hx hb dJ7_copyOfRangeInt_feecc_16 (lv_at hl 0 rfl) ?_
  refine lv_iconst (v := 0) hx hb dJ7_copyOfRangeInt_feecc_18 (by decide) ?_
  refine lv_aload_n hx hb dJ7_copyOfRangeInt_feecc_19 rfl (lv_at hl 2 rfl) ?_
  refine va_alen hx hb hKQ hQ k_1 j_2 hk_1 hj_2 rfl dJ7_copyOfRangeInt_feecc_20 ?_
  refine lv_topi (fun y_9 ey_9 => ?_)
  have ty_9 : y_9.toInt = (ks : Int) := i_len ey_9 (by omega)
  refine lv_iload_n hx hb dJ7_copyOfRangeInt_feecc_21 rfl (lv_at hl 3 rfl) ?_
  refine lv_isub hx hb dJ7_copyOfRangeInt_feecc_22 ?_
  refine lv_topi (fun y_10 ey_10 => ?_)
  first | have ty_10 := i_sub (a := y_9.toInt) (b := i1.toInt) rfl rfl ey_10 (by omega) (by omega) | skip
  refine lv_iload_n hx hb dJ7_copyOfRangeInt_feecc_23 rfl (lv_at hl 1 rfl) ?_
  refine va_mmin hx hb (hml.trans hl.1.symm) hown (hts (.methodLink RJ7 304 Lib.Math.min.name) (List.mem_of_getElem? (i := 5) (by decide +kernel))) (hts (.static Lib.Math.min.name) (List.mem_of_getElem? (i := 6) (by decide +kernel))) (hts (.initialized "java/lang/Math") (List.mem_of_getElem? (i := 7) (by decide +kernel))) (hts (.code Lib.Math.min.name Lib.Math.min.code 2 (some .int)) (List.mem_of_getElem? (i := 8) (by decide +kernel))) (Nat.le_of_ble_eq_true rfl) (Nat.le_of_ble_eq_true rfl) (Nat.le_of_ble_eq_true rfl) (show (U9) ≤ (U9) by omega) dJ7_copyOfRangeInt_feecc_24 ?_
  refine lv_topi (fun y_11 ey_11 => ?_)
  have ty_11 := i_min (a := y_10.toInt) (b := y_5.toInt) rfl rfl ey_11
  refine q_copyi hx hb (hml.trans hl.1.symm) hown (hts (.methodLink RJ7 150 arraycopyName) (List.mem_of_getElem? (i := 9) (by decide +kernel))) (hts (.native arraycopyName) (List.mem_of_getElem? (i := 10) (by decide +kernel))) (hts (.static arraycopyName) (List.mem_of_getElem? (i := 11) (by decide +kernel))) (hts (.initialized "java/lang/System") (List.mem_of_getElem? (i := 12) (by decide +kernel))) hQ hKQ hK hP hD hS k_1 0 j_2 0 hk_1 rfl hj_2 rfl rfl (i_nn (a := i1.toInt) rfl (by omega)) (i_nn (a := 0) (by decide) (by omega)) (i_nn (a := y_11.toInt) rfl (by omega)) (cp_le (a := i1.toInt) (b := y_11.toInt) rfl rfl (by omega) (by omega) (by omega)) (cp_le (a := 0) (b := y_11.toInt) (by decide) rfl (by omega) (by omega) (by omega)) (fun _ _ => rfl) (Nat.le_of_ble_eq_true rfl) (Nat.le_trans (m := 60) (by decide +kernel) (Nat.le_refl _)) dJ7_copyOfRangeInt_feecc_27 (fun H locs hP hD hS => ?_)
  generalize hf_f_12 : va_cpy _ _ _ _ _ = f_12 at hP hD
  have hP : va_P (dC, dI) vwCl [(q_6, .inl (c_7, n_8, .inl f_12))] H := hP
  have hD : va_D A [(q_6, .inl (c_7, n_8, .inl f_12))] := hD
  have hQ := q_at hQ0 hQA hS
  refine lv_aload hx hb dJ7_copyOfRangeInt_feecc_30 (lv_at hl 0 rfl) ?_
  have hP9 := hP.sub (ws' := [(q_6, .inl (c_7, n_8, .inl f_12))]) [0] rfl
  have hD9 := hD.sub (ws' := [(q_6, .inl (c_7, n_8, .inl f_12))]) [0] (by decide) rfl
  have hK9 := hK.sub (tys' := [(c_7, .int)]) [0] rfl
  refine W.widen (k := 1) (n := (U9)) (by omega) (by omega) ?_
  exact W.aret hx hb hr (Or.inr ⟨_, rfl⟩) (Or.inr ⟨_, rfl⟩) (fun t ht hW => ⟨⟨(), _, rfl, trivial, n_8, f_12, c_7, by omega, by rw [ht]; exact hP9, va_K.moved hW.alike hK9, hD9⟩, hS.F ht⟩) hS.2.2 dJ7_copyOfRangeInt_feecc_32
theorem dJ7_copyOfRange_feecc_0 : decode cJ7_copyOfRange_feecc 0 = .ok (.iload_n 1, 1) := by decide +kernel
theorem dJ7_copyOfRange_feecc_1 : decode cJ7_copyOfRange_feecc 1 = .ok (.ifCond .ne 9, 3) := by decide +kernel
theorem dJ7_copyOfRange_feecc_4 : decode cJ7_copyOfRange_feecc 4 = .ok (.iload_n 2, 1) := by decide +kernel
theorem dJ7_copyOfRange_feecc_5 : decode cJ7_copyOfRange_feecc 5 = .ok (.aload_n 0, 1) := by decide +kernel
theorem dJ7_copyOfRange_feecc_6 : decode cJ7_copyOfRange_feecc 6 = .ok (.arraylength, 1) := by decide +kernel
theorem dJ7_copyOfRange_feecc_7 : decode cJ7_copyOfRange_feecc 7 = .ok (.if_icmp .eq 10, 3) := by decide +kernel
theorem dJ7_copyOfRange_feecc_10 : decode cJ7_copyOfRange_feecc 10 = .ok (.aload_n 0, 1) := by decide +kernel
theorem dJ7_copyOfRange_feecc_11 : decode cJ7_copyOfRange_feecc 11 = .ok (.iload_n 1, 1) := by decide +kernel
theorem dJ7_copyOfRange_feecc_12 : decode cJ7_copyOfRange_feecc 12 = .ok (.iload_n 2, 1) := by decide +kernel
theorem dJ7_copyOfRange_feecc_13 : decode cJ7_copyOfRange_feecc 13 = .ok (.invokestatic 351, 3) := by decide +kernel
theorem dJ7_copyOfRange_feecc_16 : decode cJ7_copyOfRange_feecc 16 = .ok (.areturn, 1) := by decide +kernel
theorem dJ7_copyOfRange_feecc_17 : decode cJ7_copyOfRange_feecc 17 = .ok (.aload_n 0, 1) := by decide +kernel
theorem dJ7_copyOfRange_feecc_18 : decode cJ7_copyOfRange_feecc 18 = .ok (.invokevirtual 316, 3) := by decide +kernel
theorem dJ7_copyOfRange_feecc_21 : decode cJ7_copyOfRange_feecc 21 = .ok (.checkcast 317, 3) := by decide +kernel
theorem dJ7_copyOfRange_feecc_24 : decode cJ7_copyOfRange_feecc 24 = .ok (.areturn, 1) := by decide +kernel
def mwJ7_copyOfRange_feecc : List Cond := .code yJ7_copyOfRange_feecc cJ7_copyOfRange_feecc 3 (some (.array .int)) :: (([.methodLink RJ7 351 yJ7_copyOfRangeInt_feecc, .static yJ7_copyOfRangeInt_feecc, .initialized RJ7, .methodLink RJ7 316 ⟨"[I", "clone", "()Ljava/lang/Object;"⟩, .sameMethod "[I" "java/lang/Object" "clone" "()Ljava/lang/Object;", .native ⟨"java/lang/Object", "clone", "()Ljava/lang/Object;"⟩, .instanceMethod ⟨"java/lang/Object", "clone", "()Ljava/lang/Object;"⟩, .selects "[I" ⟨"[I", "clone", "()Ljava/lang/Object;"⟩ ⟨"java/lang/Object", "clone", "()Ljava/lang/Object;"⟩, .classLink RJ7 317 "[I"] : List Cond) ++ (mwJ7_copyOfRangeInt_feecc))
set_option maxRecDepth 100000 in
theorem gd_mwJ7_copyOfRangeInt_feecc : mwJ7_copyOfRangeInt_feecc.all goodWord = true := by decide +kernel
set_option maxRecDepth 20000 in
theorem mg_J7_copyOfRange_feecc_J7_copyOfRangeInt_feecc_351 : GoodIn mwJ7_copyOfRange_feecc (va_wsS RJ7 351 yJ7_copyOfRangeInt_feecc mwJ7_copyOfRangeInt_feecc) := gi_app (A := [.methodLink RJ7 351 yJ7_copyOfRangeInt_feecc, .static yJ7_copyOfRangeInt_feecc, .initialized RJ7]) (goodIn_r _ [1, 2, 3] (by decide +kernel) (by decide +kernel)) (gi_sub gd_mwJ7_copyOfRangeInt_feecc (fun w h => List.mem_cons_of_mem _ (List.mem_append_right _ (h))))
set_option maxHeartbeats 4000000 in
set_option maxRecDepth 100000 in
/-- Arrays.copyOfRange -/
theorem s_copyOfRange (l : Launch) (dC : Nat → ClassId) (dI : Nat → Nat → Nat) (W9 : va_W) (T9 : List (ClassId × FieldType)) (sa ks : Nat) (cs : ClassId) (fs : Nat → Int32) (U9 sz : Nat) (i1 i2 : Int32) (hm : (sa, .inl (cs, ks, .inl fs)) ∈ W9) (hmt : (cs, .int) ∈ T9) (hks : ks ≤ 900) (h0 : 0 ≤ i1.toInt ∧ i1.toInt ≤ i2.toInt ∧ i2.toInt ≤ ks) (hU9 : i2.toInt - i1.toInt ≤ U9) : Met l yJ7_copyOfRange_feecc mwJ7_copyOfRange_feecc ({ frames := 2, cells := 1, slots := (U9), locals := 120 }) (va_Pc [.ref sa, .int i1, .int i2] (fun U => U.heap.size = sz ∧ va_P (dC, dI) vwCl ([]) U.heap ∧ va_K (dC, dI) vwCl ([]) U ∧ va_D (fun _ => True) ([]) ∧ va_Nw (.castable "[I" "java/lang/Cloneable") U ∧ va_P (dC, dI) vwCl W9 U.heap ∧ va_K (dC, dI) vwCl T9 U ∧ (∀ q ∈ W9, ¬ va_A ([]) sz q.1))) (va_Qr (fun (_ : Unit) => True) (fun _ a t => ∃ (k9 : Nat) (f9 : Nat → Int32) (cN : ClassId), (k9 : Int) = i2.toInt - i1.toInt ∧ va_P (dC, dI) vwCl [(a, .inl (cN, k9, .inl f9))] t.heap ∧ va_K (dC, dI) vwCl [(cN, .int)] t ∧ va_D (va_A ([]) sz) [(a, .inl (cN, k9, .inl f9))]) (va_A ([]) sz)) 1 (U9) (va_A ([]) sz) := by
  refine Met.ofW (cc := cJ7_copyOfRange_feecc) (maxL := 3) (ret := (some (.array .int))) (by decide +kernel) rfl ?_
  intro p e s m args below meth c s₁ B hml hv
  obtain ⟨rfl, hsz, hP, hK, hD0, hcl, hQ0, hKQ, hQA⟩ := hv
  have hx := B.exec
  have hb := B.bytes
  have hr := B.returns
  have hts := atoms_spec (ws := mwJ7_copyOfRange_feecc) B.pre
  have hown : s.vm.findClass RJ7 = some m.cls := findClass_of_methodNamed B.named
  have hlocks := B.notSynchronized
  subst hsz
  have hD := hD0.self (sz := s.heap.size)
  generalize hAe : va_A ([]) s.heap.size = A at hD hQA ⊢
  have hA : ∀ q : Nat, s.heap.size ≤ q → A q := fun q h => by rw [← hAe]; exact Or.inr h
  have hP : va_P (dC, dI) vwCl [] s.heap := hP
  have hD : va_D A [] := hD
  have hK : va_K (dC, dI) vwCl [] s := hK
  generalize hH : s.heap = H at hP ⊢
  have hS : va_S A s.heap H [] := by rw [← hH]; exact va_S.rf
  have hQ := q_at hQ0 hQA hS
  have hl := lv_entry ([.ref sa, .int i1, .int i2]) (n := 3) (Nat.le_of_ble_eq_true rfl)
  rw [lg_entry_eq]
  generalize (lg_sl ([.ref sa, .int i1, .int i2]) ++ List.replicate (3 - (lg_sl ([.ref sa, .int i1, .int i2])).length) Slot.unset).toArray = ls at hl ⊢
  have hl : lv_has ls 3 [(0, .ref sa), (1, .int i1), (2, .int i2)] := hl
  have rg_i1 := i_rng i1
  have rg_i2 := i_rng i2
  obtain ⟨k_1, hk_1⟩ := List.getElem?_of_mem hm
  obtain ⟨j_2, hj_2⟩ := List.getElem?_of_mem hmt
  refine lv_iload_n hx hb dJ7_copyOfRange_feecc_0 rfl (lv_at hl 1 rfl) ?_
  refine lv_if_ne (tgt := 10) hx hb dJ7_copyOfRange_feecc_1 (by decide) (fun k_3 => ?_) (fun k_3 => ?_)
  · have tk_3 := c_ne (a := i1.toInt) (b := 0) rfl (by decide) k_3
    refine lv_aload_n hx hb dJ7_copyOfRange_feecc_10 rfl (lv_at hl 0 rfl) ?_
    refine lv_iload_n hx hb dJ7_copyOfRange_feecc_11 rfl (lv_at hl 1 rfl) ?_
    refine lv_iload_n hx hb dJ7_copyOfRange_feecc_12 rfl (lv_at hl 2 rfl) ?_
    have hPc := hP.sub (ws' := []) [] rfl
    have hKc := hK.sub (tys' := []) [] rfl
    have hDc := hD.sub (ws' := []) [] (by decide) rfl
    have hFc := va_free (wc := []) hD hS hA [] rfl
    refine va_callr (va_runS (As := [.ref sa, .int i1, .int i2]) (rest := []) ⟨hx, hb, hml, hown, hts⟩ (s_copyOfRangeInt l dC dI W9 T9 sa ks cs fs (U9) H.size i1 i2 hm hmt (by omega) (by omega) (by omega)) (va_cwS 3 hts mg_J7_copyOfRange_feecc_J7_copyOfRangeInt_feecc_351 rfl rfl rfl (by decide +kernel) ⟨Nat.le_of_ble_eq_true rfl, Nat.le_of_ble_eq_true rfl⟩) ⟨fun a U g mk q => by obtain ⟨q0, q1, qP, qK, qD, qE0, qE1, qE2⟩ := q; exact ⟨q0, q1, qP, va_K.moved (u := U) (U := U.calling g mk a) (Vm.Alike.refl U.vm) qK, qD, qE0, va_K.moved (u := U) (U := U.calling g mk a) (Vm.Alike.refl U.vm) qE1, qE2⟩, fun U hU hW => ⟨rfl, by rw [hU], by rw [hU]; exact hPc, va_K.moved hW.alike hKc, hDc.weaken (fun _ _ _ _ => trivial), (by rw [hU]; exact hQ), va_K.moved hW.alike hKQ, w_poolW hQ⟩⟩ rfl rfl hl.1 rfl (lv_room (Nat.le_of_ble_eq_true rfl)) dJ7_copyOfRange_feecc_13 ⟨Nat.le_of_ble_eq_true rfl, (show 0 + (U9) ≤ (U9) by omega)⟩) hS (fun q _ h => hFc q h) hFc (fun u r_5 t H1 locs ht hvm hw hB hz1 hk1 hS => ?_)
    obtain ⟨n_6, f_7, c_8, tn_6, hP1, hK1, hD1⟩ := hB
    rw [ht] at hP1
    have hK := hK.app (va_K.moved hvm.symm hK1)
    have hK : va_K (dC, dI) vwCl [(c_8, .int)] s := hK
    obtain ⟨hP, hD⟩ := va_join (wr := []) (w1 := [(r_5, .inl (c_8, n_6, .inl f_7))]) hP hD [] [] rfl rfl (by decide) (by decide) hk1 hFc hP1 hD1
    generalize H1 = H at hP hS ⊢
    have hP : va_P (dC, dI) vwCl [(r_5, .inl (c_8, n_6, .inl f_7))] H := hP
    have hD : va_D A [(r_5, .inl (c_8, n_6, .inl f_7))] := hD
    have hQ := q_at hQ0 hQA hS
    have hP9 := hP.sub (ws' := [(r_5, .inl (c_8, n_6, .inl f_7))]) [0] rfl
    have hD9 := hD.sub (ws' := [(r_5, .inl (c_8, n_6, .inl f_7))]) [0] (by decide) rfl
    have hK9 := hK.sub (tys' := [(c_8, .int)]) [0] rfl
    refine W.widen (k := 1) (n := (U9)) (by omega) (by omega) ?_
    exact W.aret hx hb hr (Or.inr ⟨_, rfl⟩) (Or.inr ⟨_, rfl⟩) (fun t ht hW => ⟨⟨(), _, rfl, trivial, n_6, f_7, c_8, by omega, by rw [ht]; exact hP9, va_K.moved hW.alike hK9, hD9⟩, hS.F ht⟩) hS.2.2 dJ7_copyOfRange_feecc_16
  · have tk_3 := c_eq (a := i1.toInt) (b := 0) rfl (by decide) k_3
    refine lv_iload_n hx hb dJ7_copyOfRange_feecc_4 rfl (lv_at hl 2 rfl) ?_
    refine lv_aload_n hx hb dJ7_copyOfRange_feecc_5 rfl (lv_at hl 0 rfl) ?_
    refine va_alen hx hb hKQ hQ k_1 j_2 hk_1 hj_2 rfl dJ7_copyOfRange_feecc_6 ?_
    refine lv_topi (fun y_9 ey_9 => ?_)
    have ty_9 : y_9.toInt = (ks : Int) := i_len ey_9 (by omega)
    refine lv_icmp_eq (tgt := 17) hx hb dJ7_copyOfRange_feecc_7 (by decide) (fun k_10 => ?_) (fun k_10 => ?_)
    · have tk_10 := c_eq (a := i2.toInt) (b := y_9.toInt) rfl rfl k_10
      refine lv_aload_n hx hb dJ7_copyOfRange_feecc_17 rfl (lv_at hl 0 rfl) ?_
      refine q_clone hx hb (hml.trans hl.1.symm) hown (hts (.methodLink RJ7 316 ⟨"[I", "clone", "()Ljava/lang/Object;"⟩) (List.mem_of_getElem? (i := 4) (by decide +kernel))) (hts (.sameMethod "[I" "java/lang/Object" "clone" "()Ljava/lang/Object;") (List.mem_of_getElem? (i := 5) (by decide +kernel))) (hts (.native ⟨"java/lang/Object", "clone", "()Ljava/lang/Object;"⟩) (List.mem_of_getElem? (i := 6) (by decide +kernel))) (hts (.instanceMethod ⟨"java/lang/Object", "clone", "()Ljava/lang/Object;"⟩) (List.mem_of_getElem? (i := 7) (by decide +kernel))) (hts (.selects "[I" ⟨"[I", "clone", "()Ljava/lang/Object;"⟩ ⟨"java/lang/Object", "clone", "()Ljava/lang/Object;"⟩) (List.mem_of_getElem? (i := 8) (by decide +kernel))) hcl hQ hKQ hQA hK hP hD hS hA k_1 j_2 hk_1 hj_2 (va_nm_int (hKQ.2 j_2 _ hj_2).2) (va_fit (n := ks) (F := fun j => .int (fs j)) (fun _ _ => rfl)) (Nat.le_of_ble_eq_true rfl) (Nat.le_trans (m := 120) (by decide +kernel) (Nat.le_refl _)) (Nat.le_of_ble_eq_true rfl) (Nat.le_trans (Nat.add_le_add_left (show ks ≤ (U9) by omega) _) ((show 0 + (U9) ≤ (U9) by omega))) dJ7_copyOfRange_feecc_18 (fun q_11 H hK hP hD hS => ?_)
      refine W.widen (k := 1) (n := (U9)) (by omega) (show 0 + ks ≤ (U9) by omega) ?_
      have hP : va_P (dC, dI) vwCl [(q_11, .inl (cs, ks, .inl fs))] H := hP
      have hD : va_D A [(q_11, .inl (cs, ks, .inl fs))] := hD
      have hQ := q_at hQ0 hQA hS
      have hK : va_K (dC, dI) vwCl [(cs, .int)] s := hK
      refine q_cast hx hb hown (hts (.classLink RJ7 317 "[I") (List.mem_of_getElem? (i := 9) (by decide +kernel))) (va_nm_int (hK.2 0 _ rfl).2) hP 0 rfl dJ7_copyOfRange_feecc_21 ?_
      have hP9 := hP.sub (ws' := [(q_11, .inl (cs, ks, .inl fs))]) [0] rfl
      have hD9 := hD.sub (ws' := [(q_11, .inl (cs, ks, .inl fs))]) [0] (by decide) rfl
      have hK9 := hK.sub (tys' := [(cs, .int)]) [0] rfl
      refine W.widen (k := 1) (n := (U9)) (by omega) (by omega) ?_
      exact W.aret hx hb hr (Or.inr ⟨_, rfl⟩) (Or.inr ⟨_, rfl⟩) (fun t ht hW => ⟨⟨(), _, rfl, trivial, ks, fs, cs, by omega, by rw [ht]; exact hP9, va_K.moved hW.alike hK9, hD9⟩, hS.F ht⟩) hS.2.2 dJ7_copyOfRange_feecc_24
    · have tk_10 := c_ne (a := i2.toInt) (b := y_9.toInt) rfl rfl k_10
      refine lv_aload_n hx hb dJ7_copyOfRange_feecc_10 rfl (lv_at hl 0 rfl) ?_
      refine lv_iload_n hx hb dJ7_copyOfRange_feecc_11 rfl (lv_at hl 1 rfl) ?_
      refine lv_iload_n hx hb dJ7_copyOfRange_feecc_12 rfl (lv_at hl 2 rfl) ?_
      have hPc := hP.sub (ws' := []) [] rfl
      have hKc := hK.sub (tys' := []) [] rfl
      have hDc := hD.sub (ws' := []) [] (by decide) rfl
      have hFc := va_free (wc := []) hD hS hA [] rfl
      refine va_callr (va_runS (As := [.ref sa, .int i1, .int i2]) (rest := []) ⟨hx, hb, hml, hown, hts⟩ (s_copyOfRangeInt l dC dI W9 T9 sa ks cs fs (U9) H.size i1 i2 hm hmt (by omega) (by omega) (by omega)) (va_cwS 3 hts mg_J7_copyOfRange_feecc_J7_copyOfRangeInt_feecc_351 rfl rfl rfl (by decide +kernel) ⟨Nat.le_of_ble_eq_true rfl, Nat.le_of_ble_eq_true rfl⟩) ⟨fun a U g mk q => by obtain ⟨q0, q1, qP, qK, qD, qE0, qE1, qE2⟩ := q; exact ⟨q0, q1, qP, va_K.moved (u := U) (U := U.calling g mk a) (Vm.Alike.refl U.vm) qK, qD, qE0, va_K.moved (u := U) (U := U.calling g mk a) (Vm.Alike.refl U.vm) qE1, qE2⟩, fun U hU hW => ⟨rfl, by rw [hU], by rw [hU]; exact hPc, va_K.moved hW.alike hKc, hDc.weaken (fun _ _ _ _ => trivial), (by rw [hU]; exact hQ), va_K.moved hW.alike hKQ, w_poolW hQ⟩⟩ rfl rfl hl.1 rfl (lv_room (Nat.le_of_ble_eq_true rfl)) dJ7_copyOfRange_feecc_13 ⟨Nat.le_of_ble_eq_true rfl, (show 0 + (U9) ≤ (U9) by omega)⟩) hS (fun q _ h => hFc q h) hFc (fun u r_13 t H1 locs ht hvm hw hB hz1 hk1 hS => ?_)
      obtain ⟨n_14, f_15, c_16, tn_14, hP1, hK1, hD1⟩ := hB
      rw [ht] at hP1
      have hK := hK.app (va_K.moved hvm.symm hK1)
      have hK : va_K (dC, dI) vwCl [(c_16, .int)] s := hK
      obtain ⟨hP, hD⟩ := va_join (wr := []) (w1 := [(r_13, .inl (c_16, n_14, .inl f_15))]) hP hD [] [] rfl rfl (by decide) (by decide) hk1 hFc hP1 hD1
      generalize H1 = H at hP hS ⊢
      have hP : va_P (dC, dI) vwCl [(r_13, .inl (c_16, n_14, .inl f_15))] H := hP
      have hD : va_D A [(r_13, .inl (c_16, n_14, .inl f_15))] := hD
      have hQ := q_at hQ0 hQA hS
      have hP9 := hP.sub (ws' := [(r_13, .inl (c_16, n_14, .inl f_15))]) [0] rfl
      have hD9 := hD.sub (ws' := [(r_13, .inl (c_16, n_14, .inl f_15))]) [0] (by decide) rfl
      have hK9 := hK.sub (tys' := [(c_16, .int)]) [0] rfl
      refine W.widen (k := 1) (n := (U9)) (by omega) (by omega) ?_
      exact W.aret hx hb hr (Or.inr ⟨_, rfl⟩) (Or.inr ⟨_, rfl⟩) (fun t ht hW => ⟨⟨(), _, rfl, trivial, n_14, f_15, c_16, by omega, by rw [ht]; exact hP9, va_K.moved hW.alike hK9, hD9⟩, hS.F ht⟩) hS.2.2 dJ7_copyOfRange_feecc_16

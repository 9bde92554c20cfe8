theorem dJ7_copyOf_59c91_0 : decode cJ7_copyOf_59c91 0 = .ok (.iload_n 1, 1) := by decide +kernel
theorem dJ7_copyOf_59c91_1 : decode cJ7_copyOf_59c91 1 = .ok (.aload_n 0, 1) := by decide +kernel
theorem dJ7_copyOf_59c91_2 : decode cJ7_copyOf_59c91 2 = .ok (.arraylength, 1) := by decide +kernel
theorem dJ7_copyOf_59c91_3 : decode cJ7_copyOf_59c91 3 = .ok (.if_icmp .ne 11, 3) := by decide +kernel
theorem dJ7_copyOf_59c91_6 : decode cJ7_copyOf_59c91 6 = .ok (.aload_n 0, 1) := by decide +kernel
theorem dJ7_copyOf_59c91_7 : decode cJ7_copyOf_59c91 7 = .ok (.invokevirtual 316, 3) := by decide +kernel
theorem dJ7_copyOf_59c91_10 : decode cJ7_copyOf_59c91 10 = .ok (.checkcast 317, 3) := by decide +kernel
theorem dJ7_copyOf_59c91_13 : decode cJ7_copyOf_59c91 13 = .ok (.areturn, 1) := by decide +kernel
theorem dJ7_copyOf_59c91_14 : decode cJ7_copyOf_59c91 14 = .ok (.iload_n 1, 1) := by decide +kernel
theorem dJ7_copyOf_59c91_15 : decode cJ7_copyOf_59c91 15 = .ok (.newarray .int, 2) := by decide +kernel
theorem dJ7_copyOf_59c91_17 : decode cJ7_copyOf_59c91 17 = .ok (.astore_n 2, 1) := by decide +kernel
theorem dJ7_copyOf_59c91_18 : decode cJ7_copyOf_59c91 18 = .ok (.aload_n 0, 1) := by decide +kernel
theorem dJ7_copyOf_59c91_19 : decode cJ7_copyOf_59c91 19 = .ok (.iconst 0, 1) := by decide +kernel
theorem dJ7_copyOf_59c91_20 : decode cJ7_copyOf_59c91 20 = .ok (.aload_n 2, 1) := by decide +kernel
theorem dJ7_copyOf_59c91_21 : decode cJ7_copyOf_59c91 21 = .ok (.iconst 0, 1) := by decide +kernel
theorem dJ7_copyOf_59c91_22 : decode cJ7_copyOf_59c91 22 = .ok (.aload_n 0, 1) := by decide +kernel
theorem dJ7_copyOf_59c91_23 : decode cJ7_copyOf_59c91 23 = .ok (.arraylength, 1) := by decide +kernel
theorem dJ7_copyOf_59c91_24 : decode cJ7_copyOf_59c91 24 = .ok (.iload_n 1, 1) := by decide +kernel
theorem dJ7_copyOf_59c91_25 : decode cJ7_copyOf_59c91 25 = .ok (.invokestatic 304, 3) := by decide +kernel
theorem dJ7_copyOf_59c91_28 : decode cJ7_copyOf_59c91 28 = .ok (.invokestatic 150, 3) := by decide +kernel
theorem dJ7_copyOf_59c91_31 : decode cJ7_copyOf_59c91 31 = .ok (.aload_n 2, 1) := by decide +kernel
theorem dJ7_copyOf_59c91_32 : decode cJ7_copyOf_59c91 32 = .ok (.areturn, 1) := by decide +kernel
def mwJ7_copyOf_59c91 : List Cond := .code yJ7_copyOf_59c91 cJ7_copyOf_59c91 3 (some (.array .int)) :: (([.arrayClass .int, .methodLink RJ7 304 Lib.Math.min.name, .static Lib.Math.min.name, .initialized "java/lang/Math", .code Lib.Math.min.name Lib.Math.min.code 2 (some .int), .methodLink RJ7 150 arraycopyName, .native arraycopyName, .static arraycopyName, .initialized "java/lang/System", .methodLink RJ7 316 ⟨"[I", "clone", "()Ljava/lang/Object;"⟩, .sameMethod "[I" "java/lang/Object" "clone" "()Ljava/lang/Object;", .native ⟨"java/lang/Object", "clone", "()Ljava/lang/Object;"⟩, .instanceMethod ⟨"java/lang/Object", "clone", "()Ljava/lang/Object;"⟩, .selects "[I" ⟨"[I", "clone", "()Ljava/lang/Object;"⟩ ⟨"java/lang/Object", "clone", "()Ljava/lang/Object;"⟩, .classLink RJ7 317 "[I"] : List Cond))
set_option maxHeartbeats 4000000 in
set_option maxRecDepth 100000 in
/-- Arrays.copyOf -/
theorem s_copyOf (l : Launch) (dC : Nat → ClassId) (dI : Nat → Nat → Nat) (W9 : va_W) (T9 : List (ClassId × FieldType)) (sa ks : Nat) (cs : ClassId) (fs : Nat → Int32) (U9 sz : Nat) (i9 : Int32) (hm : (sa, .inl (cs, ks, .inl fs)) ∈ W9) (hmt : (cs, .int) ∈ T9) (hks : ks ≤ 900) (h0 : 0 ≤ i9.toInt ∧ i9.toInt ≤ ks) (hU9 : i9.toInt ≤ U9) : Met l yJ7_copyOf_59c91 mwJ7_copyOf_59c91 ({ frames := 1, cells := 1, slots := (U9), locals := 60 }) (va_Pc [.ref sa, .int i9] (fun U => U.heap.size = sz ∧ va_P (dC, dI) vwCl ([]) U.heap ∧ va_K (dC, dI) vwCl ([]) U ∧ va_D (fun _ => True) ([]) ∧ va_Nw (.castable "[I" "java/lang/Cloneable") U ∧ va_P (dC, dI) vwCl W9 U.heap ∧ va_K (dC, dI) vwCl T9 U ∧ (∀ q ∈ W9, ¬ va_A ([]) sz q.1))) (va_Qr (fun (_ : Unit) => True) (fun _ a t => ∃ (k9 : Nat) (f9 : Nat → Int32) (cN : ClassId), (k9 : Int) = i9.toInt ∧ va_P (dC, dI) vwCl [(a, .inl (cN, k9, .inl f9))] t.heap ∧ va_K (dC, dI) vwCl [(cN, .int)] t ∧ va_D (va_A ([]) sz) [(a, .inl (cN, k9, .inl f9))]) (va_A ([]) sz)) 1 (U9) (va_A ([]) sz) := by
  refine Met.ofW (cc := cJ7_copyOf_59c91) (maxL := 3) (ret := (some (.array .int))) (by decide +kernel) rfl ?_
  intro p e s m args below meth c s₁ B hml hv
  obtain ⟨rfl, hsz, hP, hK, hD0, hcl, hQ0, hKQ, hQA⟩ := hv
  have hx := B.exec
  have hb := B.bytes
  have hr := B.returns
  have hts := atoms_spec (ws := mwJ7_copyOf_59c91) B.pre
  have hown : s.vm.findClass RJ7 = some m.cls := findClass_of_methodNamed B.named
  have hlocks := B.notSynchronized
  subst hsz
  have hD := hD0.self (sz := s.heap.size)
  generalize hAe : va_A ([]) s.heap.size = A at hD hQA ⊢
  have hA : ∀ q : Nat, s.heap.size ≤ q → A q := fun q h => by rw [← hAe]; exact Or.inr h
  have hP : va_P (dC, dI) vwCl [] s.heap := hP
  have hD : va_D A [] := hD
  have hK : va_K (dC, dI) vwCl [] s := hK
  generalize hH : s.heap = H at hP ⊢
  have hS : va_S A s.heap H [] := by rw [← hH]; exact va_S.rf
  have hQ := q_at hQ0 hQA hS
  have hl := lv_entry ([.ref sa, .int i9]) (n := 3) (Nat.le_of_ble_eq_true rfl)
  rw [lg_entry_eq]
  generalize (lg_sl ([.ref sa, .int i9]) ++ List.replicate (3 - (lg_sl ([.ref sa, .int i9])).length) Slot.unset).toArray = ls at hl ⊢
  have hl : lv_has ls 3 [(0, .ref sa), (1, .int i9)] := hl
  have rg_i9 := i_rng i9
  obtain ⟨k_1, hk_1⟩ := List.getElem?_of_mem hm
  obtain ⟨j_2, hj_2⟩ := List.getElem?_of_mem hmt
  refine lv_iload_n hx hb dJ7_copyOf_59c91_0 rfl (lv_at hl 1 rfl) ?_
  refine lv_aload_n hx hb dJ7_copyOf_59c91_1 rfl (lv_at hl 0 rfl) ?_
  refine va_alen hx hb hKQ hQ k_1 j_2 hk_1 hj_2 rfl dJ7_copyOf_59c91_2 ?_
  refine lv_topi (fun y_3 ey_3 => ?_)
  have ty_3 : y_3.toInt = (ks : Int) := i_len ey_3 (by omega)
  refine lv_icmp_ne (tgt := 14) hx hb dJ7_copyOf_59c91_3 (by decide) (fun k_4 => ?_) (fun k_4 => ?_)
  · have tk_4 := c_ne (a := i9.toInt) (b := y_3.toInt) rfl rfl k_4
    refine lv_iload_n hx hb dJ7_copyOf_59c91_14 rfl (lv_at hl 1 rfl) ?_
    obtain ⟨n_7, hn_7, en_7⟩ := nI_of (i_nn (x := i9) rfl (by omega))
    have tn_7 : i9.toInt = (n_7 : Int) := by rw [en_7]; exact nI_toInt hn_7
    have un_7 : n_7 ≤ (U9) := by omega
    refine va_newa (atype := .int) (ty := .int) (n := i9) (N' := n_7) (a0 := (n_7, .inl (fun _ => 0))) hx hb (hts (.arrayClass .int) (List.mem_of_getElem? (i := 1) (by decide +kernel))) rfl hK hP hD hS hA (fun _ => rfl) (i_nn rfl (by omega)) (by rw [en_7]; exact nI_clamp hn_7) (by show n_7 * 4 ≤ 536870912; omega) (Nat.le_of_ble_eq_true rfl) (Nat.le_trans (Nat.add_le_add_left un_7 _) (show 0 + (U9) ≤ (U9) by omega)) dJ7_copyOf_59c91_15 (fun q_5 c_6 H hK hP hD hS => ?_)
    have hP : va_P (dC, dI) vwCl [(q_5, .inl (c_6, n_7, .inl (fun _ => 0)))] H := hP
    have hD : va_D A [(q_5, .inl (c_6, n_7, .inl (fun _ => 0)))] := hD
    have hQ := q_at hQ0 hQA hS
    have hK : va_K (dC, dI) vwCl [(c_6, .int)] s := hK
    refine W.widen (k := 1) (n := (U9)) (by omega) (by omega) ?_
    refine lv_astore_n (lv' := [(2, .ref q_5), (0, .ref sa), (1, .int i9)]) hx hb dJ7_copyOf_59c91_17 rfl hl (by decide) rfl (fun ls hl => ?_)
    refine lv_aload_n hx hb dJ7_copyOf_59c91_18 rfl (lv_at hl 1 rfl) ?_
    refine lv_iconst (v := 0) hx hb dJ7_copyOf_59c91_19 (by decide) ?_
    refine lv_aload_n hx hb dJ7_copyOf_59c91_20 rfl (lv_at hl 0 rfl) ?_
    refine lv_iconst (v := 0) hx hb dJ7_copyOf_59c91_21 (by decide) ?_
    refine lv_aload_n hx hb dJ7_copyOf_59c91_22 rfl (lv_at hl 1 rfl) ?_
    refine va_alen hx hb hKQ hQ k_1 j_2 hk_1 hj_2 rfl dJ7_copyOf_59c91_23 ?_
    refine lv_topi (fun y_8 ey_8 => ?_)
    have ty_8 : y_8.toInt = (ks : Int) := i_len ey_8 (by omega)
    refine lv_iload_n hx hb dJ7_copyOf_59c91_24 rfl (lv_at hl 2 rfl) ?_
    refine va_mmin hx hb (hml.trans hl.1.symm) hown (hts (.methodLink RJ7 304 Lib.Math.min.name) (List.mem_of_getElem? (i := 2) (by decide +kernel))) (hts (.static Lib.Math.min.name) (List.mem_of_getElem? (i := 3) (by decide +kernel))) (hts (.initialized "java/lang/Math") (List.mem_of_getElem? (i := 4) (by decide +kernel))) (hts (.code Lib.Math.min.name Lib.Math.min.code 2 (some .int)) (List.mem_of_getElem? (i := 5) (by decide +kernel))) (Nat.le_of_ble_eq_true rfl) (Nat.le_of_ble_eq_true rfl) (Nat.le_of_ble_eq_true rfl) (show (U9) ≤ (U9) by omega) dJ7_copyOf_59c91_25 ?_
    refine lv_topi (fun y_9 ey_9 => ?_)
    have ty_9 := i_min (a := y_8.toInt) (b := i9.toInt) rfl rfl ey_9
    refine q_copyi hx hb (hml.trans hl.1.symm) hown (hts (.methodLink RJ7 150 arraycopyName) (List.mem_of_getElem? (i := 6) (by decide +kernel))) (hts (.native arraycopyName) (List.mem_of_getElem? (i := 7) (by decide +kernel))) (hts (.static arraycopyName) (List.mem_of_getElem? (i := 8) (by decide +kernel))) (hts (.initialized "java/lang/System") (List.mem_of_getElem? (i := 9) (by decide +kernel))) hQ hKQ hK hP hD hS k_1 0 j_2 0 hk_1 rfl hj_2 rfl rfl (i_nn (a := 0) (by decide) (by omega)) (i_nn (a := 0) (by decide) (by omega)) (i_nn (a := y_9.toInt) rfl (by omega)) (cp_le (a := 0) (b := y_9.toInt) (by decide) rfl (by omega) (by omega) (by omega)) (cp_le (a := 0) (b := y_9.toInt) (by decide) rfl (by omega) (by omega) (by omega)) (fun _ _ => rfl) (Nat.le_of_ble_eq_true rfl) (Nat.le_trans (m := 60) (by decide +kernel) (Nat.le_refl _)) dJ7_copyOf_59c91_28 (fun H locs hP hD hS => ?_)
    generalize hf_f_10 : va_cpy _ _ _ _ _ = f_10 at hP hD
    have hP : va_P (dC, dI) vwCl [(q_5, .inl (c_6, n_7, .inl f_10))] H := hP
    have hD : va_D A [(q_5, .inl (c_6, n_7, .inl f_10))] := hD
    have hQ := q_at hQ0 hQA hS
    refine lv_aload_n hx hb dJ7_copyOf_59c91_31 rfl (lv_at hl 0 rfl) ?_
    have hP9 := hP.sub (ws' := [(q_5, .inl (c_6, n_7, .inl f_10))]) [0] rfl
    have hD9 := hD.sub (ws' := [(q_5, .inl (c_6, n_7, .inl f_10))]) [0] (by decide) rfl
    have hK9 := hK.sub (tys' := [(c_6, .int)]) [0] rfl
    refine W.widen (k := 1) (n := (U9)) (by omega) (by omega) ?_
    exact W.aret hx hb hr (Or.inr ⟨_, rfl⟩) (Or.inr ⟨_, rfl⟩) (fun t ht hW => ⟨⟨(), _, rfl, trivial, n_7, f_10, c_6, by omega, by rw [ht]; exact hP9, va_K.moved hW.alike hK9, hD9⟩, hS.F ht⟩) hS.2.2 dJ7_copyOf_59c91_32
  · have tk_4 := c_eq (a := i9.toInt) (b := y_3.toInt) rfl rfl k_4
    refine lv_aload_n hx hb dJ7_copyOf_59c91_6 rfl (lv_at hl 0 rfl) ?_
    refine q_clone hx hb (hml.trans hl.1.symm) hown (hts (.methodLink RJ7 316 ⟨"[I", "clone", "()Ljava/lang/Object;"⟩) (List.mem_of_getElem? (i := 10) (by decide +kernel))) (hts (.sameMethod "[I" "java/lang/Object" "clone" "()Ljava/lang/Object;") (List.mem_of_getElem? (i := 11) (by decide +kernel))) (hts (.native ⟨"java/lang/Object", "clone", "()Ljava/lang/Object;"⟩) (List.mem_of_getElem? (i := 12) (by decide +kernel))) (hts (.instanceMethod ⟨"java/lang/Object", "clone", "()Ljava/lang/Object;"⟩) (List.mem_of_getElem? (i := 13) (by decide +kernel))) (hts (.selects "[I" ⟨"[I", "clone", "()Ljava/lang/Object;"⟩ ⟨"java/lang/Object", "clone", "()Ljava/lang/Object;"⟩) (List.mem_of_getElem? (i := 14) (by decide +kernel))) hcl hQ hKQ hQA hK hP hD hS hA k_1 j_2 hk_1 hj_2 (va_nm_int (hKQ.2 j_2 _ hj_2).2) (va_fit (n := ks) (F := fun j => .int (fs j)) (fun _ _ => rfl)) (Nat.le_of_ble_eq_true rfl) (Nat.le_trans (m := 60) (by decide +kernel) (Nat.le_refl _)) (Nat.le_of_ble_eq_true rfl) (Nat.le_trans (Nat.add_le_add_left (show ks ≤ (U9) by omega) _) ((show 0 + (U9) ≤ (U9) by omega))) dJ7_copyOf_59c91_7 (fun q_11 H hK hP hD hS => ?_)
    refine W.widen (k := 1) (n := (U9)) (by omega) (show 0 + ks ≤ (U9) by omega) ?_
    have hP : va_P (dC, dI) vwCl [(q_11, .inl (cs, ks, .inl fs))] H := hP
    have hD : va_D A [(q_11, .inl (cs, ks, .inl fs))] := hD
    have hQ := q_at hQ0 hQA hS
    have hK : va_K (dC, dI) vwCl [(cs, .int)] s := hK
    refine q_cast hx hb hown (hts (.classLink RJ7 317 "[I") (List.mem_of_getElem? (i := 15) (by decide +kernel))) (va_nm_int (hK.2 0 _ rfl).2) hP 0 rfl dJ7_copyOf_59c91_10 ?_
    have hP9 := hP.sub (ws' := [(q_11, .inl (cs, ks, .inl fs))]) [0] rfl
    have hD9 := hD.sub (ws' := [(q_11, .inl (cs, ks, .inl fs))]) [0] (by decide) rfl
    have hK9 := hK.sub (tys' := [(cs, .int)]) [0] rfl
    refine W.widen (k := 1) (n := (U9)) (by omega) (by omega) ?_
    exact W.aret hx hb hr (Or.inr ⟨_, rfl⟩) (Or.inr ⟨_, rfl⟩) (fun t ht hW => ⟨⟨(), _, rfl, trivial, ks, fs, cs, by omega, by rw [ht]; exact hP9, va_K.moved hW.alike hK9, hD9⟩, hS.F ht⟩) hS.2.2 dJ7_copyOf_59c91_13

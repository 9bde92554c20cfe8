theorem dX3_unlikeOf_0 : decode cX3_unlikeOf 0 = .ok (.aload_n 0, 1) := by decide +kernel
theorem dX3_unlikeOf_1 : decode cX3_unlikeOf 1 = .ok (.arraylength, 1) := by decide +kernel
theorem dX3_unlikeOf_2 : decode cX3_unlikeOf 2 = .ok (.newarray .int, 2) := by decide +kernel
theorem dX3_unlikeOf_4 : decode cX3_unlikeOf 4 = .ok (.astore_n 1, 1) := by decide +kernel
theorem dX3_unlikeOf_5 : decode cX3_unlikeOf 5 = .ok (.iconst 0, 1) := by decide +kernel
theorem dX3_unlikeOf_6 : decode cX3_unlikeOf 6 = .ok (.istore_n 2, 1) := by decide +kernel
theorem dX3_unlikeOf_7 : decode cX3_unlikeOf 7 = .ok (.iconst 0, 1) := by decide +kernel
theorem dX3_unlikeOf_8 : decode cX3_unlikeOf 8 = .ok (.istore_n 3, 1) := by decide +kernel
theorem dX3_unlikeOf_9 : decode cX3_unlikeOf 9 = .ok (.iload_n 3, 1) := by decide +kernel
theorem dX3_unlikeOf_10 : decode cX3_unlikeOf 10 = .ok (.aload_n 0, 1) := by decide +kernel
theorem dX3_unlikeOf_11 : decode cX3_unlikeOf 11 = .ok (.arraylength, 1) := by decide +kernel
theorem dX3_unlikeOf_12 : decode cX3_unlikeOf 12 = .ok (.if_icmp .ge 18, 3) := by decide +kernel
theorem dX3_unlikeOf_15 : decode cX3_unlikeOf 15 = .ok (.aload_n 1, 1) := by decide +kernel
theorem dX3_unlikeOf_16 : decode cX3_unlikeOf 16 = .ok (.iload_n 2, 1) := by decide +kernel
theorem dX3_unlikeOf_17 : decode cX3_unlikeOf 17 = .ok (.aload_n 0, 1) := by decide +kernel
theorem dX3_unlikeOf_18 : decode cX3_unlikeOf 18 = .ok (.iload_n 3, 1) := by decide +kernel
theorem dX3_unlikeOf_19 : decode cX3_unlikeOf 19 = .ok (.iaload, 1) := by decide +kernel
theorem dX3_unlikeOf_20 : decode cX3_unlikeOf 20 = .ok (.invokestatic 28, 3) := by decide +kernel
theorem dX3_unlikeOf_23 : decode cX3_unlikeOf 23 = .ok (.istore_n 2, 1) := by decide +kernel
theorem dX3_unlikeOf_24 : decode cX3_unlikeOf 24 = .ok (.iinc 3 1, 3) := by decide +kernel
theorem dX3_unlikeOf_27 : decode cX3_unlikeOf 27 = .ok (.goto (-18), 3) := by decide +kernel
theorem dX3_unlikeOf_30 : decode cX3_unlikeOf 30 = .ok (.aload_n 1, 1) := by decide +kernel
theorem dX3_unlikeOf_31 : decode cX3_unlikeOf 31 = .ok (.iload_n 2, 1) := by decide +kernel
theorem dX3_unlikeOf_32 : decode cX3_unlikeOf 32 = .ok (.invokestatic 32, 3) := by decide +kernel
theorem dX3_unlikeOf_35 : decode cX3_unlikeOf 35 = .ok (.areturn, 1) := by decide +kernel
def mwX3_unlikeOf : List Cond := .code yX3_unlikeOf cX3_unlikeOf 4 (some (.array .int)) :: (([.arrayClass .int, .methodLink RX3 32 yJ7_copyOf_59c91, .static yJ7_copyOf_59c91, .initialized RJ7, .methodLink RX3 28 yX3_insert, .static yX3_insert, .initialized RX3] : List Cond) ++ (mwJ7_copyOf_59c91 ++ (mwX3_insert)))
set_option maxRecDepth 100000 in
theorem gd_mwJ7_copyOf_59c91 : mwJ7_copyOf_59c91.all goodWord = true := by decide +kernel
set_option maxRecDepth 100000 in
theorem gd_mwX3_insert : mwX3_insert.all goodWord = true := by decide +kernel
set_option maxRecDepth 20000 in
theorem mg_X3_unlikeOf_J7_copyOf_59c91_32 : GoodIn mwX3_unlikeOf (va_wsS RX3 32 yJ7_copyOf_59c91 mwJ7_copyOf_59c91) := gi_app (A := [.methodLink RX3 32 yJ7_copyOf_59c91, .static yJ7_copyOf_59c91, .initialized RJ7]) (goodIn_r _ [2, 3, 4] (by decide +kernel) (by decide +kernel)) (gi_sub gd_mwJ7_copyOf_59c91 (fun w h => List.mem_cons_of_mem _ (List.mem_append_right _ (List.mem_append_left _ h))))
set_option maxRecDepth 20000 in
theorem mg_X3_unlikeOf_X3_insert_28 : GoodIn mwX3_unlikeOf (va_wsS RX3 28 yX3_insert mwX3_insert) := gi_app (A := [.methodLink RX3 28 yX3_insert, .static yX3_insert, .initialized RX3]) (goodIn_r _ [5, 6, 7] (by decide +kernel) (by decide +kernel)) (gi_sub gd_mwX3_insert (fun w h => List.mem_cons_of_mem _ (List.mem_append_right _ (List.mem_append_right _ (h)))))
set_option maxHeartbeats 4000000 in
set_option maxRecDepth 100000 in
/-- Need.unlikeOf -/
theorem s_unlikeOf (l : Launch) (dC : Nat → ClassId) (dI : Nat → Nat → Nat) (al ka : Nat) (ca : ClassId) (fa : Nat → Int32) (sz : Nat) (hka : ka ≤ 288) : Met l yX3_unlikeOf mwX3_unlikeOf ({ frames := 2, cells := 2, slots := 576, locals := 120 }) (va_Pc [.ref al] (fun U => U.heap.size = sz ∧ va_P (dC, dI) vwCl ([(al, .inl (ca, ka, .inl fa))]) U.heap ∧ va_K (dC, dI) vwCl ([(ca, .int)]) U ∧ va_D (fun _ => True) ([(al, .inl (ca, ka, .inl fa))]) ∧ va_Nw (.castable "[I" "java/lang/Cloneable") U)) (va_Qr (fun (_ : Unit) => True) (fun _ a t => ∃ (k9 : Nat) (f9 : Nat → Int32) (cN : ClassId), k9 ≤ 288 ∧ va_P (dC, dI) vwCl [(al, .inl (ca, ka, .inl fa)), (a, .inl (cN, k9, .inl f9))] t.heap ∧ va_K (dC, dI) vwCl [(ca, .int), (cN, .int)] t ∧ va_D (va_A ([(al, .inl (ca, ka, .inl fa))]) sz) [(al, .inl (ca, ka, .inl fa)), (a, .inl (cN, k9, .inl f9))]) (va_A ([(al, .inl (ca, ka, .inl fa))]) sz)) 2 576 (va_A ([(al, .inl (ca, ka, .inl fa))]) sz) := by
  refine Met.ofW (cc := cX3_unlikeOf) (maxL := 4) (ret := (some (.array .int))) (by decide +kernel) rfl ?_
  intro p e s m args below meth c s₁ B hml hv
  obtain ⟨rfl, hsz, hP, hK, hD0, hcl⟩ := hv
  have hx := B.exec
  have hb := B.bytes
  have hr := B.returns
  have hts := atoms_spec (ws := mwX3_unlikeOf) B.pre
  have hown : s.vm.findClass RX3 = some m.cls := findClass_of_methodNamed B.named
  have hlocks := B.notSynchronized
  subst hsz
  have hD := hD0.self (sz := s.heap.size)
  generalize hAe : va_A ([(al, .inl (ca, ka, .inl fa))]) s.heap.size = A at hD ⊢
  have hA : ∀ q : Nat, s.heap.size ≤ q → A q := fun q h => by rw [← hAe]; exact Or.inr h
  have hP : va_P (dC, dI) vwCl [(al, .inl (ca, ka, .inl fa))] s.heap := hP
  have hD : va_D A [(al, .inl (ca, ka, .inl fa))] := hD
  have hK : va_K (dC, dI) vwCl [(ca, .int)] s := hK
  generalize hH : s.heap = H at hP ⊢
  have hS : va_S A s.heap H [] := by rw [← hH]; exact va_S.rf
  have hl := lv_entry ([.ref al]) (n := 4) (Nat.le_of_ble_eq_true rfl)
  rw [lg_entry_eq]
  generalize (lg_sl ([.ref al]) ++ List.replicate (4 - (lg_sl ([.ref al])).length) Slot.unset).toArray = ls at hl ⊢
  have hl : lv_has ls 4 [(0, .ref al)] := hl
  refine lv_aload_n hx hb dX3_unlikeOf_0 rfl (lv_at hl 0 rfl) ?_
  refine va_alen hx hb hK hP 0 0 rfl rfl rfl dX3_unlikeOf_1 ?_
  refine lv_topi (fun y_1 ey_1 => ?_)
  have ty_1 : y_1.toInt = (ka : Int) := i_len ey_1 (by omega)
  obtain ⟨n_4, hn_4, en_4⟩ := nI_of (i_nn (x := y_1) rfl (by omega))
  have tn_4 : y_1.toInt = (n_4 : Int) := by rw [en_4]; exact nI_toInt hn_4
  have un_4 : n_4 ≤ 288 := by omega
  refine va_newa (atype := .int) (ty := .int) (n := y_1) (N' := n_4) (a0 := (n_4, .inl (fun _ => 0))) hx hb (hts (.arrayClass .int) (List.mem_of_getElem? (i := 1) (by decide +kernel))) rfl hK hP hD hS hA (fun _ => rfl) (i_nn rfl (by omega)) (by rw [en_4]; exact nI_clamp hn_4) (by show n_4 * 4 ≤ 536870912; omega) (Nat.le_of_ble_eq_true rfl) (Nat.le_trans (Nat.add_le_add_left un_4 _) (Nat.le_of_ble_eq_true rfl)) dX3_unlikeOf_2 (fun q_2 c_3 H hK hP hD hS => ?_)
  have hP : va_P (dC, dI) vwCl [(al, .inl (ca, ka, .inl fa)), (q_2, .inl (c_3, n_4, .inl (fun _ => 0)))] H := hP
  have hD : va_D A [(al, .inl (ca, ka, .inl fa)), (q_2, .inl (c_3, n_4, .inl (fun _ => 0)))] := hD
  have hK : va_K (dC, dI) vwCl [(ca, .int), (c_3, .int)] s := hK
  refine W.widen (k := 1) (n := 288) (by omega) (by omega) ?_
  refine lv_astore_n (lv' := [(1, .ref q_2), (0, .ref al)]) hx hb dX3_unlikeOf_4 rfl hl (by decide) rfl (fun ls hl => ?_)
  refine lv_iconst (v := 0) hx hb dX3_unlikeOf_5 (by decide) ?_
  refine lv_istore_n (lv' := [(2, .int 0), (1, .ref q_2), (0, .ref al)]) hx hb dX3_unlikeOf_6 rfl hl (by decide) rfl (fun ls hl => ?_)
  refine lv_iconst (v := 0) hx hb dX3_unlikeOf_7 (by decide) ?_
  refine lv_istore_n (lv' := [(3, .int 0), (2, .int 0), (1, .ref q_2), (0, .ref al)]) hx hb dX3_unlikeOf_8 rfl hl (by decide) rfl (fun ls hl => ?_)
  have loop9 : ∀ (lm9 : Nat) (mm ii : Int32) (ga : Nat → Int32), (0 ≤ ii.toInt ∧ ii.toInt ≤ ka) → (0 ≤ mm.toInt ∧ mm.toInt ≤ (n_4 : Int)) → (((ka : Int) - ii.toInt).toNat) < lm9 → ∀ (H : Heap) (locs : List Loc) (ls : Array Slot), va_P (dC, dI) vwCl [(al, .inl (ca, ka, .inl fa)), (q_2, .inl (c_3, n_4, .inl ga))] H → va_D A [(al, .inl (ca, ka, .inl fa)), (q_2, .inl (c_3, n_4, .inl ga))] → va_S A s.heap H locs → lv_has ls 4 [(3, .int ii), (2, .int mm), (1, .ref q_2), (0, .ref al)] → W p l e (headSpec mwX3_unlikeOf ({ frames := 2, cells := 2, slots := 576, locals := 120 })).room s m ([.ref al]).toArray below meth c H locs 1 288 (MQ below (va_Qr (fun (_ : Unit) => True) (fun _ a t => ∃ (k9 : Nat) (f9 : Nat → Int32) (cN : ClassId), k9 ≤ 288 ∧ va_P (dC, dI) vwCl [(al, .inl (ca, ka, .inl fa)), (a, .inl (cN, k9, .inl f9))] t.heap ∧ va_K (dC, dI) vwCl [(ca, .int), (cN, .int)] t ∧ va_D A [(al, .inl (ca, ka, .inl fa)), (a, .inl (cN, k9, .inl f9))]) A) ([.ref al]).toArray s 2 576 A) (F0 m 9 ls []) := by
    intro lm9
    induction lm9 with
    | zero => intro mm ii ga v9_0 v9_1 hm9; exact absurd hm9 (Nat.not_lt_zero _)
    | succ lm9 ih9 =>
      intro mm ii ga v9_0 v9_1 hm9 H locs ls hP hD hS hl
      have rg_mm := i_rng mm
      have rg_ii := i_rng ii
      refine lv_iload_n hx hb dX3_unlikeOf_9 rfl (lv_at hl 0 rfl) ?_
      refine lv_aload_n hx hb dX3_unlikeOf_10 rfl (lv_at hl 3 rfl) ?_
      refine va_alen hx hb hK hP 0 0 rfl rfl rfl dX3_unlikeOf_11 ?_
      refine lv_topi (fun y_5 ey_5 => ?_)
      have ty_5 : y_5.toInt = (ka : Int) := i_len ey_5 (by omega)
      refine lv_icmp_ge (tgt := 30) hx hb dX3_unlikeOf_12 (by decide) (fun k_6 => ?_) (fun k_6 => ?_)
      · have tk_6 := c_ge (a := ii.toInt) (b := y_5.toInt) rfl rfl k_6
        refine lv_aload_n hx hb dX3_unlikeOf_30 rfl (lv_at hl 2 rfl) ?_
        refine lv_iload_n hx hb dX3_unlikeOf_31 rfl (lv_at hl 1 rfl) ?_
        have hPc := hP.sub (ws' := []) [] rfl
        have hKc := hK.sub (tys' := []) [] rfl
        have hDc := hD.sub (ws' := []) [] (by decide) rfl
        have hFc := va_free (wc := []) hD hS hA [] rfl
        refine va_callr (va_runS (As := [.ref q_2, .int mm]) (rest := []) ⟨hx, hb, hml, hown, hts⟩ (s_copyOf l dC dI [(q_2, .inl (c_3, n_4, .inl ga))] [(c_3, .int)] q_2 n_4 c_3 ga 288 H.size mm (List.mem_singleton.mpr rfl) (List.mem_singleton.mpr rfl) (by omega) (by omega) (by omega)) (va_cwS 2 hts mg_X3_unlikeOf_J7_copyOf_59c91_32 rfl rfl rfl (by decide +kernel) ⟨Nat.le_of_ble_eq_true rfl, Nat.le_of_ble_eq_true rfl⟩) ⟨fun a U g mk q => by obtain ⟨q0, q1, qP, qK, qD, qE0, qE1, qE2, qE3⟩ := q; exact ⟨q0, q1, qP, va_K.moved (u := U) (U := U.calling g mk a) (Vm.Alike.refl U.vm) qK, qD, va_Nw.same rfl (u := U) rfl qE0, qE1, va_K.moved (u := U) (U := U.calling g mk a) (Vm.Alike.refl U.vm) qE2, qE3⟩, fun U hU hW => ⟨rfl, by rw [hU], by rw [hU]; exact hPc, va_K.moved hW.alike hKc, hDc.weaken (fun _ _ _ _ => trivial), nw_moved hW.alike hcl, (by rw [hU]; exact (hP.sub (ws' := [(q_2, .inl (c_3, n_4, .inl ga))]) [1] rfl)), va_K.moved hW.alike (hK.sub (tys' := [(c_3, .int)]) [1] rfl), w_pool ((hP.sub (ws' := [(q_2, .inl (c_3, n_4, .inl ga))]) [1] rfl) 0 _ rfl).lt⟩⟩ rfl rfl hl.1 rfl (lv_room (Nat.le_of_ble_eq_true rfl)) dX3_unlikeOf_32 ⟨Nat.le_of_ble_eq_true rfl, Nat.le_of_ble_eq_true rfl⟩) hS (fun q _ h => hFc q h) hFc (fun u r_8 t H1 locs ht hvm hw hB hz1 hk1 hS => ?_)
        obtain ⟨n_9, f_10, c_11, tn_9, hP1, hK1, hD1⟩ := hB
        rw [ht] at hP1
        have hK := hK.app (va_K.moved hvm.symm hK1)
        have hK : va_K (dC, dI) vwCl [(ca, .int), (c_3, .int), (c_11, .int)] s := hK
        obtain ⟨hP, hD⟩ := va_join (wr := [(al, .inl (ca, ka, .inl fa)), (q_2, .inl (c_3, n_4, .inl ga))]) (w1 := [(r_8, .inl (c_11, n_9, .inl f_10))]) hP hD [] [0, 1] rfl rfl (by decide) (by decide) hk1 hFc hP1 hD1
        generalize H1 = H at hP hS ⊢
        have hP : va_P (dC, dI) vwCl [(al, .inl (ca, ka, .inl fa)), (q_2, .inl (c_3, n_4, .inl ga)), (r_8, .inl (c_11, n_9, .inl f_10))] H := hP
        have hD : va_D A [(al, .inl (ca, ka, .inl fa)), (q_2, .inl (c_3, n_4, .inl ga)), (r_8, .inl (c_11, n_9, .inl f_10))] := hD
        have hP9 := hP.sub (ws' := [(al, .inl (ca, ka, .inl fa)), (r_8, .inl (c_11, n_9, .inl f_10))]) [0, 2] rfl
        have hD9 := hD.sub (ws' := [(al, .inl (ca, ka, .inl fa)), (r_8, .inl (c_11, n_9, .inl f_10))]) [0, 2] (by decide) rfl
        have hK9 := hK.sub (tys' := [(ca, .int), (c_11, .int)]) [0, 2] rfl
        refine W.widen (k := 2) (n := 576) (by omega) (by omega) ?_
        exact W.aret hx hb hr (Or.inr ⟨_, rfl⟩) (Or.inr ⟨_, rfl⟩) (fun t ht hW => ⟨⟨(), _, rfl, trivial, n_9, f_10, c_11, by omega, by rw [ht]; exact hP9, va_K.moved hW.alike hK9, hD9⟩, hS.F ht⟩) hS.2.2 dX3_unlikeOf_35
      · have tk_6 := c_nge (a := ii.toInt) (b := y_5.toInt) rfl rfl k_6
        refine lv_aload_n hx hb dX3_unlikeOf_15 rfl (lv_at hl 2 rfl) ?_
        refine lv_iload_n hx hb dX3_unlikeOf_16 rfl (lv_at hl 1 rfl) ?_
        refine lv_aload_n hx hb dX3_unlikeOf_17 rfl (lv_at hl 3 rfl) ?_
        refine lv_iload_n hx hb dX3_unlikeOf_18 rfl (lv_at hl 0 rfl) ?_
        refine va_iald hx hb hK hP 0 0 rfl rfl (i := ii) (vp_of (a := ii.toInt) rfl (by omega) (by omega)) dX3_unlikeOf_19 ?_
        refine lv_topi (fun y_12 ey_12 => ?_)
        have rg_y_12 := i_rng y_12
        have hPc := hP.sub (ws' := [(q_2, .inl (c_3, n_4, .inl ga))]) [1] rfl
        have hKc := hK.sub (tys' := [(c_3, .int)]) [1] rfl
        have hDc := hD.sub (ws' := [(q_2, .inl (c_3, n_4, .inl ga))]) [1] (by decide) rfl
        have hFc := va_free (wc := [(q_2, .inl (c_3, n_4, .inl ga))]) hD hS hA [1] rfl
        refine va_calli (va_runS (As := [.ref q_2, .int mm, .int y_12]) (rest := []) ⟨hx, hb, hml, hown, hts⟩ (s_insert l dC dI q_2 n_4 c_3 ga H.size mm y_12 (by first | omega | decide | (have l0 := Int32.toInt_zero; omega)) (by first | omega | decide | (have l0 := Int32.toInt_zero; omega)) (by first | omega | decide | (have l0 := Int32.toInt_zero; omega))) (va_cwS 3 hts mg_X3_unlikeOf_X3_insert_28 rfl rfl rfl (by decide +kernel) ⟨Nat.le_of_ble_eq_true rfl, Nat.le_of_ble_eq_true rfl⟩) ⟨fun a U g mk q => by obtain ⟨q0, q1, qP, qK, qD⟩ := q; exact ⟨q0, q1, qP, va_K.moved (u := U) (U := U.calling g mk a) (Vm.Alike.refl U.vm) qK, qD⟩, fun U hU hW => ⟨rfl, by rw [hU], by rw [hU]; exact hPc, va_K.moved hW.alike hKc, hDc.weaken (fun _ _ _ _ => trivial)⟩⟩ rfl rfl hl.1 rfl (lv_room (Nat.le_of_ble_eq_true rfl)) dX3_unlikeOf_20 ⟨Nat.le_of_ble_eq_true rfl, Nat.le_of_ble_eq_true rfl⟩) hS (fun q _ h => hFc q h) hFc (fun r_14 u t H1 locs ht hvm hw hB hz1 hk1 hS => ?_)
        obtain ⟨f_15, hP1, hK1, hD1⟩ := hB
        rw [ht] at hP1
        have hr_14 := hw
        obtain ⟨hP, hD⟩ := va_join (wr := [(al, .inl (ca, ka, .inl fa))]) (w1 := [(q_2, .inl (c_3, n_4, .inl f_15))]) hP hD [1] [0] rfl rfl (by decide) (by decide) hk1 hFc hP1 hD1
        generalize H1 = H at hP hS ⊢
        have hP : va_P (dC, dI) vwCl [(al, .inl (ca, ka, .inl fa)), (q_2, .inl (c_3, n_4, .inl f_15))] H := hP
        have hD : va_D A [(al, .inl (ca, ka, .inl fa)), (q_2, .inl (c_3, n_4, .inl f_15))] := hD
        refine lv_istore_n (lv' := [(2, .int r_14), (3, .int ii), (1, .ref q_2), (0, .ref al)]) hx hb dX3_unlikeOf_23 rfl hl (by decide) rfl (fun ls hl => ?_)
        obtain ⟨y_16, ey_16⟩ : ∃ y : Int32, y = ii + 1 := ⟨_, rfl⟩
        first | have ty_16 := i_add (a := ii.toInt) (b := 1) rfl (by decide) ey_16 (by omega) (by omega) | skip
        refine lv_iinc (v := y_16) (lv' := [(3, .int y_16), (2, .int r_14), (1, .ref q_2), (0, .ref al)]) hx hb dX3_unlikeOf_24 hl (k := 1) rfl (by rw [ey_16]; rfl) (by decide) rfl (fun ls hl => ?_)
        refine lv_goto (tgt := 9) hx hb dX3_unlikeOf_27 (by decide) ?_
        exact ih9 r_14 y_16 f_15 (by first | omega | assumption | decide) (by first | omega | assumption | decide) (by omega) _ _ ls hP hD hS (lv_sub hl [0, 1, 2, 3] rfl)
  have lit_16 : (0 : Int32).toInt = 0 := by decide
  have lit_17 : (0 : Int32).toInt = 0 := by decide
  exact loop9 _ 0 0 (fun _ => 0) (by first | omega | assumption | decide) (by first | omega | assumption | decide) (Nat.lt_succ_self _) _ _ ls hP hD hS (lv_sub hl [0, 1, 2, 3] rfl)
theorem dX2_made_0 : decode cX2_made 0 = .ok (.aload_n 0, 1) := by decide +kernel
theorem dX2_made_1 : decode cX2_made 1 = .ok (.aload_n 0, 1) := by decide +kernel
theorem dX2_made_2 : decode cX2_made 2 = .ok (.arraylength, 1) := by decide +kernel
theorem dX2_made_3 : decode cX2_made 3 = .ok (.aload_n 1, 1) := by decide +kernel
theorem dX2_made_4 : decode cX2_made 4 = .ok (.invokestatic 18, 3) := by decide +kernel
theorem dX2_made_7 : decode cX2_made 7 = .ok (.istore_n 2, 1) := by decide +kernel
theorem dX2_made_8 : decode cX2_made 8 = .ok (.new 10, 3) := by decide +kernel
theorem dX2_made_11 : decode cX2_made 11 = .ok (.dup, 1) := by decide +kernel
theorem dX2_made_12 : decode cX2_made 12 = .ok (.aload_n 0, 1) := by decide +kernel
theorem dX2_made_13 : decode cX2_made 13 = .ok (.aload_n 1, 1) := by decide +kernel
theorem dX2_made_14 : decode cX2_made 14 = .ok (.iload_n 2, 1) := by decide +kernel
theorem dX2_made_15 : decode cX2_made 15 = .ok (.invokestatic 22, 3) := by decide +kernel
theorem dX2_made_18 : decode cX2_made 18 = .ok (.invokespecial 28, 3) := by decide +kernel
theorem dX2_made_21 : decode cX2_made 21 = .ok (.areturn, 1) := by decide +kernel
def mwX2_made : List Cond := .code yX2_made cX2_made 3 (some (.object "PatternGate$Doc")) :: (([.methodLink RX2 18 yX2_sortTriples, .static yX2_sortTriples, .initialized RX2, .classLink RX2 10 RX2, .instantiable RX2 2, .methodLink RX2 22 yJ7_copyOf_59c91, .static yJ7_copyOf_59c91, .initialized RJ7, .methodLink RX2 28 yX2_init, .instanceMethod yX2_init] : List Cond) ++ (wsX20 ++ (mwX2_sortTriples ++ (mwJ7_copyOf_59c91 ++ (mwX2_init)))))
theorem fin_X2_made_X2 : ∀ w ∈ wsX20, w ∈ mwX2_made := fun w h => List.mem_cons_of_mem _ (List.mem_append_right _ (List.mem_append_left _ h))
set_option maxRecDepth 100000 in
theorem gd_mwX2_sortTriples : mwX2_sortTriples.all goodWord = true := by decide +kernel
set_option maxRecDepth 100000 in
theorem gd_mwX2_init : mwX2_init.all goodWord = true := by decide +kernel
set_option maxRecDepth 20000 in
theorem mg_X2_made_X2_sortTriples_18 : GoodIn mwX2_made (va_wsS RX2 18 yX2_sortTriples mwX2_sortTriples) := gi_app (A := [.methodLink RX2 18 yX2_sortTriples, .static yX2_sortTriples, .initialized RX2]) (goodIn_r _ [1, 2, 3] (by decide +kernel) (by decide +kernel)) (gi_sub gd_mwX2_sortTriples (fun w h => List.mem_cons_of_mem _ (List.mem_append_right _ (List.mem_append_right _ (List.mem_append_left _ h)))))
set_option maxRecDepth 20000 in
theorem mg_X2_made_J7_copyOf_59c91_22 : GoodIn mwX2_made (va_wsS RX2 22 yJ7_copyOf_59c91 mwJ7_copyOf_59c91) := gi_app (A := [.methodLink RX2 22 yJ7_copyOf_59c91, .static yJ7_copyOf_59c91, .initialized RJ7]) (goodIn_r _ [6, 7, 8] (by decide +kernel) (by decide +kernel)) (gi_sub gd_mwJ7_copyOf_59c91 (fun w h => List.mem_cons_of_mem _ (List.mem_append_right _ (List.mem_append_right _ (List.mem_append_right _ (List.mem_append_left _ h))))))
set_option maxRecDepth 20000 in
theorem mg_X2_made_X2_init_28 : GoodIn mwX2_made mwX2_init := gi_sub gd_mwX2_init (fun w h => List.mem_cons_of_mem _ (List.mem_append_right _ (List.mem_append_right _ (List.mem_append_right _ (List.mem_append_right _ (h))))))
set_option maxHeartbeats 4000000 in
set_option maxRecDepth 100000 in
/-- Doc.made -/
theorem s_made (l : Launch) (dC : Nat → ClassId) (dI : Nat → Nat → Nat) (la ia mm n : Nat) (cI cJ : ClassId) (fl f : Nat → Int32) (sz : Nat) (hmm : mm ≤ 60) (hn : n ≤ 60) : Met l yX2_made mwX2_made ({ frames := 3, cells := 2, slots := 62, locals := 180 }) (va_Pc [.ref la, .ref ia] (fun U => U.heap.size = sz ∧ va_P (dC, dI) vwCl ([(la, .inl (cI, mm, .inl fl)), (ia, .inl (cJ, n, .inl f))]) U.heap ∧ va_K (dC, dI) vwCl ([(cI, .int), (cJ, .int)]) U ∧ va_D (fun _ => True) ([(la, .inl (cI, mm, .inl fl)), (ia, .inl (cJ, n, .inl f))]) ∧ va_Nw (.castable "[I" "java/lang/Cloneable") U)) (va_Qr (fun (_ : Unit) => True) (fun _ a t => ∃ (qn k9 : Nat) (f9 g9 : Nat → Int32) (cN : ClassId), k9 ≤ 60 ∧ va_P (dC, dI) vwCl [(la, .inl (cI, mm, .inl fl)), (ia, .inl (cJ, n, .inl f9)), (qn, .inl (cN, k9, .inl g9)), (a, .inr (2, [.ref la, .ref qn]))] t.heap ∧ va_K (dC, dI) vwCl [(cI, .int), (cJ, .int), (cN, .int)] t ∧ va_D (va_A ([(la, .inl (cI, mm, .inl fl)), (ia, .inl (cJ, n, .inl f))]) sz) [(la, .inl (cI, mm, .inl fl)), (ia, .inl (cJ, n, .inl f9)), (qn, .inl (cN, k9, .inl g9)), (a, .inr (2, [.ref la, .ref qn]))]) (va_A ([(la, .inl (cI, mm, .inl fl)), (ia, .inl (cJ, n, .inl f))]) sz)) 2 62 (va_A ([(la, .inl (cI, mm, .inl fl)), (ia, .inl (cJ, n, .inl f))]) sz) := by
  refine Met.ofW (cc := cX2_made) (maxL := 3) (ret := (some (.object "PatternGate$Doc"))) (by decide +kernel) rfl ?_
  intro p e s m args below meth c s₁ B hml hv
  obtain ⟨rfl, hsz, hP, hK, hD0, hcl⟩ := hv
  have hx := B.exec
  have hb := B.bytes
  have hr := B.returns
  have hts := atoms_spec (ws := mwX2_made) B.pre
  have hown : s.vm.findClass RX2 = some m.cls := findClass_of_methodNamed B.named
  have hlocks := B.notSynchronized
  subst hsz
  have hD := hD0.self (sz := s.heap.size)
  generalize hAe : va_A ([(la, .inl (cI, mm, .inl fl)), (ia, .inl (cJ, n, .inl f))]) s.heap.size = A at hD ⊢
  have hA : ∀ q : Nat, s.heap.size ≤ q → A q := fun q h => by rw [← hAe]; exact Or.inr h
  have hP : va_P (dC, dI) vwCl [(la, .inl (cI, mm, .inl fl)), (ia, .inl (cJ, n, .inl f))] s.heap := hP
  have hD : va_D A [(la, .inl (cI, mm, .inl fl)), (ia, .inl (cJ, n, .inl f))] := hD
  have hK : va_K (dC, dI) vwCl [(cI, .int), (cJ, .int)] s := hK
  generalize hH : s.heap = H at hP ⊢
  have hS : va_S A s.heap H [] := by rw [← hH]; exact va_S.rf
  have hl := lv_entry ([.ref la, .ref ia]) (n := 3) (Nat.le_of_ble_eq_true rfl)
  rw [lg_entry_eq]
  generalize (lg_sl ([.ref la, .ref ia]) ++ List.replicate (3 - (lg_sl ([.ref la, .ref ia])).length) Slot.unset).toArray = ls at hl ⊢
  have hl : lv_has ls 3 [(0, .ref la), (1, .ref ia)] := hl
  refine lv_aload_n hx hb dX2_made_0 rfl (lv_at hl 0 rfl) ?_
  refine lv_aload_n hx hb dX2_made_1 rfl (lv_at hl 0 rfl) ?_
  refine va_alen hx hb hK hP 0 0 rfl rfl rfl dX2_made_2 ?_
  refine lv_topi (fun y_1 ey_1 => ?_)
  have ty_1 : y_1.toInt = (mm : Int) := i_len ey_1 (by omega)
  refine lv_aload_n hx hb dX2_made_3 rfl (lv_at hl 1 rfl) ?_
  have hPc := hP.sub (ws' := [(ia, .inl (cJ, n, .inl f)), (la, .inl (cI, mm, .inl fl))]) [1, 0] rfl
  have hKc := hK.sub (tys' := [(cJ, .int), (cI, .int)]) [1, 0] rfl
  have hDc := hD.sub (ws' := [(ia, .inl (cJ, n, .inl f)), (la, .inl (cI, mm, .inl fl))]) [1, 0] (by decide) rfl
  have hFc := va_free (wc := [(ia, .inl (cJ, n, .inl f)), (la, .inl (cI, mm, .inl fl))]) hD hS hA [1, 0] rfl
  refine va_calli (va_runS (As := [.ref la, .int y_1, .ref ia]) (rest := []) ⟨hx, hb, hml, hown, hts⟩ (s_sortTriples l dC dI ia la n mm cI cJ f fl H.size y_1 (by omega) (by omega)) (va_cwS 3 hts mg_X2_made_X2_sortTriples_18 rfl rfl rfl (by decide +kernel) ⟨Nat.le_of_ble_eq_true rfl, Nat.le_of_ble_eq_true rfl⟩) ⟨fun a U g mk q => by obtain ⟨q0, q1, qP, qK, qD⟩ := q; exact ⟨q0, q1, qP, va_K.moved (u := U) (U := U.calling g mk a) (Vm.Alike.refl U.vm) qK, qD⟩, fun U hU hW => ⟨rfl, by rw [hU], by rw [hU]; exact hPc, va_K.moved hW.alike hKc, hDc.weaken (fun _ _ _ _ => trivial)⟩⟩ rfl rfl hl.1 rfl (lv_room (Nat.le_of_ble_eq_true rfl)) dX2_made_4 ⟨Nat.le_of_ble_eq_true rfl, Nat.le_of_ble_eq_true rfl⟩) hS (fun q _ h => hFc q h) hFc (fun r_3 u t H1 locs ht hvm hw hB hz1 hk1 hS => ?_)
  obtain ⟨f_4, hP1, hK1, hD1⟩ := hB
  rw [ht] at hP1
  have hr_3 := hw
  obtain ⟨hP, hD⟩ := va_join (wr := []) (w1 := [(ia, .inl (cJ, n, .inl f_4)), (la, .inl (cI, mm, .inl fl))]) hP hD [1, 0] [] rfl rfl (by decide) (by decide) hk1 hFc hP1 hD1
  generalize H1 = H at hP hS ⊢
  have hP : va_P (dC, dI) vwCl [(ia, .inl (cJ, n, .inl f_4)), (la, .inl (cI, mm, .inl fl))] H := hP
  have hD : va_D A [(ia, .inl (cJ, n, .inl f_4)), (la, .inl (cI, mm, .inl fl))] := hD
  refine lv_istore_n (lv' := [(2, .int r_3), (0, .ref la), (1, .ref ia)]) hx hb dX2_made_7 rfl hl (by decide) rfl (fun ls hl => ?_)
  refine va_new (ci := 2) (fs := [.null, .null]) (C := RX2) (T := TX2) (N := 2) hx hb hts fin_X2_made_X2 tyX2 tyX2_ok hown (hts (.classLink RX2 10 RX2) (List.mem_of_getElem? (i := 4) (by decide +kernel))) (hts (.instantiable RX2 2) (List.mem_of_getElem? (i := 5) (by decide +kernel))) (hts (.initialized RX2) (List.mem_of_getElem? (i := 3) (by decide +kernel))) hK hP hD hS hA rfl (fun j hj => by rcases (show j = 0 ∨ j = 1 by omega) with rfl | rfl <;> rfl) (Nat.le_of_ble_eq_true rfl) (Nat.le_of_ble_eq_true rfl) dX2_made_8 (fun q_5 H hP hD hS => ?_)
  have hP : va_P (dC, dI) vwCl [(ia, .inl (cJ, n, .inl f_4)), (la, .inl (cI, mm, .inl fl)), (q_5, .inr (2, [.null, .null]))] H := hP
  have hD : va_D A [(ia, .inl (cJ, n, .inl f_4)), (la, .inl (cI, mm, .inl fl)), (q_5, .inr (2, [.null, .null]))] := hD
  refine W.widen (k := 1) (n := 2) (by omega) (by omega) ?_
  refine lv_dup hx hb dX2_made_11 rfl ?_
  refine lv_aload_n hx hb dX2_made_12 rfl (lv_at hl 1 rfl) ?_
  refine lv_aload_n hx hb dX2_made_13 rfl (lv_at hl 2 rfl) ?_
  refine lv_iload_n hx hb dX2_made_14 rfl (lv_at hl 0 rfl) ?_
  have hPc := hP.sub (ws' := []) [] rfl
  have hKc := hK.sub (tys' := []) [] rfl
  have hDc := hD.sub (ws' := []) [] (by decide) rfl
  have hFc := va_free (wc := []) hD hS hA [] rfl
  refine va_callr (va_runS (As := [.ref ia, .int r_3]) (rest := [.ref la, .ref q_5, .ref q_5]) ⟨hx, hb, hml, hown, hts⟩ (s_copyOf l dC dI [(ia, .inl (cJ, n, .inl f_4))] [(cJ, .int)] ia n cJ f_4 60 H.size r_3 (List.mem_singleton.mpr rfl) (List.mem_singleton.mpr rfl) (by omega) (by omega) (by omega)) (va_cwS 2 hts mg_X2_made_J7_copyOf_59c91_22 rfl rfl rfl (by decide +kernel) ⟨Nat.le_of_ble_eq_true rfl, Nat.le_of_ble_eq_true rfl⟩) ⟨fun a U g mk q => by obtain ⟨q0, q1, qP, qK, qD, qE0, qE1, qE2, qE3⟩ := q; exact ⟨q0, q1, qP, va_K.moved (u := U) (U := U.calling g mk a) (Vm.Alike.refl U.vm) qK, qD, va_Nw.same rfl (u := U) rfl qE0, qE1, va_K.moved (u := U) (U := U.calling g mk a) (Vm.Alike.refl U.vm) qE2, qE3⟩, fun U hU hW => ⟨rfl, by rw [hU], by rw [hU]; exact hPc, va_K.moved hW.alike hKc, hDc.weaken (fun _ _ _ _ => trivial), nw_moved hW.alike hcl, (by rw [hU]; exact (hP.sub (ws' := [(ia, .inl (cJ, n, .inl f_4))]) [0] rfl)), va_K.moved hW.alike (hK.sub (tys' := [(cJ, .int)]) [1] rfl), w_pool ((hP.sub (ws' := [(ia, .inl (cJ, n, .inl f_4))]) [0] rfl) 0 _ rfl).lt⟩⟩ rfl rfl hl.1 rfl (lv_room (Nat.le_of_ble_eq_true rfl)) dX2_made_15 ⟨Nat.le_of_ble_eq_true rfl, Nat.le_of_ble_eq_true rfl⟩) hS (fun q _ h => hFc q h) hFc (fun u r_7 t H1 locs ht hvm hw hB hz1 hk1 hS => ?_)
  obtain ⟨n_8, f_9, c_10, tn_8, hP1, hK1, hD1⟩ := hB
  rw [ht] at hP1
  have hK := hK.app (va_K.moved hvm.symm hK1)
  have hK : va_K (dC, dI) vwCl [(cI, .int), (cJ, .int), (c_10, .int)] s := hK
  obtain ⟨hP, hD⟩ := va_join (wr := [(ia, .inl (cJ, n, .inl f_4)), (la, .inl (cI, mm, .inl fl)), (q_5, .inr (2, [.null, .null]))]) (w1 := [(r_7, .inl (c_10, n_8, .inl f_9))]) hP hD [] [0, 1, 2] rfl rfl (by decide) (by decide) hk1 hFc hP1 hD1
  generalize H1 = H at hP hS ⊢
  have hP : va_P (dC, dI) vwCl [(ia, .inl (cJ, n, .inl f_4)), (la, .inl (cI, mm, .inl fl)), (q_5, .inr (2, [.null, .null])), (r_7, .inl (c_10, n_8, .inl f_9))] H := hP
  have hD : va_D A [(ia, .inl (cJ, n, .inl f_4)), (la, .inl (cI, mm, .inl fl)), (q_5, .inr (2, [.null, .null])), (r_7, .inl (c_10, n_8, .inl f_9))] := hD
  have hPc := hP.sub (ws' := [(q_5, .inr (2, [.null, .null]))]) [2] rfl
  have hKc := hK.sub (tys' := []) [] rfl
  have hDc := hD.sub (ws' := [(q_5, .inr (2, [.null, .null]))]) [2] (by decide) rfl
  have hFc := va_free (wc := [(q_5, .inr (2, [.null, .null]))]) hD hS hA [2] rfl
  refine va_callv (va_runI (As := [.ref la, .ref r_7]) (rest := [.ref q_5]) ⟨hx, hb, hml, hown, hts⟩ (s_Doc_init l dC dI q_5 la r_7 H.size) (cwI 2 hts mg_X2_made_X2_init_28 rfl rfl rfl (hts (.initialized RX2) (List.mem_of_getElem? (i := 3) (by decide +kernel))) (hts (.methodLink RX2 28 yX2_init) (List.mem_of_getElem? (i := 9) (by decide +kernel))) (hts (.instanceMethod yX2_init) (List.mem_of_getElem? (i := 10) (by decide +kernel))) rfl (by decide +kernel) ⟨Nat.le_of_ble_eq_true rfl, Nat.le_of_ble_eq_true rfl⟩) ⟨fun a U g mk q => by obtain ⟨q0, q1, qP, qK, qD⟩ := q; exact ⟨q0, q1, qP, va_K.moved (u := U) (U := U.calling g mk a) (Vm.Alike.refl U.vm) qK, qD⟩, fun U hU hW => ⟨rfl, by rw [hU], by rw [hU]; exact hPc, va_K.moved hW.alike hKc, hDc.weaken (fun _ _ _ _ => trivial)⟩⟩ rfl rfl hl.1 rfl (lv_room (Nat.le_of_ble_eq_true rfl)) dX2_made_18 ⟨Nat.le_of_ble_eq_true rfl, Nat.le_of_ble_eq_true rfl⟩) hS (fun q _ h => hFc q h) hFc (fun u t H1 locs ht hvm hw hB hz1 hk1 hS => ?_)
  obtain ⟨hP1, hK1, hD1⟩ := hB
  rw [ht] at hP1
  obtain ⟨hP, hD⟩ := va_join (wr := [(ia, .inl (cJ, n, .inl f_4)), (la, .inl (cI, mm, .inl fl)), (r_7, .inl (c_10, n_8, .inl f_9))]) (w1 := [(q_5, .inr (2, [.ref la, .ref r_7]))]) hP hD [2] [0, 1, 3] rfl rfl (by decide) (by decide) hk1 hFc hP1 hD1
  generalize H1 = H at hP hS ⊢
  have hP : va_P (dC, dI) vwCl [(ia, .inl (cJ, n, .inl f_4)), (la, .inl (cI, mm, .inl fl)), (r_7, .inl (c_10, n_8, .inl f_9)), (q_5, .inr (2, [.ref la, .ref r_7]))] H := hP
  have hD : va_D A [(ia, .inl (cJ, n, .inl f_4)), (la, .inl (cI, mm, .inl fl)), (r_7, .inl (c_10, n_8, .inl f_9)), (q_5, .inr (2, [.ref la, .ref r_7]))] := hD
  have hP9 := hP.sub (ws' := [(la, .inl (cI, mm, .inl fl)), (ia, .inl (cJ, n, .inl f_4)), (r_7, .inl (c_10, n_8, .inl f_9)), (q_5, .inr (2, [.ref la, .ref r_7]))]) [1, 0, 2, 3] rfl
  have hD9 := hD.sub (ws' := [(la, .inl (cI, mm, .inl fl)), (ia, .inl (cJ, n, .inl f_4)), (r_7, .inl (c_10, n_8, .inl f_9)), (q_5, .inr (2, [.ref la, .ref r_7]))]) [1, 0, 2, 3] (by decide) rfl
  have hK9 := hK.sub (tys' := [(cI, .int), (cJ, .int), (c_10, .int)]) [0, 1, 2] rfl
  refine W.widen (k := 2) (n := 62) (by omega) (by omega) ?_
  exact W.aret hx hb hr (Or.inl ⟨_, rfl⟩) (Or.inr ⟨_, rfl⟩) (fun t ht hW => ⟨⟨(), _, rfl, trivial, r_7, n_8, f_4, f_9, c_10, by omega, by rw [ht]; exact hP9, va_K.moved hW.alike hK9, hD9⟩, hS.F ht⟩) hS.2.2 dX2_made_21
theorem dX2_told_0 : decode cX2_told 0 = .ok (.iconst 0, 1) := by decide +kernel
theorem dX2_told_1 : decode cX2_told 1 = .ok (.iload_n 2, 1) := by decide +kernel
theorem dX2_told_2 : decode cX2_told 2 = .ok (.aload_n 0, 1) := by decide +kernel
theorem dX2_told_3 : decode cX2_told 3 = .ok (.arraylength, 1) := by decide +kernel
theorem dX2_told_4 : decode cX2_told 4 = .ok (.invokestatic 31, 3) := by decide +kernel
theorem dX2_told_7 : decode cX2_told 7 = .ok (.iload_n 1, 1) := by decide +kernel
theorem dX2_told_8 : decode cX2_told 8 = .ok (.isub, 1) := by decide +kernel
theorem dX2_told_9 : decode cX2_told 9 = .ok (.invokestatic 37, 3) := by decide +kernel
theorem dX2_told_12 : decode cX2_told 12 = .ok (.istore 4, 2) := by decide +kernel
theorem dX2_told_14 : decode cX2_told 14 = .ok (.iload 4, 2) := by decide +kernel
theorem dX2_told_16 : decode cX2_told 16 = .ok (.newarray .int, 2) := by decide +kernel
theorem dX2_told_18 : decode cX2_told 18 = .ok (.astore 5, 2) := by decide +kernel
theorem dX2_told_20 : decode cX2_told 20 = .ok (.iconst 0, 1) := by decide +kernel
theorem dX2_told_21 : decode cX2_told 21 = .ok (.istore 6, 2) := by decide +kernel
theorem dX2_told_23 : decode cX2_told 23 = .ok (.iload 6, 2) := by decide +kernel
theorem dX2_told_25 : decode cX2_told 25 = .ok (.iload 4, 2) := by decide +kernel
theorem dX2_told_27 : decode cX2_told 27 = .ok (.if_icmp .ge 23, 3) := by decide +kernel
theorem dX2_told_30 : decode cX2_told 30 = .ok (.aload 5, 2) := by decide +kernel
theorem dX2_told_32 : decode cX2_told 32 = .ok (.iload 6, 2) := by decide +kernel
theorem dX2_told_34 : decode cX2_told 34 = .ok (.aload_n 0, 1) := by decide +kernel
theorem dX2_told_35 : decode cX2_told 35 = .ok (.iload_n 1, 1) := by decide +kernel
theorem dX2_told_36 : decode cX2_told 36 = .ok (.iload 6, 2) := by decide +kernel
theorem dX2_told_38 : decode cX2_told 38 = .ok (.iadd, 1) := by decide +kernel
theorem dX2_told_39 : decode cX2_told 39 = .ok (.iaload, 1) := by decide +kernel
theorem dX2_told_40 : decode cX2_told 40 = .ok (.bipush 97, 2) := by decide +kernel
theorem dX2_told_42 : decode cX2_told 42 = .ok (.isub, 1) := by decide +kernel
theorem dX2_told_43 : decode cX2_told 43 = .ok (.iastore, 1) := by decide +kernel
theorem dX2_told_44 : decode cX2_told 44 = .ok (.iinc 6 1, 3) := by decide +kernel
theorem dX2_told_47 : decode cX2_told 47 = .ok (.goto (-24), 3) := by decide +kernel
theorem dX2_told_50 : decode cX2_told 50 = .ok (.aload 5, 2) := by decide +kernel
theorem dX2_told_52 : decode cX2_told 52 = .ok (.aload_n 3, 1) := by decide +kernel
theorem dX2_told_53 : decode cX2_told 53 = .ok (.invokestatic 40, 3) := by decide +kernel
theorem dX2_told_56 : decode cX2_told 56 = .ok (.areturn, 1) := by decide +kernel
def mwX2_told : List Cond := .code yX2_told cX2_told 7 (some (.object "PatternGate$Doc")) :: (([.methodLink RX2 31 Lib.Math.min.name, .static Lib.Math.min.name, .initialized "java/lang/Math", .code Lib.Math.min.name Lib.Math.min.code 2 (some .int), .methodLink RX2 37 Lib.Math.max.name, .static Lib.Math.max.name, .code Lib.Math.max.name Lib.Math.max.code 2 (some .int), .arrayClass .int, .methodLink RX2 40 yX2_made, .static yX2_made, .initialized RX2] : List Cond) ++ (mwX2_made))
set_option maxRecDepth 100000 in
theorem gd_mwX2_made : mwX2_made.all goodWord = true := by decide +kernel
set_option maxRecDepth 20000 in
theorem mg_X2_told_X2_made_40 : GoodIn mwX2_told (va_wsS RX2 40 yX2_made mwX2_made) := gi_app (A := [.methodLink RX2 40 yX2_made, .static yX2_made, .initialized RX2]) (goodIn_r _ [9, 10, 11] (by decide +kernel) (by decide +kernel)) (gi_sub gd_mwX2_made (fun w h => List.mem_cons_of_mem _ (List.mem_append_right _ (h))))
set_option maxHeartbeats 4000000 in
set_option maxRecDepth 100000 in
/-- Doc.told -/
theorem s_told (l : Launch) (dC : Nat → ClassId) (dI : Nat → Nat → Nat) (ba ia kb n : Nat) (cb cJ : ClassId) (fb f : Nat → Int32) (sz : Nat) (i1 i2 : Int32) (hkb : kb ≤ 900) (hn : n ≤ 60) (h1 : 0 ≤ i1.toInt ∧ i1.toInt ≤ 900) (h2 : 0 ≤ i2.toInt ∧ i2.toInt ≤ 900 ∧ i2.toInt - i1.toInt ≤ 60) : Met l yX2_told mwX2_told ({ frames := 4, cells := 3, slots := 122, locals := 240 }) (va_Pc [.ref ba, .int i1, .int i2, .ref ia] (fun U => U.heap.size = sz ∧ va_P (dC, dI) vwCl ([(ba, .inl (cb, kb, .inl fb)), (ia, .inl (cJ, n, .inl f))]) U.heap ∧ va_K (dC, dI) vwCl ([(cb, .int), (cJ, .int)]) U ∧ va_D (fun _ => True) ([(ba, .inl (cb, kb, .inl fb)), (ia, .inl (cJ, n, .inl f))]) ∧ va_Nw (.castable "[I" "java/lang/Cloneable") U)) (va_Qr (fun (_ : Unit) => True) (fun _ a t => ∃ (ql qn k8 k9 : Nat) (f8 f9 g9 : Nat → Int32) (c8 cN : ClassId), k8 ≤ 60 ∧ k9 ≤ 60 ∧ va_P (dC, dI) vwCl [(ba, .inl (cb, kb, .inl fb)), (ia, .inl (cJ, n, .inl f9)), (ql, .inl (c8, k8, .inl f8)), (qn, .inl (cN, k9, .inl g9)), (a, .inr (2, [.ref ql, .ref qn]))] t.heap ∧ va_K (dC, dI) vwCl [(cb, .int), (cJ, .int), (c8, .int), (cN, .int)] t ∧ va_D (va_A ([(ba, .inl (cb, kb, .inl fb)), (ia, .inl (cJ, n, .inl f))]) sz) [(ba, .inl (cb, kb, .inl fb)), (ia, .inl (cJ, n, .inl f9)), (ql, .inl (c8, k8, .inl f8)), (qn, .inl (cN, k9, .inl g9)), (a, .inr (2, [.ref ql, .ref qn]))]) (va_A ([(ba, .inl (cb, kb, .inl fb)), (ia, .inl (cJ, n, .inl f))]) sz)) 3 122 (va_A ([(ba, .inl (cb, kb, .inl fb)), (ia, .inl (cJ, n, .inl f))]) sz) := by
  refine Met.ofW (cc := cX2_told) (maxL := 7) (ret := (some (.object "PatternGate$Doc"))) (by decide +kernel) rfl ?_
  intro p e s m args below meth c s₁ B hml hv
  obtain ⟨rfl, hsz, hP, hK, hD0, hcl⟩ := hv
  have hx := B.exec
  have hb := B.bytes
  have hr := B.returns
  have hts := atoms_spec (ws := mwX2_told) B.pre
  have hown : s.vm.findClass RX2 = some m.cls := findClass_of_methodNamed B.named
  have hlocks := B.notSynchronized
  subst hsz
  have hD := hD0.self (sz := s.heap.size)
  generalize hAe : va_A ([(ba, .inl (cb, kb, .inl fb)), (ia, .inl (cJ, n, .inl f))]) s.heap.size = A at hD ⊢
  have hA : ∀ q : Nat, s.heap.size ≤ q → A q := fun q h => by rw [← hAe]; exact Or.inr h
  have hP : va_P (dC, dI) vwCl [(ba, .inl (cb, kb, .inl fb)), (ia, .inl (cJ, n, .inl f))] s.heap := hP
  have hD : va_D A [(ba, .inl (cb, kb, .inl fb)), (ia, .inl (cJ, n, .inl f))] := hD
  have hK : va_K (dC, dI) vwCl [(cb, .int), (cJ, .int)] s := hK
  generalize hH : s.heap = H at hP ⊢
  have hS : va_S A s.heap H [] := by rw [← hH]; exact va_S.rf
  have hl := lv_entry ([.ref ba, .int i1, .int i2, .ref ia]) (n := 7) (Nat.le_of_ble_eq_true rfl)
  rw [lg_entry_eq]
  generalize (lg_sl ([.ref ba, .int i1, .int i2, .ref ia]) ++ List.replicate (7 - (lg_sl ([.ref ba, .int i1, .int i2, .ref ia])).length) Slot.unset).toArray = ls at hl ⊢
  have hl : lv_has ls 7 [(0, .ref ba), (1, .int i1), (2, .int i2), (3, .ref ia)] := hl
  have rg_i1 := i_rng i1
  have rg_i2 := i_rng i2
  refine lv_iconst (v := 0) hx hb dX2_told_0 (by decide) ?_
  refine lv_iload_n hx hb dX2_told_1 rfl (lv_at hl 2 rfl) ?_
  refine lv_aload_n hx hb dX2_told_2 rfl (lv_at hl 0 rfl) ?_
  refine va_alen hx hb hK hP 0 0 rfl rfl rfl dX2_told_3 ?_
  refine lv_topi (fun y_1 ey_1 => ?_)
  have ty_1 : y_1.toInt = (kb : Int) := i_len ey_1 (by omega)
  refine va_mmin hx hb (hml.trans hl.1.symm) hown (hts (.methodLink RX2 31 Lib.Math.min.name) (List.mem_of_getElem? (i := 1) (by decide +kernel))) (hts (.static Lib.Math.min.name) (List.mem_of_getElem? (i := 2) (by decide +kernel))) (hts (.initialized "java/lang/Math") (List.mem_of_getElem? (i := 3) (by decide +kernel))) (hts (.code Lib.Math.min.name Lib.Math.min.code 2 (some .int)) (List.mem_of_getElem? (i := 4) (by decide +kernel))) (Nat.le_of_ble_eq_true rfl) (Nat.le_of_ble_eq_true rfl) (Nat.le_of_ble_eq_true rfl) (Nat.le_of_ble_eq_true rfl) dX2_told_4 ?_
  refine lv_topi (fun y_2 ey_2 => ?_)
  have ty_2 := i_min (a := i2.toInt) (b := y_1.toInt) rfl rfl ey_2
  refine lv_iload_n hx hb dX2_told_7 rfl (lv_at hl 1 rfl) ?_
  refine lv_isub hx hb dX2_told_8 ?_
  refine lv_topi (fun y_3 ey_3 => ?_)
  first | have ty_3 := i_sub (a := y_2.toInt) (b := i1.toInt) rfl rfl ey_3 (by omega) (by omega) | skip
  refine va_mmax hx hb (hml.trans hl.1.symm) hown (hts (.methodLink RX2 37 Lib.Math.max.name) (List.mem_of_getElem? (i := 5) (by decide +kernel))) (hts (.static Lib.Math.max.name) (List.mem_of_getElem? (i := 6) (by decide +kernel))) (hts (.initialized "java/lang/Math") (List.mem_of_getElem? (i := 3) (by decide +kernel))) (hts (.code Lib.Math.max.name Lib.Math.max.code 2 (some .int)) (List.mem_of_getElem? (i := 7) (by decide +kernel))) (Nat.le_of_ble_eq_true rfl) (Nat.le_of_ble_eq_true rfl) (Nat.le_of_ble_eq_true rfl) (Nat.le_of_ble_eq_true rfl) dX2_told_9 ?_
  refine lv_topi (fun y_4 ey_4 => ?_)
  have ty_4 := i_max (a := 0) (b := y_3.toInt) (by decide) rfl ey_4
  refine lv_istore (lv' := [(4, .int y_4), (0, .ref ba), (1, .int i1), (2, .int i2), (3, .ref ia)]) hx hb dX2_told_12 hl (by decide) rfl (fun ls hl => ?_)
  refine lv_iload hx hb dX2_told_14 (lv_at hl 0 rfl) ?_
  obtain ⟨n_7, hn_7, en_7⟩ := nI_of (i_nn (x := y_4) rfl (by omega))
  have tn_7 : y_4.toInt = (n_7 : Int) := by rw [en_7]; exact nI_toInt hn_7
  have un_7 : n_7 ≤ 60 := by omega
  refine va_newa (atype := .int) (ty := .int) (n := y_4) (N' := n_7) (a0 := (n_7, .inl (fun _ => 0))) hx hb (hts (.arrayClass .int) (List.mem_of_getElem? (i := 8) (by decide +kernel))) rfl hK hP hD hS hA (fun _ => rfl) (i_nn rfl (by omega)) (by rw [en_7]; exact nI_clamp hn_7) (by show n_7 * 4 ≤ 536870912; omega) (Nat.le_of_ble_eq_true rfl) (Nat.le_trans (Nat.add_le_add_left un_7 _) (Nat.le_of_ble_eq_true rfl)) dX2_told_16 (fun q_5 c_6 H hK hP hD hS => ?_)
  have hP : va_P (dC, dI) vwCl [(ba, .inl (cb, kb, .inl fb)), (ia, .inl (cJ, n, .inl f)), (q_5, .inl (c_6, n_7, .inl (fun _ => 0)))] H := hP
  have hD : va_D A [(ba, .inl (cb, kb, .inl fb)), (ia, .inl (cJ, n, .inl f)), (q_5, .inl (c_6, n_7, .inl (fun _ => 0)))] := hD
  have hK : va_K (dC, dI) vwCl [(cb, .int), (cJ, .int), (c_6, .int)] s := hK
  refine W.widen (k := 1) (n := 60) (by omega) (by omega) ?_
  refine lv_astore (lv' := [(5, .ref q_5), (4, .int y_4), (0, .ref ba), (1, .int i1), (2, .int i2), (3, .ref ia)]) hx hb dX2_told_18 hl (by decide) rfl (fun ls hl => ?_)
  refine lv_iconst (v := 0) hx hb dX2_told_20 (by decide) ?_
  refine lv_istore (lv' := [(6, .int 0), (5, .ref q_5), (4, .int y_4), (0, .ref ba), (1, .int i1), (2, .int i2), (3, .ref ia)]) hx hb dX2_told_21 hl (by decide) rfl (fun ls hl => ?_)
  have loop23 : ∀ (lm23 : Nat) (ii : Int32) (ga : Nat → Int32), (0 ≤ ii.toInt ∧ ii.toInt ≤ 60) → (((60 : Int) - ii.toInt).toNat) < lm23 → ∀ (H : Heap) (locs : List Loc) (ls : Array Slot), va_P (dC, dI) vwCl [(ba, .inl (cb, kb, .inl fb)), (ia, .inl (cJ, n, .inl f)), (q_5, .inl (c_6, n_7, .inl ga))] H → va_D A [(ba, .inl (cb, kb, .inl fb)), (ia, .inl (cJ, n, .inl f)), (q_5, .inl (c_6, n_7, .inl ga))] → va_S A s.heap H locs → lv_has ls 7 [(6, .int ii), (5, .ref q_5), (4, .int y_4), (0, .ref ba), (1, .int i1), (2, .int i2), (3, .ref ia)] → W p l e (headSpec mwX2_told ({ frames := 4, cells := 3, slots := 122, locals := 240 })).room s m ([.ref ba, .int i1, .int i2, .ref ia]).toArray below meth c H locs 1 60 (MQ below (va_Qr (fun (_ : Unit) => True) (fun _ a t => ∃ (ql qn k8 k9 : Nat) (f8 f9 g9 : Nat → Int32) (c8 cN : ClassId), k8 ≤ 60 ∧ k9 ≤ 60 ∧ va_P (dC, dI) vwCl [(ba, .inl (cb, kb, .inl fb)), (ia, .inl (cJ, n, .inl f9)), (ql, .inl (c8, k8, .inl f8)), (qn, .inl (cN, k9, .inl g9)), (a, .inr (2, [.ref ql, .ref qn]))] t.heap ∧ va_K (dC, dI) vwCl [(cb, .int), (cJ, .int), (c8, .int), (cN, .int)] t ∧ va_D A [(ba, .inl (cb, kb, .inl fb)), (ia, .inl (cJ, n, .inl f9)), (ql, .inl (c8, k8, .inl f8)), (qn, .inl (cN, k9, .inl g9)), (a, .inr (2, [.ref ql, .ref qn]))]) A) ([.ref ba, .int i1, .int i2, .ref ia]).toArray s 3 122 A) (F0 m 23 ls []) := by
    intro lm23
    induction lm23 with
    | zero => intro ii ga v23_0 hm23; exact absurd hm23 (Nat.not_lt_zero _)
    | succ lm23 ih23 =>
      intro ii ga v23_0 hm23 H locs ls hP hD hS hl
      have rg_ii := i_rng ii
      refine lv_iload hx hb dX2_told_23 (lv_at hl 0 rfl) ?_
      refine lv_iload hx hb dX2_told_25 (lv_at hl 2 rfl) ?_
      refine lv_icmp_ge (tgt := 50) hx hb dX2_told_27 (by decide) (fun k_8 => ?_) (fun k_8 => ?_)
      · have tk_8 := c_ge (a := ii.toInt) (b := y_4.toInt) rfl rfl k_8
        refine lv_aload hx hb dX2_told_50 (lv_at hl 1 rfl) ?_
        refine lv_aload_n hx hb dX2_told_52 rfl (lv_at hl 6 rfl) ?_
        have hPc := hP.sub (ws' := [(q_5, .inl (c_6, n_7, .inl ga)), (ia, .inl (cJ, n, .inl f))]) [2, 1] rfl
        have hKc := hK.sub (tys' := [(c_6, .int), (cJ, .int)]) [2, 1] rfl
        have hDc := hD.sub (ws' := [(q_5, .inl (c_6, n_7, .inl ga)), (ia, .inl (cJ, n, .inl f))]) [2, 1] (by decide) rfl
        have hFc := va_free (wc := [(q_5, .inl (c_6, n_7, .inl ga)), (ia, .inl (cJ, n, .inl f))]) hD hS hA [2, 1] rfl
        refine va_callr (va_runS (As := [.ref q_5, .ref ia]) (rest := []) ⟨hx, hb, hml, hown, hts⟩ (s_made l dC dI q_5 ia n_7 n c_6 cJ ga f H.size (by omega) (by omega)) (va_cwS 2 hts mg_X2_told_X2_made_40 rfl rfl rfl (by decide +kernel) ⟨Nat.le_of_ble_eq_true rfl, Nat.le_of_ble_eq_true rfl⟩) ⟨fun a U g mk q => by obtain ⟨q0, q1, qP, qK, qD, qE0⟩ := q; exact ⟨q0, q1, qP, va_K.moved (u := U) (U := U.calling g mk a) (Vm.Alike.refl U.vm) qK, qD, va_Nw.same rfl (u := U) rfl qE0⟩, fun U hU hW => ⟨rfl, by rw [hU], by rw [hU]; exact hPc, va_K.moved hW.alike hKc, hDc.weaken (fun _ _ _ _ => trivial), nw_moved hW.alike hcl⟩⟩ rfl rfl hl.1 rfl (lv_room (Nat.le_of_ble_eq_true rfl)) dX2_told_53 ⟨Nat.le_of_ble_eq_true rfl, Nat.le_of_ble_eq_true rfl⟩) hS (fun q _ h => hFc q h) hFc (fun u r_10 t H1 locs ht hvm hw hB hz1 hk1 hS => ?_)
        obtain ⟨q_11, n_12, f_13, f_14, c_15, tn_12, hP1, hK1, hD1⟩ := hB
        rw [ht] at hP1
        have hK := hK.app ((va_K.moved hvm.symm hK1).sub (tys' := [(c_15, .int)]) [2] rfl)
        have hK : va_K (dC, dI) vwCl [(cb, .int), (cJ, .int), (c_6, .int), (c_15, .int)] s := hK
        obtain ⟨hP, hD⟩ := va_join (wr := [(ba, .inl (cb, kb, .inl fb))]) (w1 := [(q_5, .inl (c_6, n_7, .inl ga)), (ia, .inl (cJ, n, .inl f_13)), (q_11, .inl (c_15, n_12, .inl f_14)), (r_10, .inr (2, [.ref q_5, .ref q_11]))]) hP hD [2, 1] [0] rfl rfl (by decide) (by decide) hk1 hFc hP1 hD1
        generalize H1 = H at hP hS ⊢
        have hP : va_P (dC, dI) vwCl [(ba, .inl (cb, kb, .inl fb)), (q_5, .inl (c_6, n_7, .inl ga)), (ia, .inl (cJ, n, .inl f_13)), (q_11, .inl (c_15, n_12, .inl f_14)), (r_10, .inr (2, [.ref q_5, .ref q_11]))] H := hP
        have hD : va_D A [(ba, .inl (cb, kb, .inl fb)), (q_5, .inl (c_6, n_7, .inl ga)), (ia, .inl (cJ, n, .inl f_13)), (q_11, .inl (c_15, n_12, .inl f_14)), (r_10, .inr (2, [.ref q_5, .ref q_11]))] := hD
        have hP9 := hP.sub (ws' := [(ba, .inl (cb, kb, .inl fb)), (ia, .inl (cJ, n, .inl f_13)), (q_5, .inl (c_6, n_7, .inl ga)), (q_11, .inl (c_15, n_12, .inl f_14)), (r_10, .inr (2, [.ref q_5, .ref q_11]))]) [0, 2, 1, 3, 4] rfl
        have hD9 := hD.sub (ws' := [(ba, .inl (cb, kb, .inl fb)), (ia, .inl (cJ, n, .inl f_13)), (q_5, .inl (c_6, n_7, .inl ga)), (q_11, .inl (c_15, n_12, .inl f_14)), (r_10, .inr (2, [.ref q_5, .ref q_11]))]) [0, 2, 1, 3, 4] (by decide) rfl
        have hK9 := hK.sub (tys' := [(cb, .int), (cJ, .int), (c_6, .int), (c_15, .int)]) [0, 1, 2, 3] rfl
        refine W.widen (k := 3) (n := 122) (by omega) (by omega) ?_
        exact W.aret hx hb hr (Or.inl ⟨_, rfl⟩) (Or.inr ⟨_, rfl⟩) (fun t ht hW => ⟨⟨(), _, rfl, trivial, q_5, q_11, n_7, n_12, ga, f_13, f_14, c_6, c_15, by omega, by omega, by rw [ht]; exact hP9, va_K.moved hW.alike hK9, hD9⟩, hS.F ht⟩) hS.2.2 dX2_told_56
      · have tk_8 := c_nge (a := ii.toInt) (b := y_4.toInt) rfl rfl k_8
        refine lv_aload hx hb dX2_told_30 (lv_at hl 1 rfl) ?_
        refine lv_iload hx hb dX2_told_32 (lv_at hl 0 rfl) ?_
        refine lv_aload_n hx hb dX2_told_34 rfl (lv_at hl 3 rfl) ?_
        refine lv_iload_n hx hb dX2_told_35 rfl (lv_at hl 4 rfl) ?_
        refine lv_iload hx hb dX2_told_36 (lv_at hl 0 rfl) ?_
        refine lv_iadd hx hb dX2_told_38 ?_
        refine lv_topi (fun y_16 ey_16 => ?_)
        first | have ty_16 := i_add (a := i1.toInt) (b := ii.toInt) rfl rfl ey_16 (by omega) (by omega) | skip
        refine va_iald hx hb hK hP 0 0 rfl rfl (i := y_16) (vp_of (a := y_16.toInt) rfl (by omega) (by omega)) dX2_told_39 ?_
        refine lv_topi (fun y_17 ey_17 => ?_)
        have rg_y_17 := i_rng y_17
        refine lv_bipush (v := 97) hx hb dX2_told_40 (by decide) ?_
        refine lv_isub hx hb dX2_told_42 ?_
        refine lv_topi (fun y_18 ey_18 => ?_)
        first | have ty_18 := i_sub (a := y_17.toInt) (b := 97) rfl (by decide) ey_18 (by omega) (by omega) | skip
        refine va_iast hx hb hK hP hD hS 2 2 rfl rfl (i := ii) (vp_of (a := ii.toInt) rfl (by omega) (by omega)) dX2_told_43 (fun H locs hP hD hS => ?_)
        generalize hf_f_19 : upd ga _ _ = f_19 at hP hD
        have hP : va_P (dC, dI) vwCl [(ba, .inl (cb, kb, .inl fb)), (ia, .inl (cJ, n, .inl f)), (q_5, .inl (c_6, n_7, .inl f_19))] H := hP
        have hD : va_D A [(ba, .inl (cb, kb, .inl fb)), (ia, .inl (cJ, n, .inl f)), (q_5, .inl (c_6, n_7, .inl f_19))] := hD
        obtain ⟨y_20, ey_20⟩ : ∃ y : Int32, y = ii + 1 := ⟨_, rfl⟩
        first | have ty_20 := i_add (a := ii.toInt) (b := 1) rfl (by decide) ey_20 (by omega) (by omega) | skip
        refine lv_iinc (v := y_20) (lv' := [(6, .int y_20), (5, .ref q_5), (4, .int y_4), (0, .ref ba), (1, .int i1), (2, .int i2), (3, .ref ia)]) hx hb dX2_told_44 hl (k := 0) rfl (by rw [ey_20]; rfl) (by decide) rfl (fun ls hl => ?_)
        refine lv_goto (tgt := 23) hx hb dX2_told_47 (by decide) ?_
        exact ih23 y_20 f_19 (by first | omega | assumption | decide) (by omega) _ _ ls hP hD hS (lv_sub hl [0, 1, 2, 3, 4, 5, 6] rfl)
  have lit_20 : (0 : Int32).toInt = 0 := by decide
  exact loop23 _ 0 (fun _ => 0) (by first | omega | assumption | decide) (Nat.lt_succ_self _) _ _ ls hP hD hS (lv_sub hl [0, 1, 2, 3, 4, 5, 6] rfl)

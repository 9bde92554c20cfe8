theorem arrV_ext {cA : ClassId} {n : Nat} {F G : Nat → Value} (h : ∀ i, i < n → F i = G i) : arrV cA n F = arrV cA n G := by
  unfold arrV
  rw [show (fun j : Fin n => F j.val) = (fun j : Fin n => G j.val) from funext (fun j => h j.val j.isLt)]
/-- a row of references told by another function -/
theorem P_ext {D : va_G} {cl : List vw_C} {A : Nat → Prop} {ws : va_W} {H : Heap} {k a n : Nat} {cA : ClassId} {f g : Nat → Option Nat} (h : va_P D cl ws H) (hD : va_D A ws) (hk : ws[k]? = some (a, .inl (cA, n, .inr (.inr (.inr (.inr f)))))) (e : ∀ i, i < n → f i = g i) : va_P D cl (ws.set k (a, .inl (cA, n, .inr (.inr (.inr (.inr g)))))) H := by
  refine h.set hD hk ?_ (fun _ _ => rfl)
  have h1 : H[a]? = some (vp_cell cA (n, .inr (.inr (.inr (.inr f))))) := h k _ hk
  show H[a]? = some (vp_cell cA (n, .inr (.inr (.inr (.inr g)))))
  rw [h1, vp_cell_q, vp_cell_q, arrV_ext (fun i hi => by rw [e i hi])]
theorem dX7_init_0 : decode cX7_init 0 = .ok (.aload_n 0, 1) := by decide +kernel
theorem dX7_init_1 : decode cX7_init 1 = .ok (.invokespecial 5, 3) := by decide +kernel
theorem dX7_init_4 : decode cX7_init 4 = .ok (.aload_n 0, 1) := by decide +kernel
theorem dX7_init_5 : decode cX7_init 5 = .ok (.bipush 6, 2) := by decide +kernel
theorem dX7_init_7 : decode cX7_init 7 = .ok (.newarray .long, 2) := by decide +kernel
theorem dX7_init_9 : decode cX7_init 9 = .ok (.putfield 11, 3) := by decide +kernel
theorem dX7_init_12 : decode cX7_init 12 = .ok (.return_, 1) := by decide +kernel
def mwX7_init : List Cond := .code yX7_init cX7_init 1 none :: (([.methodLink RX7 5 objectInit, .instanceMethod objectInit, .code objectInit ⟨#[0xb1]⟩ 1 none, .arrayClass .long, .fieldLink RX7 11 "PatternGate$Rows" "row" "[J"] : List Cond) ++ (wsX70))
theorem fin_X7_init_X7 : ∀ w ∈ wsX70, w ∈ mwX7_init := fun w h => List.mem_cons_of_mem _ (List.mem_append_right _ (h))
set_option maxHeartbeats 4000000 in
set_option maxRecDepth 100000 in
/-- k_Rows -/
theorem k_Rows (l : Launch) (dC : Nat → ClassId) (dI : Nat → Nat → Nat) (nb sz : Nat) : Met l yX7_init mwX7_init ({ frames := 1, cells := 1, slots := 6, locals := 60 }) (va_Pc [.ref nb] (fun U => U.heap.size = sz ∧ va_P (dC, dI) vwCl ([(nb, .inr (7, [.null, .int 0]))]) U.heap ∧ va_K (dC, dI) vwCl ([]) U ∧ va_D (fun _ => True) ([(nb, .inr (7, [.null, .int 0]))]))) (va_Qv (fun (_ : Unit) => True) (fun _ t => ∃ (r1 : Nat) (c1 : ClassId), va_P (dC, dI) vwCl [(nb, .inr (7, [.ref r1, .int 0])), (r1, .inl (c1, 6, .inr (.inl (fun _ => 0))))] t.heap ∧ va_K (dC, dI) vwCl [(c1, .long)] t ∧ va_D (va_A ([(nb, .inr (7, [.null, .int 0]))]) sz) [(nb, .inr (7, [.ref r1, .int 0])), (r1, .inl (c1, 6, .inr (.inl (fun _ => 0))))]) (va_A ([(nb, .inr (7, [.null, .int 0]))]) sz)) 1 6 (va_A ([(nb, .inr (7, [.null, .int 0]))]) sz) := by
  refine Met.ofW (cc := cX7_init) (maxL := 1) (ret := none) (by decide +kernel) rfl ?_
  intro p e s m args below meth c s₁ B hml hv
  obtain ⟨rfl, hsz, hP, hK, hD0⟩ := hv
  have hx := B.exec
  have hb := B.bytes
  have hr := B.returns
  have hts := atoms_spec (ws := mwX7_init) B.pre
  have hown : s.vm.findClass RX7 = some m.cls := findClass_of_methodNamed B.named
  have hlocks := B.notSynchronized
  have hin : meth.name = "<init>" := (name_of_methodNamed B.named B.method).1
  subst hsz
  have hD := hD0.self (sz := s.heap.size)
  generalize hAe : va_A ([(nb, .inr (7, [.null, .int 0]))]) s.heap.size = A at hD ⊢
  have hA : ∀ q : Nat, s.heap.size ≤ q → A q := fun q h => by rw [← hAe]; exact Or.inr h
  have hP : va_P (dC, dI) vwCl [(nb, .inr (7, [.null, .int 0]))] s.heap := hP
  have hD : va_D A [(nb, .inr (7, [.null, .int 0]))] := hD
  have hK : va_K (dC, dI) vwCl [] s := hK
  generalize hH : s.heap = H at hP ⊢
  have hS : va_S A s.heap H [] := by rw [← hH]; exact va_S.rf
  have hl := lv_entry ([.ref nb]) (n := 1) (Nat.le_of_ble_eq_true rfl)
  rw [lg_entry_eq]
  generalize (lg_sl ([.ref nb]) ++ List.replicate (1 - (lg_sl ([.ref nb])).length) Slot.unset).toArray = ls at hl ⊢
  have hl : lv_has ls 1 [(0, .ref nb)] := hl
  refine lv_aload_n hx hb dX7_init_0 rfl (lv_at hl 0 rfl) ?_
  refine W.objInit hx hb hown (hts (.methodLink RX7 5 objectInit) (List.mem_of_getElem? (i := 1) (by decide +kernel))) (hts (.instanceMethod objectInit) (List.mem_of_getElem? (i := 2) (by decide +kernel))) (hts (.code objectInit ⟨#[0xb1]⟩ 1 none) (List.mem_of_getElem? (i := 3) (by decide +kernel))) rfl (by rw [hml]; exact hl.1) rfl dX7_init_1 (Nat.le_of_ble_eq_true rfl) (Nat.le_of_ble_eq_true rfl) ?_
  refine W.eq (g2 := F0 m 4 ls []) rfl ?_
  refine lv_aload_n hx hb dX7_init_4 rfl (lv_at hl 0 rfl) ?_
  refine lv_bipush (v := 6) hx hb dX7_init_5 (by decide) ?_
  refine va_newa (atype := .long) (ty := .long) (n := 6) (N' := 6) (a0 := (6, .inr (.inl (fun _ => 0)))) hx hb (hts (.arrayClass .long) (List.mem_of_getElem? (i := 4) (by decide +kernel))) rfl hK hP hD hS hA (fun _ => rfl) (by decide) (by decide) (Nat.le_of_ble_eq_true rfl) (Nat.le_of_ble_eq_true rfl) (Nat.le_of_ble_eq_true rfl) dX7_init_7 (fun q_1 c_2 H hK hP hD hS => ?_)
  have hP : va_P (dC, dI) vwCl [(nb, .inr (7, [.null, .int 0])), (q_1, .inl (c_2, 6, .inr (.inl (fun _ => 0))))] H := hP
  have hD : va_D A [(nb, .inr (7, [.null, .int 0])), (q_1, .inl (c_2, 6, .inr (.inl (fun _ => 0))))] := hD
  have hK : va_K (dC, dI) vwCl [(c_2, .long)] s := hK
  refine W.widen (k := 1) (n := 6) (by omega) (by omega) ?_
  refine va_putF (D := (dC, dI)) (ci := 7) (v := .ref q_1) (ty := .array .long) (C := RX7) (T := TX7) (N := 2) hx hb hts fin_X7_init_X7 tyX7 tyX7_ok nmX7 hown hK hP hD hS 0 rfl rfl 0 (by decide) (hts (.fieldLink RX7 11 "PatternGate$Rows" "row" "[J") (List.mem_of_getElem? (i := 5) (by decide +kernel))) (fun _ h9 => h9) rfl hin rfl (by decide +kernel) rfl rfl (Nat.le_of_ble_eq_true rfl) dX7_init_9 (fun H locs hP hD hS => ?_)
  have hP : va_P (dC, dI) vwCl [(nb, .inr (7, [.ref q_1, .int 0])), (q_1, .inl (c_2, 6, .inr (.inl (fun _ => 0))))] H := hP
  have hD : va_D A [(nb, .inr (7, [.ref q_1, .int 0])), (q_1, .inl (c_2, 6, .inr (.inl (fun _ => 0))))] := hD
  have hP9 := hP.sub (ws' := [(nb, .inr (7, [.ref q_1, .int 0])), (q_1, .inl (c_2, 6, .inr (.inl (fun _ => 0))))]) [0, 1] rfl
  have hD9 := hD.sub (ws' := [(nb, .inr (7, [.ref q_1, .int 0])), (q_1, .inl (c_2, 6, .inr (.inl (fun _ => 0))))]) [0, 1] (by decide) rfl
  have hK9 := hK.sub (tys' := [(c_2, .long)]) [0] rfl
  refine W.widen (k := 1) (n := 6) (by omega) (by omega) ?_
  exact W.vret hx hb hr (fun t ht hW => ⟨⟨(), rfl, trivial, q_1, c_2, by rw [ht]; exact hP9, va_K.moved hW.alike hK9, hD9⟩, hS.F ht⟩) hS.2.2 dX7_init_12
theorem dX3_init_0 : decode cX3_init 0 = .ok (.aload_n 0, 1) := by decide +kernel
theorem dX3_init_1 : decode cX3_init 1 = .ok (.invokespecial 3, 3) := by decide +kernel
theorem dX3_init_4 : decode cX3_init 4 = .ok (.aload_n 0, 1) := by decide +kernel
theorem dX3_init_5 : decode cX3_init 5 = .ok (.iconst 1, 1) := by decide +kernel
theorem dX3_init_6 : decode cX3_init 6 = .ok (.iload_n 1, 1) := by decide +kernel
theorem dX3_init_7 : decode cX3_init 7 = .ok (.invokestatic 9, 3) := by decide +kernel
theorem dX3_init_10 : decode cX3_init 10 = .ok (.putfield 15, 3) := by decide +kernel
theorem dX3_init_13 : decode cX3_init 13 = .ok (.aload_n 0, 1) := by decide +kernel
theorem dX3_init_14 : decode cX3_init 14 = .ok (.aload_n 0, 1) := by decide +kernel
theorem dX3_init_15 : decode cX3_init 15 = .ok (.getfield 15, 3) := by decide +kernel
theorem dX3_init_18 : decode cX3_init 18 = .ok (.bipush 24, 2) := by decide +kernel
theorem dX3_init_20 : decode cX3_init 20 = .ok (.imul, 1) := by decide +kernel
theorem dX3_init_21 : decode cX3_init 21 = .ok (.newarray .int, 2) := by decide +kernel
theorem dX3_init_23 : decode cX3_init 23 = .ok (.putfield 21, 3) := by decide +kernel
theorem dX3_init_26 : decode cX3_init 26 = .ok (.aload_n 0, 1) := by decide +kernel
theorem dX3_init_27 : decode cX3_init 27 = .ok (.aload_n 0, 1) := by decide +kernel
theorem dX3_init_28 : decode cX3_init 28 = .ok (.getfield 15, 3) := by decide +kernel
theorem dX3_init_31 : decode cX3_init 31 = .ok (.newarray .int, 2) := by decide +kernel
theorem dX3_init_33 : decode cX3_init 33 = .ok (.putfield 25, 3) := by decide +kernel
theorem dX3_init_36 : decode cX3_init 36 = .ok (.return_, 1) := by decide +kernel
def mwX3_initn12 : List Cond := .code yX3_init cX3_init 2 none :: (([.methodLink RX3 3 objectInit, .instanceMethod objectInit, .code objectInit ⟨#[0xb1]⟩ 1 none, .methodLink RX3 9 Lib.Math.max.name, .static Lib.Math.max.name, .initialized "java/lang/Math", .code Lib.Math.max.name Lib.Math.max.code 2 (some .int), .fieldLink RX3 15 "PatternGate$Need" "room" "I", .arrayClass .int, .fieldLink RX3 21 "PatternGate$Need" "triples" "[I", .fieldLink RX3 25 "PatternGate$Need" "sizes" "[I"] : List Cond) ++ (wsX30))
theorem fin_X3_initn12_X3 : ∀ w ∈ wsX30, w ∈ mwX3_initn12 := fun w h => List.mem_cons_of_mem _ (List.mem_append_right _ (h))
set_option maxHeartbeats 4000000 in
set_option maxRecDepth 100000 in
/-- k_Need12 -/
theorem k_Need12 (l : Launch) (dC : Nat → ClassId) (dI : Nat → Nat → Nat) (nb sz : Nat) : Met l yX3_init mwX3_initn12 ({ frames := 1, cells := 2, slots := 300, locals := 60 }) (va_Pc [.ref nb, .int 12] (fun U => U.heap.size = sz ∧ va_P (dC, dI) vwCl ([(nb, .inr (3, [.int 0, .null, .null, .int 0]))]) U.heap ∧ va_K (dC, dI) vwCl ([]) U ∧ va_D (fun _ => True) ([(nb, .inr (3, [.int 0, .null, .null, .int 0]))]))) (va_Qv (fun (_ : Unit) => True) (fun _ t => ∃ (t1 s1 : Nat) (ct1 cs1 : ClassId), va_P (dC, dI) vwCl [(nb, .inr (3, [.int (nI 12), .ref t1, .ref s1, .int 0])), (t1, .inl (ct1, 24 * 12, .inl (fun _ => 0))), (s1, .inl (cs1, 12, .inl (fun _ => 0)))] t.heap ∧ va_K (dC, dI) vwCl [(ct1, .int), (cs1, .int)] t ∧ va_D (va_A ([(nb, .inr (3, [.int 0, .null, .null, .int 0]))]) sz) [(nb, .inr (3, [.int (nI 12), .ref t1, .ref s1, .int 0])), (t1, .inl (ct1, 24 * 12, .inl (fun _ => 0))), (s1, .inl (cs1, 12, .inl (fun _ => 0)))]) (va_A ([(nb, .inr (3, [.int 0, .null, .null, .int 0]))]) sz)) 2 300 (va_A ([(nb, .inr (3, [.int 0, .null, .null, .int 0]))]) sz) := by
  refine Met.ofW (cc := cX3_init) (maxL := 2) (ret := none) (by decide +kernel) rfl ?_
  intro p e s m args below meth c s₁ B hml hv
  obtain ⟨rfl, hsz, hP, hK, hD0⟩ := hv
  have hx := B.exec
  have hb := B.bytes
  have hr := B.returns
  have hts := atoms_spec (ws := mwX3_initn12) B.pre
  have hown : s.vm.findClass RX3 = some m.cls := findClass_of_methodNamed B.named
  have hlocks := B.notSynchronized
  have hin : meth.name = "<init>" := (name_of_methodNamed B.named B.method).1
  subst hsz
  have hD := hD0.self (sz := s.heap.size)
  generalize hAe : va_A ([(nb, .inr (3, [.int 0, .null, .null, .int 0]))]) s.heap.size = A at hD ⊢
  have hA : ∀ q : Nat, s.heap.size ≤ q → A q := fun q h => by rw [← hAe]; exact Or.inr h
  have hP : va_P (dC, dI) vwCl [(nb, .inr (3, [.int 0, .null, .null, .int 0]))] s.heap := hP
  have hD : va_D A [(nb, .inr (3, [.int 0, .null, .null, .int 0]))] := hD
  have hK : va_K (dC, dI) vwCl [] s := hK
  generalize hH : s.heap = H at hP ⊢
  have hS : va_S A s.heap H [] := by rw [← hH]; exact va_S.rf
  have hl := lv_entry ([.ref nb, .int 12]) (n := 2) (Nat.le_of_ble_eq_true rfl)
  rw [lg_entry_eq]
  generalize (lg_sl ([.ref nb, .int 12]) ++ List.replicate (2 - (lg_sl ([.ref nb, .int 12])).length) Slot.unset).toArray = ls at hl ⊢
  have hl : lv_has ls 2 [(0, .ref nb), (1, .int 12)] := hl
  refine lv_aload_n hx hb dX3_init_0 rfl (lv_at hl 0 rfl) ?_
  refine W.objInit hx hb hown (hts (.methodLink RX3 3 objectInit) (List.mem_of_getElem? (i := 1) (by decide +kernel))) (hts (.instanceMethod objectInit) (List.mem_of_getElem? (i := 2) (by decide +kernel))) (hts (.code objectInit ⟨#[0xb1]⟩ 1 none) (List.mem_of_getElem? (i := 3) (by decide +kernel))) rfl (by rw [hml]; exact hl.1) rfl dX3_init_1 (Nat.le_of_ble_eq_true rfl) (Nat.le_of_ble_eq_true rfl) ?_
  refine W.eq (g2 := F0 m 4 ls []) rfl ?_
  refine lv_aload_n hx hb dX3_init_4 rfl (lv_at hl 0 rfl) ?_
  refine lv_iconst (v := 1) hx hb dX3_init_5 (by decide) ?_
  refine lv_iload_n hx hb dX3_init_6 rfl (lv_at hl 1 rfl) ?_
  refine va_mmax hx hb (hml.trans hl.1.symm) hown (hts (.methodLink RX3 9 Lib.Math.max.name) (List.mem_of_getElem? (i := 4) (by decide +kernel))) (hts (.static Lib.Math.max.name) (List.mem_of_getElem? (i := 5) (by decide +kernel))) (hts (.initialized "java/lang/Math") (List.mem_of_getElem? (i := 6) (by decide +kernel))) (hts (.code Lib.Math.max.name Lib.Math.max.code 2 (some .int)) (List.mem_of_getElem? (i := 7) (by decide +kernel))) (Nat.le_of_ble_eq_true rfl) (Nat.le_of_ble_eq_true rfl) (Nat.le_of_ble_eq_true rfl) (Nat.le_of_ble_eq_true rfl) dX3_init_7 ?_
  refine lv_topi (fun y_1 ey_1 => ?_)
  obtain rfl : y_1 = 12 := ey_1.trans (by first | rfl | decide)
  refine va_putF (D := (dC, dI)) (ci := 3) (v := .int 12) (ty := .int) (C := RX3) (T := TX3) (N := 4) hx hb hts fin_X3_initn12_X3 tyX3 tyX3_ok nmX3 hown hK hP hD hS 0 rfl rfl 0 (by decide) (hts (.fieldLink RX3 15 "PatternGate$Need" "room" "I") (List.mem_of_getElem? (i := 8) (by decide +kernel))) (fun _ h9 => h9) rfl hin rfl (by decide +kernel) rfl rfl (Nat.le_of_ble_eq_true rfl) dX3_init_10 (fun H locs hP hD hS => ?_)
  have hP : va_P (dC, dI) vwCl [(nb, .inr (3, [.int 12, .null, .null, .int 0]))] H := hP
  have hD : va_D A [(nb, .inr (3, [.int 12, .null, .null, .int 0]))] := hD
  refine lv_aload_n hx hb dX3_init_13 rfl (lv_at hl 0 rfl) ?_
  refine lv_aload_n hx hb dX3_init_14 rfl (lv_at hl 0 rfl) ?_
  refine va_get (D := (dC, dI)) (ci := 3) (v := .int 12) (C := RX3) (T := TX3) (N := 4) hx hb hts fin_X3_initn12_X3 hown hK hP 0 rfl rfl 0 (by decide) (hts (.fieldLink RX3 15 "PatternGate$Need" "room" "I") (List.mem_of_getElem? (i := 8) (by decide +kernel))) (fun _ h9 => h9) rfl dX3_init_15 ?_
  refine lv_bipush (v := 24) hx hb dX3_init_18 (by decide) ?_
  refine lv_imul hx hb dX3_init_20 ?_
  refine lv_topi (fun y_2 ey_2 => ?_)
  obtain rfl : y_2 = 288 := ey_2.trans (by first | rfl | decide)
  refine va_newa (atype := .int) (ty := .int) (n := 288) (N' := 288) (a0 := (288, .inl (fun _ => 0))) hx hb (hts (.arrayClass .int) (List.mem_of_getElem? (i := 9) (by decide +kernel))) rfl hK hP hD hS hA (fun _ => rfl) (by decide) (by decide) (Nat.le_of_ble_eq_true rfl) (Nat.le_of_ble_eq_true rfl) (Nat.le_of_ble_eq_true rfl) dX3_init_21 (fun q_3 c_4 H hK hP hD hS => ?_)
  have hP : va_P (dC, dI) vwCl [(nb, .inr (3, [.int 12, .null, .null, .int 0])), (q_3, .inl (c_4, 288, .inl (fun _ => 0)))] H := hP
  have hD : va_D A [(nb, .inr (3, [.int 12, .null, .null, .int 0])), (q_3, .inl (c_4, 288, .inl (fun _ => 0)))] := hD
  have hK : va_K (dC, dI) vwCl [(c_4, .int)] s := hK
  refine W.widen (k := 1) (n := 288) (by omega) (by omega) ?_
  refine va_putF (D := (dC, dI)) (ci := 3) (v := .ref q_3) (ty := .array .int) (C := RX3) (T := TX3) (N := 4) hx hb hts fin_X3_initn12_X3 tyX3 tyX3_ok nmX3 hown hK hP hD hS 0 rfl rfl 1 (by decide) (hts (.fieldLink RX3 21 "PatternGate$Need" "triples" "[I") (List.mem_of_getElem? (i := 10) (by decide +kernel))) (fun _ h9 => h9) rfl hin rfl (by decide +kernel) rfl rfl (Nat.le_of_ble_eq_true rfl) dX3_init_23 (fun H locs hP hD hS => ?_)
  have hP : va_P (dC, dI) vwCl [(nb, .inr (3, [.int 12, .ref q_3, .null, .int 0])), (q_3, .inl (c_4, 288, .inl (fun _ => 0)))] H := hP
  have hD : va_D A [(nb, .inr (3, [.int 12, .ref q_3, .null, .int 0])), (q_3, .inl (c_4, 288, .inl (fun _ => 0)))] := hD
  refine lv_aload_n hx hb dX3_init_26 rfl (lv_at hl 0 rfl) ?_
  refine lv_aload_n hx hb dX3_init_27 rfl (lv_at hl 0 rfl) ?_
  refine va_get (D := (dC, dI)) (ci := 3) (v := .int 12) (C := RX3) (T := TX3) (N := 4) hx hb hts fin_X3_initn12_X3 hown hK hP 0 rfl rfl 0 (by decide) (hts (.fieldLink RX3 15 "PatternGate$Need" "room" "I") (List.mem_of_getElem? (i := 8) (by decide +kernel))) (fun _ h9 => h9) rfl dX3_init_28 ?_
  refine va_newa (atype := .int) (ty := .int) (n := 12) (N' := 12) (a0 := (12, .inl (fun _ => 0))) hx hb (hts (.arrayClass .int) (List.mem_of_getElem? (i := 9) (by decide +kernel))) rfl hK hP hD hS hA (fun _ => rfl) (by decide) (by decide) (Nat.le_of_ble_eq_true rfl) (Nat.le_of_ble_eq_true rfl) (Nat.le_of_ble_eq_true rfl) dX3_init_31 (fun q_5 c_6 H hK hP hD hS => ?_)
  have hP : va_P (dC, dI) vwCl [(nb, .inr (3, [.int 12, .ref q_3, .null, .int 0])), (q_3, .inl (c_4, 288, .inl (fun _ => 0))), (q_5, .inl (c_6, 12, .inl (fun _ => 0)))] H := hP
  have hD : va_D A [(nb, .inr (3, [.int 12, .ref q_3, .null, .int 0])), (q_3, .inl (c_4, 288, .inl (fun _ => 0))), (q_5, .inl (c_6, 12, .inl (fun _ => 0)))] := hD
  have hK : va_K (dC, dI) vwCl [(c_4, .int), (c_6, .int)] s := hK
  refine W.widen (k := 2) (n := 300) (by omega) (by omega) ?_
  refine va_putF (D := (dC, dI)) (ci := 3) (v := .ref q_5) (ty := .array .int) (C := RX3) (T := TX3) (N := 4) hx hb hts fin_X3_initn12_X3 tyX3 tyX3_ok nmX3 hown hK hP hD hS 0 rfl rfl 2 (by decide) (hts (.fieldLink RX3 25 "PatternGate$Need" "sizes" "[I") (List.mem_of_getElem? (i := 11) (by decide +kernel))) (fun _ h9 => h9) rfl hin rfl (by decide +kernel) rfl rfl (Nat.le_of_ble_eq_true rfl) dX3_init_33 (fun H locs hP hD hS => ?_)
  have hP : va_P (dC, dI) vwCl [(nb, .inr (3, [.int 12, .ref q_3, .ref q_5, .int 0])), (q_3, .inl (c_4, 288, .inl (fun _ => 0))), (q_5, .inl (c_6, 12, .inl (fun _ => 0)))] H := hP
  have hD : va_D A [(nb, .inr (3, [.int 12, .ref q_3, .ref q_5, .int 0])), (q_3, .inl (c_4, 288, .inl (fun _ => 0))), (q_5, .inl (c_6, 12, .inl (fun _ => 0)))] := hD
  have hP9 := hP.sub (ws' := [(nb, .inr (3, [.int 12, .ref q_3, .ref q_5, .int 0])), (q_3, .inl (c_4, 288, .inl (fun _ => 0))), (q_5, .inl (c_6, 12, .inl (fun _ => 0)))]) [0, 1, 2] rfl
  have hD9 := hD.sub (ws' := [(nb, .inr (3, [.int 12, .ref q_3, .ref q_5, .int 0])), (q_3, .inl (c_4, 288, .inl (fun _ => 0))), (q_5, .inl (c_6, 12, .inl (fun _ => 0)))]) [0, 1, 2] (by decide) rfl
  have hK9 := hK.sub (tys' := [(c_4, .int), (c_6, .int)]) [0, 1] rfl
  refine W.widen (k := 2) (n := 300) (by omega) (by omega) ?_
  exact W.vret hx hb hr (fun t ht hW => ⟨⟨(), rfl, trivial, q_3, q_5, c_4, c_6, by rw [ht]; exact hP9, va_K.moved hW.alike hK9, hD9⟩, hS.F ht⟩) hS.2.2 dX3_init_36
def mwX3_initn6 : List Cond := .code yX3_init cX3_init 2 none :: (([.methodLink RX3 3 objectInit, .instanceMethod objectInit, .code objectInit ⟨#[0xb1]⟩ 1 none, .methodLink RX3 9 Lib.Math.max.name, .static Lib.Math.max.name, .initialized "java/lang/Math", .code Lib.Math.max.name Lib.Math.max.code 2 (some .int), .fieldLink RX3 15 "PatternGate$Need" "room" "I", .arrayClass .int, .fieldLink RX3 21 "PatternGate$Need" "triples" "[I", .fieldLink RX3 25 "PatternGate$Need" "sizes" "[I"] : List Cond) ++ (wsX30))
theorem fin_X3_initn6_X3 : ∀ w ∈ wsX30, w ∈ mwX3_initn6 := fun w h => List.mem_cons_of_mem _ (List.mem_append_right _ (h))
set_option maxHeartbeats 4000000 in
set_option maxRecDepth 100000 in
/-- k_Need6 -/
theorem k_Need6 (l : Launch) (dC : Nat → ClassId) (dI : Nat → Nat → Nat) (nb sz : Nat) : Met l yX3_init mwX3_initn6 ({ frames := 1, cells := 2, slots := 150, locals := 60 }) (va_Pc [.ref nb, .int 6] (fun U => U.heap.size = sz ∧ va_P (dC, dI) vwCl ([(nb, .inr (3, [.int 0, .null, .null, .int 0]))]) U.heap ∧ va_K (dC, dI) vwCl ([]) U ∧ va_D (fun _ => True) ([(nb, .inr (3, [.int 0, .null, .null, .int 0]))]))) (va_Qv (fun (_ : Unit) => True) (fun _ t => ∃ (t1 s1 : Nat) (ct1 cs1 : ClassId), va_P (dC, dI) vwCl [(nb, .inr (3, [.int (nI 6), .ref t1, .ref s1, .int 0])), (t1, .inl (ct1, 24 * 6, .inl (fun _ => 0))), (s1, .inl (cs1, 6, .inl (fun _ => 0)))] t.heap ∧ va_K (dC, dI) vwCl [(ct1, .int), (cs1, .int)] t ∧ va_D (va_A ([(nb, .inr (3, [.int 0, .null, .null, .int 0]))]) sz) [(nb, .inr (3, [.int (nI 6), .ref t1, .ref s1, .int 0])), (t1, .inl (ct1, 24 * 6, .inl (fun _ => 0))), (s1, .inl (cs1, 6, .inl (fun _ => 0)))]) (va_A ([(nb, .inr (3, [.int 0, .null, .null, .int 0]))]) sz)) 2 150 (va_A ([(nb, .inr (3, [.int 0, .null, .null, .int 0]))]) sz) := by
  refine Met.ofW (cc := cX3_init) (maxL := 2) (ret := none) (by decide +kernel) rfl ?_
  intro p e s m args below meth c s₁ B hml hv
  obtain ⟨rfl, hsz, hP, hK, hD0⟩ := hv
  have hx := B.exec
  have hb := B.bytes
  have hr := B.returns
  have hts := atoms_spec (ws := mwX3_initn6) B.pre
  have hown : s.vm.findClass RX3 = some m.cls := findClass_of_methodNamed B.named
  have hlocks := B.notSynchronized
  have hin : meth.name = "<init>" := (name_of_methodNamed B.named B.method).1
  subst hsz
  have hD := hD0.self (sz := s.heap.size)
  generalize hAe : va_A ([(nb, .inr (3, [.int 0, .null, .null, .int 0]))]) s.heap.size = A at hD ⊢
  have hA : ∀ q : Nat, s.heap.size ≤ q → A q := fun q h => by rw [← hAe]; exact Or.inr h
  have hP : va_P (dC, dI) vwCl [(nb, .inr (3, [.int 0, .null, .null, .int 0]))] s.heap := hP
  have hD : va_D A [(nb, .inr (3, [.int 0, .null, .null, .int 0]))] := hD
  have hK : va_K (dC, dI) vwCl [] s := hK
  generalize hH : s.heap = H at hP ⊢
  have hS : va_S A s.heap H [] := by rw [← hH]; exact va_S.rf
  have hl := lv_entry ([.ref nb, .int 6]) (n := 2) (Nat.le_of_ble_eq_true rfl)
  rw [lg_entry_eq]
  generalize (lg_sl ([.ref nb, .int 6]) ++ List.replicate (2 - (lg_sl ([.ref nb, .int 6])).length) Slot.unset).toArray = ls at hl ⊢
  have hl : lv_has ls 2 [(0, .ref nb), (1, .int 6)] := hl
  refine lv_aload_n hx hb dX3_init_0 rfl (lv_at hl 0 rfl) ?_
  refine W.objInit hx hb hown (hts (.methodLink RX3 3 objectInit) (List.mem_of_getElem? (i := 1) (by decide +kernel))) (hts (.instanceMethod objectInit) (List.mem_of_getElem? (i := 2) (by decide +kernel))) (hts (.code objectInit ⟨#[0xb1]⟩ 1 none) (List.mem_of_getElem? (i := 3) (by decide +kernel))) rfl (by rw [hml]; exact hl.1) rfl dX3_init_1 (Nat.le_of_ble_eq_true rfl) (Nat.le_of_ble_eq_true rfl) ?_
  refine W.eq (g2 := F0 m 4 ls []) rfl ?_
  refine lv_aload_n hx hb dX3_init_4 rfl (lv_at hl 0 rfl) ?_
  refine lv_iconst (v := 1) hx hb dX3_init_5 (by decide) ?_
  refine lv_iload_n hx hb dX3_init_6 rfl (lv_at hl 1 rfl) ?_
  refine va_mmax hx hb (hml.trans hl.1.symm) hown (hts (.methodLink RX3 9 Lib.Math.max.name) (List.mem_of_getElem? (i := 4) (by decide +kernel))) (hts (.static Lib.Math.max.name) (List.mem_of_getElem? (i := 5) (by decide +kernel))) (hts (.initialized "java/lang/Math") (List.mem_of_getElem? (i := 6) (by decide +kernel))) (hts (.code Lib.Math.max.name Lib.Math.max.code 2 (some .int)) (List.mem_of_getElem? (i := 7) (by decide +kernel))) (Nat.le_of_ble_eq_true rfl) (Nat.le_of_ble_eq_true rfl) (Nat.le_of_ble_eq_true rfl) (Nat.le_of_ble_eq_true rfl) dX3_init_7 ?_
  refine lv_topi (fun y_1 ey_1 => ?_)
  obtain rfl : y_1 = 6 := ey_1.trans (by first | rfl | decide)
  refine va_putF (D := (dC, dI)) (ci := 3) (v := .int 6) (ty := .int) (C := RX3) (T := TX3) (N := 4) hx hb hts fin_X3_initn6_X3 tyX3 tyX3_ok nmX3 hown hK hP hD hS 0 rfl rfl 0 (by decide) (hts (.fieldLink RX3 15 "PatternGate$Need" "room" "I") (List.mem_of_getElem? (i := 8) (by decide +kernel))) (fun _ h9 => h9) rfl hin rfl (by decide +kernel) rfl rfl (Nat.le_of_ble_eq_true rfl) dX3_init_10 (fun H locs hP hD hS => ?_)
  have hP : va_P (dC, dI) vwCl [(nb, .inr (3, [.int 6, .null, .null, .int 0]))] H := hP
  have hD : va_D A [(nb, .inr (3, [.int 6, .null, .null, .int 0]))] := hD
  refine lv_aload_n hx hb dX3_init_13 rfl (lv_at hl 0 rfl) ?_
  refine lv_aload_n hx hb dX3_init_14 rfl (lv_at hl 0 rfl) ?_
  refine va_get (D := (dC, dI)) (ci := 3) (v := .int 6) (C := RX3) (T := TX3) (N := 4) hx hb hts fin_X3_initn6_X3 hown hK hP 0 rfl rfl 0 (by decide) (hts (.fieldLink RX3 15 "PatternGate$Need" "room" "I") (List.mem_of_getElem? (i := 8) (by decide +kernel))) (fun _ h9 => h9) rfl dX3_init_15 ?_
  refine lv_bipush (v := 24) hx hb dX3_init_18 (by decide) ?_
  refine lv_imul hx hb dX3_init_20 ?_
  refine lv_topi (fun y_2 ey_2 => ?_)
  obtain rfl : y_2 = 144 := ey_2.trans (by first | rfl | decide)
  refine va_newa (atype := .int) (ty := .int) (n := 144) (N' := 144) (a0 := (144, .inl (fun _ => 0))) hx hb (hts (.arrayClass .int) (List.mem_of_getElem? (i := 9) (by decide +kernel))) rfl hK hP hD hS hA (fun _ => rfl) (by decide) (by decide) (Nat.le_of_ble_eq_true rfl) (Nat.le_of_ble_eq_true rfl) (Nat.le_of_ble_eq_true rfl) dX3_init_21 (fun q_3 c_4 H hK hP hD hS => ?_)
  have hP : va_P (dC, dI) vwCl [(nb, .inr (3, [.int 6, .null, .null, .int 0])), (q_3, .inl (c_4, 144, .inl (fun _ => 0)))] H := hP
  have hD : va_D A [(nb, .inr (3, [.int 6, .null, .null, .int 0])), (q_3, .inl (c_4, 144, .inl (fun _ => 0)))] := hD
  have hK : va_K (dC, dI) vwCl [(c_4, .int)] s := hK
  refine W.widen (k := 1) (n := 144) (by omega) (by omega) ?_
  refine va_putF (D := (dC, dI)) (ci := 3) (v := .ref q_3) (ty := .array .int) (C := RX3) (T := TX3) (N := 4) hx hb hts fin_X3_initn6_X3 tyX3 tyX3_ok nmX3 hown hK hP hD hS 0 rfl rfl 1 (by decide) (hts (.fieldLink RX3 21 "PatternGate$Need" "triples" "[I") (List.mem_of_getElem? (i := 10) (by decide +kernel))) (fun _ h9 => h9) rfl hin rfl (by decide +kernel) rfl rfl (Nat.le_of_ble_eq_true rfl) dX3_init_23 (fun H locs hP hD hS => ?_)
  have hP : va_P (dC, dI) vwCl [(nb, .inr (3, [.int 6, .ref q_3, .null, .int 0])), (q_3, .inl (c_4, 144, .inl (fun _ => 0)))] H := hP
  have hD : va_D A [(nb, .inr (3, [.int 6, .ref q_3, .null, .int 0])), (q_3, .inl (c_4, 144, .inl (fun _ => 0)))] := hD
  refine lv_aload_n hx hb dX3_init_26 rfl (lv_at hl 0 rfl) ?_
  refine lv_aload_n hx hb dX3_init_27 rfl (lv_at hl 0 rfl) ?_
  refine va_get (D := (dC, dI)) (ci := 3) (v := .int 6) (C := RX3) (T := TX3) (N := 4) hx hb hts fin_X3_initn6_X3 hown hK hP 0 rfl rfl 0 (by decide) (hts (.fieldLink RX3 15 "PatternGate$Need" "room" "I") (List.mem_of_getElem? (i := 8) (by decide +kernel))) (fun _ h9 => h9) rfl dX3_init_28 ?_
  refine va_newa (atype := .int) (ty := .int) (n := 6) (N' := 6) (a0 := (6, .inl (fun _ => 0))) hx hb (hts (.arrayClass .int) (List.mem_of_getElem? (i := 9) (by decide +kernel))) rfl hK hP hD hS hA (fun _ => rfl) (by decide) (by decide) (Nat.le_of_ble_eq_true rfl) (Nat.le_of_ble_eq_true rfl) (Nat.le_of_ble_eq_true rfl) dX3_init_31 (fun q_5 c_6 H hK hP hD hS => ?_)
  have hP : va_P (dC, dI) vwCl [(nb, .inr (3, [.int 6, .ref q_3, .null, .int 0])), (q_3, .inl (c_4, 144, .inl (fun _ => 0))), (q_5, .inl (c_6, 6, .inl (fun _ => 0)))] H := hP
  have hD : va_D A [(nb, .inr (3, [.int 6, .ref q_3, .null, .int 0])), (q_3, .inl (c_4, 144, .inl (fun _ => 0))), (q_5, .inl (c_6, 6, .inl (fun _ => 0)))] := hD
  have hK : va_K (dC, dI) vwCl [(c_4, .int), (c_6, .int)] s := hK
  refine W.widen (k := 2) (n := 150) (by omega) (by omega) ?_
  refine va_putF (D := (dC, dI)) (ci := 3) (v := .ref q_5) (ty := .array .int) (C := RX3) (T := TX3) (N := 4) hx hb hts fin_X3_initn6_X3 tyX3 tyX3_ok nmX3 hown hK hP hD hS 0 rfl rfl 2 (by decide) (hts (.fieldLink RX3 25 "PatternGate$Need" "sizes" "[I") (List.mem_of_getElem? (i := 11) (by decide +kernel))) (fun _ h9 => h9) rfl hin rfl (by decide +kernel) rfl rfl (Nat.le_of_ble_eq_true rfl) dX3_init_33 (fun H locs hP hD hS => ?_)
  have hP : va_P (dC, dI) vwCl [(nb, .inr (3, [.int 6, .ref q_3, .ref q_5, .int 0])), (q_3, .inl (c_4, 144, .inl (fun _ => 0))), (q_5, .inl (c_6, 6, .inl (fun _ => 0)))] H := hP
  have hD : va_D A [(nb, .inr (3, [.int 6, .ref q_3, .ref q_5, .int 0])), (q_3, .inl (c_4, 144, .inl (fun _ => 0))), (q_5, .inl (c_6, 6, .inl (fun _ => 0)))] := hD
  have hP9 := hP.sub (ws' := [(nb, .inr (3, [.int 6, .ref q_3, .ref q_5, .int 0])), (q_3, .inl (c_4, 144, .inl (fun _ => 0))), (q_5, .inl (c_6, 6, .inl (fun _ => 0)))]) [0, 1, 2] rfl
  have hD9 := hD.sub (ws' := [(nb, .inr (3, [.int 6, .ref q_3, .ref q_5, .int 0])), (q_3, .inl (c_4, 144, .inl (fun _ => 0))), (q_5, .inl (c_6, 6, .inl (fun _ => 0)))]) [0, 1, 2] (by decide) rfl
  have hK9 := hK.sub (tys' := [(c_4, .int), (c_6, .int)]) [0, 1] rfl
  refine W.widen (k := 2) (n := 150) (by omega) (by omega) ?_
  exact W.vret hx hb hr (fun t ht hW => ⟨⟨(), rfl, trivial, q_3, q_5, c_4, c_6, by rw [ht]; exact hP9, va_K.moved hW.alike hK9, hD9⟩, hS.F ht⟩) hS.2.2 dX3_init_36
def mwX3_initn144 : List Cond := .code yX3_init cX3_init 2 none :: (([.methodLink RX3 3 objectInit, .instanceMethod objectInit, .code objectInit ⟨#[0xb1]⟩ 1 none, .methodLink RX3 9 Lib.Math.max.name, .static Lib.Math.max.name, .initialized "java/lang/Math", .code Lib.Math.max.name Lib.Math.max.code 2 (some .int), .fieldLink RX3 15 "PatternGate$Need" "room" "I", .arrayClass .int, .fieldLink RX3 21 "PatternGate$Need" "triples" "[I", .fieldLink RX3 25 "PatternGate$Need" "sizes" "[I"] : List Cond) ++ (wsX30))
theorem fin_X3_initn144_X3 : ∀ w ∈ wsX30, w ∈ mwX3_initn144 := fun w h => List.mem_cons_of_mem _ (List.mem_append_right _ (h))
set_option maxHeartbeats 4000000 in
set_option maxRecDepth 100000 in
/-- k_Need144 -/
theorem k_Need144 (l : Launch) (dC : Nat → ClassId) (dI : Nat → Nat → Nat) (nb sz : Nat) : Met l yX3_init mwX3_initn144 ({ frames := 1, cells := 2, slots := 3600, locals := 60 }) (va_Pc [.ref nb, .int 144] (fun U => U.heap.size = sz ∧ va_P (dC, dI) vwCl ([(nb, .inr (3, [.int 0, .null, .null, .int 0]))]) U.heap ∧ va_K (dC, dI) vwCl ([]) U ∧ va_D (fun _ => True) ([(nb, .inr (3, [.int 0, .null, .null, .int 0]))]))) (va_Qv (fun (_ : Unit) => True) (fun _ t => ∃ (t1 s1 : Nat) (ct1 cs1 : ClassId), va_P (dC, dI) vwCl [(nb, .inr (3, [.int (nI 144), .ref t1, .ref s1, .int 0])), (t1, .inl (ct1, 24 * 144, .inl (fun _ => 0))), (s1, .inl (cs1, 144, .inl (fun _ => 0)))] t.heap ∧ va_K (dC, dI) vwCl [(ct1, .int), (cs1, .int)] t ∧ va_D (va_A ([(nb, .inr (3, [.int 0, .null, .null, .int 0]))]) sz) [(nb, .inr (3, [.int (nI 144), .ref t1, .ref s1, .int 0])), (t1, .inl (ct1, 24 * 144, .inl (fun _ => 0))), (s1, .inl (cs1, 144, .inl (fun _ => 0)))]) (va_A ([(nb, .inr (3, [.int 0, .null, .null, .int 0]))]) sz)) 2 3600 (va_A ([(nb, .inr (3, [.int 0, .null, .null, .int 0]))]) sz) := by
  refine Met.ofW (cc := cX3_init) (maxL := 2) (ret := none) (by decide +kernel) rfl ?_
  intro p e s m args below meth c s₁ B hml hv
  obtain ⟨rfl, hsz, hP, hK, hD0⟩ := hv
  have hx := B.exec
  have hb := B.bytes
  have hr := B.returns
  have hts := atoms_spec (ws := mwX3_initn144) B.pre
  have hown : s.vm.findClass RX3 = some m.cls := findClass_of_methodNamed B.named
  have hlocks := B.notSynchronized
  have hin : meth.name = "<init>" := (name_of_methodNamed B.named B.method).1
  subst hsz
  have hD := hD0.self (sz := s.heap.size)
  generalize hAe : va_A ([(nb, .inr (3, [.int 0, .null, .null, .int 0]))]) s.heap.size = A at hD ⊢
  have hA : ∀ q : Nat, s.heap.size ≤ q → A q := fun q h => by rw [← hAe]; exact Or.inr h
  have hP : va_P (dC, dI) vwCl [(nb, .inr (3, [.int 0, .null, .null, .int 0]))] s.heap := hP
  have hD : va_D A [(nb, .inr (3, [.int 0, .null, .null, .int 0]))] := hD
  have hK : va_K (dC, dI) vwCl [] s := hK
  generalize hH : s.heap = H at hP ⊢
  have hS : va_S A s.heap H [] := by rw [← hH]; exact va_S.rf
  have hl := lv_entry ([.ref nb, .int 144]) (n := 2) (Nat.le_of_ble_eq_true rfl)
  rw [lg_entry_eq]
  generalize (lg_sl ([.ref nb, .int 144]) ++ List.replicate (2 - (lg_sl ([.ref nb, .int 144])).length) Slot.unset).toArray = ls at hl ⊢
  have hl : lv_has ls 2 [(0, .ref nb), (1, .int 144)] := hl
  refine lv_aload_n hx hb dX3_init_0 rfl (lv_at hl 0 rfl) ?_
  refine W.objInit hx hb hown (hts (.methodLink RX3 3 objectInit) (List.mem_of_getElem? (i := 1) (by decide +kernel))) (hts (.instanceMethod objectInit) (List.mem_of_getElem? (i := 2) (by decide +kernel))) (hts (.code objectInit ⟨#[0xb1]⟩ 1 none) (List.mem_of_getElem? (i := 3) (by decide +kernel))) rfl (by rw [hml]; exact hl.1) rfl dX3_init_1 (Nat.le_of_ble_eq_true rfl) (Nat.le_of_ble_eq_true rfl) ?_
  refine W.eq (g2 := F0 m 4 ls []) rfl ?_
  refine lv_aload_n hx hb dX3_init_4 rfl (lv_at hl 0 rfl) ?_
  refine lv_iconst (v := 1) hx hb dX3_init_5 (by decide) ?_
  refine lv_iload_n hx hb dX3_init_6 rfl (lv_at hl 1 rfl) ?_
  refine va_mmax hx hb (hml.trans hl.1.symm) hown (hts (.methodLink RX3 9 Lib.Math.max.name) (List.mem_of_getElem? (i := 4) (by decide +kernel))) (hts (.static Lib.Math.max.name) (List.mem_of_getElem? (i := 5) (by decide +kernel))) (hts (.initialized "java/lang/Math") (List.mem_of_getElem? (i := 6) (by decide +kernel))) (hts (.code Lib.Math.max.name Lib.Math.max.code 2 (some .int)) (List.mem_of_getElem? (i := 7) (by decide +kernel))) (Nat.le_of_ble_eq_true rfl) (Nat.le_of_ble_eq_true rfl) (Nat.le_of_ble_eq_true rfl) (Nat.le_of_ble_eq_true rfl) dX3_init_7 ?_
  refine lv_topi (fun y_1 ey_1 => ?_)
  obtain rfl : y_1 = 144 := ey_1.trans (by first | rfl | decide)
  refine va_putF (D := (dC, dI)) (ci := 3) (v := .int 144) (ty := .int) (C := RX3) (T := TX3) (N := 4) hx hb hts fin_X3_initn144_X3 tyX3 tyX3_ok nmX3 hown hK hP hD hS 0 rfl rfl 0 (by decide) (hts (.fieldLink RX3 15 "PatternGate$Need" "room" "I") (List.mem_of_getElem? (i := 8) (by decide +kernel))) (fun _ h9 => h9) rfl hin rfl (by decide +kernel) rfl rfl (Nat.le_of_ble_eq_true rfl) dX3_init_10 (fun H locs hP hD hS => ?_)
  have hP : va_P (dC, dI) vwCl [(nb, .inr (3, [.int 144, .null, .null, .int 0]))] H := hP
  have hD : va_D A [(nb, .inr (3, [.int 144, .null, .null, .int 0]))] := hD
  refine lv_aload_n hx hb dX3_init_13 rfl (lv_at hl 0 rfl) ?_
  refine lv_aload_n hx hb dX3_init_14 rfl (lv_at hl 0 rfl) ?_
  refine va_get (D := (dC, dI)) (ci := 3) (v := .int 144) (C := RX3) (T := TX3) (N := 4) hx hb hts fin_X3_initn144_X3 hown hK hP 0 rfl rfl 0 (by decide) (hts (.fieldLink RX3 15 "PatternGate$Need" "room" "I") (List.mem_of_getElem? (i := 8) (by decide +kernel))) (fun _ h9 => h9) rfl dX3_init_15 ?_
  refine lv_bipush (v := 24) hx hb dX3_init_18 (by decide) ?_
  refine lv_imul hx hb dX3_init_20 ?_
  refine lv_topi (fun y_2 ey_2 => ?_)
  obtain rfl : y_2 = 3456 := ey_2.trans (by first | rfl | decide)
  refine va_newa (atype := .int) (ty := .int) (n := 3456) (N' := 3456) (a0 := (3456, .inl (fun _ => 0))) hx hb (hts (.arrayClass .int) (List.mem_of_getElem? (i := 9) (by decide +kernel))) rfl hK hP hD hS hA (fun _ => rfl) (by decide) (by decide) (Nat.le_of_ble_eq_true rfl) (Nat.le_of_ble_eq_true rfl) (Nat.le_of_ble_eq_true rfl) dX3_init_21 (fun q_3 c_4 H hK hP hD hS => ?_)
  have hP : va_P (dC, dI) vwCl [(nb, .inr (3, [.int 144, .null, .null, .int 0])), (q_3, .inl (c_4, 3456, .inl (fun _ => 0)))] H := hP
  have hD : va_D A [(nb, .inr (3, [.int 144, .null, .null, .int 0])), (q_3, .inl (c_4, 3456, .inl (fun _ => 0)))] := hD
  have hK : va_K (dC, dI) vwCl [(c_4, .int)] s := hK
  refine W.widen (k := 1) (n := 3456) (by omega) (by omega) ?_
  refine va_putF (D := (dC, dI)) (ci := 3) (v := .ref q_3) (ty := .array .int) (C := RX3) (T := TX3) (N := 4) hx hb hts fin_X3_initn144_X3 tyX3 tyX3_ok nmX3 hown hK hP hD hS 0 rfl rfl 1 (by decide) (hts (.fieldLink RX3 21 "PatternGate$Need" "triples" "[I") (List.mem_of_getElem? (i := 10) (by decide +kernel))) (fun _ h9 => h9) rfl hin rfl (by decide +kernel) rfl rfl (Nat.le_of_ble_eq_true rfl) dX3_init_23 (fun H locs hP hD hS => ?_)
  have hP : va_P (dC, dI) vwCl [(nb, .inr (3, [.int 144, .ref q_3, .null, .int 0])), (q_3, .inl (c_4, 3456, .inl (fun _ => 0)))] H := hP
  have hD : va_D A [(nb, .inr (3, [.int 144, .ref q_3, .null, .int 0])), (q_3, .inl (c_4, 3456, .inl (fun _ => 0)))] := hD
  refine lv_aload_n hx hb dX3_init_26 rfl (lv_at hl 0 rfl) ?_
  refine lv_aload_n hx hb dX3_init_27 rfl (lv_at hl 0 rfl) ?_
  refine va_get (D := (dC, dI)) (ci := 3) (v := .int 144) (C := RX3) (T := TX3) (N := 4) hx hb hts fin_X3_initn144_X3 hown hK hP 0 rfl rfl 0 (by decide) (hts (.fieldLink RX3 15 "PatternGate$Need" "room" "I") (List.mem_of_getElem? (i := 8) (by decide +kernel))) (fun _ h9 => h9) rfl dX3_init_28 ?_
  refine va_newa (atype := .int) (ty := .int) (n := 144) (N' := 144) (a0 := (144, .inl (fun _ => 0))) hx hb (hts (.arrayClass .int) (List.mem_of_getElem? (i := 9) (by decide +kernel))) rfl hK hP hD hS hA (fun _ => rfl) (by decide) (by decide) (Nat.le_of_ble_eq_true rfl) (Nat.le_of_ble_eq_true rfl) (Nat.le_of_ble_eq_true rfl) dX3_init_31 (fun q_5 c_6 H hK hP hD hS => ?_)
  have hP : va_P (dC, dI) vwCl [(nb, .inr (3, [.int 144, .ref q_3, .null, .int 0])), (q_3, .inl (c_4, 3456, .inl (fun _ => 0))), (q_5, .inl (c_6, 144, .inl (fun _ => 0)))] H := hP
  have hD : va_D A [(nb, .inr (3, [.int 144, .ref q_3, .null, .int 0])), (q_3, .inl (c_4, 3456, .inl (fun _ => 0))), (q_5, .inl (c_6, 144, .inl (fun _ => 0)))] := hD
  have hK : va_K (dC, dI) vwCl [(c_4, .int), (c_6, .int)] s := hK
  refine W.widen (k := 2) (n := 3600) (by omega) (by omega) ?_
  refine va_putF (D := (dC, dI)) (ci := 3) (v := .ref q_5) (ty := .array .int) (C := RX3) (T := TX3) (N := 4) hx hb hts fin_X3_initn144_X3 tyX3 tyX3_ok nmX3 hown hK hP hD hS 0 rfl rfl 2 (by decide) (hts (.fieldLink RX3 25 "PatternGate$Need" "sizes" "[I") (List.mem_of_getElem? (i := 11) (by decide +kernel))) (fun _ h9 => h9) rfl hin rfl (by decide +kernel) rfl rfl (Nat.le_of_ble_eq_true rfl) dX3_init_33 (fun H locs hP hD hS => ?_)
  have hP : va_P (dC, dI) vwCl [(nb, .inr (3, [.int 144, .ref q_3, .ref q_5, .int 0])), (q_3, .inl (c_4, 3456, .inl (fun _ => 0))), (q_5, .inl (c_6, 144, .inl (fun _ => 0)))] H := hP
  have hD : va_D A [(nb, .inr (3, [.int 144, .ref q_3, .ref q_5, .int 0])), (q_3, .inl (c_4, 3456, .inl (fun _ => 0))), (q_5, .inl (c_6, 144, .inl (fun _ => 0)))] := hD
  have hP9 := hP.sub (ws' := [(nb, .inr (3, [.int 144, .ref q_3, .ref q_5, .int 0])), (q_3, .inl (c_4, 3456, .inl (fun _ => 0))), (q_5, .inl (c_6, 144, .inl (fun _ => 0)))]) [0, 1, 2] rfl
  have hD9 := hD.sub (ws' := [(nb, .inr (3, [.int 144, .ref q_3, .ref q_5, .int 0])), (q_3, .inl (c_4, 3456, .inl (fun _ => 0))), (q_5, .inl (c_6, 144, .inl (fun _ => 0)))]) [0, 1, 2] (by decide) rfl
  have hK9 := hK.sub (tys' := [(c_4, .int), (c_6, .int)]) [0, 1] rfl
  refine W.widen (k := 2) (n := 3600) (by omega) (by omega) ?_
  exact W.vret hx hb hr (fun t ht hW => ⟨⟨(), rfl, trivial, q_3, q_5, c_4, c_6, by rw [ht]; exact hP9, va_K.moved hW.alike hK9, hD9⟩, hS.F ht⟩) hS.2.2 dX3_init_36
theorem dX4_init_0 : decode cX4_init 0 = .ok (.aload_n 0, 1) := by decide +kernel
theorem dX4_init_1 : decode cX4_init 1 = .ok (.invokespecial 3, 3) := by decide +kernel
theorem dX4_init_4 : decode cX4_init 4 = .ok (.aload_n 0, 1) := by decide +kernel
theorem dX4_init_5 : decode cX4_init 5 = .ok (.new 9, 3) := by decide +kernel
theorem dX4_init_8 : decode cX4_init 8 = .ok (.dup, 1) := by decide +kernel
theorem dX4_init_9 : decode cX4_init 9 = .ok (.invokespecial 11, 3) := by decide +kernel
theorem dX4_init_12 : decode cX4_init 12 = .ok (.putfield 12, 3) := by decide +kernel
theorem dX4_init_15 : decode cX4_init 15 = .ok (.aload_n 0, 1) := by decide +kernel
theorem dX4_init_16 : decode cX4_init 16 = .ok (.new 18, 3) := by decide +kernel
theorem dX4_init_19 : decode cX4_init 19 = .ok (.dup, 1) := by decide +kernel
theorem dX4_init_20 : decode cX4_init 20 = .ok (.bipush 12, 2) := by decide +kernel
theorem dX4_init_22 : decode cX4_init 22 = .ok (.invokespecial 20, 3) := by decide +kernel
theorem dX4_init_25 : decode cX4_init 25 = .ok (.putfield 23, 3) := by decide +kernel
theorem dX4_init_28 : decode cX4_init 28 = .ok (.return_, 1) := by decide +kernel
def mwX4_init : List Cond := .code yX4_init cX4_init 1 none :: (([.methodLink RX4 3 objectInit, .instanceMethod objectInit, .code objectInit ⟨#[0xb1]⟩ 1 none, .classLink RX4 9 RX7, .instantiable RX7 2, .initialized RX7, .instanceMethod yX7_init, .fieldLink RX4 12 "PatternGate$Part" "rows" "LPatternGate$Rows;", .classLink RX4 18 RX3, .instantiable RX3 4, .initialized RX3, .methodLink RX4 20 yX3_init, .instanceMethod yX3_init, .fieldLink RX4 23 "PatternGate$Part" "need" "LPatternGate$Need;"] : List Cond) ++ (wsX70 ++ (wsX40 ++ (wsX30 ++ (mwX7_init ++ (mwX3_initn12))))))
theorem fin_X4_init_X3 : ∀ w ∈ wsX30, w ∈ mwX4_init := fun w h => List.mem_cons_of_mem _ (List.mem_append_right _ (List.mem_append_right _ (List.mem_append_right _ (List.mem_append_left _ h))))
theorem fin_X4_init_X4 : ∀ w ∈ wsX40, w ∈ mwX4_init := fun w h => List.mem_cons_of_mem _ (List.mem_append_right _ (List.mem_append_right _ (List.mem_append_left _ h)))
theorem fin_X4_init_X7 : ∀ w ∈ wsX70, w ∈ mwX4_init := fun w h => List.mem_cons_of_mem _ (List.mem_append_right _ (List.mem_append_left _ h))
set_option maxRecDepth 100000 in
theorem gd_mwX7_init : mwX7_init.all goodWord = true := by decide +kernel
set_option maxRecDepth 100000 in
theorem gd_mwX3_initn12 : mwX3_initn12.all goodWord = true := by decide +kernel
set_option maxRecDepth 20000 in
theorem mg_X4_init_X7_init_11 : GoodIn mwX4_init mwX7_init := gi_sub gd_mwX7_init (fun w h => List.mem_cons_of_mem _ (List.mem_append_right _ (List.mem_append_right _ (List.mem_append_right _ (List.mem_append_right _ (List.mem_append_left _ h))))))
set_option maxRecDepth 20000 in
theorem mg_X4_init_X3_init_20 : GoodIn mwX4_init mwX3_initn12 := gi_sub gd_mwX3_initn12 (fun w h => List.mem_cons_of_mem _ (List.mem_append_right _ (List.mem_append_right _ (List.mem_append_right _ (List.mem_append_right _ (List.mem_append_right _ (h)))))))
set_option maxHeartbeats 4000000 in
set_option maxRecDepth 100000 in
/-- k_Part -/
theorem k_Part (l : Launch) (dC : Nat → ClassId) (dI : Nat → Nat → Nat) (nb sz : Nat) : Met l yX4_init mwX4_init ({ frames := 2, cells := 5, slots := 320, locals := 120 }) (va_Pc [.ref nb] (fun U => U.heap.size = sz ∧ va_P (dC, dI) vwCl ([(nb, .inr (4, [.null, .null, .int 0, .int 0, .int 0, .int 0, .int 0, .int 0]))]) U.heap ∧ va_K (dC, dI) vwCl ([]) U ∧ va_D (fun _ => True) ([(nb, .inr (4, [.null, .null, .int 0, .int 0, .int 0, .int 0, .int 0, .int 0]))]) ∧ va_Nw (.methodLinkNest RX4 11 yX7_init "PatternGate") U)) (va_Qv (fun (_ : Unit) => True) (fun _ t => ∃ (o1 r1 : Nat) (c1 : ClassId) (e1 t1 s1 : Nat) (ct1 cs1 : ClassId), va_P (dC, dI) vwCl [(nb, .inr (4, [.ref o1, .ref e1, .int 0, .int 0, .int 0, .int 0, .int 0, .int 0])), (o1, .inr (7, [.ref r1, .int 0])), (r1, .inl (c1, 6, .inr (.inl (fun _ => 0)))), (e1, .inr (3, [.int (nI 12), .ref t1, .ref s1, .int 0])), (t1, .inl (ct1, 24 * 12, .inl (fun _ => 0))), (s1, .inl (cs1, 12, .inl (fun _ => 0)))] t.heap ∧ va_K (dC, dI) vwCl [(c1, .long), (ct1, .int), (cs1, .int)] t ∧ va_D (va_A ([(nb, .inr (4, [.null, .null, .int 0, .int 0, .int 0, .int 0, .int 0, .int 0]))]) sz) [(nb, .inr (4, [.ref o1, .ref e1, .int 0, .int 0, .int 0, .int 0, .int 0, .int 0])), (o1, .inr (7, [.ref r1, .int 0])), (r1, .inl (c1, 6, .inr (.inl (fun _ => 0)))), (e1, .inr (3, [.int (nI 12), .ref t1, .ref s1, .int 0])), (t1, .inl (ct1, 24 * 12, .inl (fun _ => 0))), (s1, .inl (cs1, 12, .inl (fun _ => 0)))]) (va_A ([(nb, .inr (4, [.null, .null, .int 0, .int 0, .int 0, .int 0, .int 0, .int 0]))]) sz)) 5 320 (va_A ([(nb, .inr (4, [.null, .null, .int 0, .int 0, .int 0, .int 0, .int 0, .int 0]))]) sz) := by
  refine Met.ofW (cc := cX4_init) (maxL := 1) (ret := none) (by decide +kernel) rfl ?_
  intro p e s m args below meth c s₁ B hml hv
  obtain ⟨rfl, hsz, hP, hK, hD0, hN11⟩ := hv
  have hx := B.exec
  have hb := B.bytes
  have hr := B.returns
  have hts := atoms_spec (ws := mwX4_init) B.pre
  have hown : s.vm.findClass RX4 = some m.cls := findClass_of_methodNamed B.named
  have hlocks := B.notSynchronized
  have hin : meth.name = "<init>" := (name_of_methodNamed B.named B.method).1
  subst hsz
  have hD := hD0.self (sz := s.heap.size)
  generalize hAe : va_A ([(nb, .inr (4, [.null, .null, .int 0, .int 0, .int 0, .int 0, .int 0, .int 0]))]) s.heap.size = A at hD ⊢
  have hA : ∀ q : Nat, s.heap.size ≤ q → A q := fun q h => by rw [← hAe]; exact Or.inr h
  have hP : va_P (dC, dI) vwCl [(nb, .inr (4, [.null, .null, .int 0, .int 0, .int 0, .int 0, .int 0, .int 0]))] s.heap := hP
  have hD : va_D A [(nb, .inr (4, [.null, .null, .int 0, .int 0, .int 0, .int 0, .int 0, .int 0]))] := hD
  have hK : va_K (dC, dI) vwCl [] s := hK
  generalize hH : s.heap = H at hP ⊢
  have hS : va_S A s.heap H [] := by rw [← hH]; exact va_S.rf
  have hl := lv_entry ([.ref nb]) (n := 1) (Nat.le_of_ble_eq_true rfl)
  rw [lg_entry_eq]
  generalize (lg_sl ([.ref nb]) ++ List.replicate (1 - (lg_sl ([.ref nb])).length) Slot.unset).toArray = ls at hl ⊢
  have hl : lv_has ls 1 [(0, .ref nb)] := hl
  refine lv_aload_n hx hb dX4_init_0 rfl (lv_at hl 0 rfl) ?_
  refine W.objInit hx hb hown (hts (.methodLink RX4 3 objectInit) (List.mem_of_getElem? (i := 1) (by decide +kernel))) (hts (.instanceMethod objectInit) (List.mem_of_getElem? (i := 2) (by decide +kernel))) (hts (.code objectInit ⟨#[0xb1]⟩ 1 none) (List.mem_of_getElem? (i := 3) (by decide +kernel))) rfl (by rw [hml]; exact hl.1) rfl dX4_init_1 (Nat.le_of_ble_eq_true rfl) (Nat.le_of_ble_eq_true rfl) ?_
  refine W.eq (g2 := F0 m 4 ls []) rfl ?_
  refine lv_aload_n hx hb dX4_init_4 rfl (lv_at hl 0 rfl) ?_
  refine va_new (ci := 7) (fs := [.null, .int 0]) (C := RX7) (T := TX7) (N := 2) hx hb hts fin_X4_init_X7 tyX7 tyX7_ok hown (hts (.classLink RX4 9 RX7) (List.mem_of_getElem? (i := 4) (by decide +kernel))) (hts (.instantiable RX7 2) (List.mem_of_getElem? (i := 5) (by decide +kernel))) (hts (.initialized RX7) (List.mem_of_getElem? (i := 6) (by decide +kernel))) hK hP hD hS hA rfl (fun j hj => by rcases (show j = 0 ∨ j = 1 by omega) with rfl | rfl <;> rfl) (Nat.le_of_ble_eq_true rfl) (Nat.le_of_ble_eq_true rfl) dX4_init_5 (fun q_1 H hP hD hS => ?_)
  have hP : va_P (dC, dI) vwCl [(nb, .inr (4, [.null, .null, .int 0, .int 0, .int 0, .int 0, .int 0, .int 0])), (q_1, .inr (7, [.null, .int 0]))] H := hP
  have hD : va_D A [(nb, .inr (4, [.null, .null, .int 0, .int 0, .int 0, .int 0, .int 0, .int 0])), (q_1, .inr (7, [.null, .int 0]))] := hD
  refine W.widen (k := 1) (n := 2) (by omega) (by omega) ?_
  refine lv_dup hx hb dX4_init_8 rfl ?_
  have hPc := hP.sub (ws' := [(q_1, .inr (7, [.null, .int 0]))]) [1] rfl
  have hKc := hK.sub (tys' := []) [] rfl
  have hDc := hD.sub (ws' := [(q_1, .inr (7, [.null, .int 0]))]) [1] (by decide) rfl
  have hFc := va_free (wc := [(q_1, .inr (7, [.null, .int 0]))]) hD hS hA [1] rfl
  refine va_callv (va_runIN (As := []) (rest := [.ref q_1, .ref nb]) ⟨hx, hb, hml, hown, hts⟩ (k_Rows l dC dI q_1 H.size) ⟨va_cnB 0 hts mg_X4_init_X7_init_11 rfl rfl rfl hN11 (hts (.initialized RX7) (List.mem_of_getElem? (i := 6) (by decide +kernel))) (by decide +kernel) ⟨Nat.le_of_ble_eq_true rfl, Nat.le_of_ble_eq_true rfl⟩, rfl, (hts (.instanceMethod yX7_init) (List.mem_of_getElem? (i := 7) (by decide +kernel)))⟩ ⟨fun a U g mk q => by obtain ⟨q0, q1, qP, qK, qD⟩ := q; exact ⟨q0, q1, qP, va_K.moved (u := U) (U := U.calling g mk a) (Vm.Alike.refl U.vm) qK, qD⟩, fun U hU hW => ⟨rfl, by rw [hU], by rw [hU]; exact hPc, va_K.moved hW.alike hKc, hDc.weaken (fun _ _ _ _ => trivial)⟩⟩ rfl rfl hl.1 rfl (lv_room (Nat.le_of_ble_eq_true rfl)) dX4_init_9 ⟨Nat.le_of_ble_eq_true rfl, Nat.le_of_ble_eq_true rfl⟩) hS (fun q _ h => hFc q h) hFc (fun u t H1 locs ht hvm hw hB hz1 hk1 hS => ?_)
  obtain ⟨r_4, c_5, hP1, hK1, hD1⟩ := hB
  rw [ht] at hP1
  have hK := hK.app (va_K.moved hvm.symm hK1)
  have hK : va_K (dC, dI) vwCl [(c_5, .long)] s := hK
  obtain ⟨hP, hD⟩ := va_join (wr := [(nb, .inr (4, [.null, .null, .int 0, .int 0, .int 0, .int 0, .int 0, .int 0]))]) (w1 := [(q_1, .inr (7, [.ref r_4, .int 0])), (r_4, .inl (c_5, 6, .inr (.inl (fun _ => 0))))]) hP hD [1] [0] rfl rfl (by decide) (by decide) hk1 hFc hP1 hD1
  generalize H1 = H at hP hS ⊢
  have hP : va_P (dC, dI) vwCl [(nb, .inr (4, [.null, .null, .int 0, .int 0, .int 0, .int 0, .int 0, .int 0])), (q_1, .inr (7, [.ref r_4, .int 0])), (r_4, .inl (c_5, 6, .inr (.inl (fun _ => 0))))] H := hP
  have hD : va_D A [(nb, .inr (4, [.null, .null, .int 0, .int 0, .int 0, .int 0, .int 0, .int 0])), (q_1, .inr (7, [.ref r_4, .int 0])), (r_4, .inl (c_5, 6, .inr (.inl (fun _ => 0))))] := hD
  refine W.widen (k := 2) (n := 8) (by omega) (by omega) ?_
  refine va_putF (D := (dC, dI)) (ci := 4) (v := .ref q_1) (ty := .object "PatternGate$Rows") (C := RX4) (T := TX4) (N := 8) hx hb hts fin_X4_init_X4 tyX4 tyX4_ok nmX4 hown hK hP hD hS 0 rfl rfl 0 (by decide) (hts (.fieldLink RX4 12 "PatternGate$Part" "rows" "LPatternGate$Rows;") (List.mem_of_getElem? (i := 8) (by decide +kernel))) (fun _ h9 => h9) rfl hin rfl (by decide +kernel) rfl rfl (Nat.le_of_ble_eq_true rfl) dX4_init_12 (fun H locs hP hD hS => ?_)
  have hP : va_P (dC, dI) vwCl [(nb, .inr (4, [.ref q_1, .null, .int 0, .int 0, .int 0, .int 0, .int 0, .int 0])), (q_1, .inr (7, [.ref r_4, .int 0])), (r_4, .inl (c_5, 6, .inr (.inl (fun _ => 0))))] H := hP
  have hD : va_D A [(nb, .inr (4, [.ref q_1, .null, .int 0, .int 0, .int 0, .int 0, .int 0, .int 0])), (q_1, .inr (7, [.ref r_4, .int 0])), (r_4, .inl (c_5, 6, .inr (.inl (fun _ => 0))))] := hD
  refine lv_aload_n hx hb dX4_init_15 rfl (lv_at hl 0 rfl) ?_
  refine va_new (ci := 3) (fs := [.int 0, .null, .null, .int 0]) (C := RX3) (T := TX3) (N := 4) hx hb hts fin_X4_init_X3 tyX3 tyX3_ok hown (hts (.classLink RX4 18 RX3) (List.mem_of_getElem? (i := 9) (by decide +kernel))) (hts (.instantiable RX3 4) (List.mem_of_getElem? (i := 10) (by decide +kernel))) (hts (.initialized RX3) (List.mem_of_getElem? (i := 11) (by decide +kernel))) hK hP hD hS hA rfl (fun j hj => by rcases (show j = 0 ∨ j = 1 ∨ j = 2 ∨ j = 3 by omega) with rfl | rfl | rfl | rfl <;> rfl) (Nat.le_of_ble_eq_true rfl) (Nat.le_of_ble_eq_true rfl) dX4_init_16 (fun q_6 H hP hD hS => ?_)
  have hP : va_P (dC, dI) vwCl [(nb, .inr (4, [.ref q_1, .null, .int 0, .int 0, .int 0, .int 0, .int 0, .int 0])), (q_1, .inr (7, [.ref r_4, .int 0])), (r_4, .inl (c_5, 6, .inr (.inl (fun _ => 0)))), (q_6, .inr (3, [.int 0, .null, .null, .int 0]))] H := hP
  have hD : va_D A [(nb, .inr (4, [.ref q_1, .null, .int 0, .int 0, .int 0, .int 0, .int 0, .int 0])), (q_1, .inr (7, [.ref r_4, .int 0])), (r_4, .inl (c_5, 6, .inr (.inl (fun _ => 0)))), (q_6, .inr (3, [.int 0, .null, .null, .int 0]))] := hD
  refine W.widen (k := 3) (n := 12) (by omega) (by omega) ?_
  refine lv_dup hx hb dX4_init_19 rfl ?_
  refine lv_bipush (v := 12) hx hb dX4_init_20 (by decide) ?_
  have hPc := hP.sub (ws' := [(q_6, .inr (3, [.int 0, .null, .null, .int 0]))]) [3] rfl
  have hKc := hK.sub (tys' := []) [] rfl
  have hDc := hD.sub (ws' := [(q_6, .inr (3, [.int 0, .null, .null, .int 0]))]) [3] (by decide) rfl
  have hFc := va_free (wc := [(q_6, .inr (3, [.int 0, .null, .null, .int 0]))]) hD hS hA [3] rfl
  refine va_callv (va_runI (As := [.int 12]) (rest := [.ref q_6, .ref nb]) ⟨hx, hb, hml, hown, hts⟩ (k_Need12 l dC dI q_6 H.size) (cwI 1 hts mg_X4_init_X3_init_20 rfl rfl rfl (hts (.initialized RX3) (List.mem_of_getElem? (i := 11) (by decide +kernel))) (hts (.methodLink RX4 20 yX3_init) (List.mem_of_getElem? (i := 12) (by decide +kernel))) (hts (.instanceMethod yX3_init) (List.mem_of_getElem? (i := 13) (by decide +kernel))) rfl (by decide +kernel) ⟨Nat.le_of_ble_eq_true rfl, Nat.le_of_ble_eq_true rfl⟩) ⟨fun a U g mk q => by obtain ⟨q0, q1, qP, qK, qD⟩ := q; exact ⟨q0, q1, qP, va_K.moved (u := U) (U := U.calling g mk a) (Vm.Alike.refl U.vm) qK, qD⟩, fun U hU hW => ⟨rfl, by rw [hU], by rw [hU]; exact hPc, va_K.moved hW.alike hKc, hDc.weaken (fun _ _ _ _ => trivial)⟩⟩ rfl rfl hl.1 rfl (lv_room (Nat.le_of_ble_eq_true rfl)) dX4_init_22 ⟨Nat.le_of_ble_eq_true rfl, Nat.le_of_ble_eq_true rfl⟩) hS (fun q _ h => hFc q h) hFc (fun u t H1 locs ht hvm hw hB hz1 hk1 hS => ?_)
  obtain ⟨t_9, s_10, c_11, c_12, hP1, hK1, hD1⟩ := hB
  rw [ht] at hP1
  have hK := hK.app (va_K.moved hvm.symm hK1)
  have hK : va_K (dC, dI) vwCl [(c_5, .long), (c_11, .int), (c_12, .int)] s := hK
  obtain ⟨hP, hD⟩ := va_join (wr := [(nb, .inr (4, [.ref q_1, .null, .int 0, .int 0, .int 0, .int 0, .int 0, .int 0])), (q_1, .inr (7, [.ref r_4, .int 0])), (r_4, .inl (c_5, 6, .inr (.inl (fun _ => 0))))]) (w1 := [(q_6, .inr (3, [.int (nI 12), .ref t_9, .ref s_10, .int 0])), (t_9, .inl (c_11, 24 * 12, .inl (fun _ => 0))), (s_10, .inl (c_12, 12, .inl (fun _ => 0)))]) hP hD [3] [0, 1, 2] rfl rfl (by decide) (by decide) hk1 hFc hP1 hD1
  generalize H1 = H at hP hS ⊢
  have hP : va_P (dC, dI) vwCl [(nb, .inr (4, [.ref q_1, .null, .int 0, .int 0, .int 0, .int 0, .int 0, .int 0])), (q_1, .inr (7, [.ref r_4, .int 0])), (r_4, .inl (c_5, 6, .inr (.inl (fun _ => 0)))), (q_6, .inr (3, [.int (nI 12), .ref t_9, .ref s_10, .int 0])), (t_9, .inl (c_11, 24 * 12, .inl (fun _ => 0))), (s_10, .inl (c_12, 12, .inl (fun _ => 0)))] H := hP
  have hD : va_D A [(nb, .inr (4, [.ref q_1, .null, .int 0, .int 0, .int 0, .int 0, .int 0, .int 0])), (q_1, .inr (7, [.ref r_4, .int 0])), (r_4, .inl (c_5, 6, .inr (.inl (fun _ => 0)))), (q_6, .inr (3, [.int (nI 12), .ref t_9, .ref s_10, .int 0])), (t_9, .inl (c_11, 24 * 12, .inl (fun _ => 0))), (s_10, .inl (c_12, 12, .inl (fun _ => 0)))] := hD
  refine W.widen (k := 5) (n := 312) (by omega) (by omega) ?_
  refine va_putF (D := (dC, dI)) (ci := 4) (v := .ref q_6) (ty := .object "PatternGate$Need") (C := RX4) (T := TX4) (N := 8) hx hb hts fin_X4_init_X4 tyX4 tyX4_ok nmX4 hown hK hP hD hS 0 rfl rfl 1 (by decide) (hts (.fieldLink RX4 23 "PatternGate$Part" "need" "LPatternGate$Need;") (List.mem_of_getElem? (i := 14) (by decide +kernel))) (fun _ h9 => h9) rfl hin rfl (by decide +kernel) rfl rfl (Nat.le_of_ble_eq_true rfl) dX4_init_25 (fun H locs hP hD hS => ?_)
  have hP : va_P (dC, dI) vwCl [(nb, .inr (4, [.ref q_1, .ref q_6, .int 0, .int 0, .int 0, .int 0, .int 0, .int 0])), (q_1, .inr (7, [.ref r_4, .int 0])), (r_4, .inl (c_5, 6, .inr (.inl (fun _ => 0)))), (q_6, .inr (3, [.int (nI 12), .ref t_9, .ref s_10, .int 0])), (t_9, .inl (c_11, 24 * 12, .inl (fun _ => 0))), (s_10, .inl (c_12, 12, .inl (fun _ => 0)))] H := hP
  have hD : va_D A [(nb, .inr (4, [.ref q_1, .ref q_6, .int 0, .int 0, .int 0, .int 0, .int 0, .int 0])), (q_1, .inr (7, [.ref r_4, .int 0])), (r_4, .inl (c_5, 6, .inr (.inl (fun _ => 0)))), (q_6, .inr (3, [.int (nI 12), .ref t_9, .ref s_10, .int 0])), (t_9, .inl (c_11, 24 * 12, .inl (fun _ => 0))), (s_10, .inl (c_12, 12, .inl (fun _ => 0)))] := hD
  have hP9 := hP.sub (ws' := [(nb, .inr (4, [.ref q_1, .ref q_6, .int 0, .int 0, .int 0, .int 0, .int 0, .int 0])), (q_1, .inr (7, [.ref r_4, .int 0])), (r_4, .inl (c_5, 6, .inr (.inl (fun _ => 0)))), (q_6, .inr (3, [.int (nI 12), .ref t_9, .ref s_10, .int 0])), (t_9, .inl (c_11, 24 * 12, .inl (fun _ => 0))), (s_10, .inl (c_12, 12, .inl (fun _ => 0)))]) [0, 1, 2, 3, 4, 5] rfl
  have hD9 := hD.sub (ws' := [(nb, .inr (4, [.ref q_1, .ref q_6, .int 0, .int 0, .int 0, .int 0, .int 0, .int 0])), (q_1, .inr (7, [.ref r_4, .int 0])), (r_4, .inl (c_5, 6, .inr (.inl (fun _ => 0)))), (q_6, .inr (3, [.int (nI 12), .ref t_9, .ref s_10, .int 0])), (t_9, .inl (c_11, 24 * 12, .inl (fun _ => 0))), (s_10, .inl (c_12, 12, .inl (fun _ => 0)))]) [0, 1, 2, 3, 4, 5] (by decide) rfl
  have hK9 := hK.sub (tys' := [(c_5, .long), (c_11, .int), (c_12, .int)]) [0, 1, 2] rfl
  refine W.widen (k := 5) (n := 320) (by omega) (by omega) ?_
  exact W.vret hx hb hr (fun t ht hW => ⟨⟨(), rfl, trivial, q_1, r_4, c_5, q_6, t_9, s_10, c_11, c_12, by rw [ht]; exact hP9, va_K.moved hW.alike hK9, hD9⟩, hS.F ht⟩) hS.2.2 dX4_init_28
theorem dX6_init_0 : decode cX6_init 0 = .ok (.aload_n 0, 1) := by decide +kernel
theorem dX6_init_1 : decode cX6_init 1 = .ok (.invokespecial 3, 3) := by decide +kernel
theorem dX6_init_4 : decode cX6_init 4 = .ok (.aload_n 0, 1) := by decide +kernel
theorem dX6_init_5 : decode cX6_init 5 = .ok (.bipush 18, 2) := by decide +kernel
theorem dX6_init_7 : decode cX6_init 7 = .ok (.newarray .int, 2) := by decide +kernel
theorem dX6_init_9 : decode cX6_init 9 = .ok (.putfield 11, 3) := by decide +kernel
theorem dX6_init_12 : decode cX6_init 12 = .ok (.aload_n 0, 1) := by decide +kernel
theorem dX6_init_13 : decode cX6_init 13 = .ok (.bipush 18, 2) := by decide +kernel
theorem dX6_init_15 : decode cX6_init 15 = .ok (.newarray .int, 2) := by decide +kernel
theorem dX6_init_17 : decode cX6_init 17 = .ok (.putfield 15, 3) := by decide +kernel
theorem dX6_init_20 : decode cX6_init 20 = .ok (.aload_n 0, 1) := by decide +kernel
theorem dX6_init_21 : decode cX6_init 21 = .ok (.bipush 18, 2) := by decide +kernel
theorem dX6_init_23 : decode cX6_init 23 = .ok (.newarray .boolean, 2) := by decide +kernel
theorem dX6_init_25 : decode cX6_init 25 = .ok (.putfield 18, 3) := by decide +kernel
theorem dX6_init_28 : decode cX6_init 28 = .ok (.return_, 1) := by decide +kernel
def mwX6_init : List Cond := .code yX6_init cX6_init 1 none :: (([.methodLink RX6 3 objectInit, .instanceMethod objectInit, .code objectInit ⟨#[0xb1]⟩ 1 none, .arrayClass .int, .fieldLink RX6 11 "PatternGate$Reader" "begins" "[I", .fieldLink RX6 15 "PatternGate$Reader" "ends" "[I", .arrayClass .boolean, .fieldLink RX6 18 "PatternGate$Reader" "isPattern" "[Z"] : List Cond) ++ (wsX60))
theorem fin_X6_init_X6 : ∀ w ∈ wsX60, w ∈ mwX6_init := fun w h => List.mem_cons_of_mem _ (List.mem_append_right _ (h))
set_option maxHeartbeats 4000000 in
set_option maxRecDepth 100000 in
/-- k_Reader -/
theorem k_Reader (l : Launch) (dC : Nat → ClassId) (dI : Nat → Nat → Nat) (nb sz : Nat) : Met l yX6_init mwX6_init ({ frames := 1, cells := 3, slots := 54, locals := 60 }) (va_Pc [.ref nb] (fun U => U.heap.size = sz ∧ va_P (dC, dI) vwCl ([(nb, .inr (6, [.int 0, .int 0, .int 0, .int 0, .int 0, .null, .null, .null, .int 0, .int 0, .int 0]))]) U.heap ∧ va_K (dC, dI) vwCl ([]) U ∧ va_D (fun _ => True) ([(nb, .inr (6, [.int 0, .int 0, .int 0, .int 0, .int 0, .null, .null, .null, .int 0, .int 0, .int 0]))]))) (va_Qv (fun (_ : Unit) => True) (fun _ t => ∃ (r : Nat → Nat) (c0 c1 c2 : ClassId), va_P (dC, dI) vwCl [(nb, .inr (6, rF r 0 0 0 0 0 0 0 0)), (r 0, .inl (c0, 18, .inl (fun _ => 0))), (r 1, .inl (c1, 18, .inl (fun _ => 0))), (r 2, .inl (c2, 18, .inl (fun _ => 0)))] t.heap ∧ va_K (dC, dI) vwCl [(c0, .int), (c1, .int), (c2, .boolean)] t ∧ va_D (va_A ([(nb, .inr (6, [.int 0, .int 0, .int 0, .int 0, .int 0, .null, .null, .null, .int 0, .int 0, .int 0]))]) sz) [(nb, .inr (6, rF r 0 0 0 0 0 0 0 0)), (r 0, .inl (c0, 18, .inl (fun _ => 0))), (r 1, .inl (c1, 18, .inl (fun _ => 0))), (r 2, .inl (c2, 18, .inl (fun _ => 0)))]) (va_A ([(nb, .inr (6, [.int 0, .int 0, .int 0, .int 0, .int 0, .null, .null, .null, .int 0, .int 0, .int 0]))]) sz)) 3 54 (va_A ([(nb, .inr (6, [.int 0, .int 0, .int 0, .int 0, .int 0, .null, .null, .null, .int 0, .int 0, .int 0]))]) sz) := by
  refine Met.ofW (cc := cX6_init) (maxL := 1) (ret := none) (by decide +kernel) rfl ?_
  intro p e s m args below meth c s₁ B hml hv
  obtain ⟨rfl, hsz, hP, hK, hD0⟩ := hv
  have hx := B.exec
  have hb := B.bytes
  have hr := B.returns
  have hts := atoms_spec (ws := mwX6_init) B.pre
  have hown : s.vm.findClass RX6 = some m.cls := findClass_of_methodNamed B.named
  have hlocks := B.notSynchronized
  have hin : meth.name = "<init>" := (name_of_methodNamed B.named B.method).1
  subst hsz
  have hD := hD0.self (sz := s.heap.size)
  generalize hAe : va_A ([(nb, .inr (6, [.int 0, .int 0, .int 0, .int 0, .int 0, .null, .null, .null, .int 0, .int 0, .int 0]))]) s.heap.size = A at hD ⊢
  have hA : ∀ q : Nat, s.heap.size ≤ q → A q := fun q h => by rw [← hAe]; exact Or.inr h
  have hP : va_P (dC, dI) vwCl [(nb, .inr (6, [.int 0, .int 0, .int 0, .int 0, .int 0, .null, .null, .null, .int 0, .int 0, .int 0]))] s.heap := hP
  have hD : va_D A [(nb, .inr (6, [.int 0, .int 0, .int 0, .int 0, .int 0, .null, .null, .null, .int 0, .int 0, .int 0]))] := hD
  have hK : va_K (dC, dI) vwCl [] s := hK
  generalize hH : s.heap = H at hP ⊢
  have hS : va_S A s.heap H [] := by rw [← hH]; exact va_S.rf
  have hl := lv_entry ([.ref nb]) (n := 1) (Nat.le_of_ble_eq_true rfl)
  rw [lg_entry_eq]
  generalize (lg_sl ([.ref nb]) ++ List.replicate (1 - (lg_sl ([.ref nb])).length) Slot.unset).toArray = ls at hl ⊢
  have hl : lv_has ls 1 [(0, .ref nb)] := hl
  refine lv_aload_n hx hb dX6_init_0 rfl (lv_at hl 0 rfl) ?_
  refine W.objInit hx hb hown (hts (.methodLink RX6 3 objectInit) (List.mem_of_getElem? (i := 1) (by decide +kernel))) (hts (.instanceMethod objectInit) (List.mem_of_getElem? (i := 2) (by decide +kernel))) (hts (.code objectInit ⟨#[0xb1]⟩ 1 none) (List.mem_of_getElem? (i := 3) (by decide +kernel))) rfl (by rw [hml]; exact hl.1) rfl dX6_init_1 (Nat.le_of_ble_eq_true rfl) (Nat.le_of_ble_eq_true rfl) ?_
  refine W.eq (g2 := F0 m 4 ls []) rfl ?_
  refine lv_aload_n hx hb dX6_init_4 rfl (lv_at hl 0 rfl) ?_
  refine lv_bipush (v := 18) hx hb dX6_init_5 (by decide) ?_
  refine va_newa (atype := .int) (ty := .int) (n := 18) (N' := 18) (a0 := (18, .inl (fun _ => 0))) hx hb (hts (.arrayClass .int) (List.mem_of_getElem? (i := 4) (by decide +kernel))) rfl hK hP hD hS hA (fun _ => rfl) (by decide) (by decide) (Nat.le_of_ble_eq_true rfl) (Nat.le_of_ble_eq_true rfl) (Nat.le_of_ble_eq_true rfl) dX6_init_7 (fun q_1 c_2 H hK hP hD hS => ?_)
  have hP : va_P (dC, dI) vwCl [(nb, .inr (6, [.int 0, .int 0, .int 0, .int 0, .int 0, .null, .null, .null, .int 0, .int 0, .int 0])), (q_1, .inl (c_2, 18, .inl (fun _ => 0)))] H := hP
  have hD : va_D A [(nb, .inr (6, [.int 0, .int 0, .int 0, .int 0, .int 0, .null, .null, .null, .int 0, .int 0, .int 0])), (q_1, .inl (c_2, 18, .inl (fun _ => 0)))] := hD
  have hK : va_K (dC, dI) vwCl [(c_2, .int)] s := hK
  refine W.widen (k := 1) (n := 18) (by omega) (by omega) ?_
  refine va_putF (D := (dC, dI)) (ci := 6) (v := .ref q_1) (ty := .array .int) (C := RX6) (T := TX6) (N := 11) hx hb hts fin_X6_init_X6 tyX6 tyX6_ok nmX6 hown hK hP hD hS 0 rfl rfl 5 (by decide) (hts (.fieldLink RX6 11 "PatternGate$Reader" "begins" "[I") (List.mem_of_getElem? (i := 5) (by decide +kernel))) (fun _ h9 => h9) rfl hin rfl (by decide +kernel) rfl rfl (Nat.le_of_ble_eq_true rfl) dX6_init_9 (fun H locs hP hD hS => ?_)
  have hP : va_P (dC, dI) vwCl [(nb, .inr (6, [.int 0, .int 0, .int 0, .int 0, .int 0, .ref q_1, .null, .null, .int 0, .int 0, .int 0])), (q_1, .inl (c_2, 18, .inl (fun _ => 0)))] H := hP
  have hD : va_D A [(nb, .inr (6, [.int 0, .int 0, .int 0, .int 0, .int 0, .ref q_1, .null, .null, .int 0, .int 0, .int 0])), (q_1, .inl (c_2, 18, .inl (fun _ => 0)))] := hD
  refine lv_aload_n hx hb dX6_init_12 rfl (lv_at hl 0 rfl) ?_
  refine lv_bipush (v := 18) hx hb dX6_init_13 (by decide) ?_
  refine va_newa (atype := .int) (ty := .int) (n := 18) (N' := 18) (a0 := (18, .inl (fun _ => 0))) hx hb (hts (.arrayClass .int) (List.mem_of_getElem? (i := 4) (by decide +kernel))) rfl hK hP hD hS hA (fun _ => rfl) (by decide) (by decide) (Nat.le_of_ble_eq_true rfl) (Nat.le_of_ble_eq_true rfl) (Nat.le_of_ble_eq_true rfl) dX6_init_15 (fun q_3 c_4 H hK hP hD hS => ?_)
  have hP : va_P (dC, dI) vwCl [(nb, .inr (6, [.int 0, .int 0, .int 0, .int 0, .int 0, .ref q_1, .null, .null, .int 0, .int 0, .int 0])), (q_1, .inl (c_2, 18, .inl (fun _ => 0))), (q_3, .inl (c_4, 18, .inl (fun _ => 0)))] H := hP
  have hD : va_D A [(nb, .inr (6, [.int 0, .int 0, .int 0, .int 0, .int 0, .ref q_1, .null, .null, .int 0, .int 0, .int 0])), (q_1, .inl (c_2, 18, .inl (fun _ => 0))), (q_3, .inl (c_4, 18, .inl (fun _ => 0)))] := hD
  have hK : va_K (dC, dI) vwCl [(c_2, .int), (c_4, .int)] s := hK
  refine W.widen (k := 2) (n := 36) (by omega) (by omega) ?_
  refine va_putF (D := (dC, dI)) (ci := 6) (v := .ref q_3) (ty := .array .int) (C := RX6) (T := TX6) (N := 11) hx hb hts fin_X6_init_X6 tyX6 tyX6_ok nmX6 hown hK hP hD hS 0 rfl rfl 6 (by decide) (hts (.fieldLink RX6 15 "PatternGate$Reader" "ends" "[I") (List.mem_of_getElem? (i := 6) (by decide +kernel))) (fun _ h9 => h9) rfl hin rfl (by decide +kernel) rfl rfl (Nat.le_of_ble_eq_true rfl) dX6_init_17 (fun H locs hP hD hS => ?_)
  have hP : va_P (dC, dI) vwCl [(nb, .inr (6, [.int 0, .int 0, .int 0, .int 0, .int 0, .ref q_1, .ref q_3, .null, .int 0, .int 0, .int 0])), (q_1, .inl (c_2, 18, .inl (fun _ => 0))), (q_3, .inl (c_4, 18, .inl (fun _ => 0)))] H := hP
  have hD : va_D A [(nb, .inr (6, [.int 0, .int 0, .int 0, .int 0, .int 0, .ref q_1, .ref q_3, .null, .int 0, .int 0, .int 0])), (q_1, .inl (c_2, 18, .inl (fun _ => 0))), (q_3, .inl (c_4, 18, .inl (fun _ => 0)))] := hD
  refine lv_aload_n hx hb dX6_init_20 rfl (lv_at hl 0 rfl) ?_
  refine lv_bipush (v := 18) hx hb dX6_init_21 (by decide) ?_
  refine va_newa (atype := .boolean) (ty := .boolean) (n := 18) (N' := 18) (a0 := (18, .inl (fun _ => 0))) hx hb (hts (.arrayClass .boolean) (List.mem_of_getElem? (i := 7) (by decide +kernel))) rfl hK hP hD hS hA (fun _ => rfl) (by decide) (by decide) (Nat.le_of_ble_eq_true rfl) (Nat.le_of_ble_eq_true rfl) (Nat.le_of_ble_eq_true rfl) dX6_init_23 (fun q_5 c_6 H hK hP hD hS => ?_)
  have hP : va_P (dC, dI) vwCl [(nb, .inr (6, [.int 0, .int 0, .int 0, .int 0, .int 0, .ref q_1, .ref q_3, .null, .int 0, .int 0, .int 0])), (q_1, .inl (c_2, 18, .inl (fun _ => 0))), (q_3, .inl (c_4, 18, .inl (fun _ => 0))), (q_5, .inl (c_6, 18, .inl (fun _ => 0)))] H := hP
  have hD : va_D A [(nb, .inr (6, [.int 0, .int 0, .int 0, .int 0, .int 0, .ref q_1, .ref q_3, .null, .int 0, .int 0, .int 0])), (q_1, .inl (c_2, 18, .inl (fun _ => 0))), (q_3, .inl (c_4, 18, .inl (fun _ => 0))), (q_5, .inl (c_6, 18, .inl (fun _ => 0)))] := hD
  have hK : va_K (dC, dI) vwCl [(c_2, .int), (c_4, .int), (c_6, .boolean)] s := hK
  refine W.widen (k := 3) (n := 54) (by omega) (by omega) ?_
  refine va_putF (D := (dC, dI)) (ci := 6) (v := .ref q_5) (ty := .array .boolean) (C := RX6) (T := TX6) (N := 11) hx hb hts fin_X6_init_X6 tyX6 tyX6_ok nmX6 hown hK hP hD hS 0 rfl rfl 7 (by decide) (hts (.fieldLink RX6 18 "PatternGate$Reader" "isPattern" "[Z") (List.mem_of_getElem? (i := 8) (by decide +kernel))) (fun _ h9 => h9) rfl hin rfl (by decide +kernel) rfl rfl (Nat.le_of_ble_eq_true rfl) dX6_init_25 (fun H locs hP hD hS => ?_)
  have hP : va_P (dC, dI) vwCl [(nb, .inr (6, [.int 0, .int 0, .int 0, .int 0, .int 0, .ref q_1, .ref q_3, .ref q_5, .int 0, .int 0, .int 0])), (q_1, .inl (c_2, 18, .inl (fun _ => 0))), (q_3, .inl (c_4, 18, .inl (fun _ => 0))), (q_5, .inl (c_6, 18, .inl (fun _ => 0)))] H := hP
  have hD : va_D A [(nb, .inr (6, [.int 0, .int 0, .int 0, .int 0, .int 0, .ref q_1, .ref q_3, .ref q_5, .int 0, .int 0, .int 0])), (q_1, .inl (c_2, 18, .inl (fun _ => 0))), (q_3, .inl (c_4, 18, .inl (fun _ => 0))), (q_5, .inl (c_6, 18, .inl (fun _ => 0)))] := hD
  have hP9 := hP.sub (ws' := [(nb, .inr (6, [.int 0, .int 0, .int 0, .int 0, .int 0, .ref q_1, .ref q_3, .ref q_5, .int 0, .int 0, .int 0])), (q_1, .inl (c_2, 18, .inl (fun _ => 0))), (q_3, .inl (c_4, 18, .inl (fun _ => 0))), (q_5, .inl (c_6, 18, .inl (fun _ => 0)))]) [0, 1, 2, 3] rfl
  have hD9 := hD.sub (ws' := [(nb, .inr (6, [.int 0, .int 0, .int 0, .int 0, .int 0, .ref q_1, .ref q_3, .ref q_5, .int 0, .int 0, .int 0])), (q_1, .inl (c_2, 18, .inl (fun _ => 0))), (q_3, .inl (c_4, 18, .inl (fun _ => 0))), (q_5, .inl (c_6, 18, .inl (fun _ => 0)))]) [0, 1, 2, 3] (by decide) rfl
  have hK9 := hK.sub (tys' := [(c_2, .int), (c_4, .int), (c_6, .boolean)]) [0, 1, 2] rfl
  refine W.widen (k := 3) (n := 54) (by omega) (by omega) ?_
  exact W.vret hx hb hr (fun t ht hW => ⟨⟨(), rfl, trivial, fun k => [q_1, q_3, q_5].getD k 0, c_2, c_4, c_6, by rw [ht]; exact hP9, va_K.moved hW.alike hK9, hD9⟩, hS.F ht⟩) hS.2.2 dX6_init_28
theorem dX8_init_0 : decode cX8_init 0 = .ok (.aload_n 0, 1) := by decide +kernel
theorem dX8_init_1 : decode cX8_init 1 = .ok (.invokespecial 3, 3) := by decide +kernel
theorem dX8_init_4 : decode cX8_init 4 = .ok (.aload_n 0, 1) := by decide +kernel
theorem dX8_init_5 : decode cX8_init 5 = .ok (.bipush 24, 2) := by decide +kernel
theorem dX8_init_7 : decode cX8_init 7 = .ok (.newarray .int, 2) := by decide +kernel
theorem dX8_init_9 : decode cX8_init 9 = .ok (.putfield 9, 3) := by decide +kernel
theorem dX8_init_12 : decode cX8_init 12 = .ok (.return_, 1) := by decide +kernel
def mwX8_init : List Cond := .code yX8_init cX8_init 1 none :: (([.methodLink RX8 3 objectInit, .instanceMethod objectInit, .code objectInit ⟨#[0xb1]⟩ 1 none, .arrayClass .int, .fieldLink RX8 9 "PatternGate$Walk" "lists" "[I"] : List Cond) ++ (wsX80))
theorem fin_X8_init_X8 : ∀ w ∈ wsX80, w ∈ mwX8_init := fun w h => List.mem_cons_of_mem _ (List.mem_append_right _ (h))
set_option maxHeartbeats 4000000 in
set_option maxRecDepth 100000 in
/-- k_Walk -/
theorem k_Walk (l : Launch) (dC : Nat → ClassId) (dI : Nat → Nat → Nat) (nb sz : Nat) : Met l yX8_init mwX8_init ({ frames := 1, cells := 1, slots := 24, locals := 60 }) (va_Pc [.ref nb] (fun U => U.heap.size = sz ∧ va_P (dC, dI) vwCl ([(nb, .inr (8, [.int 0, .int 0, .null]))]) U.heap ∧ va_K (dC, dI) vwCl ([]) U ∧ va_D (fun _ => True) ([(nb, .inr (8, [.int 0, .int 0, .null]))]))) (va_Qv (fun (_ : Unit) => True) (fun _ t => ∃ (li : Nat) (cl : ClassId), va_P (dC, dI) vwCl [(nb, .inr (8, [.int 0, .int 0, .ref li])), (li, .inl (cl, 24, .inl (fun _ => 0)))] t.heap ∧ va_K (dC, dI) vwCl [(cl, .int)] t ∧ va_D (va_A ([(nb, .inr (8, [.int 0, .int 0, .null]))]) sz) [(nb, .inr (8, [.int 0, .int 0, .ref li])), (li, .inl (cl, 24, .inl (fun _ => 0)))]) (va_A ([(nb, .inr (8, [.int 0, .int 0, .null]))]) sz)) 1 24 (va_A ([(nb, .inr (8, [.int 0, .int 0, .null]))]) sz) := by
  refine Met.ofW (cc := cX8_init) (maxL := 1) (ret := none) (by decide +kernel) rfl ?_
  intro p e s m args below meth c s₁ B hml hv
  obtain ⟨rfl, hsz, hP, hK, hD0⟩ := hv
  have hx := B.exec
  have hb := B.bytes
  have hr := B.returns
  have hts := atoms_spec (ws := mwX8_init) B.pre
  have hown : s.vm.findClass RX8 = some m.cls := findClass_of_methodNamed B.named
  have hlocks := B.notSynchronized
  have hin : meth.name = "<init>" := (name_of_methodNamed B.named B.method).1
  subst hsz
  have hD := hD0.self (sz := s.heap.size)
  generalize hAe : va_A ([(nb, .inr (8, [.int 0, .int 0, .null]))]) s.heap.size = A at hD ⊢
  have hA : ∀ q : Nat, s.heap.size ≤ q → A q := fun q h => by rw [← hAe]; exact Or.inr h
  have hP : va_P (dC, dI) vwCl [(nb, .inr (8, [.int 0, .int 0, .null]))] s.heap := hP
  have hD : va_D A [(nb, .inr (8, [.int 0, .int 0, .null]))] := hD
  have hK : va_K (dC, dI) vwCl [] s := hK
  generalize hH : s.heap = H at hP ⊢
  have hS : va_S A s.heap H [] := by rw [← hH]; exact va_S.rf
  have hl := lv_entry ([.ref nb]) (n := 1) (Nat.le_of_ble_eq_true rfl)
  rw [lg_entry_eq]
  generalize (lg_sl ([.ref nb]) ++ List.replicate (1 - (lg_sl ([.ref nb])).length) Slot.unset).toArray = ls at hl ⊢
  have hl : lv_has ls 1 [(0, .ref nb)] := hl
  refine lv_aload_n hx hb dX8_init_0 rfl (lv_at hl 0 rfl) ?_
  refine W.objInit hx hb hown (hts (.methodLink RX8 3 objectInit) (List.mem_of_getElem? (i := 1) (by decide +kernel))) (hts (.instanceMethod objectInit) (List.mem_of_getElem? (i := 2) (by decide +kernel))) (hts (.code objectInit ⟨#[0xb1]⟩ 1 none) (List.mem_of_getElem? (i := 3) (by decide +kernel))) rfl (by rw [hml]; exact hl.1) rfl dX8_init_1 (Nat.le_of_ble_eq_true rfl) (Nat.le_of_ble_eq_true rfl) ?_
  refine W.eq (g2 := F0 m 4 ls []) rfl ?_
  refine lv_aload_n hx hb dX8_init_4 rfl (lv_at hl 0 rfl) ?_
  refine lv_bipush (v := 24) hx hb dX8_init_5 (by decide) ?_
  refine va_newa (atype := .int) (ty := .int) (n := 24) (N' := 24) (a0 := (24, .inl (fun _ => 0))) hx hb (hts (.arrayClass .int) (List.mem_of_getElem? (i := 4) (by decide +kernel))) rfl hK hP hD hS hA (fun _ => rfl) (by decide) (by decide) (Nat.le_of_ble_eq_true rfl) (Nat.le_of_ble_eq_true rfl) (Nat.le_of_ble_eq_true rfl) dX8_init_7 (fun q_1 c_2 H hK hP hD hS => ?_)
  have hP : va_P (dC, dI) vwCl [(nb, .inr (8, [.int 0, .int 0, .null])), (q_1, .inl (c_2, 24, .inl (fun _ => 0)))] H := hP
  have hD : va_D A [(nb, .inr (8, [.int 0, .int 0, .null])), (q_1, .inl (c_2, 24, .inl (fun _ => 0)))] := hD
  have hK : va_K (dC, dI) vwCl [(c_2, .int)] s := hK
  refine W.widen (k := 1) (n := 24) (by omega) (by omega) ?_
  refine va_putF (D := (dC, dI)) (ci := 8) (v := .ref q_1) (ty := .array .int) (C := RX8) (T := TX8) (N := 3) hx hb hts fin_X8_init_X8 tyX8 tyX8_ok nmX8 hown hK hP hD hS 0 rfl rfl 2 (by decide) (hts (.fieldLink RX8 9 "PatternGate$Walk" "lists" "[I") (List.mem_of_getElem? (i := 5) (by decide +kernel))) (fun _ h9 => h9) rfl hin rfl (by decide +kernel) rfl rfl (Nat.le_of_ble_eq_true rfl) dX8_init_9 (fun H locs hP hD hS => ?_)
  have hP : va_P (dC, dI) vwCl [(nb, .inr (8, [.int 0, .int 0, .ref q_1])), (q_1, .inl (c_2, 24, .inl (fun _ => 0)))] H := hP
  have hD : va_D A [(nb, .inr (8, [.int 0, .int 0, .ref q_1])), (q_1, .inl (c_2, 24, .inl (fun _ => 0)))] := hD
  have hP9 := hP.sub (ws' := [(nb, .inr (8, [.int 0, .int 0, .ref q_1])), (q_1, .inl (c_2, 24, .inl (fun _ => 0)))]) [0, 1] rfl
  have hD9 := hD.sub (ws' := [(nb, .inr (8, [.int 0, .int 0, .ref q_1])), (q_1, .inl (c_2, 24, .inl (fun _ => 0)))]) [0, 1] (by decide) rfl
  have hK9 := hK.sub (tys' := [(c_2, .int)]) [0] rfl
  refine W.widen (k := 1) (n := 24) (by omega) (by omega) ?_
  exact W.vret hx hb hr (fun t ht hW => ⟨⟨(), rfl, trivial, q_1, c_2, by rw [ht]; exact hP9, va_K.moved hW.alike hK9, hD9⟩, hS.F ht⟩) hS.2.2 dX8_init_12
def mwX0_init0 : List Cond := .code yX0_init cX0_init 4 none :: (([.methodLink RX0 1 objectInit, .instanceMethod objectInit, .code objectInit ⟨#[0xb1]⟩ 1 none, .fieldLink RX0 7 "PatternGate$Book" "docs" "[LPatternGate$Doc;", .fieldLink RX0 13 "PatternGate$Book" "patterns" "[LPatternGate$Pattern;", .fieldLink RX0 17 "PatternGate$Book" "earlier" "LPatternGate$Book;"] : List Cond) ++ (wsX00))
theorem fin_X0_init0_X0 : ∀ w ∈ wsX00, w ∈ mwX0_init0 := fun w h => List.mem_cons_of_mem _ (List.mem_append_right _ (h))
set_option maxHeartbeats 4000000 in
set_option maxRecDepth 100000 in
/-- the first Book -/
theorem k_Book0 (l : Launch) (dC : Nat → ClassId) (dI : Nat → Nat → Nat) (nb d1 d2 sz : Nat) : Met l yX0_init mwX0_init0 ({ frames := 1, cells := 0, slots := 0, locals := 60 }) (va_Pc [.ref nb, .ref d1, .ref d2, .null] (fun U => U.heap.size = sz ∧ va_P (dC, dI) vwCl ([(nb, .inr (0, [.null, .null, .null]))]) U.heap ∧ va_K (dC, dI) vwCl ([]) U ∧ va_D (fun _ => True) ([(nb, .inr (0, [.null, .null, .null]))]))) (va_Qv (fun (_ : Unit) => True) (fun _ t => va_P (dC, dI) vwCl [(nb, .inr (0, [.ref d1, .ref d2, .null]))] t.heap ∧ va_K (dC, dI) vwCl [] t ∧ va_D (va_A ([(nb, .inr (0, [.null, .null, .null]))]) sz) [(nb, .inr (0, [.ref d1, .ref d2, .null]))]) (va_A ([(nb, .inr (0, [.null, .null, .null]))]) sz)) 0 0 (va_A ([(nb, .inr (0, [.null, .null, .null]))]) sz) := by
  refine Met.ofW (cc := cX0_init) (maxL := 4) (ret := none) (by decide +kernel) rfl ?_
  intro p e s m args below meth c s₁ B hml hv
  obtain ⟨rfl, hsz, hP, hK, hD0⟩ := hv
  have hx := B.exec
  have hb := B.bytes
  have hr := B.returns
  have hts := atoms_spec (ws := mwX0_init0) B.pre
  have hown : s.vm.findClass RX0 = some m.cls := findClass_of_methodNamed B.named
  have hlocks := B.notSynchronized
  have hin : meth.name = "<init>" := (name_of_methodNamed B.named B.method).1
  subst hsz
  have hD := hD0.self (sz := s.heap.size)
  generalize hAe : va_A ([(nb, .inr (0, [.null, .null, .null]))]) s.heap.size = A at hD ⊢
  have hA : ∀ q : Nat, s.heap.size ≤ q → A q := fun q h => by rw [← hAe]; exact Or.inr h
  have hP : va_P (dC, dI) vwCl [(nb, .inr (0, [.null, .null, .null]))] s.heap := hP
  have hD : va_D A [(nb, .inr (0, [.null, .null, .null]))] := hD
  have hK : va_K (dC, dI) vwCl [] s := hK
  generalize hH : s.heap = H at hP ⊢
  have hS : va_S A s.heap H [] := by rw [← hH]; exact va_S.rf
  have hl := lv_entry ([.ref nb, .ref d1, .ref d2, .null]) (n := 4) (Nat.le_of_ble_eq_true rfl)
  rw [lg_entry_eq]
  generalize (lg_sl ([.ref nb, .ref d1, .ref d2, .null]) ++ List.replicate (4 - (lg_sl ([.ref nb, .ref d1, .ref d2, .null])).length) Slot.unset).toArray = ls at hl ⊢
  have hl : lv_has ls 4 [(0, .ref nb), (1, .ref d1), (2, .ref d2), (3, .null)] := hl
  refine lv_aload_n hx hb dX0_init_0 rfl (lv_at hl 0 rfl) ?_
  refine W.objInit hx hb hown (hts (.methodLink RX0 1 objectInit) (List.mem_of_getElem? (i := 1) (by decide +kernel))) (hts (.instanceMethod objectInit) (List.mem_of_getElem? (i := 2) (by decide +kernel))) (hts (.code objectInit ⟨#[0xb1]⟩ 1 none) (List.mem_of_getElem? (i := 3) (by decide +kernel))) rfl (by rw [hml]; exact hl.1) rfl dX0_init_1 (Nat.le_of_ble_eq_true rfl) (Nat.le_of_ble_eq_true rfl) ?_
  refine W.eq (g2 := F0 m 4 ls []) rfl ?_
  refine lv_aload_n hx hb dX0_init_4 rfl (lv_at hl 0 rfl) ?_
  refine lv_aload_n hx hb dX0_init_5 rfl (lv_at hl 1 rfl) ?_
  refine va_putF (D := (dC, dI)) (ci := 0) (v := .ref d1) (ty := .array (.object "PatternGate$Doc")) (C := RX0) (T := TX0) (N := 3) hx hb hts fin_X0_init0_X0 tyX0 tyX0_ok nmX0 hown hK hP hD hS 0 rfl rfl 0 (by decide) (hts (.fieldLink RX0 7 "PatternGate$Book" "docs" "[LPatternGate$Doc;") (List.mem_of_getElem? (i := 4) (by decide +kernel))) (fun _ h9 => h9) rfl hin rfl (by decide +kernel) rfl rfl (Nat.le_of_ble_eq_true rfl) dX0_init_6 (fun H locs hP hD hS => ?_)
  have hP : va_P (dC, dI) vwCl [(nb, .inr (0, [.ref d1, .null, .null]))] H := hP
  have hD : va_D A [(nb, .inr (0, [.ref d1, .null, .null]))] := hD
  refine lv_aload_n hx hb dX0_init_9 rfl (lv_at hl 0 rfl) ?_
  refine lv_aload_n hx hb dX0_init_10 rfl (lv_at hl 2 rfl) ?_
  refine va_putF (D := (dC, dI)) (ci := 0) (v := .ref d2) (ty := .array (.object "PatternGate$Pattern")) (C := RX0) (T := TX0) (N := 3) hx hb hts fin_X0_init0_X0 tyX0 tyX0_ok nmX0 hown hK hP hD hS 0 rfl rfl 1 (by decide) (hts (.fieldLink RX0 13 "PatternGate$Book" "patterns" "[LPatternGate$Pattern;") (List.mem_of_getElem? (i := 5) (by decide +kernel))) (fun _ h9 => h9) rfl hin rfl (by decide +kernel) rfl rfl (Nat.le_of_ble_eq_true rfl) dX0_init_11 (fun H locs hP hD hS => ?_)
  have hP : va_P (dC, dI) vwCl [(nb, .inr (0, [.ref d1, .ref d2, .null]))] H := hP
  have hD : va_D A [(nb, .inr (0, [.ref d1, .ref d2, .null]))] := hD
  refine lv_aload_n hx hb dX0_init_14 rfl (lv_at hl 0 rfl) ?_
  refine lv_aload_nN hx hb dX0_init_15 rfl (lv_at hl 3 rfl) ?_
  refine va_putF (D := (dC, dI)) (ci := 0) (v := .null) (ty := .object "PatternGate$Book") (C := RX0) (T := TX0) (N := 3) hx hb hts fin_X0_init0_X0 tyX0 tyX0_ok nmX0 hown hK hP hD hS 0 rfl rfl 2 (by decide) (hts (.fieldLink RX0 17 "PatternGate$Book" "earlier" "LPatternGate$Book;") (List.mem_of_getElem? (i := 6) (by decide +kernel))) (fun _ h9 => h9) rfl hin rfl (by decide +kernel) rfl rfl (Nat.le_of_ble_eq_true rfl) dX0_init_16 (fun H locs hP hD hS => ?_)
  have hP : va_P (dC, dI) vwCl [(nb, .inr (0, [.ref d1, .ref d2, .null]))] H := hP
  have hD : va_D A [(nb, .inr (0, [.ref d1, .ref d2, .null]))] := hD
  have hP9 := hP.sub (ws' := [(nb, .inr (0, [.ref d1, .ref d2, .null]))]) [0] rfl
  have hD9 := hD.sub (ws' := [(nb, .inr (0, [.ref d1, .ref d2, .null]))]) [0] (by decide) rfl
  have hK9 := hK.sub (tys' := []) [] rfl
  exact W.vret hx hb hr (fun t ht hW => ⟨⟨(), rfl, trivial, by rw [ht]; exact hP9, va_K.moved hW.alike hK9, hD9⟩, hS.F ht⟩) hS.2.2 dX0_init_19

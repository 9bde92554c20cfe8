theorem zz_ltle {a b : Int32} (h1 : a < b) (h2 : b ≤ a) : False := by
  rw [Int32.lt_iff_toInt_lt] at h1
  rw [Int32.le_iff_toInt_le] at h2
  omega
theorem zz_nl {a b : Int32} (h : ¬ a < b) : b ≤ a := by
  rw [Int32.lt_iff_toInt_lt] at h
  rw [Int32.le_iff_toInt_le]; omega
theorem dX10_gives_0 : decode cX10_gives 0 = .ok (.aload_n 0, 1) := by decide +kernel
theorem dX10_gives_1 : decode cX10_gives 1 = .ok (.iconst 0, 1) := by decide +kernel
theorem dX10_gives_2 : decode cX10_gives 2 = .ok (.putfield 104, 3) := by decide +kernel
theorem dX10_gives_5 : decode cX10_gives 5 = .ok (.iload_n 1, 1) := by decide +kernel
theorem dX10_gives_6 : decode cX10_gives 6 = .ok (.ireturn, 1) := by decide +kernel
def mwX10_gives : List Cond := .code yX10_gives cX10_gives 2 (some .int) :: ([.fieldLink RX10 104 "PatternGateModel" "status" "I"] ++ wsX100)
theorem fin_X10_gives_X10 : ∀ w ∈ wsX100, w ∈ mwX10_gives := fun w h => List.mem_cons_of_mem _ (List.mem_append_right _ h)
set_option maxHeartbeats 4000000 in
set_option maxRecDepth 100000 in
/-- gives -/
theorem m_gives (l : Launch) (dC : Nat → ClassId) (dI : Nat → Nat → Nat) (y : Nat) (z : Nat → Nat) (a0 a1 a2 a3 a4 a5 a6 a7 a8 a9 a10 : Int32) (sz : Nat) (v : Int32) : Met l yX10_gives mwX10_gives ({ frames := 0, cells := 0, slots := 0, locals := 0 }) (va_Pc [.ref y, .int v] (fun U => U.heap.size = sz ∧ va_P (dC, dI) vwCl ([(y, .inr (10, mF z a0 a1 a2 a3 a4 a5 a6 a7 a8 a9 a10))]) U.heap ∧ va_K (dC, dI) vwCl ([]) U ∧ va_D (fun _ => True) ([(y, .inr (10, mF z a0 a1 a2 a3 a4 a5 a6 a7 a8 a9 a10))]))) (va_Qi (fun (o : Int32) (_ : Unit) => o = v) (fun _ _ => True) (va_A ([(y, .inr (10, mF z a0 a1 a2 a3 a4 a5 a6 a7 a8 a9 a10))]) sz)) 0 0 (va_A ([(y, .inr (10, mF z a0 a1 a2 a3 a4 a5 a6 a7 a8 a9 a10))]) sz) := by
  refine Met.ofW (cc := cX10_gives) (maxL := 2) (ret := (some .int)) (by decide +kernel) rfl ?_
  intro p e s m args below meth c s₁ B hml hv
  obtain ⟨rfl, hsz, hP, hK, hD0⟩ := hv
  have hx := B.exec
  have hb := B.bytes
  have hr := B.returns
  have hts := atoms_spec (ws := mwX10_gives) B.pre
  have hown : s.vm.findClass RX10 = some m.cls := findClass_of_methodNamed B.named
  have hlocks := B.notSynchronized
  subst hsz
  have hD := hD0.self (sz := s.heap.size)
  generalize hAe : va_A ([(y, .inr (10, mF z a0 a1 a2 a3 a4 a5 a6 a7 a8 a9 a10))]) s.heap.size = A at hD ⊢
  have hA : ∀ q : Nat, s.heap.size ≤ q → A q := fun q h => by rw [← hAe]; exact Or.inr h
  have hP : va_P (dC, dI) vwCl [(y, .inr (10, mF z a0 a1 a2 a3 a4 a5 a6 a7 a8 a9 a10))] s.heap := hP
  have hD : va_D A [(y, .inr (10, mF z a0 a1 a2 a3 a4 a5 a6 a7 a8 a9 a10))] := hD
  have hK : va_K (dC, dI) vwCl [] s := hK
  generalize hH : s.heap = H at hP ⊢
  have hS : va_S A s.heap H [] := by rw [← hH]; exact va_S.rf
  have hl := lv_entry ([.ref y, .int v]) (n := 2) (Nat.le_of_ble_eq_true rfl)
  rw [lg_entry_eq]
  generalize (lg_sl ([.ref y, .int v]) ++ List.replicate (2 - (lg_sl ([.ref y, .int v])).length) Slot.unset).toArray = ls at hl ⊢
  have hl : lv_has ls 2 [(0, .ref y), (1, .int v)] := hl
  refine lv_aload_n hx hb dX10_gives_0 rfl (lv_at hl 0 rfl) ?_
  refine lv_iconst (v := 0) hx hb dX10_gives_1 (by decide) ?_
  refine va_put (D := (dC, dI)) (ci := 10) (v := .int 0) (ty := .int) (C := RX10) (T := TX10) (N := 48) hx hb hts fin_X10_gives_X10 tyX10 tyX10_ok nmX10 hown hK hP hD hS 0 rfl rfl 1 (by decide) (hts (.fieldLink RX10 104 "PatternGateModel" "status" "I") (List.mem_of_getElem? (i := 1) (by decide +kernel))) (fun _ h9 => h9) rfl (by decide +kernel) rfl rfl (Nat.le_of_ble_eq_true rfl) dX10_gives_2 (fun H locs hP hD hS => ?_)
  have hP : va_P (dC, dI) vwCl [(y, .inr (10, mF z 0 a1 a2 a3 a4 a5 a6 a7 a8 a9 a10))] H := hP
  have hD : va_D A [(y, .inr (10, mF z 0 a1 a2 a3 a4 a5 a6 a7 a8 a9 a10))] := hD
  refine lv_iload_n hx hb dX10_gives_5 rfl (lv_at hl 1 rfl) ?_
  exact W.iret hx hb hr (fun t ht hW => ⟨⟨_, (), rfl, rfl, trivial⟩, hS.F ht⟩) hS.2.2 dX10_gives_6
theorem dX10_refuse_0 : decode cX10_refuse 0 = .ok (.aload_n 0, 1) := by decide +kernel
theorem dX10_refuse_1 : decode cX10_refuse 1 = .ok (.iload_n 1, 1) := by decide +kernel
theorem dX10_refuse_2 : decode cX10_refuse 2 = .ok (.putfield 104, 3) := by decide +kernel
theorem dX10_refuse_5 : decode cX10_refuse 5 = .ok (.iconst (-1), 1) := by decide +kernel
theorem dX10_refuse_6 : decode cX10_refuse 6 = .ok (.ireturn, 1) := by decide +kernel
def mwX10_refuse : List Cond := .code yX10_refuse cX10_refuse 2 (some .int) :: ([.fieldLink RX10 104 "PatternGateModel" "status" "I"] ++ wsX100)
theorem fin_X10_refuse_X10 : ∀ w ∈ wsX100, w ∈ mwX10_refuse := fun w h => List.mem_cons_of_mem _ (List.mem_append_right _ h)
set_option maxHeartbeats 4000000 in
set_option maxRecDepth 100000 in
/-- refuse -/
theorem m_refuse (l : Launch) (dC : Nat → ClassId) (dI : Nat → Nat → Nat) (y : Nat) (z : Nat → Nat) (a0 a1 a2 a3 a4 a5 a6 a7 a8 a9 a10 : Int32) (sz : Nat) (v : Int32) : Met l yX10_refuse mwX10_refuse ({ frames := 0, cells := 0, slots := 0, locals := 0 }) (va_Pc [.ref y, .int v] (fun U => U.heap.size = sz ∧ va_P (dC, dI) vwCl ([(y, .inr (10, mF z a0 a1 a2 a3 a4 a5 a6 a7 a8 a9 a10))]) U.heap ∧ va_K (dC, dI) vwCl ([]) U ∧ va_D (fun _ => True) ([(y, .inr (10, mF z a0 a1 a2 a3 a4 a5 a6 a7 a8 a9 a10))]))) (va_Qi (fun (o : Int32) (_ : Unit) => o = (-1)) (fun _ _ => True) (va_A ([(y, .inr (10, mF z a0 a1 a2 a3 a4 a5 a6 a7 a8 a9 a10))]) sz)) 0 0 (va_A ([(y, .inr (10, mF z a0 a1 a2 a3 a4 a5 a6 a7 a8 a9 a10))]) sz) := by
  refine Met.ofW (cc := cX10_refuse) (maxL := 2) (ret := (some .int)) (by decide +kernel) rfl ?_
  intro p e s m args below meth c s₁ B hml hv
  obtain ⟨rfl, hsz, hP, hK, hD0⟩ := hv
  have hx := B.exec
  have hb := B.bytes
  have hr := B.returns
  have hts := atoms_spec (ws := mwX10_refuse) B.pre
  have hown : s.vm.findClass RX10 = some m.cls := findClass_of_methodNamed B.named
  have hlocks := B.notSynchronized
  subst hsz
  have hD := hD0.self (sz := s.heap.size)
  generalize hAe : va_A ([(y, .inr (10, mF z a0 a1 a2 a3 a4 a5 a6 a7 a8 a9 a10))]) s.heap.size = A at hD ⊢
  have hA : ∀ q : Nat, s.heap.size ≤ q → A q := fun q h => by rw [← hAe]; exact Or.inr h
  have hP : va_P (dC, dI) vwCl [(y, .inr (10, mF z a0 a1 a2 a3 a4 a5 a6 a7 a8 a9 a10))] s.heap := hP
  have hD : va_D A [(y, .inr (10, mF z a0 a1 a2 a3 a4 a5 a6 a7 a8 a9 a10))] := hD
  have hK : va_K (dC, dI) vwCl [] s := hK
  generalize hH : s.heap = H at hP ⊢
  have hS : va_S A s.heap H [] := by rw [← hH]; exact va_S.rf
  have hl := lv_entry ([.ref y, .int v]) (n := 2) (Nat.le_of_ble_eq_true rfl)
  rw [lg_entry_eq]
  generalize (lg_sl ([.ref y, .int v]) ++ List.replicate (2 - (lg_sl ([.ref y, .int v])).length) Slot.unset).toArray = ls at hl ⊢
  have hl : lv_has ls 2 [(0, .ref y), (1, .int v)] := hl
  refine lv_aload_n hx hb dX10_refuse_0 rfl (lv_at hl 0 rfl) ?_
  refine lv_iload_n hx hb dX10_refuse_1 rfl (lv_at hl 1 rfl) ?_
  refine va_put (D := (dC, dI)) (ci := 10) (v := .int v) (ty := .int) (C := RX10) (T := TX10) (N := 48) hx hb hts fin_X10_refuse_X10 tyX10 tyX10_ok nmX10 hown hK hP hD hS 0 rfl rfl 1 (by decide) (hts (.fieldLink RX10 104 "PatternGateModel" "status" "I") (List.mem_of_getElem? (i := 1) (by decide +kernel))) (fun _ h9 => h9) rfl (by decide +kernel) rfl rfl (Nat.le_of_ble_eq_true rfl) dX10_refuse_2 (fun H locs hP hD hS => ?_)
  have hP : va_P (dC, dI) vwCl [(y, .inr (10, mF z v a1 a2 a3 a4 a5 a6 a7 a8 a9 a10))] H := hP
  have hD : va_D A [(y, .inr (10, mF z v a1 a2 a3 a4 a5 a6 a7 a8 a9 a10))] := hD
  refine lv_iconst (v := (-1)) hx hb dX10_refuse_5 (by decide) ?_
  exact W.iret hx hb hr (fun t ht hW => ⟨⟨_, (), rfl, rfl, trivial⟩, hS.F ht⟩) hS.2.2 dX10_refuse_6
theorem dX10_isFrom_0 : decode cX10_isFrom 0 = .ok (.iload_n 0, 1) := by decide +kernel
theorem dX10_isFrom_1 : decode cX10_isFrom 1 = .ok (.iload_n 1, 1) := by decide +kernel
theorem dX10_isFrom_2 : decode cX10_isFrom 2 = .ok (.if_icmp .lt 12, 3) := by decide +kernel
theorem dX10_isFrom_5 : decode cX10_isFrom 5 = .ok (.iload_n 0, 1) := by decide +kernel
theorem dX10_isFrom_6 : decode cX10_isFrom 6 = .ok (.iload_n 2, 1) := by decide +kernel
theorem dX10_isFrom_7 : decode cX10_isFrom 7 = .ok (.if_icmp .gt 7, 3) := by decide +kernel
theorem dX10_isFrom_10 : decode cX10_isFrom 10 = .ok (.iconst 1, 1) := by decide +kernel
theorem dX10_isFrom_11 : decode cX10_isFrom 11 = .ok (.goto 4, 3) := by decide +kernel
theorem dX10_isFrom_14 : decode cX10_isFrom 14 = .ok (.iconst 0, 1) := by decide +kernel
theorem dX10_isFrom_15 : decode cX10_isFrom 15 = .ok (.ireturn, 1) := by decide +kernel
def mwX10_isFrom : List Cond := .code yX10_isFrom cX10_isFrom 3 (some .boolean) :: ([])
set_option maxHeartbeats 4000000 in
set_option maxRecDepth 100000 in
/-- isFrom -/
theorem m_isFrom (l : Launch) (dC : Nat → ClassId) (dI : Nat → Nat → Nat) (v lo hi : Int32) : Met l yX10_isFrom mwX10_isFrom ({ frames := 0, cells := 0, slots := 0, locals := 0 }) (va_Pc [.int v, .int lo, .int hi] (fun _ => True)) (vp_Si (fun o => (o = 1 ∧ lo ≤ v ∧ v ≤ hi) ∨ (o = 0 ∧ ¬ (lo ≤ v ∧ v ≤ hi)))) 0 0 (fun _ => False) := by
  refine Met.ofW (cc := cX10_isFrom) (maxL := 3) (ret := (some .boolean)) (by decide +kernel) rfl ?_
  intro p e s m args below meth c s₁ B hml hv
  obtain ⟨rfl, -⟩ := hv
  have hx := B.exec
  have hb := B.bytes
  have hr := B.returns
  have hts := atoms_spec (ws := mwX10_isFrom) B.pre
  have hown : s.vm.findClass RX10 = some m.cls := findClass_of_methodNamed B.named
  have hlocks := B.notSynchronized
  have hl := lv_entry ([.int v, .int lo, .int hi]) (n := 3) (Nat.le_of_ble_eq_true rfl)
  rw [lg_entry_eq]
  generalize (lg_sl ([.int v, .int lo, .int hi]) ++ List.replicate (3 - (lg_sl ([.int v, .int lo, .int hi])).length) Slot.unset).toArray = ls at hl ⊢
  have hl : lv_has ls 3 [(0, .int v), (1, .int lo), (2, .int hi)] := hl
  refine lv_iload_n hx hb dX10_isFrom_0 rfl (lv_at hl 0 rfl) ?_
  refine lv_iload_n hx hb dX10_isFrom_1 rfl (lv_at hl 1 rfl) ?_
  refine lv_icmp_lt (tgt := 14) hx hb dX10_isFrom_2 (by decide) (fun k_1 => ?_) (fun k_1 => ?_)
  · refine lv_iconst (v := 0) hx hb dX10_isFrom_14 (by decide) ?_
    exact W.zret hx hb hr rfl (fun t ht hW => ⟨_, rfl, Or.inr ⟨rfl, fun h => zz_ltle k_1 h.1⟩, ht⟩) t_nil dX10_isFrom_15
  · refine lv_iload_n hx hb dX10_isFrom_5 rfl (lv_at hl 0 rfl) ?_
    refine lv_iload_n hx hb dX10_isFrom_6 rfl (lv_at hl 2 rfl) ?_
    refine lv_icmp_gt (tgt := 14) hx hb dX10_isFrom_7 (by decide) (fun k_2 => ?_) (fun k_2 => ?_)
    · refine lv_iconst (v := 0) hx hb dX10_isFrom_14 (by decide) ?_
      exact W.zret hx hb hr rfl (fun t ht hW => ⟨_, rfl, Or.inr ⟨rfl, fun h => zz_ltle k_2 h.2⟩, ht⟩) t_nil dX10_isFrom_15
    · refine lv_iconst (v := 1) hx hb dX10_isFrom_10 (by decide) ?_
      refine lv_goto (tgt := 15) hx hb dX10_isFrom_11 (by decide) ?_
      exact W.zret hx hb hr rfl (fun t ht hW => ⟨_, rfl, Or.inl ⟨rfl, zz_nl k_1, zz_nl k_2⟩, ht⟩) t_nil dX10_isFrom_15
theorem dX10_isDoc_0 : decode cX10_isDoc 0 = .ok (.iload_n 1, 1) := by decide +kernel
theorem dX10_isDoc_1 : decode cX10_isDoc 1 = .ok (.ifCond .lt 17, 3) := by decide +kernel
theorem dX10_isDoc_4 : decode cX10_isDoc 4 = .ok (.iload_n 1, 1) := by decide +kernel
theorem dX10_isDoc_5 : decode cX10_isDoc 5 = .ok (.aload_n 0, 1) := by decide +kernel
theorem dX10_isDoc_6 : decode cX10_isDoc 6 = .ok (.getfield 8, 3) := by decide +kernel
theorem dX10_isDoc_9 : decode cX10_isDoc 9 = .ok (.iconst 0, 1) := by decide +kernel
theorem dX10_isDoc_10 : decode cX10_isDoc 10 = .ok (.iaload, 1) := by decide +kernel
theorem dX10_isDoc_11 : decode cX10_isDoc 11 = .ok (.if_icmp .ge 7, 3) := by decide +kernel
theorem dX10_isDoc_18 : decode cX10_isDoc 18 = .ok (.iconst 0, 1) := by decide +kernel
theorem dX10_isDoc_19 : decode cX10_isDoc 19 = .ok (.ireturn, 1) := by decide +kernel
def mwX10_isDoc : List Cond := .code yX10_isDoc cX10_isDoc 2 (some .boolean) :: ([.fieldLink RX10 8 "PatternGateModel" "all" "[I"] ++ wsX100)
theorem fin_X10_isDoc_X10 : ∀ w ∈ wsX100, w ∈ mwX10_isDoc := fun w h => List.mem_cons_of_mem _ (List.mem_append_right _ h)
set_option maxHeartbeats 4000000 in
set_option maxRecDepth 100000 in
/-- isDoc without DOCUMENTS, PATTERNS -/
theorem m_isDoc (l : Launch) (dC : Nat → ClassId) (dI : Nat → Nat → Nat) (y : Nat) (z : Nat → Nat) (a0 a1 a2 a3 a4 a5 a6 a7 a8 a9 a10 : Int32) (mA : ClassId) (i : Int32) : Met l yX10_isDoc mwX10_isDoc ({ frames := 0, cells := 0, slots := 0, locals := 0 }) (va_Pc [.ref y, .int i] (fun U => va_P (dC, dI) vwCl ([(y, .inr (10, mF z a0 a1 a2 a3 a4 a5 a6 a7 a8 a9 a10)), (z 0, .inl (mA, 101660, .inl (fun _ => 0)))]) U.heap ∧ va_K (dC, dI) vwCl ([(mA, .int)]) U)) (vp_Si (fun o => o = 0)) 0 0 (fun _ => False) := by
  refine Met.ofW (cc := cX10_isDoc) (maxL := 2) (ret := (some .boolean)) (by decide +kernel) rfl ?_
  intro p e s m args below meth c s₁ B hml hv
  obtain ⟨rfl, hP, hK⟩ := hv
  have hx := B.exec
  have hb := B.bytes
  have hr := B.returns
  have hts := atoms_spec (ws := mwX10_isDoc) B.pre
  have hown : s.vm.findClass RX10 = some m.cls := findClass_of_methodNamed B.named
  have hlocks := B.notSynchronized
  have hP : va_P (dC, dI) vwCl [(y, .inr (10, mF z a0 a1 a2 a3 a4 a5 a6 a7 a8 a9 a10)), (z 0, .inl (mA, 101660, .inl (fun _ => 0)))] s.heap := hP
  have hK : va_K (dC, dI) vwCl [(mA, .int)] s := hK
  generalize hH : s.heap = H at hP ⊢
  have hl := lv_entry ([.ref y, .int i]) (n := 2) (Nat.le_of_ble_eq_true rfl)
  rw [lg_entry_eq]
  generalize (lg_sl ([.ref y, .int i]) ++ List.replicate (2 - (lg_sl ([.ref y, .int i])).length) Slot.unset).toArray = ls at hl ⊢
  have hl : lv_has ls 2 [(0, .ref y), (1, .int i)] := hl
  refine lv_iload_n hx hb dX10_isDoc_0 rfl (lv_at hl 1 rfl) ?_
  refine lv_if_lt (tgt := 18) hx hb dX10_isDoc_1 (by decide) (fun k_1 => ?_) (fun k_1 => ?_)
  · refine lv_iconst (v := 0) hx hb dX10_isDoc_18 (by decide) ?_
    exact W.zret hx hb hr rfl (fun t ht hW => ⟨_, rfl, rfl, ht.trans hH.symm⟩) t_nil dX10_isDoc_19
  · refine lv_iload_n hx hb dX10_isDoc_4 rfl (lv_at hl 1 rfl) ?_
    refine lv_aload_n hx hb dX10_isDoc_5 rfl (lv_at hl 0 rfl) ?_
    refine va_get (D := (dC, dI)) (ci := 10) (v := .ref (z 0)) (C := RX10) (T := TX10) (N := 48) hx hb hts fin_X10_isDoc_X10 hown hK hP 0 rfl rfl 0 (by decide) (hts (.fieldLink RX10 8 "PatternGateModel" "all" "[I") (List.mem_of_getElem? (i := 1) (by decide +kernel))) (fun _ h9 => h9) rfl dX10_isDoc_6 ?_
    refine lv_iconst (v := 0) hx hb dX10_isDoc_9 (by decide) ?_
    refine va_iald hx hb hK hP 1 0 rfl rfl (i := 0) (by unfold vp_in; decide +kernel) dX10_isDoc_10 ?_
    refine lv_topi (fun y_2 ey_2 => ?_)
    obtain rfl : y_2 = 0 := ey_2.trans (by first | rfl | decide)
    refine lv_icmp_ge (tgt := 18) hx hb dX10_isDoc_11 (by decide) (fun k_3 => ?_) (fun k_3 => absurd (zz_ge k_1) k_3)
    refine lv_iconst (v := 0) hx hb dX10_isDoc_18 (by decide) ?_
    exact W.zret hx hb hr rfl (fun t ht hW => ⟨_, rfl, rfl, ht.trans hH.symm⟩) t_nil dX10_isDoc_19
theorem dX10_isPattern_0 : decode cX10_isPattern 0 = .ok (.iload_n 1, 1) := by decide +kernel
theorem dX10_isPattern_1 : decode cX10_isPattern 1 = .ok (.ifCond .lt 19, 3) := by decide +kernel
theorem dX10_isPattern_4 : decode cX10_isPattern 4 = .ok (.iload_n 1, 1) := by decide +kernel
theorem dX10_isPattern_5 : decode cX10_isPattern 5 = .ok (.aload_n 0, 1) := by decide +kernel
theorem dX10_isPattern_6 : decode cX10_isPattern 6 = .ok (.getfield 8, 3) := by decide +kernel
theorem dX10_isPattern_9 : decode cX10_isPattern 9 = .ok (.sipush 611, 3) := by decide +kernel
theorem dX10_isPattern_12 : decode cX10_isPattern 12 = .ok (.iaload, 1) := by decide +kernel
theorem dX10_isPattern_13 : decode cX10_isPattern 13 = .ok (.if_icmp .ge 7, 3) := by decide +kernel
theorem dX10_isPattern_20 : decode cX10_isPattern 20 = .ok (.iconst 0, 1) := by decide +kernel
theorem dX10_isPattern_21 : decode cX10_isPattern 21 = .ok (.ireturn, 1) := by decide +kernel
def mwX10_isPattern : List Cond := .code yX10_isPattern cX10_isPattern 2 (some .boolean) :: ([.fieldLink RX10 8 "PatternGateModel" "all" "[I"] ++ wsX100)
theorem fin_X10_isPattern_X10 : ∀ w ∈ wsX100, w ∈ mwX10_isPattern := fun w h => List.mem_cons_of_mem _ (List.mem_append_right _ h)
set_option maxHeartbeats 4000000 in
set_option maxRecDepth 100000 in
/-- isPattern without DOCUMENTS, PATTERNS -/
theorem m_isPattern (l : Launch) (dC : Nat → ClassId) (dI : Nat → Nat → Nat) (y : Nat) (z : Nat → Nat) (a0 a1 a2 a3 a4 a5 a6 a7 a8 a9 a10 : Int32) (mA : ClassId) (i : Int32) : Met l yX10_isPattern mwX10_isPattern ({ frames := 0, cells := 0, slots := 0, locals := 0 }) (va_Pc [.ref y, .int i] (fun U => va_P (dC, dI) vwCl ([(y, .inr (10, mF z a0 a1 a2 a3 a4 a5 a6 a7 a8 a9 a10)), (z 0, .inl (mA, 101660, .inl (fun _ => 0)))]) U.heap ∧ va_K (dC, dI) vwCl ([(mA, .int)]) U)) (vp_Si (fun o => o = 0)) 0 0 (fun _ => False) := by
  refine Met.ofW (cc := cX10_isPattern) (maxL := 2) (ret := (some .boolean)) (by decide +kernel) rfl ?_
  intro p e s m args below meth c s₁ B hml hv
  obtain ⟨rfl, hP, hK⟩ := hv
  have hx := B.exec
  have hb := B.bytes
  have hr := B.returns
  have hts := atoms_spec (ws := mwX10_isPattern) B.pre
  have hown : s.vm.findClass RX10 = some m.cls := findClass_of_methodNamed B.named
  have hlocks := B.notSynchronized
  have hP : va_P (dC, dI) vwCl [(y, .inr (10, mF z a0 a1 a2 a3 a4 a5 a6 a7 a8 a9 a10)), (z 0, .inl (mA, 101660, .inl (fun _ => 0)))] s.heap := hP
  have hK : va_K (dC, dI) vwCl [(mA, .int)] s := hK
  generalize hH : s.heap = H at hP ⊢
  have hl := lv_entry ([.ref y, .int i]) (n := 2) (Nat.le_of_ble_eq_true rfl)
  rw [lg_entry_eq]
  generalize (lg_sl ([.ref y, .int i]) ++ List.replicate (2 - (lg_sl ([.ref y, .int i])).length) Slot.unset).toArray = ls at hl ⊢
  have hl : lv_has ls 2 [(0, .ref y), (1, .int i)] := hl
  refine lv_iload_n hx hb dX10_isPattern_0 rfl (lv_at hl 1 rfl) ?_
  refine lv_if_lt (tgt := 20) hx hb dX10_isPattern_1 (by decide) (fun k_1 => ?_) (fun k_1 => ?_)
  · refine lv_iconst (v := 0) hx hb dX10_isPattern_20 (by decide) ?_
    exact W.zret hx hb hr rfl (fun t ht hW => ⟨_, rfl, rfl, ht.trans hH.symm⟩) t_nil dX10_isPattern_21
  · refine lv_iload_n hx hb dX10_isPattern_4 rfl (lv_at hl 1 rfl) ?_
    refine lv_aload_n hx hb dX10_isPattern_5 rfl (lv_at hl 0 rfl) ?_
    refine va_get (D := (dC, dI)) (ci := 10) (v := .ref (z 0)) (C := RX10) (T := TX10) (N := 48) hx hb hts fin_X10_isPattern_X10 hown hK hP 0 rfl rfl 0 (by decide) (hts (.fieldLink RX10 8 "PatternGateModel" "all" "[I") (List.mem_of_getElem? (i := 1) (by decide +kernel))) (fun _ h9 => h9) rfl dX10_isPattern_6 ?_
    refine lv_sipush (v := 611) hx hb dX10_isPattern_9 (by decide) ?_
    refine va_iald hx hb hK hP 1 0 rfl rfl (i := 611) (by unfold vp_in; decide +kernel) dX10_isPattern_12 ?_
    refine lv_topi (fun y_2 ey_2 => ?_)
    obtain rfl : y_2 = 0 := ey_2.trans (by first | rfl | decide)
    refine lv_icmp_ge (tgt := 20) hx hb dX10_isPattern_13 (by decide) (fun k_3 => ?_) (fun k_3 => absurd (zz_ge k_1) k_3)
    refine lv_iconst (v := 0) hx hb dX10_isPattern_20 (by decide) ?_
    exact W.zret hx hb hr rfl (fun t ht hW => ⟨_, rfl, rfl, ht.trans hH.symm⟩) t_nil dX10_isPattern_21
theorem dX10_listOf_0 : decode cX10_listOf 0 = .ok (.iconst 0, 1) := by decide +kernel
theorem dX10_listOf_1 : decode cX10_listOf 1 = .ok (.istore_n 2, 1) := by decide +kernel
theorem dX10_listOf_2 : decode cX10_listOf 2 = .ok (.iconst 0, 1) := by decide +kernel
theorem dX10_listOf_3 : decode cX10_listOf 3 = .ok (.istore_n 3, 1) := by decide +kernel
theorem dX10_listOf_4 : decode cX10_listOf 4 = .ok (.iload_n 3, 1) := by decide +kernel
theorem dX10_listOf_5 : decode cX10_listOf 5 = .ok (.aload_n 0, 1) := by decide +kernel
theorem dX10_listOf_6 : decode cX10_listOf 6 = .ok (.getfield 8, 3) := by decide +kernel
theorem dX10_listOf_9 : decode cX10_listOf 9 = .ok (.iconst 0, 1) := by decide +kernel
theorem dX10_listOf_10 : decode cX10_listOf 10 = .ok (.iaload, 1) := by decide +kernel
theorem dX10_listOf_11 : decode cX10_listOf 11 = .ok (.if_icmp .ge 28, 3) := by decide +kernel
theorem dX10_listOf_39 : decode cX10_listOf 39 = .ok (.iload_n 2, 1) := by decide +kernel
theorem dX10_listOf_40 : decode cX10_listOf 40 = .ok (.ireturn, 1) := by decide +kernel
def mwX10_listOf : List Cond := .code yX10_listOf cX10_listOf 4 (some .int) :: ([.fieldLink RX10 8 "PatternGateModel" "all" "[I"] ++ wsX100)
theorem fin_X10_listOf_X10 : ∀ w ∈ wsX100, w ∈ mwX10_listOf := fun w h => List.mem_cons_of_mem _ (List.mem_append_right _ h)
set_option maxHeartbeats 4000000 in
set_option maxRecDepth 100000 in
/-- listOf without DOCUMENTS, PATTERNS -/
theorem m_listOf (l : Launch) (dC : Nat → ClassId) (dI : Nat → Nat → Nat) (y : Nat) (z : Nat → Nat) (a0 a1 a2 a3 a4 a5 a6 a7 a8 a9 a10 : Int32) (mA : ClassId) (i : Int32) : Met l yX10_listOf mwX10_listOf ({ frames := 0, cells := 0, slots := 0, locals := 0 }) (va_Pc [.ref y, .int i] (fun U => va_P (dC, dI) vwCl ([(y, .inr (10, mF z a0 a1 a2 a3 a4 a5 a6 a7 a8 a9 a10)), (z 0, .inl (mA, 101660, .inl (fun _ => 0)))]) U.heap ∧ va_K (dC, dI) vwCl ([(mA, .int)]) U)) (vp_Si (fun o => o = 0)) 0 0 (fun _ => False) := by
  refine Met.ofW (cc := cX10_listOf) (maxL := 4) (ret := (some .int)) (by decide +kernel) rfl ?_
  intro p e s m args below meth c s₁ B hml hv
  obtain ⟨rfl, hP, hK⟩ := hv
  have hx := B.exec
  have hb := B.bytes
  have hr := B.returns
  have hts := atoms_spec (ws := mwX10_listOf) B.pre
  have hown : s.vm.findClass RX10 = some m.cls := findClass_of_methodNamed B.named
  have hlocks := B.notSynchronized
  have hP : va_P (dC, dI) vwCl [(y, .inr (10, mF z a0 a1 a2 a3 a4 a5 a6 a7 a8 a9 a10)), (z 0, .inl (mA, 101660, .inl (fun _ => 0)))] s.heap := hP
  have hK : va_K (dC, dI) vwCl [(mA, .int)] s := hK
  generalize hH : s.heap = H at hP ⊢
  have hl := lv_entry ([.ref y, .int i]) (n := 4) (Nat.le_of_ble_eq_true rfl)
  rw [lg_entry_eq]
  generalize (lg_sl ([.ref y, .int i]) ++ List.replicate (4 - (lg_sl ([.ref y, .int i])).length) Slot.unset).toArray = ls at hl ⊢
  have hl : lv_has ls 4 [(0, .ref y), (1, .int i)] := hl
  refine lv_iconst (v := 0) hx hb dX10_listOf_0 (by decide) ?_
  refine lv_istore_n (lv' := [(2, .int 0), (0, .ref y), (1, .int i)]) hx hb dX10_listOf_1 rfl hl (by decide) rfl (fun ls hl => ?_)
  refine lv_iconst (v := 0) hx hb dX10_listOf_2 (by decide) ?_
  refine lv_istore_n (lv' := [(3, .int 0), (2, .int 0), (0, .ref y), (1, .int i)]) hx hb dX10_listOf_3 rfl hl (by decide) rfl (fun ls hl => ?_)
  refine lv_iload_n hx hb dX10_listOf_4 rfl (lv_at hl 0 rfl) ?_
  refine lv_aload_n hx hb dX10_listOf_5 rfl (lv_at hl 2 rfl) ?_
  refine va_get (D := (dC, dI)) (ci := 10) (v := .ref (z 0)) (C := RX10) (T := TX10) (N := 48) hx hb hts fin_X10_listOf_X10 hown hK hP 0 rfl rfl 0 (by decide) (hts (.fieldLink RX10 8 "PatternGateModel" "all" "[I") (List.mem_of_getElem? (i := 1) (by decide +kernel))) (fun _ h9 => h9) rfl dX10_listOf_6 ?_
  refine lv_iconst (v := 0) hx hb dX10_listOf_9 (by decide) ?_
  refine va_iald hx hb hK hP 1 0 rfl rfl (i := 0) (by unfold vp_in; decide +kernel) dX10_listOf_10 ?_
  refine lv_topi (fun y_1 ey_1 => ?_)
  obtain rfl : y_1 = 0 := ey_1.trans (by first | rfl | decide)
  refine lv_icmp_ge (tgt := 39) hx hb dX10_listOf_11 (by decide) (fun k_2 => ?_) (fun k_2 => absurd (by decide) k_2)
  refine lv_iload_n hx hb dX10_listOf_39 rfl (lv_at hl 1 rfl) ?_
  exact W.iret hx hb hr (fun t ht hW => ⟨_, rfl, rfl, ht.trans hH.symm⟩) t_nil dX10_listOf_40
theorem dX10_allLetters_0 : decode cX10_allLetters 0 = .ok (.iconst 0, 1) := by decide +kernel
theorem dX10_allLetters_1 : decode cX10_allLetters 1 = .ok (.istore_n 1, 1) := by decide +kernel
theorem dX10_allLetters_2 : decode cX10_allLetters 2 = .ok (.iconst 0, 1) := by decide +kernel
theorem dX10_allLetters_3 : decode cX10_allLetters 3 = .ok (.istore_n 2, 1) := by decide +kernel
theorem dX10_allLetters_4 : decode cX10_allLetters 4 = .ok (.iload_n 2, 1) := by decide +kernel
theorem dX10_allLetters_5 : decode cX10_allLetters 5 = .ok (.aload_n 0, 1) := by decide +kernel
theorem dX10_allLetters_6 : decode cX10_allLetters 6 = .ok (.getfield 8, 3) := by decide +kernel
theorem dX10_allLetters_9 : decode cX10_allLetters 9 = .ok (.iconst 0, 1) := by decide +kernel
theorem dX10_allLetters_10 : decode cX10_allLetters 10 = .ok (.iaload, 1) := by decide +kernel
theorem dX10_allLetters_11 : decode cX10_allLetters 11 = .ok (.if_icmp .ge 17, 3) := by decide +kernel
theorem dX10_allLetters_28 : decode cX10_allLetters 28 = .ok (.iload_n 1, 1) := by decide +kernel
theorem dX10_allLetters_29 : decode cX10_allLetters 29 = .ok (.ireturn, 1) := by decide +kernel
def mwX10_allLetters : List Cond := .code yX10_allLetters cX10_allLetters 3 (some .int) :: ([.fieldLink RX10 8 "PatternGateModel" "all" "[I"] ++ wsX100)
theorem fin_X10_allLetters_X10 : ∀ w ∈ wsX100, w ∈ mwX10_allLetters := fun w h => List.mem_cons_of_mem _ (List.mem_append_right _ h)
set_option maxHeartbeats 4000000 in
set_option maxRecDepth 100000 in
/-- allLetters without DOCUMENTS, PATTERNS -/
theorem m_allLetters (l : Launch) (dC : Nat → ClassId) (dI : Nat → Nat → Nat) (y : Nat) (z : Nat → Nat) (a0 a1 a2 a3 a4 a5 a6 a7 a8 a9 a10 : Int32) (mA : ClassId) : Met l yX10_allLetters mwX10_allLetters ({ frames := 0, cells := 0, slots := 0, locals := 0 }) (va_Pc [.ref y] (fun U => va_P (dC, dI) vwCl ([(y, .inr (10, mF z a0 a1 a2 a3 a4 a5 a6 a7 a8 a9 a10)), (z 0, .inl (mA, 101660, .inl (fun _ => 0)))]) U.heap ∧ va_K (dC, dI) vwCl ([(mA, .int)]) U)) (vp_Si (fun o => o = 0)) 0 0 (fun _ => False) := by
  refine Met.ofW (cc := cX10_allLetters) (maxL := 3) (ret := (some .int)) (by decide +kernel) rfl ?_
  intro p e s m args below meth c s₁ B hml hv
  obtain ⟨rfl, hP, hK⟩ := hv
  have hx := B.exec
  have hb := B.bytes
  have hr := B.returns
  have hts := atoms_spec (ws := mwX10_allLetters) B.pre
  have hown : s.vm.findClass RX10 = some m.cls := findClass_of_methodNamed B.named
  have hlocks := B.notSynchronized
  have hP : va_P (dC, dI) vwCl [(y, .inr (10, mF z a0 a1 a2 a3 a4 a5 a6 a7 a8 a9 a10)), (z 0, .inl (mA, 101660, .inl (fun _ => 0)))] s.heap := hP
  have hK : va_K (dC, dI) vwCl [(mA, .int)] s := hK
  generalize hH : s.heap = H at hP ⊢
  have hl := lv_entry ([.ref y]) (n := 3) (Nat.le_of_ble_eq_true rfl)
  rw [lg_entry_eq]
  generalize (lg_sl ([.ref y]) ++ List.replicate (3 - (lg_sl ([.ref y])).length) Slot.unset).toArray = ls at hl ⊢
  have hl : lv_has ls 3 [(0, .ref y)] := hl
  refine lv_iconst (v := 0) hx hb dX10_allLetters_0 (by decide) ?_
  refine lv_istore_n (lv' := [(1, .int 0), (0, .ref y)]) hx hb dX10_allLetters_1 rfl hl (by decide) rfl (fun ls hl => ?_)
  refine lv_iconst (v := 0) hx hb dX10_allLetters_2 (by decide) ?_
  refine lv_istore_n (lv' := [(2, .int 0), (1, .int 0), (0, .ref y)]) hx hb dX10_allLetters_3 rfl hl (by decide) rfl (fun ls hl => ?_)
  refine lv_iload_n hx hb dX10_allLetters_4 rfl (lv_at hl 0 rfl) ?_
  refine lv_aload_n hx hb dX10_allLetters_5 rfl (lv_at hl 2 rfl) ?_
  refine va_get (D := (dC, dI)) (ci := 10) (v := .ref (z 0)) (C := RX10) (T := TX10) (N := 48) hx hb hts fin_X10_allLetters_X10 hown hK hP 0 rfl rfl 0 (by decide) (hts (.fieldLink RX10 8 "PatternGateModel" "all" "[I") (List.mem_of_getElem? (i := 1) (by decide +kernel))) (fun _ h9 => h9) rfl dX10_allLetters_6 ?_
  refine lv_iconst (v := 0) hx hb dX10_allLetters_9 (by decide) ?_
  refine va_iald hx hb hK hP 1 0 rfl rfl (i := 0) (by unfold vp_in; decide +kernel) dX10_allLetters_10 ?_
  refine lv_topi (fun y_1 ey_1 => ?_)
  obtain rfl : y_1 = 0 := ey_1.trans (by first | rfl | decide)
  refine lv_icmp_ge (tgt := 28) hx hb dX10_allLetters_11 (by decide) (fun k_2 => ?_) (fun k_2 => absurd (by decide) k_2)
  refine lv_iload_n hx hb dX10_allLetters_28 rfl (lv_at hl 1 rfl) ?_
  exact W.iret hx hb hr (fun t ht hW => ⟨_, rfl, rfl, ht.trans hH.symm⟩) t_nil dX10_allLetters_29
theorem dX10_wrongPut_0 : decode cX10_wrongPut 0 = .ok (.iload_n 2, 1) := by decide +kernel
theorem dX10_wrongPut_1 : decode cX10_wrongPut 1 = .ok (.ifCond .lt 13, 3) := by decide +kernel
theorem dX10_wrongPut_4 : decode cX10_wrongPut 4 = .ok (.iload_n 3, 1) := by decide +kernel
theorem dX10_wrongPut_5 : decode cX10_wrongPut 5 = .ok (.iconst 0, 1) := by decide +kernel
theorem dX10_wrongPut_6 : decode cX10_wrongPut 6 = .ok (.bipush 25, 2) := by decide +kernel
theorem dX10_wrongPut_8 : decode cX10_wrongPut 8 = .ok (.invokestatic 200, 3) := by decide +kernel
theorem dX10_wrongPut_11 : decode cX10_wrongPut 11 = .ok (.ifCond .ne 5, 3) := by decide +kernel
theorem dX10_wrongPut_14 : decode cX10_wrongPut 14 = .ok (.iconst 1, 1) := by decide +kernel
theorem dX10_wrongPut_15 : decode cX10_wrongPut 15 = .ok (.ireturn, 1) := by decide +kernel
theorem dX10_wrongPut_16 : decode cX10_wrongPut 16 = .ok (.aload_n 0, 1) := by decide +kernel
theorem dX10_wrongPut_17 : decode cX10_wrongPut 17 = .ok (.iload_n 1, 1) := by decide +kernel
theorem dX10_wrongPut_18 : decode cX10_wrongPut 18 = .ok (.invokevirtual 451, 3) := by decide +kernel
theorem dX10_wrongPut_21 : decode cX10_wrongPut 21 = .ok (.ifCond .ne 7, 3) := by decide +kernel
theorem dX10_wrongPut_24 : decode cX10_wrongPut 24 = .ok (.iconst 2, 1) := by decide +kernel
theorem dX10_wrongPut_25 : decode cX10_wrongPut 25 = .ok (.goto 17, 3) := by decide +kernel
theorem dX10_wrongPut_42 : decode cX10_wrongPut 42 = .ok (.ireturn, 1) := by decide +kernel
def mwX10_wrongPut : List Cond := .code yX10_wrongPut cX10_wrongPut 4 (some .int) :: ([.code yX10_isFrom cX10_isFrom 3 (some .boolean), .methodLink RX10 200 yX10_isFrom, .static yX10_isFrom, .initialized RX10, .code yX10_isDoc cX10_isDoc 2 (some .boolean), .fieldLink RX10 8 "PatternGateModel" "all" "[I", .methodLink RX10 451 yX10_isDoc, .instanceMethod yX10_isDoc, .selects RX10 yX10_isDoc yX10_isDoc] ++ wsX100)
set_option maxRecDepth 20000 in
theorem mg_X10_wrongPut_X10_isFrom_200 : GoodIn mwX10_wrongPut (va_wsS RX10 200 yX10_isFrom mwX10_isFrom) := goodIn_r _ [2, 3, 4, 1] (by decide +kernel) (by decide +kernel)
set_option maxRecDepth 20000 in
theorem mg_X10_wrongPut_X10_isDoc_451 : GoodIn mwX10_wrongPut (wsV RX10 451 RX10 yX10_isDoc mwX10_isDoc) := goodIn_r _ [7, 8, 9, 4, 5, 6, 10, 11, 12, 13, 14, 15, 16, 17, 18, 19, 20, 21, 22, 23, 24, 25, 26, 27, 28, 29, 30, 31, 32, 33, 34, 35, 36, 37, 38, 39, 40, 41, 42, 43, 44, 45, 46, 47, 48, 49, 50, 51, 52, 53, 54, 55, 56, 57] (by decide +kernel) (by decide +kernel)
set_option maxHeartbeats 4000000 in
set_option maxRecDepth 100000 in
/-- wrongPut without DOCUMENTS -/
theorem m_wrongPut (l : Launch) (dC : Nat → ClassId) (dI : Nat → Nat → Nat) (y : Nat) (z : Nat → Nat) (a0 a1 a2 a3 a4 a5 a6 a7 a8 a9 a10 : Int32) (mA : ClassId) (i0 i1 i2 : Int32) : Met l yX10_wrongPut mwX10_wrongPut ({ frames := 1, cells := 0, slots := 0, locals := 60 }) (va_Pc [.ref y, .int i0, .int i1, .int i2] (fun U => va_P (dC, dI) vwCl ([(y, .inr (10, mF z a0 a1 a2 a3 a4 a5 a6 a7 a8 a9 a10)), (z 0, .inl (mA, 101660, .inl (fun _ => 0)))]) U.heap ∧ va_K (dC, dI) vwCl ([(mA, .int)]) U)) (vp_Si (fun o => o = 1 ∨ o = 2)) 0 0 (fun _ => False) := by
  refine Met.ofW (cc := cX10_wrongPut) (maxL := 4) (ret := (some .int)) (by decide +kernel) rfl ?_
  intro p e s m args below meth c s₁ B hml hv
  obtain ⟨rfl, hP, hK⟩ := hv
  have hx := B.exec
  have hb := B.bytes
  have hr := B.returns
  have hts := atoms_spec (ws := mwX10_wrongPut) B.pre
  have hown : s.vm.findClass RX10 = some m.cls := findClass_of_methodNamed B.named
  have hlocks := B.notSynchronized
  have hP : va_P (dC, dI) vwCl [(y, .inr (10, mF z a0 a1 a2 a3 a4 a5 a6 a7 a8 a9 a10)), (z 0, .inl (mA, 101660, .inl (fun _ => 0)))] s.heap := hP
  have hK : va_K (dC, dI) vwCl [(mA, .int)] s := hK
  generalize hH : s.heap = H at hP ⊢
  have hl := lv_entry ([.ref y, .int i0, .int i1, .int i2]) (n := 4) (Nat.le_of_ble_eq_true rfl)
  rw [lg_entry_eq]
  generalize (lg_sl ([.ref y, .int i0, .int i1, .int i2]) ++ List.replicate (4 - (lg_sl ([.ref y, .int i0, .int i1, .int i2])).length) Slot.unset).toArray = ls at hl ⊢
  have hl : lv_has ls 4 [(0, .ref y), (1, .int i0), (2, .int i1), (3, .int i2)] := hl
  refine lv_iload_n hx hb dX10_wrongPut_0 rfl (lv_at hl 2 rfl) ?_
  refine lv_if_lt (tgt := 14) hx hb dX10_wrongPut_1 (by decide) (fun k_1 => ?_) (fun k_1 => ?_)
  · refine lv_iconst (v := 1) hx hb dX10_wrongPut_14 (by decide) ?_
    exact W.iret hx hb hr (fun t ht hW => ⟨_, rfl, Or.inl rfl, ht.trans hH.symm⟩) t_nil dX10_wrongPut_15
  · refine lv_iload_n hx hb dX10_wrongPut_4 rfl (lv_at hl 3 rfl) ?_
    refine lv_iconst (v := 0) hx hb dX10_wrongPut_5 (by decide) ?_
    refine lv_bipush (v := 25) hx hb dX10_wrongPut_6 (by decide) ?_
    refine vp_callSi (W.runS (As := [.int i2, .int 0, .int 25]) (rest := []) ⟨hx, hb, hml, hown, hts⟩ (m_isFrom l dC dI i2 0 25) (va_cwS 3 hts mg_X10_wrongPut_X10_isFrom_200 rfl rfl rfl (by decide +kernel) ⟨Nat.le_of_ble_eq_true rfl, Nat.le_of_ble_eq_true rfl⟩) ⟨fun a U g mk q => ⟨q.1, trivial⟩, fun U hU hW => ⟨rfl, trivial⟩⟩ rfl rfl hl.1 rfl (lv_room (Nat.le_of_ble_eq_true rfl)) dX10_wrongPut_8 ⟨Nat.le_of_ble_eq_true rfl, Nat.le_of_ble_eq_true rfl⟩) (fun r_3 hw => ?_)
    rcases hw with ⟨rfl, hF1, hF2⟩ | ⟨rfl, hF3⟩
    · refine lv_if_ne (tgt := 16) hx hb dX10_wrongPut_11 (by decide) (fun k_4 => ?_) (fun k_4 => absurd k_4 (by decide))
      refine lv_aload_n hx hb dX10_wrongPut_16 rfl (lv_at hl 0 rfl) ?_
      refine lv_iload_n hx hb dX10_wrongPut_17 rfl (lv_at hl 1 rfl) ?_
      have hPc := hP.sub (ws' := [(y, .inr (10, mF z a0 a1 a2 a3 a4 a5 a6 a7 a8 a9 a10)), (z 0, .inl (mA, 101660, .inl (fun _ => 0)))]) [0, 1] rfl
      have hKc := hK.sub (tys' := [(mA, .int)]) [0] rfl
      refine vp_callSi (W.runV (As := [.int i0]) (rest := []) ⟨hx, hb, hml, hown, hts⟩ (m_isDoc l dC dI y z a0 a1 a2 a3 a4 a5 a6 a7 a8 a9 a10 mA i0) (cwV 1 hts mg_X10_wrongPut_X10_isDoc_451 rfl rfl rfl (by decide +kernel) ⟨Nat.le_of_ble_eq_true rfl, Nat.le_of_ble_eq_true rfl⟩) ⟨fun a U g mk q => by obtain ⟨q0, qP, qK⟩ := q; exact ⟨q0, qP, va_K.moved (u := U) (U := U.calling g mk a) (Vm.Alike.refl U.vm) qK⟩, va_recv hKc hPc (ci := 10) (q0 := 0) rfl rfl, fun U hU hW => ⟨rfl, by rw [hU]; exact hPc, va_K.moved hW.alike hKc⟩⟩ rfl rfl hl.1 rfl (lv_room (Nat.le_of_ble_eq_true rfl)) dX10_wrongPut_18 ⟨Nat.le_of_ble_eq_true rfl, Nat.le_of_ble_eq_true rfl⟩) (fun r_6 hw => ?_)
      subst hw
      refine lv_if_ne (tgt := 28) hx hb dX10_wrongPut_21 (by decide) (fun k_7 => absurd (by decide) k_7) (fun k_7 => ?_)
      refine lv_iconst (v := 2) hx hb dX10_wrongPut_24 (by decide) ?_
      refine lv_goto (tgt := 42) hx hb dX10_wrongPut_25 (by decide) ?_
      exact W.iret hx hb hr (fun t ht hW => ⟨_, rfl, Or.inr rfl, ht.trans hH.symm⟩) t_nil dX10_wrongPut_42
    · refine lv_if_ne (tgt := 16) hx hb dX10_wrongPut_11 (by decide) (fun k_8 => absurd (by decide) k_8) (fun k_8 => ?_)
      refine lv_iconst (v := 1) hx hb dX10_wrongPut_14 (by decide) ?_
      exact W.iret hx hb hr (fun t ht hW => ⟨_, rfl, Or.inl rfl, ht.trans hH.symm⟩) t_nil dX10_wrongPut_15
theorem dX10_byteAt_0 : decode cX10_byteAt 0 = .ok (.iload_n 1, 1) := by decide +kernel
theorem dX10_byteAt_1 : decode cX10_byteAt 1 = .ok (.aload_n 0, 1) := by decide +kernel
theorem dX10_byteAt_2 : decode cX10_byteAt 2 = .ok (.getfield 114, 3) := by decide +kernel
theorem dX10_byteAt_5 : decode cX10_byteAt 5 = .ok (.if_icmp .ge 16, 3) := by decide +kernel
theorem dX10_byteAt_21 : decode cX10_byteAt 21 = .ok (.iconst (-1), 1) := by decide +kernel
theorem dX10_byteAt_22 : decode cX10_byteAt 22 = .ok (.ireturn, 1) := by decide +kernel
def mwX10_byteAt : List Cond := .code yX10_byteAt cX10_byteAt 2 (some .int) :: ([.fieldLink RX10 114 "PatternGateModel" "size" "I"] ++ wsX100)
theorem fin_X10_byteAt_X10 : ∀ w ∈ wsX100, w ∈ mwX10_byteAt := fun w h => List.mem_cons_of_mem _ (List.mem_append_right _ h)
set_option maxHeartbeats 4000000 in
set_option maxRecDepth 100000 in
/-- byteAt(0) of an empty text -/
theorem m_byteAt (l : Launch) (dC : Nat → ClassId) (dI : Nat → Nat → Nat) (y : Nat) (z : Nat → Nat) (a0 a1 a2 a3 a5 a6 a7 a8 a9 a10 : Int32) : Met l yX10_byteAt mwX10_byteAt ({ frames := 0, cells := 0, slots := 0, locals := 0 }) (va_Pc [.ref y, .int 0] (fun U => va_P (dC, dI) vwCl ([(y, .inr (10, mF z a0 a1 a2 a3 0 a5 a6 a7 a8 a9 a10))]) U.heap ∧ va_K (dC, dI) vwCl ([]) U)) (vp_Si (fun o => o = (-1))) 0 0 (fun _ => False) := by
  refine Met.ofW (cc := cX10_byteAt) (maxL := 2) (ret := (some .int)) (by decide +kernel) rfl ?_
  intro p e s m args below meth c s₁ B hml hv
  obtain ⟨rfl, hP, hK⟩ := hv
  have hx := B.exec
  have hb := B.bytes
  have hr := B.returns
  have hts := atoms_spec (ws := mwX10_byteAt) B.pre
  have hown : s.vm.findClass RX10 = some m.cls := findClass_of_methodNamed B.named
  have hlocks := B.notSynchronized
  have hP : va_P (dC, dI) vwCl [(y, .inr (10, mF z a0 a1 a2 a3 0 a5 a6 a7 a8 a9 a10))] s.heap := hP
  have hK : va_K (dC, dI) vwCl [] s := hK
  generalize hH : s.heap = H at hP ⊢
  have hl := lv_entry ([.ref y, .int 0]) (n := 2) (Nat.le_of_ble_eq_true rfl)
  rw [lg_entry_eq]
  generalize (lg_sl ([.ref y, .int 0]) ++ List.replicate (2 - (lg_sl ([.ref y, .int 0])).length) Slot.unset).toArray = ls at hl ⊢
  have hl : lv_has ls 2 [(0, .ref y), (1, .int 0)] := hl
  refine lv_iload_n hx hb dX10_byteAt_0 rfl (lv_at hl 1 rfl) ?_
  refine lv_aload_n hx hb dX10_byteAt_1 rfl (lv_at hl 0 rfl) ?_
  refine va_get (D := (dC, dI)) (ci := 10) (v := .int 0) (C := RX10) (T := TX10) (N := 48) hx hb hts fin_X10_byteAt_X10 hown hK hP 0 rfl rfl 7 (by decide) (hts (.fieldLink RX10 114 "PatternGateModel" "size" "I") (List.mem_of_getElem? (i := 1) (by decide +kernel))) (fun _ h9 => h9) rfl dX10_byteAt_2 ?_
  refine lv_icmp_ge (tgt := 21) hx hb dX10_byteAt_5 (by decide) (fun k_1 => ?_) (fun k_1 => absurd (by decide) k_1)
  refine lv_iconst (v := (-1)) hx hb dX10_byteAt_21 (by decide) ?_
  exact W.iret hx hb hr (fun t ht hW => ⟨_, rfl, rfl, ht.trans hH.symm⟩) t_nil dX10_byteAt_22
theorem dX10_copies_0 : decode cX10_copies 0 = .ok (.iconst 0, 1) := by decide +kernel
theorem dX10_copies_1 : decode cX10_copies 1 = .ok (.istore_n 3, 1) := by decide +kernel
theorem dX10_copies_2 : decode cX10_copies 2 = .ok (.iload_n 3, 1) := by decide +kernel
theorem dX10_copies_3 : decode cX10_copies 3 = .ok (.sipush 7820, 3) := by decide +kernel
theorem dX10_copies_6 : decode cX10_copies 6 = .ok (.if_icmp .ge 25, 3) := by decide +kernel
theorem dX10_copies_9 : decode cX10_copies 9 = .ok (.aload_n 0, 1) := by decide +kernel
theorem dX10_copies_10 : decode cX10_copies 10 = .ok (.getfield 8, 3) := by decide +kernel
theorem dX10_copies_13 : decode cX10_copies 13 = .ok (.iload_n 2, 1) := by decide +kernel
theorem dX10_copies_14 : decode cX10_copies 14 = .ok (.iload_n 3, 1) := by decide +kernel
theorem dX10_copies_15 : decode cX10_copies 15 = .ok (.iadd, 1) := by decide +kernel
theorem dX10_copies_16 : decode cX10_copies 16 = .ok (.aload_n 0, 1) := by decide +kernel
theorem dX10_copies_17 : decode cX10_copies 17 = .ok (.getfield 8, 3) := by decide +kernel
theorem dX10_copies_20 : decode cX10_copies 20 = .ok (.iload_n 1, 1) := by decide +kernel
theorem dX10_copies_21 : decode cX10_copies 21 = .ok (.iload_n 3, 1) := by decide +kernel
theorem dX10_copies_22 : decode cX10_copies 22 = .ok (.iadd, 1) := by decide +kernel
theorem dX10_copies_23 : decode cX10_copies 23 = .ok (.iaload, 1) := by decide +kernel
theorem dX10_copies_24 : decode cX10_copies 24 = .ok (.iastore, 1) := by decide +kernel
theorem dX10_copies_25 : decode cX10_copies 25 = .ok (.iinc 3 1, 3) := by decide +kernel
theorem dX10_copies_28 : decode cX10_copies 28 = .ok (.goto (-26), 3) := by decide +kernel
theorem dX10_copies_31 : decode cX10_copies 31 = .ok (.return_, 1) := by decide +kernel
def mwX10_copies : List Cond := .code yX10_copies cX10_copies 4 none :: ([.fieldLink RX10 8 "PatternGateModel" "all" "[I"] ++ wsX100)
theorem fin_X10_copies_X10 : ∀ w ∈ wsX100, w ∈ mwX10_copies := fun w h => List.mem_cons_of_mem _ (List.mem_append_right _ h)
set_option maxHeartbeats 4000000 in
set_option maxRecDepth 100000 in
/-- copies: zeros among zeros -/
theorem m_copies (l : Launch) (dC : Nat → ClassId) (dI : Nat → Nat → Nat) (y : Nat) (z : Nat → Nat) (a0 a1 a2 a3 a4 a5 a6 a7 a8 a9 a10 : Int32) (mA : ClassId) (fr to sz : Nat) (h1 : fr + 7820 ≤ 101660) (h2 : to + 7820 ≤ 101660) : Met l yX10_copies mwX10_copies ({ frames := 0, cells := 0, slots := 0, locals := 0 }) (va_Pc [.ref y, .int (nI fr), .int (nI to)] (fun U => U.heap.size = sz ∧ va_P (dC, dI) vwCl ([(y, .inr (10, mF z a0 a1 a2 a3 a4 a5 a6 a7 a8 a9 a10)), (z 0, .inl (mA, 101660, .inl (fun _ => 0)))]) U.heap ∧ va_K (dC, dI) vwCl ([(mA, .int)]) U ∧ va_D (fun _ => True) ([(y, .inr (10, mF z a0 a1 a2 a3 a4 a5 a6 a7 a8 a9 a10)), (z 0, .inl (mA, 101660, .inl (fun _ => 0)))]))) (va_Qv (fun (_ : Unit) => True) (fun _ t => va_P (dC, dI) vwCl [(y, .inr (10, mF z a0 a1 a2 a3 a4 a5 a6 a7 a8 a9 a10)), (z 0, .inl (mA, 101660, .inl (fun _ => 0)))] t.heap ∧ va_K (dC, dI) vwCl [(mA, .int)] t ∧ va_D (va_A ([(y, .inr (10, mF z a0 a1 a2 a3 a4 a5 a6 a7 a8 a9 a10)), (z 0, .inl (mA, 101660, .inl (fun _ => 0)))]) sz) [(y, .inr (10, mF z a0 a1 a2 a3 a4 a5 a6 a7 a8 a9 a10)), (z 0, .inl (mA, 101660, .inl (fun _ => 0)))]) (va_A ([(y, .inr (10, mF z a0 a1 a2 a3 a4 a5 a6 a7 a8 a9 a10)), (z 0, .inl (mA, 101660, .inl (fun _ => 0)))]) sz)) 0 0 (va_A ([(y, .inr (10, mF z a0 a1 a2 a3 a4 a5 a6 a7 a8 a9 a10)), (z 0, .inl (mA, 101660, .inl (fun _ => 0)))]) sz) := by
  refine Met.ofW (cc := cX10_copies) (maxL := 4) (ret := none) (by decide +kernel) rfl ?_
  intro p e s m args below meth c s₁ B hml hv
  obtain ⟨rfl, hsz, hP, hK, hD0⟩ := hv
  have hx := B.exec
  have hb := B.bytes
  have hr := B.returns
  have hts := atoms_spec (ws := mwX10_copies) B.pre
  have hown : s.vm.findClass RX10 = some m.cls := findClass_of_methodNamed B.named
  have hlocks := B.notSynchronized
  subst hsz
  have hD := hD0.self (sz := s.heap.size)
  generalize hAe : va_A ([(y, .inr (10, mF z a0 a1 a2 a3 a4 a5 a6 a7 a8 a9 a10)), (z 0, .inl (mA, 101660, .inl (fun _ => 0)))]) s.heap.size = A at hD ⊢
  have hA : ∀ q : Nat, s.heap.size ≤ q → A q := fun q h => by rw [← hAe]; exact Or.inr h
  have hP : va_P (dC, dI) vwCl [(y, .inr (10, mF z a0 a1 a2 a3 a4 a5 a6 a7 a8 a9 a10)), (z 0, .inl (mA, 101660, .inl (fun _ => 0)))] s.heap := hP
  have hD : va_D A [(y, .inr (10, mF z a0 a1 a2 a3 a4 a5 a6 a7 a8 a9 a10)), (z 0, .inl (mA, 101660, .inl (fun _ => 0)))] := hD
  have hK : va_K (dC, dI) vwCl [(mA, .int)] s := hK
  generalize hH : s.heap = H at hP ⊢
  have hS : va_S A s.heap H [] := by rw [← hH]; exact va_S.rf
  have hl := lv_entry ([.ref y, .int (nI fr), .int (nI to)]) (n := 4) (Nat.le_of_ble_eq_true rfl)
  rw [lg_entry_eq]
  generalize (lg_sl ([.ref y, .int (nI fr), .int (nI to)]) ++ List.replicate (4 - (lg_sl ([.ref y, .int (nI fr), .int (nI to)])).length) Slot.unset).toArray = ls at hl ⊢
  have hl : lv_has ls 4 [(0, .ref y), (1, .int (nI fr)), (2, .int (nI to))] := hl
  refine lv_iconst (v := 0) hx hb dX10_copies_0 (by decide) ?_
  refine lv_istore_n (lv' := [(3, .int 0), (0, .ref y), (1, .int (nI fr)), (2, .int (nI to))]) hx hb dX10_copies_1 rfl hl (by decide) rfl (fun ls hl => ?_)
  have loop : ∀ (n k : Nat), k + n = 7820 → ∀ (H : Heap) (locs : List Loc) (ls : Array Slot), va_P (dC, dI) vwCl [(y, .inr (10, mF z a0 a1 a2 a3 a4 a5 a6 a7 a8 a9 a10)), (z 0, .inl (mA, 101660, .inl (fun _ => 0)))] H → va_D A [(y, .inr (10, mF z a0 a1 a2 a3 a4 a5 a6 a7 a8 a9 a10)), (z 0, .inl (mA, 101660, .inl (fun _ => 0)))] → va_S A s.heap H locs → lv_has ls 4 [(3, .int (nI k)), (0, .ref y), (1, .int (nI fr)), (2, .int (nI to))] → W p l e (headSpec mwX10_copies ({ frames := 0, cells := 0, slots := 0, locals := 0 })).room s m ([.ref y, .int (nI fr), .int (nI to)]).toArray below meth c H locs 0 0 (MQ below (va_Qv (fun (_ : Unit) => True) (fun _ t => va_P (dC, dI) vwCl [(y, .inr (10, mF z a0 a1 a2 a3 a4 a5 a6 a7 a8 a9 a10)), (z 0, .inl (mA, 101660, .inl (fun _ => 0)))] t.heap ∧ va_K (dC, dI) vwCl [(mA, .int)] t ∧ va_D A [(y, .inr (10, mF z a0 a1 a2 a3 a4 a5 a6 a7 a8 a9 a10)), (z 0, .inl (mA, 101660, .inl (fun _ => 0)))]) A) ([.ref y, .int (nI fr), .int (nI to)]).toArray s 0 0 A) (F0 m 2 ls []) := by
    intro n
    induction n with
    | zero =>
      intro k hk H locs ls hP hD hS hl
      obtain rfl : k = 7820 := by omega
      refine lv_iload_n hx hb dX10_copies_2 rfl (lv_at hl 0 rfl) ?_
      refine lv_sipush (v := 7820) hx hb dX10_copies_3 (by decide) ?_
      refine lv_icmp_ge (tgt := 31) hx hb dX10_copies_6 (by decide) (fun k_1 => ?_) (fun k_1 => absurd (by decide +kernel) k_1)
      have hP9 := hP.sub (ws' := [(y, .inr (10, mF z a0 a1 a2 a3 a4 a5 a6 a7 a8 a9 a10)), (z 0, .inl (mA, 101660, .inl (fun _ => 0)))]) [0, 1] rfl
      have hD9 := hD.sub (ws' := [(y, .inr (10, mF z a0 a1 a2 a3 a4 a5 a6 a7 a8 a9 a10)), (z 0, .inl (mA, 101660, .inl (fun _ => 0)))]) [0, 1] (by decide) rfl
      have hK9 := hK.sub (tys' := [(mA, .int)]) [0] rfl
      exact W.vret hx hb hr (fun t ht hW => ⟨⟨(), rfl, trivial, by rw [ht]; exact hP9, va_K.moved hW.alike hK9, hD9⟩, hS.F ht⟩) hS.2.2 dX10_copies_31
    | succ n ih =>
      intro k hk H locs ls hP hD hS hl
      refine lv_iload_n hx hb dX10_copies_2 rfl (lv_at hl 0 rfl) ?_
      refine lv_sipush (v := 7820) hx hb dX10_copies_3 (by decide) ?_
      refine lv_icmp_ge (tgt := 31) hx hb dX10_copies_6 (by decide) (fun k_2 => absurd k_2 (nI_ge (a := k) (b := 7820) (by omega) (by decide))) (fun k_2 => ?_)
      refine lv_aload_n hx hb dX10_copies_9 rfl (lv_at hl 1 rfl) ?_
      refine va_get (D := (dC, dI)) (ci := 10) (v := .ref (z 0)) (C := RX10) (T := TX10) (N := 48) hx hb hts fin_X10_copies_X10 hown hK hP 0 rfl rfl 0 (by decide) (hts (.fieldLink RX10 8 "PatternGateModel" "all" "[I") (List.mem_of_getElem? (i := 1) (by decide +kernel))) (fun _ h9 => h9) rfl dX10_copies_10 ?_
      refine lv_iload_n hx hb dX10_copies_13 rfl (lv_at hl 3 rfl) ?_
      refine lv_iload_n hx hb dX10_copies_14 rfl (lv_at hl 0 rfl) ?_
      refine lv_iadd hx hb dX10_copies_15 ?_
      refine lv_topi (fun y_3 ey_3 => ?_)
      obtain rfl : y_3 = nI (to + k) := ey_3.trans (nI_add _ _)
      refine lv_aload_n hx hb dX10_copies_16 rfl (lv_at hl 1 rfl) ?_
      refine va_get (D := (dC, dI)) (ci := 10) (v := .ref (z 0)) (C := RX10) (T := TX10) (N := 48) hx hb hts fin_X10_copies_X10 hown hK hP 0 rfl rfl 0 (by decide) (hts (.fieldLink RX10 8 "PatternGateModel" "all" "[I") (List.mem_of_getElem? (i := 1) (by decide +kernel))) (fun _ h9 => h9) rfl dX10_copies_17 ?_
      refine lv_iload_n hx hb dX10_copies_20 rfl (lv_at hl 2 rfl) ?_
      refine lv_iload_n hx hb dX10_copies_21 rfl (lv_at hl 0 rfl) ?_
      refine lv_iadd hx hb dX10_copies_22 ?_
      refine lv_topi (fun y_4 ey_4 => ?_)
      obtain rfl : y_4 = nI (fr + k) := ey_4.trans (nI_add _ _)
      refine va_iald hx hb hK hP 1 0 rfl rfl (i := (nI (fr + k))) (vp_in_nI (n := fr + k) (by omega) (by decide)) dX10_copies_23 ?_
      refine lv_topi (fun y_5 ey_5 => ?_)
      obtain rfl : y_5 = 0 := ey_5.trans (by first | rfl | decide)
      refine va_iast hx hb hK hP hD hS 1 0 rfl rfl (i := (nI (to + k))) (vp_in_nI (n := to + k) (by omega) (by decide)) dX10_copies_24 (fun H locs hP hD hS => ?_)
      rw [zz_i] at hP hD
      have hP : va_P (dC, dI) vwCl [(y, .inr (10, mF z a0 a1 a2 a3 a4 a5 a6 a7 a8 a9 a10)), (z 0, .inl (mA, 101660, .inl (fun _ => 0)))] H := hP
      have hD : va_D A [(y, .inr (10, mF z a0 a1 a2 a3 a4 a5 a6 a7 a8 a9 a10)), (z 0, .inl (mA, 101660, .inl (fun _ => 0)))] := hD
      obtain ⟨y_6, ey_6⟩ : ∃ y : Int32, y = nI k + 1 := ⟨_, rfl⟩
      refine lv_iinc (v := y_6) (lv' := [(3, .int y_6), (0, .ref y), (1, .int (nI fr)), (2, .int (nI to))]) hx hb dX10_copies_25 hl (k := 0) rfl (by rw [ey_6]; rfl) (by decide) rfl (fun ls hl => ?_)
      refine lv_goto (tgt := 2) hx hb dX10_copies_28 (by decide) ?_
      obtain rfl : y_6 = nI (k + 1) := ey_6.trans (nI_1 _)
      exact ih (k + 1) (by omega) _ _ ls hP hD hS (lv_sub hl [0, 1, 2, 3] rfl)
  exact loop 7820 0 rfl _ _ ls hP hD hS (lv_sub hl [0, 1, 2, 3] rfl)

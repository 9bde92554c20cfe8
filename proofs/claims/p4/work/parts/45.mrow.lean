/-- a row came to a set of rows -/
def aR (L : Nat → Nat → Int64) (rm : Nat → Int32) (L' : Nat → Nat → Int64) (rm' : Nat → Int32) (s : Int) (row : Int64) : Prop := (∀ z : Int, 0 ≤ z → z ≠ s → vI rm' z = vI rm z) ∧ (∀ k, k ≠ s.toNat → L' k = L k) ∧ ((vI rm' s = vI rm s ∧ L' = L) ∨ (vI rm' s = vI rm s + 1 ∧ (∀ j : Nat, (j : Int) < vI rm s → L' s.toNat j = L s.toNat j) ∧ L' s.toNat (vI rm s).toNat = row))
/-- a set of at most c rows of at most b letters -/
def sOK (L : Nat → Nat → Int64) (rm : Nat → Int32) (s c b : Int) : Prop := 0 ≤ vI rm s ∧ vI rm s ≤ c ∧ ∀ i : Nat, (i : Int) < vI rm s → ∃ n : Nat, (n : Int) ≤ b ∧ n ≤ 8 ∧ rLen (L s.toNat i) n
theorem sOK.mono {L : Nat → Nat → Int64} {rm : Nat → Int32} {s c b c' b' : Int} (h : sOK L rm s c b) (hc : c ≤ c') (hb : b ≤ b') : sOK L rm s c' b' := by
  obtain ⟨h1, h2, h3⟩ := h
  refine ⟨h1, by omega, fun i hi => ?_⟩
  obtain ⟨n, a1, a2, a3⟩ := h3 i hi
  exact ⟨n, by omega, a2, a3⟩
theorem sOK.congr {L L' : Nat → Nat → Int64} {rm rm' : Nat → Int32} {s c b : Int} (h : sOK L rm s c b) (hL : L' s.toNat = L s.toNat) (hr : vI rm' s = vI rm s) : sOK L' rm' s c b := by
  obtain ⟨h1, h2, h3⟩ := h
  refine ⟨by rw [hr]; exact h1, by rw [hr]; exact h2, fun i hi => ?_⟩
  rw [hL]
  exact h3 i (by rw [← hr]; exact hi)
theorem sOK.zero {L : Nat → Nat → Int64} {rm : Nat → Int32} {s c b : Int} (h : vI rm s = 0) (hc : 0 ≤ c) : sOK L rm s c b := ⟨by omega, by omega, fun i hi => by omega⟩
theorem sOK.add {L L' : Nat → Nat → Int64} {rm rm' : Nat → Int32} {s c b : Int} {row : Int64} {n : Nat} (h : sOK L rm s c b) (ha : aR L rm L' rm' s row) (hn : rLen row n) (h8 : n ≤ 8) (hb : (n : Int) ≤ b) : sOK L' rm' s (c + 1) b := by
  obtain ⟨h1, h2, h3⟩ := h
  rcases ha.2.2 with ⟨a1, a2⟩ | ⟨a1, a2, a3⟩
  · subst a2
    exact ⟨by omega, by omega, fun i hi => h3 i (by omega)⟩
  · refine ⟨by omega, by omega, fun i hi => ?_⟩
    by_cases e : (i : Int) < vI rm s
    · rw [a2 i e]; exact h3 i e
    · have : i = (vI rm s).toNat := by omega
      subst this
      exact ⟨n, hb, h8, by rw [a3]; exact hn⟩
/-- a set becomes another one -/
def cS (L : Nat → Nat → Int64) (rm : Nat → Int32) (L' : Nat → Nat → Int64) (rm' : Nat → Int32) (s t : Int) : Prop := (∀ z : Int, 0 ≤ z → z ≠ t → vI rm' z = vI rm z) ∧ (∀ k, k ≠ t.toNat → L' k = L k) ∧ vI rm' t = vI rm s ∧ ∀ j : Nat, (j : Int) < vI rm s → L' t.toNat j = L s.toNat j
theorem sOK.copy {L L' : Nat → Nat → Int64} {rm rm' : Nat → Int32} {s t c b : Int} (h : sOK L rm s c b) (hc : cS L rm L' rm' s t) : sOK L' rm' t c b := by
  obtain ⟨h1, h2, h3⟩ := h
  obtain ⟨-, -, c1, c2⟩ := hc
  refine ⟨by omega, by omega, fun i hi => ?_⟩
  rw [c2 i (by omega)]
  exact h3 i (by omega)
theorem cs_step {L L' : Nat → Nat → Int64} {f0 : Nat → Int64} {t : Nat} {kk y : Int32} {w : Int64} (e : uF L t (vp_updL (L t) kk.toNatClampNeg w) = L') (hI : ∀ j : Nat, (j : Int) < kk.toInt → L t j = f0 j) (hw : w = f0 kk.toNatClampNeg) (h0 : 0 ≤ kk.toInt) (hy : y.toInt = kk.toInt + 1) : ∀ j : Nat, (j : Int) < y.toInt → L' t j = f0 j := by
  intro j hj
  rw [uF_s e]
  by_cases q : j = kk.toNatClampNeg
  · subst q
    rw [pk_uLs, hw]
  · rw [pk_uLn q]
    rw [clamp_nat] at q
    exact hI j (by omega)
/-- nothing but one set has changed -/
def sFr (L : Nat → Nat → Int64) (rm : Nat → Int32) (L' : Nat → Nat → Int64) (rm' : Nat → Int32) (s : Int) : Prop := (∀ z : Int, 0 ≤ z → z ≠ s → vI rm' z = vI rm z) ∧ ∀ k, k ≠ s.toNat → L' k = L k
theorem sFr.rf {L : Nat → Nat → Int64} {rm : Nat → Int32} {s : Int} : sFr L rm L rm s := ⟨fun _ _ _ => rfl, fun _ _ => rfl⟩
theorem sFr.add {L L1 L2 : Nat → Nat → Int64} {rm r1 r2 : Nat → Int32} {s : Int} {row : Int64} (h : sFr L rm L1 r1 s) (ha : aR L1 r1 L2 r2 s row) : sFr L rm L2 r2 s := ⟨fun z a b => (ha.1 z a b).trans (h.1 z a b), fun k a => (ha.2.1 k a).trans (h.2 k a)⟩
theorem sFr.up {L : Nat → Nat → Int64} {rm r1 : Nat → Int32} {s v : Int} (h : vI r1 s = v ∧ ∀ z : Int, 0 ≤ z → z ≠ s → vI r1 z = vI rm z) : sFr L rm L r1 s := ⟨h.2, fun _ _ => rfl⟩
theorem sFr.ok {L L' : Nat → Nat → Int64} {rm rm' : Nat → Int32} {s t c b : Int} (h : sFr L rm L' rm' s) (ht : 0 ≤ t) (hs : 0 ≤ s) (hne : t ≠ s) (q : sOK L rm t c b) : sOK L' rm' t c b := q.congr (h.2 _ (by omega)) (h.1 t ht hne)
theorem dX10_longOf_0 : decode cX10_longOf 0 = .ok (.lload_n 0, 1) := by decide +kernel
theorem dX10_longOf_1 : decode cX10_longOf 1 = .ok (.bipush 50, 2) := by decide +kernel
theorem dX10_longOf_3 : decode cX10_longOf 3 = .ok (.lshr, 1) := by decide +kernel
theorem dX10_longOf_4 : decode cX10_longOf 4 = .ok (.l2i, 1) := by decide +kernel
theorem dX10_longOf_5 : decode cX10_longOf 5 = .ok (.ireturn, 1) := by decide +kernel
def mwX10_longOfm : List Cond := .code yX10_longOf cX10_longOf 2 (some .int) :: ([])
set_option maxHeartbeats 4000000 in
set_option maxRecDepth 100000 in
theorem m_longOf (l : Launch) (dC : Nat → ClassId) (dI : Nat → Nat → Nat)  (i1 : Int64) : Met l yX10_longOf mwX10_longOfm ({ frames := 0, cells := 0, slots := 0, locals := 0 }) (va_Pc [.long i1] (fun _ => True)) (vp_Si (fun o9 => (∀ n : Nat, n ≤ 10 → rLen i1 n → o9.toInt = (n : Int)))) 0 0 (fun _ => False) := by
  refine Met.ofW (cc := cX10_longOf) (maxL := 2) (ret := (some .int)) (by decide +kernel) rfl ?_
  intro p e s m args below meth c s₁ B hml hv
  obtain ⟨rfl, -⟩ := hv
  have hx := B.exec
  have hb := B.bytes
  have hr := B.returns
  have hts := atoms_spec (ws := mwX10_longOfm) B.pre
  have hown : s.vm.findClass RX10 = some m.cls := findClass_of_methodNamed B.named
  have hlocks := B.notSynchronized
  have hl := lv_entry ([.long i1]) (n := 2) (Nat.le_of_ble_eq_true rfl)
  rw [lg_entry_eq]
  generalize (lg_sl ([.long i1]) ++ List.replicate (2 - (lg_sl ([.long i1])).length) Slot.unset).toArray = ls at hl ⊢
  have hl : lv_has ls 2 [(0, .long i1)] := hl
  refine lv_lload_n hx hb dX10_longOf_0 rfl (lv_at hl 0 rfl) ?_
  refine lv_bipush (v := 50) hx hb dX10_longOf_1 (by decide) ?_
  refine lv_lshr hx hb dX10_longOf_3 rfl ?_
  refine lv_topl (fun w_1 ew_1 => ?_)
  refine lv_l2i hx hb dX10_longOf_4 rfl ?_
  refine lv_topi (fun y_2 ey_2 => ?_)
  have rg_y_2 := i_rng y_2
  exact W.iret hx hb hr (fun t ht hW => ⟨_, rfl, (fun n h1 h2 => rl_long h2 h1 ew_1 ey_2), ht⟩) t_nil dX10_longOf_5
theorem dX10_letterIn_0 : decode cX10_letterIn 0 = .ok (.lload_n 0, 1) := by decide +kernel
theorem dX10_letterIn_1 : decode cX10_letterIn 1 = .ok (.iconst 5, 1) := by decide +kernel
theorem dX10_letterIn_2 : decode cX10_letterIn 2 = .ok (.iload_n 2, 1) := by decide +kernel
theorem dX10_letterIn_3 : decode cX10_letterIn 3 = .ok (.imul, 1) := by decide +kernel
theorem dX10_letterIn_4 : decode cX10_letterIn 4 = .ok (.lshr, 1) := by decide +kernel
theorem dX10_letterIn_5 : decode cX10_letterIn 5 = .ok (.ldc2_w 252, 3) := by decide +kernel
theorem dX10_letterIn_8 : decode cX10_letterIn 8 = .ok (.land, 1) := by decide +kernel
theorem dX10_letterIn_9 : decode cX10_letterIn 9 = .ok (.l2i, 1) := by decide +kernel
theorem dX10_letterIn_10 : decode cX10_letterIn 10 = .ok (.ireturn, 1) := by decide +kernel
def mwX10_letterInm : List Cond := .code yX10_letterIn cX10_letterIn 3 (some .int) :: ([.constantLong RX10 252 (31)])
set_option maxHeartbeats 4000000 in
set_option maxRecDepth 100000 in
theorem m_letterIn (l : Launch) (dC : Nat → ClassId) (dI : Nat → Nat → Nat)  (i2 : Int32) (i1 : Int64) : Met l yX10_letterIn mwX10_letterInm ({ frames := 0, cells := 0, slots := 0, locals := 0 }) (va_Pc [.long i1, .int i2] (fun _ => True)) (vp_Si (fun o9 => (0 ≤ o9.toInt ∧ o9.toInt ≤ 31))) 0 0 (fun _ => False) := by
  refine Met.ofW (cc := cX10_letterIn) (maxL := 3) (ret := (some .int)) (by decide +kernel) rfl ?_
  intro p e s m args below meth c s₁ B hml hv
  obtain ⟨rfl, -⟩ := hv
  have hx := B.exec
  have hb := B.bytes
  have hr := B.returns
  have hts := atoms_spec (ws := mwX10_letterInm) B.pre
  have hown : s.vm.findClass RX10 = some m.cls := findClass_of_methodNamed B.named
  have hlocks := B.notSynchronized
  have hl := lv_entry ([.long i1, .int i2]) (n := 3) (Nat.le_of_ble_eq_true rfl)
  rw [lg_entry_eq]
  generalize (lg_sl ([.long i1, .int i2]) ++ List.replicate (3 - (lg_sl ([.long i1, .int i2])).length) Slot.unset).toArray = ls at hl ⊢
  have hl : lv_has ls 3 [(0, .long i1), (2, .int i2)] := hl
  have rg_i2 := i_rng i2
  refine lv_lload_n hx hb dX10_letterIn_0 rfl (lv_at hl 0 rfl) ?_
  refine lv_iconst (v := 5) hx hb dX10_letterIn_1 (by decide) ?_
  refine lv_iload_n hx hb dX10_letterIn_2 rfl (lv_at hl 1 rfl) ?_
  refine lv_imul hx hb dX10_letterIn_3 ?_
  refine lv_topi (fun y_1 ey_1 => ?_)
  first | have ty_1 := i_mul (a := 5) (b := i2.toInt) (by decide) rfl ey_1 (by omega) (by omega) | skip
  refine lv_lshr hx hb dX10_letterIn_4 rfl ?_
  refine lv_topl (fun w_2 ew_2 => ?_)
  refine lv_ldc2 hx hb hown (hts (.constantLong RX10 252 (31)) (List.mem_of_getElem? (i := 1) (by decide +kernel))) dX10_letterIn_5 ?_
  refine lv_land hx hb dX10_letterIn_8 ?_
  refine lv_topl (fun w_3 ew_3 => ?_)
  refine lv_l2i hx hb dX10_letterIn_9 rfl ?_
  refine lv_topi (fun y_4 ey_4 => ?_)
  have rg_y_4 := i_rng y_4
  exact W.iret hx hb hr (fun t ht hW => ⟨_, rfl, (l_and31 ew_3 ey_4), ht⟩) t_nil dX10_letterIn_10
theorem dX10_with_0 : decode cX10_with 0 = .ok (.lload_n 0, 1) := by decide +kernel
theorem dX10_with_1 : decode cX10_with 1 = .ok (.ldc2_w 254, 3) := by decide +kernel
theorem dX10_with_4 : decode cX10_with 4 = .ok (.ladd, 1) := by decide +kernel
theorem dX10_with_5 : decode cX10_with 5 = .ok (.iload_n 2, 1) := by decide +kernel
theorem dX10_with_6 : decode cX10_with 6 = .ok (.i2l, 1) := by decide +kernel
theorem dX10_with_7 : decode cX10_with 7 = .ok (.iconst 5, 1) := by decide +kernel
theorem dX10_with_8 : decode cX10_with 8 = .ok (.lload_n 0, 1) := by decide +kernel
theorem dX10_with_9 : decode cX10_with 9 = .ok (.invokestatic 256, 3) := by decide +kernel
theorem dX10_with_12 : decode cX10_with 12 = .ok (.imul, 1) := by decide +kernel
theorem dX10_with_13 : decode cX10_with 13 = .ok (.lshl, 1) := by decide +kernel
theorem dX10_with_14 : decode cX10_with 14 = .ok (.ladd, 1) := by decide +kernel
theorem dX10_with_15 : decode cX10_with 15 = .ok (.lreturn, 1) := by decide +kernel
def mwX10_withm : List Cond := .code yX10_with cX10_with 3 (some .long) :: ([.constantLong RX10 254 (1125899906842624), .code yX10_longOf cX10_longOf 2 (some .int), .methodLink RX10 256 yX10_longOf, .static yX10_longOf, .initialized RX10])
set_option maxRecDepth 20000 in
theorem mg_X10_withm_X10_longOf_256 : GoodIn mwX10_withm (va_wsS RX10 256 yX10_longOf mwX10_longOfm) := goodIn_r _ [3, 4, 5, 2] (by decide +kernel) (by decide +kernel)
set_option maxHeartbeats 4000000 in
set_option maxRecDepth 100000 in
theorem m_with (l : Launch) (dC : Nat → ClassId) (dI : Nat → Nat → Nat)  (i2 : Int32) (i1 : Int64) : Met l yX10_with mwX10_withm ({ frames := 1, cells := 0, slots := 0, locals := 60 }) (va_Pc [.long i1, .int i2] (fun _ => True)) (vp_Sl (fun o9 => (∀ n : Nat, n ≤ 9 → 0 ≤ i2.toInt → i2.toInt ≤ 31 → rLen i1 n → rLen o9 (n + 1)))) 0 0 (fun _ => False) := by
  refine Met.ofW (cc := cX10_with) (maxL := 3) (ret := (some .long)) (by decide +kernel) rfl ?_
  intro p e s m args below meth c s₁ B hml hv
  obtain ⟨rfl, -⟩ := hv
  have hx := B.exec
  have hb := B.bytes
  have hr := B.returns
  have hts := atoms_spec (ws := mwX10_withm) B.pre
  have hown : s.vm.findClass RX10 = some m.cls := findClass_of_methodNamed B.named
  have hlocks := B.notSynchronized
  have hl := lv_entry ([.long i1, .int i2]) (n := 3) (Nat.le_of_ble_eq_true rfl)
  rw [lg_entry_eq]
  generalize (lg_sl ([.long i1, .int i2]) ++ List.replicate (3 - (lg_sl ([.long i1, .int i2])).length) Slot.unset).toArray = ls at hl ⊢
  have hl : lv_has ls 3 [(0, .long i1), (2, .int i2)] := hl
  have rg_i2 := i_rng i2
  refine lv_lload_n hx hb dX10_with_0 rfl (lv_at hl 0 rfl) ?_
  refine lv_ldc2 hx hb hown (hts (.constantLong RX10 254 (1125899906842624)) (List.mem_of_getElem? (i := 1) (by decide +kernel))) dX10_with_1 ?_
  refine lv_ladd hx hb dX10_with_4 ?_
  refine lv_topl (fun w_1 ew_1 => ?_)
  refine lv_iload_n hx hb dX10_with_5 rfl (lv_at hl 1 rfl) ?_
  refine lv_i2l hx hb dX10_with_6 rfl ?_
  refine lv_topl (fun w_2 ew_2 => ?_)
  refine lv_iconst (v := 5) hx hb dX10_with_7 (by decide) ?_
  refine lv_lload_n hx hb dX10_with_8 rfl (lv_at hl 0 rfl) ?_
  refine vp_callSi (W.runS (As := [.long i1]) (rest := [.int 5, .long w_2, .long w_1]) ⟨hx, hb, hml, hown, hts⟩ (m_longOf l dC dI  i1 ) (va_cwS 1 hts mg_X10_withm_X10_longOf_256 rfl rfl rfl (by decide +kernel) ⟨Nat.le_of_ble_eq_true rfl, Nat.le_of_ble_eq_true rfl⟩) ⟨fun a U g mk q => ⟨q.1, trivial⟩, fun U hU hW => ⟨rfl, trivial⟩⟩ rfl rfl hl.1 rfl (lv_room (Nat.le_of_ble_eq_true rfl)) dX10_with_9 ⟨Nat.le_of_ble_eq_true rfl, Nat.le_of_ble_eq_true rfl⟩) (fun r_3 hr_3 => ?_)
  have rg_r_3 := i_rng r_3
  refine lv_imul hx hb dX10_with_12 ?_
  refine lv_topi (fun y_4 ey_4 => ?_)
  first | have ty_4 := i_mul (a := 5) (b := r_3.toInt) (by decide) rfl ey_4 (by omega) (by omega) | skip
  refine lv_lshl hx hb dX10_with_13 rfl ?_
  refine lv_topl (fun w_5 ew_5 => ?_)
  refine lv_ladd hx hb dX10_with_14 ?_
  refine lv_topl (fun w_6 ew_6 => ?_)
  exact W.lret hx hb hr (fun t ht hW => ⟨_, rfl, (fun n a b c d => rl_with d a b c (hr_3 n (by omega) d) ey_4 ew_1 (by rw [← ew_2]; exact ew_5) ew_6), ht⟩) t_nil dX10_with_15
theorem dX10_behind_0 : decode cX10_behind 0 = .ok (.lload_n 0, 1) := by decide +kernel
theorem dX10_behind_1 : decode cX10_behind 1 = .ok (.lstore 4, 2) := by decide +kernel
theorem dX10_behind_3 : decode cX10_behind 3 = .ok (.iconst 0, 1) := by decide +kernel
theorem dX10_behind_4 : decode cX10_behind 4 = .ok (.istore 6, 2) := by decide +kernel
theorem dX10_behind_6 : decode cX10_behind 6 = .ok (.iload 6, 2) := by decide +kernel
theorem dX10_behind_8 : decode cX10_behind 8 = .ok (.lload_n 2, 1) := by decide +kernel
theorem dX10_behind_9 : decode cX10_behind 9 = .ok (.invokestatic 256, 3) := by decide +kernel
theorem dX10_behind_12 : decode cX10_behind 12 = .ok (.if_icmp .ge 22, 3) := by decide +kernel
theorem dX10_behind_15 : decode cX10_behind 15 = .ok (.lload 4, 2) := by decide +kernel
theorem dX10_behind_17 : decode cX10_behind 17 = .ok (.lload_n 2, 1) := by decide +kernel
theorem dX10_behind_18 : decode cX10_behind 18 = .ok (.iload 6, 2) := by decide +kernel
theorem dX10_behind_20 : decode cX10_behind 20 = .ok (.invokestatic 260, 3) := by decide +kernel
theorem dX10_behind_23 : decode cX10_behind 23 = .ok (.invokestatic 264, 3) := by decide +kernel
theorem dX10_behind_26 : decode cX10_behind 26 = .ok (.lstore 4, 2) := by decide +kernel
theorem dX10_behind_28 : decode cX10_behind 28 = .ok (.iinc 6 1, 3) := by decide +kernel
theorem dX10_behind_31 : decode cX10_behind 31 = .ok (.goto (-25), 3) := by decide +kernel
theorem dX10_behind_34 : decode cX10_behind 34 = .ok (.lload 4, 2) := by decide +kernel
theorem dX10_behind_36 : decode cX10_behind 36 = .ok (.lreturn, 1) := by decide +kernel
def mwX10_behindm : List Cond := .code yX10_behind cX10_behind 7 (some .long) :: ([.code yX10_longOf cX10_longOf 2 (some .int), .methodLink RX10 256 yX10_longOf, .static yX10_longOf, .initialized RX10, .code yX10_letterIn cX10_letterIn 3 (some .int), .constantLong RX10 252 (31), .methodLink RX10 260 yX10_letterIn, .static yX10_letterIn, .code yX10_with cX10_with 3 (some .long), .constantLong RX10 254 (1125899906842624), .methodLink RX10 264 yX10_with, .static yX10_with])
set_option maxRecDepth 20000 in
theorem mg_X10_behindm_X10_longOf_256 : GoodIn mwX10_behindm (va_wsS RX10 256 yX10_longOf mwX10_longOfm) := goodIn_r _ [2, 3, 4, 1] (by decide +kernel) (by decide +kernel)
set_option maxRecDepth 20000 in
theorem mg_X10_behindm_X10_letterIn_260 : GoodIn mwX10_behindm (va_wsS RX10 260 yX10_letterIn mwX10_letterInm) := goodIn_r _ [7, 8, 4, 5, 6] (by decide +kernel) (by decide +kernel)
set_option maxRecDepth 20000 in
theorem mg_X10_behindm_X10_with_264 : GoodIn mwX10_behindm (va_wsS RX10 264 yX10_with mwX10_withm) := goodIn_r _ [11, 12, 4, 9, 10, 1, 2, 3, 4] (by decide +kernel) (by decide +kernel)
set_option maxHeartbeats 4000000 in
set_option maxRecDepth 100000 in
theorem m_behind (l : Launch) (dC : Nat → ClassId) (dI : Nat → Nat → Nat) (ad : Nat → Nat) (kc : Nat → ClassId) (x0 x1 x2 x3 x4 x5 x6 x7 x8 x9 x10 x11 x12 x13 x14 x15 x16 x17 x18 x19 x20 x21 : Int32) (f0 f1 f2 f3 f4 f5 f6 f7 f8 f9 f10 f11 f12 f13 f14 f15 f16 f17 f18 f19 f20 f21 : Nat → Int32) (fL : Nat → Nat → Int64) (fN : Nat → Nat → Int32) (fP : Nat → Nat → Nat) (fM : Nat → Nat → Int32) (fO : Nat → Nat → Int32) (sz : Nat) (i1 i2 : Int64) (na : Nat) (nb : Nat) (q0 : rLen i1 na) (q1 : rLen i2 nb) (q2 : na + nb ≤ 8) : Met l yX10_behind mwX10_behindm ({ frames := 2, cells := 0, slots := 0, locals := 120 }) (va_Pc [.long i1, .long i2] (fun U => U.heap.size = sz ∧ va_P (dC, dI) vwCl (mW ad kc x0 x1 x2 x3 x4 x5 x6 x7 x8 x9 x10 x11 x12 x13 x14 x15 x16 x17 x18 x19 x20 x21 f0 f1 f2 f3 f4 f5 f6 f7 f8 f9 f10 f11 f12 f13 f14 f15 f16 f17 f18 f19 f20 f21 fL fN fP fM fO) U.heap ∧ va_K (dC, dI) vwCl (mT kc) U ∧ va_D (fun _ => True) (mW ad kc x0 x1 x2 x3 x4 x5 x6 x7 x8 x9 x10 x11 x12 x13 x14 x15 x16 x17 x18 x19 x20 x21 f0 f1 f2 f3 f4 f5 f6 f7 f8 f9 f10 f11 f12 f13 f14 f15 f16 f17 f18 f19 f20 f21 fL fN fP fM fO))) (va_Ql (fun (o9 u9 : Int64) => o9 = u9) (fun (o9 : Int64) t => (rLen o9 (na + nb)) ∧ va_P (dC, dI) vwCl (mW ad kc x0 x1 x2 x3 x4 x5 x6 x7 x8 x9 x10 x11 x12 x13 x14 x15 x16 x17 x18 x19 x20 x21 f0 f1 f2 f3 f4 f5 f6 f7 f8 f9 f10 f11 f12 f13 f14 f15 f16 f17 f18 f19 f20 f21 fL fN fP fM fO) t.heap ∧ va_K (dC, dI) vwCl (mT kc) t ∧ va_D (va_A (mW ad kc x0 x1 x2 x3 x4 x5 x6 x7 x8 x9 x10 x11 x12 x13 x14 x15 x16 x17 x18 x19 x20 x21 f0 f1 f2 f3 f4 f5 f6 f7 f8 f9 f10 f11 f12 f13 f14 f15 f16 f17 f18 f19 f20 f21 fL fN fP fM fO) sz) (mW ad kc x0 x1 x2 x3 x4 x5 x6 x7 x8 x9 x10 x11 x12 x13 x14 x15 x16 x17 x18 x19 x20 x21 f0 f1 f2 f3 f4 f5 f6 f7 f8 f9 f10 f11 f12 f13 f14 f15 f16 f17 f18 f19 f20 f21 fL fN fP fM fO)) (va_A (mW ad kc x0 x1 x2 x3 x4 x5 x6 x7 x8 x9 x10 x11 x12 x13 x14 x15 x16 x17 x18 x19 x20 x21 f0 f1 f2 f3 f4 f5 f6 f7 f8 f9 f10 f11 f12 f13 f14 f15 f16 f17 f18 f19 f20 f21 fL fN fP fM fO) sz)) 0 0 (va_A (mW ad kc x0 x1 x2 x3 x4 x5 x6 x7 x8 x9 x10 x11 x12 x13 x14 x15 x16 x17 x18 x19 x20 x21 f0 f1 f2 f3 f4 f5 f6 f7 f8 f9 f10 f11 f12 f13 f14 f15 f16 f17 f18 f19 f20 f21 fL fN fP fM fO) sz) := by
  refine Met.ofW (cc := cX10_behind) (maxL := 7) (ret := (some .long)) (by decide +kernel) rfl ?_
  intro p e s m args below meth c s₁ B hml hv
  obtain ⟨rfl, hsz, hP, hK, hD0⟩ := hv
  have hx := B.exec
  have hb := B.bytes
  have hr := B.returns
  have hts := atoms_spec (ws := mwX10_behindm) B.pre
  have hown : s.vm.findClass RX10 = some m.cls := findClass_of_methodNamed B.named
  have hlocks := B.notSynchronized
  subst hsz
  have hD := hD0.self (sz := s.heap.size)
  generalize hAe : va_A (mW ad kc x0 x1 x2 x3 x4 x5 x6 x7 x8 x9 x10 x11 x12 x13 x14 x15 x16 x17 x18 x19 x20 x21 f0 f1 f2 f3 f4 f5 f6 f7 f8 f9 f10 f11 f12 f13 f14 f15 f16 f17 f18 f19 f20 f21 fL fN fP fM fO) s.heap.size = A at hD ⊢
  have hA : ∀ q : Nat, s.heap.size ≤ q → A q := fun q h => by rw [← hAe]; exact Or.inr h
  have hP : va_P (dC, dI) vwCl (mW ad kc x0 x1 x2 x3 x4 x5 x6 x7 x8 x9 x10 x11 x12 x13 x14 x15 x16 x17 x18 x19 x20 x21 f0 f1 f2 f3 f4 f5 f6 f7 f8 f9 f10 f11 f12 f13 f14 f15 f16 f17 f18 f19 f20 f21 fL fN fP fM fO) s.heap := hP
  have hD : va_D A (mW ad kc x0 x1 x2 x3 x4 x5 x6 x7 x8 x9 x10 x11 x12 x13 x14 x15 x16 x17 x18 x19 x20 x21 f0 f1 f2 f3 f4 f5 f6 f7 f8 f9 f10 f11 f12 f13 f14 f15 f16 f17 f18 f19 f20 f21 fL fN fP fM fO) := hD
  have hK : va_K (dC, dI) vwCl (mT kc) s := hK
  generalize hH : s.heap = H at hP ⊢
  have hS : va_S A s.heap H [] := by rw [← hH]; exact va_S.rf
  have hl := lv_entry ([.long i1, .long i2]) (n := 7) (Nat.le_of_ble_eq_true rfl)
  rw [lg_entry_eq]
  generalize (lg_sl ([.long i1, .long i2]) ++ List.replicate (7 - (lg_sl ([.long i1, .long i2])).length) Slot.unset).toArray = ls at hl ⊢
  have hl : lv_has ls 7 [(0, .long i1), (2, .long i2)] := hl
  refine lv_lload_n hx hb dX10_behind_0 rfl (lv_at hl 0 rfl) ?_
  refine lv_lstore (lv' := [(4, .long i1), (0, .long i1), (2, .long i2)]) hx hb dX10_behind_1 hl (by decide) rfl (fun ls hl => ?_)
  refine lv_iconst (v := 0) hx hb dX10_behind_3 (by decide) ?_
  refine lv_istore (lv' := [(6, .int 0), (4, .long i1), (0, .long i1), (2, .long i2)]) hx hb dX10_behind_4 hl (by decide) rfl (fun ls hl => ?_)
  have loop6 : ∀ (lm6 : Nat) (kk : Int32) (rr : Int64), (0 ≤ kk.toInt) → (kk.toInt ≤ nb) → (rLen rr (na + kk.toInt.toNat)) → (((nb : Int) - kk.toInt).toNat) < lm6 → ∀ (H : Heap) (locs : List Loc) (ls : Array Slot), va_P (dC, dI) vwCl (mW ad kc x0 x1 x2 x3 x4 x5 x6 x7 x8 x9 x10 x11 x12 x13 x14 x15 x16 x17 x18 x19 x20 x21 f0 f1 f2 f3 f4 f5 f6 f7 f8 f9 f10 f11 f12 f13 f14 f15 f16 f17 f18 f19 f20 f21 fL fN fP fM fO) H → va_D A (mW ad kc x0 x1 x2 x3 x4 x5 x6 x7 x8 x9 x10 x11 x12 x13 x14 x15 x16 x17 x18 x19 x20 x21 f0 f1 f2 f3 f4 f5 f6 f7 f8 f9 f10 f11 f12 f13 f14 f15 f16 f17 f18 f19 f20 f21 fL fN fP fM fO) → va_S A s.heap H locs → lv_has ls 7 [(6, .int kk), (4, .long rr), (0, .long i1), (2, .long i2)] → W p l e (headSpec mwX10_behindm ({ frames := 2, cells := 0, slots := 0, locals := 120 })).room s m ([.long i1, .long i2]).toArray below meth c H locs 0 0 (MQ below (va_Ql (fun (o9 u9 : Int64) => o9 = u9) (fun (o9 : Int64) t => (rLen o9 (na + nb)) ∧ va_P (dC, dI) vwCl (mW ad kc x0 x1 x2 x3 x4 x5 x6 x7 x8 x9 x10 x11 x12 x13 x14 x15 x16 x17 x18 x19 x20 x21 f0 f1 f2 f3 f4 f5 f6 f7 f8 f9 f10 f11 f12 f13 f14 f15 f16 f17 f18 f19 f20 f21 fL fN fP fM fO) t.heap ∧ va_K (dC, dI) vwCl (mT kc) t ∧ va_D A (mW ad kc x0 x1 x2 x3 x4 x5 x6 x7 x8 x9 x10 x11 x12 x13 x14 x15 x16 x17 x18 x19 x20 x21 f0 f1 f2 f3 f4 f5 f6 f7 f8 f9 f10 f11 f12 f13 f14 f15 f16 f17 f18 f19 f20 f21 fL fN fP fM fO)) A) ([.long i1, .long i2]).toArray s 0 0 A) (F0 m 6 ls []) := by
    intro lm6
    induction lm6 with
    | zero => intro kk rr v6_0 v6_1 v6_2 hm6; exact absurd hm6 (Nat.not_lt_zero _)
    | succ lm6 ih6 =>
      intro kk rr v6_0 v6_1 v6_2 hm6 H locs ls hP hD hS hl
      have rg_kk := i_rng kk
      refine lv_iload hx hb dX10_behind_6 (lv_at hl 0 rfl) ?_
      refine lv_lload_n hx hb dX10_behind_8 rfl (lv_at hl 3 rfl) ?_
      refine vp_callSi (W.runS (As := [.long i2]) (rest := [.int kk]) ⟨hx, hb, hml, hown, hts⟩ (m_longOf l dC dI  i2 ) (va_cwS 1 hts mg_X10_behindm_X10_longOf_256 rfl rfl rfl (by decide +kernel) ⟨Nat.le_of_ble_eq_true rfl, Nat.le_of_ble_eq_true rfl⟩) ⟨fun a U g mk q => ⟨q.1, trivial⟩, fun U hU hW => ⟨rfl, trivial⟩⟩ rfl rfl hl.1 rfl (lv_room (Nat.le_of_ble_eq_true rfl)) dX10_behind_9 ⟨Nat.le_of_ble_eq_true rfl, Nat.le_of_ble_eq_true rfl⟩) (fun r_1 hr_1 => ?_)
      have rg_r_1 := i_rng r_1
      have hqr_1 := hr_1 nb (by omega) q1
      refine lv_icmp_ge (tgt := 34) hx hb dX10_behind_12 (by decide) (fun k_2 => ?_) (fun k_2 => ?_)
      · have tk_2 := c_ge (a := kk.toInt) (b := r_1.toInt) rfl rfl k_2
        refine lv_lload hx hb dX10_behind_34 (lv_at hl 1 rfl) ?_
        exact W.lret hx hb hr (fun t ht hW => ⟨⟨_, _, rfl, rfl, (by rw [show na + nb = na + kk.toInt.toNat by omega]; exact v6_2), by rw [ht]; exact hP, va_K.moved hW.alike hK, hD⟩, hS.F ht⟩) hS.2.2 dX10_behind_36
      · have tk_2 := c_nge (a := kk.toInt) (b := r_1.toInt) rfl rfl k_2
        refine lv_lload hx hb dX10_behind_15 (lv_at hl 1 rfl) ?_
        refine lv_lload_n hx hb dX10_behind_17 rfl (lv_at hl 3 rfl) ?_
        refine lv_iload hx hb dX10_behind_18 (lv_at hl 0 rfl) ?_
        refine vp_callSi (W.runS (As := [.long i2, .int kk]) (rest := [.long rr]) ⟨hx, hb, hml, hown, hts⟩ (m_letterIn l dC dI  kk i2 ) (va_cwS 2 hts mg_X10_behindm_X10_letterIn_260 rfl rfl rfl (by decide +kernel) ⟨Nat.le_of_ble_eq_true rfl, Nat.le_of_ble_eq_true rfl⟩) ⟨fun a U g mk q => ⟨q.1, trivial⟩, fun U hU hW => ⟨rfl, trivial⟩⟩ rfl rfl hl.1 rfl (lv_room (Nat.le_of_ble_eq_true rfl)) dX10_behind_20 ⟨Nat.le_of_ble_eq_true rfl, Nat.le_of_ble_eq_true rfl⟩) (fun r_3 hr_3 => ?_)
        have rg_r_3 := i_rng r_3
        refine vp_callSl (W.runS (As := [.long rr, .int r_3]) (rest := []) ⟨hx, hb, hml, hown, hts⟩ (m_with l dC dI  r_3 rr ) (va_cwS 2 hts mg_X10_behindm_X10_with_264 rfl rfl rfl (by decide +kernel) ⟨Nat.le_of_ble_eq_true rfl, Nat.le_of_ble_eq_true rfl⟩) ⟨fun a U g mk q => ⟨q.1, trivial⟩, fun U hU hW => ⟨rfl, trivial⟩⟩ rfl rfl hl.1 rfl (lv_room (Nat.le_of_ble_eq_true rfl)) dX10_behind_23 ⟨Nat.le_of_ble_eq_true rfl, Nat.le_of_ble_eq_true rfl⟩) (fun r_4 hr_4 => ?_)
        refine lv_lstore (lv' := [(4, .long r_4), (6, .int kk), (0, .long i1), (2, .long i2)]) hx hb dX10_behind_26 hl (by decide) rfl (fun ls hl => ?_)
        obtain ⟨y_5, ey_5⟩ : ∃ y : Int32, y = kk + 1 := ⟨_, rfl⟩
        first | have ty_5 := i_add (a := kk.toInt) (b := 1) rfl (by decide) ey_5 (by omega) (by omega) | skip
        refine lv_iinc (v := y_5) (lv' := [(6, .int y_5), (4, .long r_4), (0, .long i1), (2, .long i2)]) hx hb dX10_behind_28 hl (k := 1) rfl (by rw [ey_5]; rfl) (by decide) rfl (fun ls hl => ?_)
        refine lv_goto (tgt := 6) hx hb dX10_behind_31 (by decide) ?_
        exact ih6 y_5 r_4 (by first | omega | assumption | decide) (by first | omega | assumption | decide) (by have h9 := hr_4 (na + kk.toInt.toNat) (by omega) (by omega) (by omega) v6_2; rw [show na + y_5.toInt.toNat = na + kk.toInt.toNat + 1 by omega]; exact h9) (by omega) _ _ ls hP hD hS (lv_sub hl [0, 1, 2, 3] rfl)
  have lit_5 : (0 : Int32).toInt = 0 := by decide
  exact loop6 _ 0 i1 (by first | omega | assumption | decide) (by first | omega | assumption | decide) (by exact q0) (Nat.lt_succ_self _) _ _ ls hP hD hS (lv_sub hl [0, 1, 2, 3] rfl)
theorem dX10_lastTwo_0 : decode cX10_lastTwo 0 = .ok (.lconst 0, 1) := by decide +kernel
theorem dX10_lastTwo_1 : decode cX10_lastTwo 1 = .ok (.lstore_n 2, 1) := by decide +kernel
theorem dX10_lastTwo_2 : decode cX10_lastTwo 2 = .ok (.iconst 0, 1) := by decide +kernel
theorem dX10_lastTwo_3 : decode cX10_lastTwo 3 = .ok (.lload_n 0, 1) := by decide +kernel
theorem dX10_lastTwo_4 : decode cX10_lastTwo 4 = .ok (.invokestatic 256, 3) := by decide +kernel
theorem dX10_lastTwo_7 : decode cX10_lastTwo 7 = .ok (.iconst 2, 1) := by decide +kernel
theorem dX10_lastTwo_8 : decode cX10_lastTwo 8 = .ok (.isub, 1) := by decide +kernel
theorem dX10_lastTwo_9 : decode cX10_lastTwo 9 = .ok (.invokestatic 268, 3) := by decide +kernel
theorem dX10_lastTwo_12 : decode cX10_lastTwo 12 = .ok (.istore 4, 2) := by decide +kernel
theorem dX10_lastTwo_14 : decode cX10_lastTwo 14 = .ok (.iload 4, 2) := by decide +kernel
theorem dX10_lastTwo_16 : decode cX10_lastTwo 16 = .ok (.lload_n 0, 1) := by decide +kernel
theorem dX10_lastTwo_17 : decode cX10_lastTwo 17 = .ok (.invokestatic 256, 3) := by decide +kernel
theorem dX10_lastTwo_20 : decode cX10_lastTwo 20 = .ok (.if_icmp .ge 20, 3) := by decide +kernel
theorem dX10_lastTwo_23 : decode cX10_lastTwo 23 = .ok (.lload_n 2, 1) := by decide +kernel
theorem dX10_lastTwo_24 : decode cX10_lastTwo 24 = .ok (.lload_n 0, 1) := by decide +kernel
theorem dX10_lastTwo_25 : decode cX10_lastTwo 25 = .ok (.iload 4, 2) := by decide +kernel
theorem dX10_lastTwo_27 : decode cX10_lastTwo 27 = .ok (.invokestatic 260, 3) := by decide +kernel
theorem dX10_lastTwo_30 : decode cX10_lastTwo 30 = .ok (.invokestatic 264, 3) := by decide +kernel
theorem dX10_lastTwo_33 : decode cX10_lastTwo 33 = .ok (.lstore_n 2, 1) := by decide +kernel
theorem dX10_lastTwo_34 : decode cX10_lastTwo 34 = .ok (.iinc 4 1, 3) := by decide +kernel
theorem dX10_lastTwo_37 : decode cX10_lastTwo 37 = .ok (.goto (-23), 3) := by decide +kernel
theorem dX10_lastTwo_40 : decode cX10_lastTwo 40 = .ok (.lload_n 2, 1) := by decide +kernel
theorem dX10_lastTwo_41 : decode cX10_lastTwo 41 = .ok (.lreturn, 1) := by decide +kernel
def mwX10_lastTwom : List Cond := .code yX10_lastTwo cX10_lastTwo 5 (some .long) :: ([.code yX10_longOf cX10_longOf 2 (some .int), .methodLink RX10 256 yX10_longOf, .static yX10_longOf, .initialized RX10, .methodLink RX10 268 Lib.Math.max.name, .static Lib.Math.max.name, .initialized "java/lang/Math", .code Lib.Math.max.name Lib.Math.max.code 2 (some .int), .code yX10_letterIn cX10_letterIn 3 (some .int), .constantLong RX10 252 (31), .methodLink RX10 260 yX10_letterIn, .static yX10_letterIn, .code yX10_with cX10_with 3 (some .long), .constantLong RX10 254 (1125899906842624), .methodLink RX10 264 yX10_with, .static yX10_with])
set_option maxRecDepth 20000 in
theorem mg_X10_lastTwom_X10_longOf_256 : GoodIn mwX10_lastTwom (va_wsS RX10 256 yX10_longOf mwX10_longOfm) := goodIn_r _ [2, 3, 4, 1] (by decide +kernel) (by decide +kernel)
set_option maxRecDepth 20000 in
theorem mg_X10_lastTwom_X10_letterIn_260 : GoodIn mwX10_lastTwom (va_wsS RX10 260 yX10_letterIn mwX10_letterInm) := goodIn_r _ [11, 12, 4, 9, 10] (by decide +kernel) (by decide +kernel)
set_option maxRecDepth 20000 in
theorem mg_X10_lastTwom_X10_with_264 : GoodIn mwX10_lastTwom (va_wsS RX10 264 yX10_with mwX10_withm) := goodIn_r _ [15, 16, 4, 13, 14, 1, 2, 3, 4] (by decide +kernel) (by decide +kernel)
set_option maxHeartbeats 4000000 in
set_option maxRecDepth 100000 in
theorem m_lastTwo (l : Launch) (dC : Nat → ClassId) (dI : Nat → Nat → Nat) (ad : Nat → Nat) (kc : Nat → ClassId) (x0 x1 x2 x3 x4 x5 x6 x7 x8 x9 x10 x11 x12 x13 x14 x15 x16 x17 x18 x19 x20 x21 : Int32) (f0 f1 f2 f3 f4 f5 f6 f7 f8 f9 f10 f11 f12 f13 f14 f15 f16 f17 f18 f19 f20 f21 : Nat → Int32) (fL : Nat → Nat → Int64) (fN : Nat → Nat → Int32) (fP : Nat → Nat → Nat) (fM : Nat → Nat → Int32) (fO : Nat → Nat → Int32) (sz : Nat) (i1 : Int64) (na : Nat) (q0 : rLen i1 na) (q1 : na ≤ 8) : Met l yX10_lastTwo mwX10_lastTwom ({ frames := 2, cells := 0, slots := 0, locals := 120 }) (va_Pc [.long i1] (fun U => U.heap.size = sz ∧ va_P (dC, dI) vwCl (mW ad kc x0 x1 x2 x3 x4 x5 x6 x7 x8 x9 x10 x11 x12 x13 x14 x15 x16 x17 x18 x19 x20 x21 f0 f1 f2 f3 f4 f5 f6 f7 f8 f9 f10 f11 f12 f13 f14 f15 f16 f17 f18 f19 f20 f21 fL fN fP fM fO) U.heap ∧ va_K (dC, dI) vwCl (mT kc) U ∧ va_D (fun _ => True) (mW ad kc x0 x1 x2 x3 x4 x5 x6 x7 x8 x9 x10 x11 x12 x13 x14 x15 x16 x17 x18 x19 x20 x21 f0 f1 f2 f3 f4 f5 f6 f7 f8 f9 f10 f11 f12 f13 f14 f15 f16 f17 f18 f19 f20 f21 fL fN fP fM fO))) (va_Ql (fun (o9 u9 : Int64) => o9 = u9) (fun (o9 : Int64) t => (∃ c9 : Nat, c9 ≤ 2 ∧ c9 ≤ na ∧ rLen o9 c9) ∧ va_P (dC, dI) vwCl (mW ad kc x0 x1 x2 x3 x4 x5 x6 x7 x8 x9 x10 x11 x12 x13 x14 x15 x16 x17 x18 x19 x20 x21 f0 f1 f2 f3 f4 f5 f6 f7 f8 f9 f10 f11 f12 f13 f14 f15 f16 f17 f18 f19 f20 f21 fL fN fP fM fO) t.heap ∧ va_K (dC, dI) vwCl (mT kc) t ∧ va_D (va_A (mW ad kc x0 x1 x2 x3 x4 x5 x6 x7 x8 x9 x10 x11 x12 x13 x14 x15 x16 x17 x18 x19 x20 x21 f0 f1 f2 f3 f4 f5 f6 f7 f8 f9 f10 f11 f12 f13 f14 f15 f16 f17 f18 f19 f20 f21 fL fN fP fM fO) sz) (mW ad kc x0 x1 x2 x3 x4 x5 x6 x7 x8 x9 x10 x11 x12 x13 x14 x15 x16 x17 x18 x19 x20 x21 f0 f1 f2 f3 f4 f5 f6 f7 f8 f9 f10 f11 f12 f13 f14 f15 f16 f17 f18 f19 f20 f21 fL fN fP fM fO)) (va_A (mW ad kc x0 x1 x2 x3 x4 x5 x6 x7 x8 x9 x10 x11 x12 x13 x14 x15 x16 x17 x18 x19 x20 x21 f0 f1 f2 f3 f4 f5 f6 f7 f8 f9 f10 f11 f12 f13 f14 f15 f16 f17 f18 f19 f20 f21 fL fN fP fM fO) sz)) 0 0 (va_A (mW ad kc x0 x1 x2 x3 x4 x5 x6 x7 x8 x9 x10 x11 x12 x13 x14 x15 x16 x17 x18 x19 x20 x21 f0 f1 f2 f3 f4 f5 f6 f7 f8 f9 f10 f11 f12 f13 f14 f15 f16 f17 f18 f19 f20 f21 fL fN fP fM fO) sz) := by
  refine Met.ofW (cc := cX10_lastTwo) (maxL := 5) (ret := (some .long)) (by decide +kernel) rfl ?_
  intro p e s m args below meth c s₁ B hml hv
  obtain ⟨rfl, hsz, hP, hK, hD0⟩ := hv
  have hx := B.exec
  have hb := B.bytes
  have hr := B.returns
  have hts := atoms_spec (ws := mwX10_lastTwom) B.pre
  have hown : s.vm.findClass RX10 = some m.cls := findClass_of_methodNamed B.named
  have hlocks := B.notSynchronized
  subst hsz
  have hD := hD0.self (sz := s.heap.size)
  generalize hAe : va_A (mW ad kc x0 x1 x2 x3 x4 x5 x6 x7 x8 x9 x10 x11 x12 x13 x14 x15 x16 x17 x18 x19 x20 x21 f0 f1 f2 f3 f4 f5 f6 f7 f8 f9 f10 f11 f12 f13 f14 f15 f16 f17 f18 f19 f20 f21 fL fN fP fM fO) s.heap.size = A at hD ⊢
  have hA : ∀ q : Nat, s.heap.size ≤ q → A q := fun q h => by rw [← hAe]; exact Or.inr h
  have hP : va_P (dC, dI) vwCl (mW ad kc x0 x1 x2 x3 x4 x5 x6 x7 x8 x9 x10 x11 x12 x13 x14 x15 x16 x17 x18 x19 x20 x21 f0 f1 f2 f3 f4 f5 f6 f7 f8 f9 f10 f11 f12 f13 f14 f15 f16 f17 f18 f19 f20 f21 fL fN fP fM fO) s.heap := hP
  have hD : va_D A (mW ad kc x0 x1 x2 x3 x4 x5 x6 x7 x8 x9 x10 x11 x12 x13 x14 x15 x16 x17 x18 x19 x20 x21 f0 f1 f2 f3 f4 f5 f6 f7 f8 f9 f10 f11 f12 f13 f14 f15 f16 f17 f18 f19 f20 f21 fL fN fP fM fO) := hD
  have hK : va_K (dC, dI) vwCl (mT kc) s := hK
  generalize hH : s.heap = H at hP ⊢
  have hS : va_S A s.heap H [] := by rw [← hH]; exact va_S.rf
  have hl := lv_entry ([.long i1]) (n := 5) (Nat.le_of_ble_eq_true rfl)
  rw [lg_entry_eq]
  generalize (lg_sl ([.long i1]) ++ List.replicate (5 - (lg_sl ([.long i1])).length) Slot.unset).toArray = ls at hl ⊢
  have hl : lv_has ls 5 [(0, .long i1)] := hl
  refine lv_lconst (v := 0) hx hb dX10_lastTwo_0 (by decide) ?_
  refine lv_lstore_n (lv' := [(2, .long 0), (0, .long i1)]) hx hb dX10_lastTwo_1 rfl hl (by decide) rfl (fun ls hl => ?_)
  refine lv_iconst (v := 0) hx hb dX10_lastTwo_2 (by decide) ?_
  refine lv_lload_n hx hb dX10_lastTwo_3 rfl (lv_at hl 1 rfl) ?_
  refine vp_callSi (W.runS (As := [.long i1]) (rest := [.int 0]) ⟨hx, hb, hml, hown, hts⟩ (m_longOf l dC dI  i1 ) (va_cwS 1 hts mg_X10_lastTwom_X10_longOf_256 rfl rfl rfl (by decide +kernel) ⟨Nat.le_of_ble_eq_true rfl, Nat.le_of_ble_eq_true rfl⟩) ⟨fun a U g mk q => ⟨q.1, trivial⟩, fun U hU hW => ⟨rfl, trivial⟩⟩ rfl rfl hl.1 rfl (lv_room (Nat.le_of_ble_eq_true rfl)) dX10_lastTwo_4 ⟨Nat.le_of_ble_eq_true rfl, Nat.le_of_ble_eq_true rfl⟩) (fun r_1 hr_1 => ?_)
  have rg_r_1 := i_rng r_1
  have hqr_1 := hr_1 na (by omega) q0
  refine lv_iconst (v := 2) hx hb dX10_lastTwo_7 (by decide) ?_
  refine lv_isub hx hb dX10_lastTwo_8 ?_
  refine lv_topi (fun y_2 ey_2 => ?_)
  first | have ty_2 := i_sub (a := r_1.toInt) (b := 2) rfl (by decide) ey_2 (by omega) (by omega) | skip
  refine va_mmax hx hb (hml.trans hl.1.symm) hown (hts (.methodLink RX10 268 Lib.Math.max.name) (List.mem_of_getElem? (i := 5) (by decide +kernel))) (hts (.static Lib.Math.max.name) (List.mem_of_getElem? (i := 6) (by decide +kernel))) (hts (.initialized "java/lang/Math") (List.mem_of_getElem? (i := 7) (by decide +kernel))) (hts (.code Lib.Math.max.name Lib.Math.max.code 2 (some .int)) (List.mem_of_getElem? (i := 8) (by decide +kernel))) (Nat.le_of_ble_eq_true rfl) (Nat.le_of_ble_eq_true rfl) (Nat.le_of_ble_eq_true rfl) (Nat.le_of_ble_eq_true rfl) dX10_lastTwo_9 ?_
  refine lv_topi (fun y_3 ey_3 => ?_)
  have ty_3 := i_max (a := 0) (b := y_2.toInt) (by decide) rfl ey_3
  refine lv_istore (lv' := [(4, .int y_3), (2, .long 0), (0, .long i1)]) hx hb dX10_lastTwo_12 hl (by decide) rfl (fun ls hl => ?_)
  have loop14 : ∀ (lm14 : Nat) (kk : Int32) (rr : Int64), (0 ≤ kk.toInt) → (kk.toInt ≤ na) → (∃ c9 : Nat, (c9 : Int) ≤ kk.toInt ∧ (c9 : Int) + na ≤ kk.toInt + 2 ∧ rLen rr c9) → (((na : Int) - kk.toInt).toNat) < lm14 → ∀ (H : Heap) (locs : List Loc) (ls : Array Slot), va_P (dC, dI) vwCl (mW ad kc x0 x1 x2 x3 x4 x5 x6 x7 x8 x9 x10 x11 x12 x13 x14 x15 x16 x17 x18 x19 x20 x21 f0 f1 f2 f3 f4 f5 f6 f7 f8 f9 f10 f11 f12 f13 f14 f15 f16 f17 f18 f19 f20 f21 fL fN fP fM fO) H → va_D A (mW ad kc x0 x1 x2 x3 x4 x5 x6 x7 x8 x9 x10 x11 x12 x13 x14 x15 x16 x17 x18 x19 x20 x21 f0 f1 f2 f3 f4 f5 f6 f7 f8 f9 f10 f11 f12 f13 f14 f15 f16 f17 f18 f19 f20 f21 fL fN fP fM fO) → va_S A s.heap H locs → lv_has ls 5 [(4, .int kk), (2, .long rr), (0, .long i1)] → W p l e (headSpec mwX10_lastTwom ({ frames := 2, cells := 0, slots := 0, locals := 120 })).room s m ([.long i1]).toArray below meth c H locs 0 0 (MQ below (va_Ql (fun (o9 u9 : Int64) => o9 = u9) (fun (o9 : Int64) t => (∃ c9 : Nat, c9 ≤ 2 ∧ c9 ≤ na ∧ rLen o9 c9) ∧ va_P (dC, dI) vwCl (mW ad kc x0 x1 x2 x3 x4 x5 x6 x7 x8 x9 x10 x11 x12 x13 x14 x15 x16 x17 x18 x19 x20 x21 f0 f1 f2 f3 f4 f5 f6 f7 f8 f9 f10 f11 f12 f13 f14 f15 f16 f17 f18 f19 f20 f21 fL fN fP fM fO) t.heap ∧ va_K (dC, dI) vwCl (mT kc) t ∧ va_D A (mW ad kc x0 x1 x2 x3 x4 x5 x6 x7 x8 x9 x10 x11 x12 x13 x14 x15 x16 x17 x18 x19 x20 x21 f0 f1 f2 f3 f4 f5 f6 f7 f8 f9 f10 f11 f12 f13 f14 f15 f16 f17 f18 f19 f20 f21 fL fN fP fM fO)) A) ([.long i1]).toArray s 0 0 A) (F0 m 14 ls []) := by
    intro lm14
    induction lm14 with
    | zero => intro kk rr v14_0 v14_1 v14_2 hm14; exact absurd hm14 (Nat.not_lt_zero _)
    | succ lm14 ih14 =>
      intro kk rr v14_0 v14_1 v14_2 hm14 H locs ls hP hD hS hl
      have rg_kk := i_rng kk
      refine lv_iload hx hb dX10_lastTwo_14 (lv_at hl 0 rfl) ?_
      refine lv_lload_n hx hb dX10_lastTwo_16 rfl (lv_at hl 2 rfl) ?_
      refine vp_callSi (W.runS (As := [.long i1]) (rest := [.int kk]) ⟨hx, hb, hml, hown, hts⟩ (m_longOf l dC dI  i1 ) (va_cwS 1 hts mg_X10_lastTwom_X10_longOf_256 rfl rfl rfl (by decide +kernel) ⟨Nat.le_of_ble_eq_true rfl, Nat.le_of_ble_eq_true rfl⟩) ⟨fun a U g mk q => ⟨q.1, trivial⟩, fun U hU hW => ⟨rfl, trivial⟩⟩ rfl rfl hl.1 rfl (lv_room (Nat.le_of_ble_eq_true rfl)) dX10_lastTwo_17 ⟨Nat.le_of_ble_eq_true rfl, Nat.le_of_ble_eq_true rfl⟩) (fun r_4 hr_4 => ?_)
      have rg_r_4 := i_rng r_4
      have hqr_4 := hr_4 na (by omega) q0
      refine lv_icmp_ge (tgt := 40) hx hb dX10_lastTwo_20 (by decide) (fun k_5 => ?_) (fun k_5 => ?_)
      · have tk_5 := c_ge (a := kk.toInt) (b := r_4.toInt) rfl rfl k_5
        refine lv_lload_n hx hb dX10_lastTwo_40 rfl (lv_at hl 1 rfl) ?_
        exact W.lret hx hb hr (fun t ht hW => ⟨⟨_, _, rfl, rfl, (by obtain ⟨c9, e1, e2, e3⟩ := v14_2; exact ⟨c9, by omega, by omega, e3⟩), by rw [ht]; exact hP, va_K.moved hW.alike hK, hD⟩, hS.F ht⟩) hS.2.2 dX10_lastTwo_41
      · have tk_5 := c_nge (a := kk.toInt) (b := r_4.toInt) rfl rfl k_5
        refine lv_lload_n hx hb dX10_lastTwo_23 rfl (lv_at hl 1 rfl) ?_
        refine lv_lload_n hx hb dX10_lastTwo_24 rfl (lv_at hl 2 rfl) ?_
        refine lv_iload hx hb dX10_lastTwo_25 (lv_at hl 0 rfl) ?_
        refine vp_callSi (W.runS (As := [.long i1, .int kk]) (rest := [.long rr]) ⟨hx, hb, hml, hown, hts⟩ (m_letterIn l dC dI  kk i1 ) (va_cwS 2 hts mg_X10_lastTwom_X10_letterIn_260 rfl rfl rfl (by decide +kernel) ⟨Nat.le_of_ble_eq_true rfl, Nat.le_of_ble_eq_true rfl⟩) ⟨fun a U g mk q => ⟨q.1, trivial⟩, fun U hU hW => ⟨rfl, trivial⟩⟩ rfl rfl hl.1 rfl (lv_room (Nat.le_of_ble_eq_true rfl)) dX10_lastTwo_27 ⟨Nat.le_of_ble_eq_true rfl, Nat.le_of_ble_eq_true rfl⟩) (fun r_6 hr_6 => ?_)
        have rg_r_6 := i_rng r_6
        refine vp_callSl (W.runS (As := [.long rr, .int r_6]) (rest := []) ⟨hx, hb, hml, hown, hts⟩ (m_with l dC dI  r_6 rr ) (va_cwS 2 hts mg_X10_lastTwom_X10_with_264 rfl rfl rfl (by decide +kernel) ⟨Nat.le_of_ble_eq_true rfl, Nat.le_of_ble_eq_true rfl⟩) ⟨fun a U g mk q => ⟨q.1, trivial⟩, fun U hU hW => ⟨rfl, trivial⟩⟩ rfl rfl hl.1 rfl (lv_room (Nat.le_of_ble_eq_true rfl)) dX10_lastTwo_30 ⟨Nat.le_of_ble_eq_true rfl, Nat.le_of_ble_eq_true rfl⟩) (fun r_7 hr_7 => ?_)
        refine lv_lstore_n (lv' := [(2, .long r_7), (4, .int kk), (0, .long i1)]) hx hb dX10_lastTwo_33 rfl hl (by decide) rfl (fun ls hl => ?_)
        obtain ⟨y_8, ey_8⟩ : ∃ y : Int32, y = kk + 1 := ⟨_, rfl⟩
        first | have ty_8 := i_add (a := kk.toInt) (b := 1) rfl (by decide) ey_8 (by omega) (by omega) | skip
        refine lv_iinc (v := y_8) (lv' := [(4, .int y_8), (2, .long r_7), (0, .long i1)]) hx hb dX10_lastTwo_34 hl (k := 1) rfl (by rw [ey_8]; rfl) (by decide) rfl (fun ls hl => ?_)
        refine lv_goto (tgt := 14) hx hb dX10_lastTwo_37 (by decide) ?_
        exact ih14 y_8 r_7 (by first | omega | assumption | decide) (by first | omega | assumption | decide) (by obtain ⟨c9, e1, e2, e3⟩ := v14_2; exact ⟨c9 + 1, by omega, by omega, hr_7 c9 (by omega) (by omega) (by omega) e3⟩) (by omega) _ _ ls hP hD hS (lv_sub hl [0, 1, 2] rfl)
  exact loop14 _ y_3 0 (by first | omega | assumption | decide) (by first | omega | assumption | decide) ⟨0, by omega, by omega, rLen_0⟩ (Nat.lt_succ_self _) _ _ ls hP hD hS (lv_sub hl [0, 1, 2] rfl)
theorem dX10_addsRow_0 : decode cX10_addsRow 0 = .ok (.iconst 0, 1) := by decide +kernel
theorem dX10_addsRow_1 : decode cX10_addsRow 1 = .ok (.istore 4, 2) := by decide +kernel
theorem dX10_addsRow_3 : decode cX10_addsRow 3 = .ok (.iload 4, 2) := by decide +kernel
theorem dX10_addsRow_5 : decode cX10_addsRow 5 = .ok (.aload_n 0, 1) := by decide +kernel
theorem dX10_addsRow_6 : decode cX10_addsRow 6 = .ok (.getfield 51, 3) := by decide +kernel
theorem dX10_addsRow_9 : decode cX10_addsRow 9 = .ok (.iload_n 1, 1) := by decide +kernel
theorem dX10_addsRow_10 : decode cX10_addsRow 10 = .ok (.iaload, 1) := by decide +kernel
theorem dX10_addsRow_11 : decode cX10_addsRow 11 = .ok (.if_icmp .ge 24, 3) := by decide +kernel
theorem dX10_addsRow_14 : decode cX10_addsRow 14 = .ok (.aload_n 0, 1) := by decide +kernel
theorem dX10_addsRow_15 : decode cX10_addsRow 15 = .ok (.getfield 48, 3) := by decide +kernel
theorem dX10_addsRow_18 : decode cX10_addsRow 18 = .ok (.iload_n 1, 1) := by decide +kernel
theorem dX10_addsRow_19 : decode cX10_addsRow 19 = .ok (.aaload, 1) := by decide +kernel
theorem dX10_addsRow_20 : decode cX10_addsRow 20 = .ok (.iload 4, 2) := by decide +kernel
theorem dX10_addsRow_22 : decode cX10_addsRow 22 = .ok (.laload, 1) := by decide +kernel
theorem dX10_addsRow_23 : decode cX10_addsRow 23 = .ok (.lload_n 2, 1) := by decide +kernel
theorem dX10_addsRow_24 : decode cX10_addsRow 24 = .ok (.lcmp, 1) := by decide +kernel
theorem dX10_addsRow_25 : decode cX10_addsRow 25 = .ok (.ifCond .ne 4, 3) := by decide +kernel
theorem dX10_addsRow_28 : decode cX10_addsRow 28 = .ok (.return_, 1) := by decide +kernel
theorem dX10_addsRow_29 : decode cX10_addsRow 29 = .ok (.iinc 4 1, 3) := by decide +kernel
theorem dX10_addsRow_32 : decode cX10_addsRow 32 = .ok (.goto (-29), 3) := by decide +kernel
theorem dX10_addsRow_35 : decode cX10_addsRow 35 = .ok (.aload_n 0, 1) := by decide +kernel
theorem dX10_addsRow_36 : decode cX10_addsRow 36 = .ok (.getfield 48, 3) := by decide +kernel
theorem dX10_addsRow_39 : decode cX10_addsRow 39 = .ok (.iload_n 1, 1) := by decide +kernel
theorem dX10_addsRow_40 : decode cX10_addsRow 40 = .ok (.aaload, 1) := by decide +kernel
theorem dX10_addsRow_41 : decode cX10_addsRow 41 = .ok (.aload_n 0, 1) := by decide +kernel
theorem dX10_addsRow_42 : decode cX10_addsRow 42 = .ok (.getfield 51, 3) := by decide +kernel
theorem dX10_addsRow_45 : decode cX10_addsRow 45 = .ok (.iload_n 1, 1) := by decide +kernel
theorem dX10_addsRow_46 : decode cX10_addsRow 46 = .ok (.iaload, 1) := by decide +kernel
theorem dX10_addsRow_47 : decode cX10_addsRow 47 = .ok (.lload_n 2, 1) := by decide +kernel
theorem dX10_addsRow_48 : decode cX10_addsRow 48 = .ok (.lastore, 1) := by decide +kernel
theorem dX10_addsRow_49 : decode cX10_addsRow 49 = .ok (.aload_n 0, 1) := by decide +kernel
theorem dX10_addsRow_50 : decode cX10_addsRow 50 = .ok (.getfield 51, 3) := by decide +kernel
theorem dX10_addsRow_53 : decode cX10_addsRow 53 = .ok (.iload_n 1, 1) := by decide +kernel
theorem dX10_addsRow_54 : decode cX10_addsRow 54 = .ok (.dup2, 1) := by decide +kernel
theorem dX10_addsRow_55 : decode cX10_addsRow 55 = .ok (.iaload, 1) := by decide +kernel
theorem dX10_addsRow_56 : decode cX10_addsRow 56 = .ok (.iconst 1, 1) := by decide +kernel
theorem dX10_addsRow_57 : decode cX10_addsRow 57 = .ok (.iadd, 1) := by decide +kernel
theorem dX10_addsRow_58 : decode cX10_addsRow 58 = .ok (.iastore, 1) := by decide +kernel
theorem dX10_addsRow_59 : decode cX10_addsRow 59 = .ok (.return_, 1) := by decide +kernel
def mwX10_addsRowm : List Cond := .code yX10_addsRow cX10_addsRow 5 none :: ([.fieldLink RX10 51 "PatternGateModel" "rowMany" "[I", .fieldLink RX10 48 "PatternGateModel" "rows" "[[J"] ++ wsX100)
theorem fin_X10_addsRowm_X10 : ∀ w ∈ wsX100, w ∈ mwX10_addsRowm := fun w h => List.mem_cons_of_mem _ (List.mem_append_right _ h)
set_option maxHeartbeats 4000000 in
set_option maxRecDepth 100000 in
theorem m_addsRow (l : Launch) (dC : Nat → ClassId) (dI : Nat → Nat → Nat) (ad : Nat → Nat) (kc : Nat → ClassId) (x0 x1 x2 x3 x4 x5 x6 x7 x8 x9 x10 x11 x12 x13 x14 x15 x16 x17 x18 x19 x20 x21 : Int32) (f0 f1 f2 f3 f4 f5 f6 f7 f8 f9 f10 f11 f12 f13 f14 f15 f16 f17 f18 f19 f20 f21 : Nat → Int32) (fL : Nat → Nat → Int64) (fN : Nat → Nat → Int32) (fP : Nat → Nat → Nat) (fM : Nat → Nat → Int32) (fO : Nat → Nat → Int32) (sz : Nat) (i1 : Int32) (i2 : Int64) (q0 : 0 ≤ i1.toInt) (q1 : i1.toInt < 90) (q2 : 0 ≤ vI f9 i1.toInt) (q3 : vI f9 i1.toInt ≤ 39) : Met l yX10_addsRow mwX10_addsRowm ({ frames := 0, cells := 0, slots := 0, locals := 0 }) (va_Pc [.ref (ad 0), .int i1, .long i2] (fun U => U.heap.size = sz ∧ va_P (dC, dI) vwCl (mW ad kc x0 x1 x2 x3 x4 x5 x6 x7 x8 x9 x10 x11 x12 x13 x14 x15 x16 x17 x18 x19 x20 x21 f0 f1 f2 f3 f4 f5 f6 f7 f8 f9 f10 f11 f12 f13 f14 f15 f16 f17 f18 f19 f20 f21 fL fN fP fM fO) U.heap ∧ va_K (dC, dI) vwCl (mT kc) U ∧ va_D (fun _ => True) (mW ad kc x0 x1 x2 x3 x4 x5 x6 x7 x8 x9 x10 x11 x12 x13 x14 x15 x16 x17 x18 x19 x20 x21 f0 f1 f2 f3 f4 f5 f6 f7 f8 f9 f10 f11 f12 f13 f14 f15 f16 f17 f18 f19 f20 f21 fL fN fP fM fO))) (va_Qv (fun (_ : Unit) => True) (fun _ t => ∃ (g9 : Nat → Int32) (L9 : Nat → Nat → Int64), (aR fL f9 L9 g9 i1.toInt i2) ∧ va_P (dC, dI) vwCl (mW ad kc x0 x1 x2 x3 x4 x5 x6 x7 x8 x9 x10 x11 x12 x13 x14 x15 x16 x17 x18 x19 x20 x21 f0 f1 f2 f3 f4 f5 f6 f7 f8 g9 f10 f11 f12 f13 f14 f15 f16 f17 f18 f19 f20 f21 L9 fN fP fM fO) t.heap ∧ va_K (dC, dI) vwCl (mT kc) t ∧ va_D (va_A (mW ad kc x0 x1 x2 x3 x4 x5 x6 x7 x8 x9 x10 x11 x12 x13 x14 x15 x16 x17 x18 x19 x20 x21 f0 f1 f2 f3 f4 f5 f6 f7 f8 f9 f10 f11 f12 f13 f14 f15 f16 f17 f18 f19 f20 f21 fL fN fP fM fO) sz) (mW ad kc x0 x1 x2 x3 x4 x5 x6 x7 x8 x9 x10 x11 x12 x13 x14 x15 x16 x17 x18 x19 x20 x21 f0 f1 f2 f3 f4 f5 f6 f7 f8 g9 f10 f11 f12 f13 f14 f15 f16 f17 f18 f19 f20 f21 L9 fN fP fM fO)) (va_A (mW ad kc x0 x1 x2 x3 x4 x5 x6 x7 x8 x9 x10 x11 x12 x13 x14 x15 x16 x17 x18 x19 x20 x21 f0 f1 f2 f3 f4 f5 f6 f7 f8 f9 f10 f11 f12 f13 f14 f15 f16 f17 f18 f19 f20 f21 fL fN fP fM fO) sz)) 0 0 (va_A (mW ad kc x0 x1 x2 x3 x4 x5 x6 x7 x8 x9 x10 x11 x12 x13 x14 x15 x16 x17 x18 x19 x20 x21 f0 f1 f2 f3 f4 f5 f6 f7 f8 f9 f10 f11 f12 f13 f14 f15 f16 f17 f18 f19 f20 f21 fL fN fP fM fO) sz) := by
  refine Met.ofW (cc := cX10_addsRow) (maxL := 5) (ret := none) (by decide +kernel) rfl ?_
  intro p e s m args below meth c s₁ B hml hv
  obtain ⟨rfl, hsz, hP, hK, hD0⟩ := hv
  have hx := B.exec
  have hb := B.bytes
  have hr := B.returns
  have hts := atoms_spec (ws := mwX10_addsRowm) B.pre
  have hown : s.vm.findClass RX10 = some m.cls := findClass_of_methodNamed B.named
  have hlocks := B.notSynchronized
  subst hsz
  have hD := hD0.self (sz := s.heap.size)
  generalize hAe : va_A (mW ad kc x0 x1 x2 x3 x4 x5 x6 x7 x8 x9 x10 x11 x12 x13 x14 x15 x16 x17 x18 x19 x20 x21 f0 f1 f2 f3 f4 f5 f6 f7 f8 f9 f10 f11 f12 f13 f14 f15 f16 f17 f18 f19 f20 f21 fL fN fP fM fO) s.heap.size = A at hD ⊢
  have hA : ∀ q : Nat, s.heap.size ≤ q → A q := fun q h => by rw [← hAe]; exact Or.inr h
  have hP : va_P (dC, dI) vwCl (mW ad kc x0 x1 x2 x3 x4 x5 x6 x7 x8 x9 x10 x11 x12 x13 x14 x15 x16 x17 x18 x19 x20 x21 f0 f1 f2 f3 f4 f5 f6 f7 f8 f9 f10 f11 f12 f13 f14 f15 f16 f17 f18 f19 f20 f21 fL fN fP fM fO) s.heap := hP
  have hD : va_D A (mW ad kc x0 x1 x2 x3 x4 x5 x6 x7 x8 x9 x10 x11 x12 x13 x14 x15 x16 x17 x18 x19 x20 x21 f0 f1 f2 f3 f4 f5 f6 f7 f8 f9 f10 f11 f12 f13 f14 f15 f16 f17 f18 f19 f20 f21 fL fN fP fM fO) := hD
  have hK : va_K (dC, dI) vwCl (mT kc) s := hK
  generalize hH : s.heap = H at hP ⊢
  have hS : va_S A s.heap H [] := by rw [← hH]; exact va_S.rf
  have hl := lv_entry ([.ref (ad 0), .int i1, .long i2]) (n := 5) (Nat.le_of_ble_eq_true rfl)
  rw [lg_entry_eq]
  generalize (lg_sl ([.ref (ad 0), .int i1, .long i2]) ++ List.replicate (5 - (lg_sl ([.ref (ad 0), .int i1, .long i2])).length) Slot.unset).toArray = ls at hl ⊢
  have hl : lv_has ls 5 [(0, .ref (ad 0)), (1, .int i1), (2, .long i2)] := hl
  have rg_i1 := i_rng i1
  refine lv_iconst (v := 0) hx hb dX10_addsRow_0 (by decide) ?_
  refine lv_istore (lv' := [(4, .int 0), (0, .ref (ad 0)), (1, .int i1), (2, .long i2)]) hx hb dX10_addsRow_1 hl (by decide) rfl (fun ls hl => ?_)
  have loop3 : ∀ (lm3 : Nat) (kk : Int32), (0 ≤ kk.toInt) → (kk.toInt ≤ vI f9 i1.toInt) → ((vI f9 i1.toInt - kk.toInt).toNat) < lm3 → ∀ (H : Heap) (locs : List Loc) (ls : Array Slot), va_P (dC, dI) vwCl (mW ad kc x0 x1 x2 x3 x4 x5 x6 x7 x8 x9 x10 x11 x12 x13 x14 x15 x16 x17 x18 x19 x20 x21 f0 f1 f2 f3 f4 f5 f6 f7 f8 f9 f10 f11 f12 f13 f14 f15 f16 f17 f18 f19 f20 f21 fL fN fP fM fO) H → va_D A (mW ad kc x0 x1 x2 x3 x4 x5 x6 x7 x8 x9 x10 x11 x12 x13 x14 x15 x16 x17 x18 x19 x20 x21 f0 f1 f2 f3 f4 f5 f6 f7 f8 f9 f10 f11 f12 f13 f14 f15 f16 f17 f18 f19 f20 f21 fL fN fP fM fO) → va_S A s.heap H locs → lv_has ls 5 [(4, .int kk), (0, .ref (ad 0)), (1, .int i1), (2, .long i2)] → W p l e (headSpec mwX10_addsRowm ({ frames := 0, cells := 0, slots := 0, locals := 0 })).room s m ([.ref (ad 0), .int i1, .long i2]).toArray below meth c H locs 0 0 (MQ below (va_Qv (fun (_ : Unit) => True) (fun _ t => ∃ (g9 : Nat → Int32) (L9 : Nat → Nat → Int64), (aR fL f9 L9 g9 i1.toInt i2) ∧ va_P (dC, dI) vwCl (mW ad kc x0 x1 x2 x3 x4 x5 x6 x7 x8 x9 x10 x11 x12 x13 x14 x15 x16 x17 x18 x19 x20 x21 f0 f1 f2 f3 f4 f5 f6 f7 f8 g9 f10 f11 f12 f13 f14 f15 f16 f17 f18 f19 f20 f21 L9 fN fP fM fO) t.heap ∧ va_K (dC, dI) vwCl (mT kc) t ∧ va_D A (mW ad kc x0 x1 x2 x3 x4 x5 x6 x7 x8 x9 x10 x11 x12 x13 x14 x15 x16 x17 x18 x19 x20 x21 f0 f1 f2 f3 f4 f5 f6 f7 f8 g9 f10 f11 f12 f13 f14 f15 f16 f17 f18 f19 f20 f21 L9 fN fP fM fO)) A) ([.ref (ad 0), .int i1, .long i2]).toArray s 0 0 A) (F0 m 3 ls []) := by
    intro lm3
    induction lm3 with
    | zero => intro kk v3_0 v3_1 hm3; exact absurd hm3 (Nat.not_lt_zero _)
    | succ lm3 ih3 =>
      intro kk v3_0 v3_1 hm3 H locs ls hP hD hS hl
      have rg_kk := i_rng kk
      refine lv_iload hx hb dX10_addsRow_3 (lv_at hl 0 rfl) ?_
      refine lv_aload_n hx hb dX10_addsRow_5 rfl (lv_at hl 1 rfl) ?_
      refine va_get (D := (dC, dI)) (ci := 10) (v := .ref (ad 10)) (C := RX10) (T := TX10) (N := 48) hx hb hts fin_X10_addsRowm_X10 hown hK hP 0 rfl rfl 26 (by decide) (hts (.fieldLink RX10 51 "PatternGateModel" "rowMany" "[I") (List.mem_of_getElem? (i := 1) (by decide +kernel))) (fun _ h9 => h9) rfl dX10_addsRow_6 ?_
      refine lv_iload_n hx hb dX10_addsRow_9 rfl (lv_at hl 2 rfl) ?_
      refine va_iald hx hb hK hP 10 9 rfl rfl (i := i1) (vp_of (a := i1.toInt) rfl (by omega) (by omega)) dX10_addsRow_10 ?_
      refine lv_topi (fun y_1 ey_1 => ?_)
      have rg_y_1 := i_rng y_1
      have vy_1 := vI_lda (f := f9) (i := i1) (a := i1.toInt) ey_1 (by first | omega | decide)
      have rg_y_1 := i_rng y_1
      refine lv_icmp_ge (tgt := 35) hx hb dX10_addsRow_11 (by decide) (fun k_2 => ?_) (fun k_2 => ?_)
      · have tk_2 := c_ge (a := kk.toInt) (b := y_1.toInt) rfl rfl k_2
        refine lv_aload_n hx hb dX10_addsRow_35 rfl (lv_at hl 1 rfl) ?_
        refine va_get (D := (dC, dI)) (ci := 10) (v := .ref (ad 23)) (C := RX10) (T := TX10) (N := 48) hx hb hts fin_X10_addsRowm_X10 hown hK hP 0 rfl rfl 25 (by decide) (hts (.fieldLink RX10 48 "PatternGateModel" "rows" "[[J") (List.mem_of_getElem? (i := 2) (by decide +kernel))) (fun _ h9 => h9) rfl dX10_addsRow_36 ?_
        refine lv_iload_n hx hb dX10_addsRow_39 rfl (lv_at hl 2 rfl) ?_
        refine m_aak hx hb hK hP 23 22 (k := i1.toInt.toNat) (b := ad (100 + i1.toInt.toNat)) rfl rfl rfl (i := i1) (by omega) (by omega) rfl dX10_addsRow_40 ?_
        refine lv_aload_n hx hb dX10_addsRow_41 rfl (lv_at hl 1 rfl) ?_
        refine va_get (D := (dC, dI)) (ci := 10) (v := .ref (ad 10)) (C := RX10) (T := TX10) (N := 48) hx hb hts fin_X10_addsRowm_X10 hown hK hP 0 rfl rfl 26 (by decide) (hts (.fieldLink RX10 51 "PatternGateModel" "rowMany" "[I") (List.mem_of_getElem? (i := 1) (by decide +kernel))) (fun _ h9 => h9) rfl dX10_addsRow_42 ?_
        refine lv_iload_n hx hb dX10_addsRow_45 rfl (lv_at hl 2 rfl) ?_
        refine va_iald hx hb hK hP 10 9 rfl rfl (i := i1) (vp_of (a := i1.toInt) rfl (by omega) (by omega)) dX10_addsRow_46 ?_
        refine lv_topi (fun y_3 ey_3 => ?_)
        have rg_y_3 := i_rng y_3
        have vy_3 := vI_lda (f := f9) (i := i1) (a := i1.toInt) ey_3 (by first | omega | decide)
        have rg_y_3 := i_rng y_3
        refine lv_lload_n hx hb dX10_addsRow_47 rfl (lv_at hl 3 rfl) ?_
        refine va_last hx hb hK hP hD hS (27 + i1.toInt.toNat) 26 (mW_L (by omega)) rfl (i := y_3) (vp_of (a := y_3.toInt) rfl (by omega) (by omega)) dX10_addsRow_48 (fun H locs hP hD hS => ?_)
        rw [mW_Ls (by omega)] at hP hD
        generalize hL_4 : uF fL i1.toInt.toNat (vp_updL _ _ _) = L_4 at hP hD
        have hP : va_P (dC, dI) vwCl (mW ad kc x0 x1 x2 x3 x4 x5 x6 x7 x8 x9 x10 x11 x12 x13 x14 x15 x16 x17 x18 x19 x20 x21 f0 f1 f2 f3 f4 f5 f6 f7 f8 f9 f10 f11 f12 f13 f14 f15 f16 f17 f18 f19 f20 f21 L_4 fN fP fM fO) H := hP
        have hD : va_D A (mW ad kc x0 x1 x2 x3 x4 x5 x6 x7 x8 x9 x10 x11 x12 x13 x14 x15 x16 x17 x18 x19 x20 x21 f0 f1 f2 f3 f4 f5 f6 f7 f8 f9 f10 f11 f12 f13 f14 f15 f16 f17 f18 f19 f20 f21 L_4 fN fP fM fO) := hD
        refine lv_aload_n hx hb dX10_addsRow_49 rfl (lv_at hl 1 rfl) ?_
        refine va_get (D := (dC, dI)) (ci := 10) (v := .ref (ad 10)) (C := RX10) (T := TX10) (N := 48) hx hb hts fin_X10_addsRowm_X10 hown hK hP 0 rfl rfl 26 (by decide) (hts (.fieldLink RX10 51 "PatternGateModel" "rowMany" "[I") (List.mem_of_getElem? (i := 1) (by decide +kernel))) (fun _ h9 => h9) rfl dX10_addsRow_50 ?_
        refine lv_iload_n hx hb dX10_addsRow_53 rfl (lv_at hl 2 rfl) ?_
        refine lv_dup2_11 hx hb dX10_addsRow_54 rfl rfl ?_
        refine va_iald hx hb hK hP 10 9 rfl rfl (i := i1) (vp_of (a := i1.toInt) rfl (by omega) (by omega)) dX10_addsRow_55 ?_
        refine lv_topi (fun y_5 ey_5 => ?_)
        have rg_y_5 := i_rng y_5
        have vy_5 := vI_lda (f := f9) (i := i1) (a := i1.toInt) ey_5 (by first | omega | decide)
        have rg_y_5 := i_rng y_5
        refine lv_iconst (v := 1) hx hb dX10_addsRow_56 (by decide) ?_
        refine lv_iadd hx hb dX10_addsRow_57 ?_
        refine lv_topi (fun y_6 ey_6 => ?_)
        first | have ty_6 := i_add (a := y_5.toInt) (b := 1) rfl (by decide) ey_6 (by omega) (by omega) | skip
        refine va_iast hx hb hK hP hD hS 10 9 rfl rfl (i := i1) (vp_of (a := i1.toInt) rfl (by omega) (by omega)) dX10_addsRow_58 (fun H locs hP hD hS => ?_)
        generalize hf_f_7 : upd f9 _ _ = f_7 at hP hD
        have uf_7 := vI_up (a := i1.toInt) (b := y_6.toInt) hf_f_7 (by first | omega | decide) (by omega) rfl
        have hP : va_P (dC, dI) vwCl (mW ad kc x0 x1 x2 x3 x4 x5 x6 x7 x8 x9 x10 x11 x12 x13 x14 x15 x16 x17 x18 x19 x20 x21 f0 f1 f2 f3 f4 f5 f6 f7 f8 f_7 f10 f11 f12 f13 f14 f15 f16 f17 f18 f19 f20 f21 L_4 fN fP fM fO) H := hP
        have hD : va_D A (mW ad kc x0 x1 x2 x3 x4 x5 x6 x7 x8 x9 x10 x11 x12 x13 x14 x15 x16 x17 x18 x19 x20 x21 f0 f1 f2 f3 f4 f5 f6 f7 f8 f_7 f10 f11 f12 f13 f14 f15 f16 f17 f18 f19 f20 f21 L_4 fN fP fM fO) := hD
        exact W.vret hx hb hr (fun t ht hW => ⟨⟨(), rfl, trivial, f_7, L_4, ⟨uf_7.2, fun k h => uF_n hL_4 h, Or.inr ⟨by have h9 := uf_7.1; omega, fun j hj => by rw [uF_s hL_4]; exact pk_uLn (by rw [clamp_nat]; omega), by rw [uF_s hL_4, ← vy_3]; exact pk_uLs⟩⟩, by rw [ht]; exact hP, va_K.moved hW.alike hK, hD⟩, hS.F ht⟩) hS.2.2 dX10_addsRow_59
      · have tk_2 := c_nge (a := kk.toInt) (b := y_1.toInt) rfl rfl k_2
        refine lv_aload_n hx hb dX10_addsRow_14 rfl (lv_at hl 1 rfl) ?_
        refine va_get (D := (dC, dI)) (ci := 10) (v := .ref (ad 23)) (C := RX10) (T := TX10) (N := 48) hx hb hts fin_X10_addsRowm_X10 hown hK hP 0 rfl rfl 25 (by decide) (hts (.fieldLink RX10 48 "PatternGateModel" "rows" "[[J") (List.mem_of_getElem? (i := 2) (by decide +kernel))) (fun _ h9 => h9) rfl dX10_addsRow_15 ?_
        refine lv_iload_n hx hb dX10_addsRow_18 rfl (lv_at hl 2 rfl) ?_
        refine m_aak hx hb hK hP 23 22 (k := i1.toInt.toNat) (b := ad (100 + i1.toInt.toNat)) rfl rfl rfl (i := i1) (by omega) (by omega) rfl dX10_addsRow_19 ?_
        refine lv_iload hx hb dX10_addsRow_20 (lv_at hl 0 rfl) ?_
        refine va_lald hx hb hK hP (27 + i1.toInt.toNat) 26 (mW_L (by omega)) rfl (i := kk) (vp_of (a := kk.toInt) rfl (by omega) (by omega)) dX10_addsRow_22 ?_
        refine lv_topl (fun w_8 ew_8 => ?_)
        refine lv_lload_n hx hb dX10_addsRow_23 rfl (lv_at hl 3 rfl) ?_
        refine W.lcmp hx hb dX10_addsRow_24 ?_
        refine lv_topi (fun y_9 ey_9 => ?_)
        have rg_y_9 := i_rng y_9
        refine lv_if_ne (tgt := 29) hx hb dX10_addsRow_25 (by decide) (fun k_10 => ?_) (fun k_10 => ?_)
        · have tk_10 := c_ne (a := y_9.toInt) (b := 0) rfl (by decide) k_10
          obtain ⟨y_11, ey_11⟩ : ∃ y : Int32, y = kk + 1 := ⟨_, rfl⟩
          first | have ty_11 := i_add (a := kk.toInt) (b := 1) rfl (by decide) ey_11 (by omega) (by omega) | skip
          refine lv_iinc (v := y_11) (lv' := [(4, .int y_11), (0, .ref (ad 0)), (1, .int i1), (2, .long i2)]) hx hb dX10_addsRow_29 hl (k := 0) rfl (by rw [ey_11]; rfl) (by decide) rfl (fun ls hl => ?_)
          refine lv_goto (tgt := 3) hx hb dX10_addsRow_32 (by decide) ?_
          exact ih3 y_11 (by first | omega | assumption | decide) (by first | omega | assumption | decide) (by omega) _ _ ls hP hD hS (lv_sub hl [0, 1, 2, 3] rfl)
        · have tk_10 := c_eq (a := y_9.toInt) (b := 0) rfl (by decide) k_10
          exact W.vret hx hb hr (fun t ht hW => ⟨⟨(), rfl, trivial, f9, fL, ⟨fun _ _ _ => rfl, fun _ _ => rfl, Or.inl ⟨rfl, rfl⟩⟩, by rw [ht]; exact hP, va_K.moved hW.alike hK, hD⟩, hS.F ht⟩) hS.2.2 dX10_addsRow_28
  have lit_11 : (0 : Int32).toInt = 0 := by decide
  exact loop3 _ 0 (by first | omega | assumption | decide) (by first | omega | assumption | decide) (Nat.lt_succ_self _) _ _ ls hP hD hS (lv_sub hl [0, 1, 2, 3] rfl)
theorem dX10_newSet_0 : decode cX10_newSet 0 = .ok (.aload_n 0, 1) := by decide +kernel
theorem dX10_newSet_1 : decode cX10_newSet 1 = .ok (.getfield 51, 3) := by decide +kernel
theorem dX10_newSet_4 : decode cX10_newSet 4 = .ok (.aload_n 0, 1) := by decide +kernel
theorem dX10_newSet_5 : decode cX10_newSet 5 = .ok (.getfield 274, 3) := by decide +kernel
theorem dX10_newSet_8 : decode cX10_newSet 8 = .ok (.iconst 0, 1) := by decide +kernel
theorem dX10_newSet_9 : decode cX10_newSet 9 = .ok (.iastore, 1) := by decide +kernel
theorem dX10_newSet_10 : decode cX10_newSet 10 = .ok (.aload_n 0, 1) := by decide +kernel
theorem dX10_newSet_11 : decode cX10_newSet 11 = .ok (.dup, 1) := by decide +kernel
theorem dX10_newSet_12 : decode cX10_newSet 12 = .ok (.getfield 274, 3) := by decide +kernel
theorem dX10_newSet_15 : decode cX10_newSet 15 = .ok (.iconst 1, 1) := by decide +kernel
theorem dX10_newSet_16 : decode cX10_newSet 16 = .ok (.iadd, 1) := by decide +kernel
theorem dX10_newSet_17 : decode cX10_newSet 17 = .ok (.putfield 274, 3) := by decide +kernel
theorem dX10_newSet_20 : decode cX10_newSet 20 = .ok (.aload_n 0, 1) := by decide +kernel
theorem dX10_newSet_21 : decode cX10_newSet 21 = .ok (.getfield 274, 3) := by decide +kernel
theorem dX10_newSet_24 : decode cX10_newSet 24 = .ok (.iconst 1, 1) := by decide +kernel
theorem dX10_newSet_25 : decode cX10_newSet 25 = .ok (.isub, 1) := by decide +kernel
theorem dX10_newSet_26 : decode cX10_newSet 26 = .ok (.ireturn, 1) := by decide +kernel
def mwX10_newSetm : List Cond := .code yX10_newSet cX10_newSet 1 (some .int) :: ([.fieldLink RX10 51 "PatternGateModel" "rowMany" "[I", .fieldLink RX10 274 "PatternGateModel" "sets" "I"] ++ wsX100)
theorem fin_X10_newSetm_X10 : ∀ w ∈ wsX100, w ∈ mwX10_newSetm := fun w h => List.mem_cons_of_mem _ (List.mem_append_right _ h)
set_option maxHeartbeats 4000000 in
set_option maxRecDepth 100000 in
theorem m_newSet (l : Launch) (dC : Nat → ClassId) (dI : Nat → Nat → Nat) (ad : Nat → Nat) (kc : Nat → ClassId) (x0 x1 x2 x3 x4 x5 x6 x7 x8 x9 x10 x11 x12 x13 x14 x15 x16 x17 x18 x19 x20 x21 : Int32) (f0 f1 f2 f3 f4 f5 f6 f7 f8 f9 f10 f11 f12 f13 f14 f15 f16 f17 f18 f19 f20 f21 : Nat → Int32) (fL : Nat → Nat → Int64) (fN : Nat → Nat → Int32) (fP : Nat → Nat → Nat) (fM : Nat → Nat → Int32) (fO : Nat → Nat → Int32) (sz : Nat) (q0 : 0 ≤ x16.toInt) (q1 : x16.toInt < 90) : Met l yX10_newSet mwX10_newSetm ({ frames := 0, cells := 0, slots := 0, locals := 0 }) (va_Pc [.ref (ad 0)] (fun U => U.heap.size = sz ∧ va_P (dC, dI) vwCl (mW ad kc x0 x1 x2 x3 x4 x5 x6 x7 x8 x9 x10 x11 x12 x13 x14 x15 x16 x17 x18 x19 x20 x21 f0 f1 f2 f3 f4 f5 f6 f7 f8 f9 f10 f11 f12 f13 f14 f15 f16 f17 f18 f19 f20 f21 fL fN fP fM fO) U.heap ∧ va_K (dC, dI) vwCl (mT kc) U ∧ va_D (fun _ => True) (mW ad kc x0 x1 x2 x3 x4 x5 x6 x7 x8 x9 x10 x11 x12 x13 x14 x15 x16 x17 x18 x19 x20 x21 f0 f1 f2 f3 f4 f5 f6 f7 f8 f9 f10 f11 f12 f13 f14 f15 f16 f17 f18 f19 f20 f21 fL fN fP fM fO))) (va_Qi (fun (o9 u9 : Int32) => o9 = u9) (fun (o9 : Int32) t => ∃ (y16 : Int32) (g9 : Nat → Int32), (o9.toInt = x16.toInt) ∧ (y16.toInt = x16.toInt + 1) ∧ (vI g9 x16.toInt = 0 ∧ ∀ z : Int, 0 ≤ z → z ≠ x16.toInt → vI g9 z = vI f9 z) ∧ va_P (dC, dI) vwCl (mW ad kc x0 x1 x2 x3 x4 x5 x6 x7 x8 x9 x10 x11 x12 x13 x14 x15 y16 x17 x18 x19 x20 x21 f0 f1 f2 f3 f4 f5 f6 f7 f8 g9 f10 f11 f12 f13 f14 f15 f16 f17 f18 f19 f20 f21 fL fN fP fM fO) t.heap ∧ va_K (dC, dI) vwCl (mT kc) t ∧ va_D (va_A (mW ad kc x0 x1 x2 x3 x4 x5 x6 x7 x8 x9 x10 x11 x12 x13 x14 x15 x16 x17 x18 x19 x20 x21 f0 f1 f2 f3 f4 f5 f6 f7 f8 f9 f10 f11 f12 f13 f14 f15 f16 f17 f18 f19 f20 f21 fL fN fP fM fO) sz) (mW ad kc x0 x1 x2 x3 x4 x5 x6 x7 x8 x9 x10 x11 x12 x13 x14 x15 y16 x17 x18 x19 x20 x21 f0 f1 f2 f3 f4 f5 f6 f7 f8 g9 f10 f11 f12 f13 f14 f15 f16 f17 f18 f19 f20 f21 fL fN fP fM fO)) (va_A (mW ad kc x0 x1 x2 x3 x4 x5 x6 x7 x8 x9 x10 x11 x12 x13 x14 x15 x16 x17 x18 x19 x20 x21 f0 f1 f2 f3 f4 f5 f6 f7 f8 f9 f10 f11 f12 f13 f14 f15 f16 f17 f18 f19 f20 f21 fL fN fP fM fO) sz)) 0 0 (va_A (mW ad kc x0 x1 x2 x3 x4 x5 x6 x7 x8 x9 x10 x11 x12 x13 x14 x15 x16 x17 x18 x19 x20 x21 f0 f1 f2 f3 f4 f5 f6 f7 f8 f9 f10 f11 f12 f13 f14 f15 f16 f17 f18 f19 f20 f21 fL fN fP fM fO) sz) := by
  refine Met.ofW (cc := cX10_newSet) (maxL := 1) (ret := (some .int)) (by decide +kernel) rfl ?_
  intro p e s m args below meth c s₁ B hml hv
  obtain ⟨rfl, hsz, hP, hK, hD0⟩ := hv
  have hx := B.exec
  have hb := B.bytes
  have hr := B.returns
  have hts := atoms_spec (ws := mwX10_newSetm) B.pre
  have hown : s.vm.findClass RX10 = some m.cls := findClass_of_methodNamed B.named
  have hlocks := B.notSynchronized
  subst hsz
  have hD := hD0.self (sz := s.heap.size)
  generalize hAe : va_A (mW ad kc x0 x1 x2 x3 x4 x5 x6 x7 x8 x9 x10 x11 x12 x13 x14 x15 x16 x17 x18 x19 x20 x21 f0 f1 f2 f3 f4 f5 f6 f7 f8 f9 f10 f11 f12 f13 f14 f15 f16 f17 f18 f19 f20 f21 fL fN fP fM fO) s.heap.size = A at hD ⊢
  have hA : ∀ q : Nat, s.heap.size ≤ q → A q := fun q h => by rw [← hAe]; exact Or.inr h
  have hP : va_P (dC, dI) vwCl (mW ad kc x0 x1 x2 x3 x4 x5 x6 x7 x8 x9 x10 x11 x12 x13 x14 x15 x16 x17 x18 x19 x20 x21 f0 f1 f2 f3 f4 f5 f6 f7 f8 f9 f10 f11 f12 f13 f14 f15 f16 f17 f18 f19 f20 f21 fL fN fP fM fO) s.heap := hP
  have hD : va_D A (mW ad kc x0 x1 x2 x3 x4 x5 x6 x7 x8 x9 x10 x11 x12 x13 x14 x15 x16 x17 x18 x19 x20 x21 f0 f1 f2 f3 f4 f5 f6 f7 f8 f9 f10 f11 f12 f13 f14 f15 f16 f17 f18 f19 f20 f21 fL fN fP fM fO) := hD
  have hK : va_K (dC, dI) vwCl (mT kc) s := hK
  generalize hH : s.heap = H at hP ⊢
  have hS : va_S A s.heap H [] := by rw [← hH]; exact va_S.rf
  have hl := lv_entry ([.ref (ad 0)]) (n := 1) (Nat.le_of_ble_eq_true rfl)
  rw [lg_entry_eq]
  generalize (lg_sl ([.ref (ad 0)]) ++ List.replicate (1 - (lg_sl ([.ref (ad 0)])).length) Slot.unset).toArray = ls at hl ⊢
  have hl : lv_has ls 1 [(0, .ref (ad 0))] := hl
  refine lv_aload_n hx hb dX10_newSet_0 rfl (lv_at hl 0 rfl) ?_
  refine va_get (D := (dC, dI)) (ci := 10) (v := .ref (ad 10)) (C := RX10) (T := TX10) (N := 48) hx hb hts fin_X10_newSetm_X10 hown hK hP 0 rfl rfl 26 (by decide) (hts (.fieldLink RX10 51 "PatternGateModel" "rowMany" "[I") (List.mem_of_getElem? (i := 1) (by decide +kernel))) (fun _ h9 => h9) rfl dX10_newSet_1 ?_
  refine lv_aload_n hx hb dX10_newSet_4 rfl (lv_at hl 0 rfl) ?_
  refine va_get (D := (dC, dI)) (ci := 10) (v := .int x16) (C := RX10) (T := TX10) (N := 48) hx hb hts fin_X10_newSetm_X10 hown hK hP 0 rfl rfl 27 (by decide) (hts (.fieldLink RX10 274 "PatternGateModel" "sets" "I") (List.mem_of_getElem? (i := 2) (by decide +kernel))) (fun _ h9 => h9) rfl dX10_newSet_5 ?_
  refine lv_iconst (v := 0) hx hb dX10_newSet_8 (by decide) ?_
  refine va_iast hx hb hK hP hD hS 10 9 rfl rfl (i := x16) (vp_of (a := x16.toInt) rfl (by omega) (by omega)) dX10_newSet_9 (fun H locs hP hD hS => ?_)
  generalize hf_f_1 : upd f9 _ _ = f_1 at hP hD
  have uf_1 := vI_up (a := x16.toInt) (b := 0) hf_f_1 (by first | omega | decide) (by omega) (by decide)
  have hP : va_P (dC, dI) vwCl (mW ad kc x0 x1 x2 x3 x4 x5 x6 x7 x8 x9 x10 x11 x12 x13 x14 x15 x16 x17 x18 x19 x20 x21 f0 f1 f2 f3 f4 f5 f6 f7 f8 f_1 f10 f11 f12 f13 f14 f15 f16 f17 f18 f19 f20 f21 fL fN fP fM fO) H := hP
  have hD : va_D A (mW ad kc x0 x1 x2 x3 x4 x5 x6 x7 x8 x9 x10 x11 x12 x13 x14 x15 x16 x17 x18 x19 x20 x21 f0 f1 f2 f3 f4 f5 f6 f7 f8 f_1 f10 f11 f12 f13 f14 f15 f16 f17 f18 f19 f20 f21 fL fN fP fM fO) := hD
  refine lv_aload_n hx hb dX10_newSet_10 rfl (lv_at hl 0 rfl) ?_
  refine lv_dup hx hb dX10_newSet_11 rfl ?_
  refine va_get (D := (dC, dI)) (ci := 10) (v := .int x16) (C := RX10) (T := TX10) (N := 48) hx hb hts fin_X10_newSetm_X10 hown hK hP 0 rfl rfl 27 (by decide) (hts (.fieldLink RX10 274 "PatternGateModel" "sets" "I") (List.mem_of_getElem? (i := 2) (by decide +kernel))) (fun _ h9 => h9) rfl dX10_newSet_12 ?_
  refine lv_iconst (v := 1) hx hb dX10_newSet_15 (by decide) ?_
  refine lv_iadd hx hb dX10_newSet_16 ?_
  refine lv_topi (fun y_2 ey_2 => ?_)
  first | have ty_2 := i_add (a := x16.toInt) (b := 1) rfl (by decide) ey_2 (by omega) (by omega) | skip
  refine va_put (D := (dC, dI)) (ci := 10) (v := .int y_2) (ty := .int) (C := RX10) (T := TX10) (N := 48) hx hb hts fin_X10_newSetm_X10 tyX10 tyX10_ok nmX10 hown hK hP hD hS 0 rfl rfl 27 (by decide) (hts (.fieldLink RX10 274 "PatternGateModel" "sets" "I") (List.mem_of_getElem? (i := 2) (by decide +kernel))) (fun _ h9 => h9) rfl (by decide +kernel) rfl rfl (Nat.le_of_ble_eq_true rfl) dX10_newSet_17 (fun H locs hP hD hS => ?_)
  have hP : va_P (dC, dI) vwCl (mW ad kc x0 x1 x2 x3 x4 x5 x6 x7 x8 x9 x10 x11 x12 x13 x14 x15 y_2 x17 x18 x19 x20 x21 f0 f1 f2 f3 f4 f5 f6 f7 f8 f_1 f10 f11 f12 f13 f14 f15 f16 f17 f18 f19 f20 f21 fL fN fP fM fO) H := hP
  have hD : va_D A (mW ad kc x0 x1 x2 x3 x4 x5 x6 x7 x8 x9 x10 x11 x12 x13 x14 x15 y_2 x17 x18 x19 x20 x21 f0 f1 f2 f3 f4 f5 f6 f7 f8 f_1 f10 f11 f12 f13 f14 f15 f16 f17 f18 f19 f20 f21 fL fN fP fM fO) := hD
  refine lv_aload_n hx hb dX10_newSet_20 rfl (lv_at hl 0 rfl) ?_
  refine va_get (D := (dC, dI)) (ci := 10) (v := .int y_2) (C := RX10) (T := TX10) (N := 48) hx hb hts fin_X10_newSetm_X10 hown hK hP 0 rfl rfl 27 (by decide) (hts (.fieldLink RX10 274 "PatternGateModel" "sets" "I") (List.mem_of_getElem? (i := 2) (by decide +kernel))) (fun _ h9 => h9) rfl dX10_newSet_21 ?_
  refine lv_iconst (v := 1) hx hb dX10_newSet_24 (by decide) ?_
  refine lv_isub hx hb dX10_newSet_25 ?_
  refine lv_topi (fun y_3 ey_3 => ?_)
  first | have ty_3 := i_sub (a := y_2.toInt) (b := 1) rfl (by decide) ey_3 (by omega) (by omega) | skip
  exact W.iret hx hb hr (fun t ht hW => ⟨⟨_, _, rfl, rfl, y_2, f_1, (by first | omega | assumption | rfl | decide), (by first | omega | assumption | rfl | decide), uf_1, by rw [ht]; exact hP, va_K.moved hW.alike hK, hD⟩, hS.F ht⟩) hS.2.2 dX10_newSet_26
theorem dX10_copiesSet_0 : decode cX10_copiesSet 0 = .ok (.aload_n 0, 1) := by decide +kernel
theorem dX10_copiesSet_1 : decode cX10_copiesSet 1 = .ok (.getfield 51, 3) := by decide +kernel
theorem dX10_copiesSet_4 : decode cX10_copiesSet 4 = .ok (.iload_n 2, 1) := by decide +kernel
theorem dX10_copiesSet_5 : decode cX10_copiesSet 5 = .ok (.aload_n 0, 1) := by decide +kernel
theorem dX10_copiesSet_6 : decode cX10_copiesSet 6 = .ok (.getfield 51, 3) := by decide +kernel
theorem dX10_copiesSet_9 : decode cX10_copiesSet 9 = .ok (.iload_n 1, 1) := by decide +kernel
theorem dX10_copiesSet_10 : decode cX10_copiesSet 10 = .ok (.iaload, 1) := by decide +kernel
theorem dX10_copiesSet_11 : decode cX10_copiesSet 11 = .ok (.iastore, 1) := by decide +kernel
theorem dX10_copiesSet_12 : decode cX10_copiesSet 12 = .ok (.iconst 0, 1) := by decide +kernel
theorem dX10_copiesSet_13 : decode cX10_copiesSet 13 = .ok (.istore_n 3, 1) := by decide +kernel
theorem dX10_copiesSet_14 : decode cX10_copiesSet 14 = .ok (.iload_n 3, 1) := by decide +kernel
theorem dX10_copiesSet_15 : decode cX10_copiesSet 15 = .ok (.aload_n 0, 1) := by decide +kernel
theorem dX10_copiesSet_16 : decode cX10_copiesSet 16 = .ok (.getfield 51, 3) := by decide +kernel
theorem dX10_copiesSet_19 : decode cX10_copiesSet 19 = .ok (.iload_n 1, 1) := by decide +kernel
theorem dX10_copiesSet_20 : decode cX10_copiesSet 20 = .ok (.iaload, 1) := by decide +kernel
theorem dX10_copiesSet_21 : decode cX10_copiesSet 21 = .ok (.if_icmp .ge 25, 3) := by decide +kernel
theorem dX10_copiesSet_24 : decode cX10_copiesSet 24 = .ok (.aload_n 0, 1) := by decide +kernel
theorem dX10_copiesSet_25 : decode cX10_copiesSet 25 = .ok (.getfield 48, 3) := by decide +kernel
theorem dX10_copiesSet_28 : decode cX10_copiesSet 28 = .ok (.iload_n 2, 1) := by decide +kernel
theorem dX10_copiesSet_29 : decode cX10_copiesSet 29 = .ok (.aaload, 1) := by decide +kernel
theorem dX10_copiesSet_30 : decode cX10_copiesSet 30 = .ok (.iload_n 3, 1) := by decide +kernel
theorem dX10_copiesSet_31 : decode cX10_copiesSet 31 = .ok (.aload_n 0, 1) := by decide +kernel
theorem dX10_copiesSet_32 : decode cX10_copiesSet 32 = .ok (.getfield 48, 3) := by decide +kernel
theorem dX10_copiesSet_35 : decode cX10_copiesSet 35 = .ok (.iload_n 1, 1) := by decide +kernel
theorem dX10_copiesSet_36 : decode cX10_copiesSet 36 = .ok (.aaload, 1) := by decide +kernel
theorem dX10_copiesSet_37 : decode cX10_copiesSet 37 = .ok (.iload_n 3, 1) := by decide +kernel
theorem dX10_copiesSet_38 : decode cX10_copiesSet 38 = .ok (.laload, 1) := by decide +kernel
theorem dX10_copiesSet_39 : decode cX10_copiesSet 39 = .ok (.lastore, 1) := by decide +kernel
theorem dX10_copiesSet_40 : decode cX10_copiesSet 40 = .ok (.iinc 3 1, 3) := by decide +kernel
theorem dX10_copiesSet_43 : decode cX10_copiesSet 43 = .ok (.goto (-29), 3) := by decide +kernel
theorem dX10_copiesSet_46 : decode cX10_copiesSet 46 = .ok (.return_, 1) := by decide +kernel
def mwX10_copiesSetm : List Cond := .code yX10_copiesSet cX10_copiesSet 4 none :: ([.fieldLink RX10 51 "PatternGateModel" "rowMany" "[I", .fieldLink RX10 48 "PatternGateModel" "rows" "[[J"] ++ wsX100)
theorem fin_X10_copiesSetm_X10 : ∀ w ∈ wsX100, w ∈ mwX10_copiesSetm := fun w h => List.mem_cons_of_mem _ (List.mem_append_right _ h)
set_option maxHeartbeats 4000000 in
set_option maxRecDepth 100000 in
theorem m_copiesSet (l : Launch) (dC : Nat → ClassId) (dI : Nat → Nat → Nat) (ad : Nat → Nat) (kc : Nat → ClassId) (x0 x1 x2 x3 x4 x5 x6 x7 x8 x9 x10 x11 x12 x13 x14 x15 x16 x17 x18 x19 x20 x21 : Int32) (f0 f1 f2 f3 f4 f5 f6 f7 f8 f9 f10 f11 f12 f13 f14 f15 f16 f17 f18 f19 f20 f21 : Nat → Int32) (fL : Nat → Nat → Int64) (fN : Nat → Nat → Int32) (fP : Nat → Nat → Nat) (fM : Nat → Nat → Int32) (fO : Nat → Nat → Int32) (sz : Nat) (i1 i2 : Int32) (q0 : 0 ≤ i1.toInt) (q1 : i1.toInt < 90) (q2 : 0 ≤ i2.toInt) (q3 : i2.toInt < 90) (q4 : i1.toInt ≠ i2.toInt) (q5 : 0 ≤ vI f9 i1.toInt) (q6 : vI f9 i1.toInt ≤ 40) : Met l yX10_copiesSet mwX10_copiesSetm ({ frames := 0, cells := 0, slots := 0, locals := 0 }) (va_Pc [.ref (ad 0), .int i1, .int i2] (fun U => U.heap.size = sz ∧ va_P (dC, dI) vwCl (mW ad kc x0 x1 x2 x3 x4 x5 x6 x7 x8 x9 x10 x11 x12 x13 x14 x15 x16 x17 x18 x19 x20 x21 f0 f1 f2 f3 f4 f5 f6 f7 f8 f9 f10 f11 f12 f13 f14 f15 f16 f17 f18 f19 f20 f21 fL fN fP fM fO) U.heap ∧ va_K (dC, dI) vwCl (mT kc) U ∧ va_D (fun _ => True) (mW ad kc x0 x1 x2 x3 x4 x5 x6 x7 x8 x9 x10 x11 x12 x13 x14 x15 x16 x17 x18 x19 x20 x21 f0 f1 f2 f3 f4 f5 f6 f7 f8 f9 f10 f11 f12 f13 f14 f15 f16 f17 f18 f19 f20 f21 fL fN fP fM fO))) (va_Qv (fun (_ : Unit) => True) (fun _ t => ∃ (g9 : Nat → Int32) (L9 : Nat → Nat → Int64), (cS fL f9 L9 g9 i1.toInt i2.toInt) ∧ va_P (dC, dI) vwCl (mW ad kc x0 x1 x2 x3 x4 x5 x6 x7 x8 x9 x10 x11 x12 x13 x14 x15 x16 x17 x18 x19 x20 x21 f0 f1 f2 f3 f4 f5 f6 f7 f8 g9 f10 f11 f12 f13 f14 f15 f16 f17 f18 f19 f20 f21 L9 fN fP fM fO) t.heap ∧ va_K (dC, dI) vwCl (mT kc) t ∧ va_D (va_A (mW ad kc x0 x1 x2 x3 x4 x5 x6 x7 x8 x9 x10 x11 x12 x13 x14 x15 x16 x17 x18 x19 x20 x21 f0 f1 f2 f3 f4 f5 f6 f7 f8 f9 f10 f11 f12 f13 f14 f15 f16 f17 f18 f19 f20 f21 fL fN fP fM fO) sz) (mW ad kc x0 x1 x2 x3 x4 x5 x6 x7 x8 x9 x10 x11 x12 x13 x14 x15 x16 x17 x18 x19 x20 x21 f0 f1 f2 f3 f4 f5 f6 f7 f8 g9 f10 f11 f12 f13 f14 f15 f16 f17 f18 f19 f20 f21 L9 fN fP fM fO)) (va_A (mW ad kc x0 x1 x2 x3 x4 x5 x6 x7 x8 x9 x10 x11 x12 x13 x14 x15 x16 x17 x18 x19 x20 x21 f0 f1 f2 f3 f4 f5 f6 f7 f8 f9 f10 f11 f12 f13 f14 f15 f16 f17 f18 f19 f20 f21 fL fN fP fM fO) sz)) 0 0 (va_A (mW ad kc x0 x1 x2 x3 x4 x5 x6 x7 x8 x9 x10 x11 x12 x13 x14 x15 x16 x17 x18 x19 x20 x21 f0 f1 f2 f3 f4 f5 f6 f7 f8 f9 f10 f11 f12 f13 f14 f15 f16 f17 f18 f19 f20 f21 fL fN fP fM fO) sz) := by
  refine Met.ofW (cc := cX10_copiesSet) (maxL := 4) (ret := none) (by decide +kernel) rfl ?_
  intro p e s m args below meth c s₁ B hml hv
  obtain ⟨rfl, hsz, hP, hK, hD0⟩ := hv
  have hx := B.exec
  have hb := B.bytes
  have hr := B.returns
  have hts := atoms_spec (ws := mwX10_copiesSetm) B.pre
  have hown : s.vm.findClass RX10 = some m.cls := findClass_of_methodNamed B.named
  have hlocks := B.notSynchronized
  subst hsz
  have hD := hD0.self (sz := s.heap.size)
  generalize hAe : va_A (mW ad kc x0 x1 x2 x3 x4 x5 x6 x7 x8 x9 x10 x11 x12 x13 x14 x15 x16 x17 x18 x19 x20 x21 f0 f1 f2 f3 f4 f5 f6 f7 f8 f9 f10 f11 f12 f13 f14 f15 f16 f17 f18 f19 f20 f21 fL fN fP fM fO) s.heap.size = A at hD ⊢
  have hA : ∀ q : Nat, s.heap.size ≤ q → A q := fun q h => by rw [← hAe]; exact Or.inr h
  have hP : va_P (dC, dI) vwCl (mW ad kc x0 x1 x2 x3 x4 x5 x6 x7 x8 x9 x10 x11 x12 x13 x14 x15 x16 x17 x18 x19 x20 x21 f0 f1 f2 f3 f4 f5 f6 f7 f8 f9 f10 f11 f12 f13 f14 f15 f16 f17 f18 f19 f20 f21 fL fN fP fM fO) s.heap := hP
  have hD : va_D A (mW ad kc x0 x1 x2 x3 x4 x5 x6 x7 x8 x9 x10 x11 x12 x13 x14 x15 x16 x17 x18 x19 x20 x21 f0 f1 f2 f3 f4 f5 f6 f7 f8 f9 f10 f11 f12 f13 f14 f15 f16 f17 f18 f19 f20 f21 fL fN fP fM fO) := hD
  have hK : va_K (dC, dI) vwCl (mT kc) s := hK
  generalize hH : s.heap = H at hP ⊢
  have hS : va_S A s.heap H [] := by rw [← hH]; exact va_S.rf
  have hl := lv_entry ([.ref (ad 0), .int i1, .int i2]) (n := 4) (Nat.le_of_ble_eq_true rfl)
  rw [lg_entry_eq]
  generalize (lg_sl ([.ref (ad 0), .int i1, .int i2]) ++ List.replicate (4 - (lg_sl ([.ref (ad 0), .int i1, .int i2])).length) Slot.unset).toArray = ls at hl ⊢
  have hl : lv_has ls 4 [(0, .ref (ad 0)), (1, .int i1), (2, .int i2)] := hl
  have rg_i1 := i_rng i1
  have rg_i2 := i_rng i2
  refine lv_aload_n hx hb dX10_copiesSet_0 rfl (lv_at hl 0 rfl) ?_
  refine va_get (D := (dC, dI)) (ci := 10) (v := .ref (ad 10)) (C := RX10) (T := TX10) (N := 48) hx hb hts fin_X10_copiesSetm_X10 hown hK hP 0 rfl rfl 26 (by decide) (hts (.fieldLink RX10 51 "PatternGateModel" "rowMany" "[I") (List.mem_of_getElem? (i := 1) (by decide +kernel))) (fun _ h9 => h9) rfl dX10_copiesSet_1 ?_
  refine lv_iload_n hx hb dX10_copiesSet_4 rfl (lv_at hl 2 rfl) ?_
  refine lv_aload_n hx hb dX10_copiesSet_5 rfl (lv_at hl 0 rfl) ?_
  refine va_get (D := (dC, dI)) (ci := 10) (v := .ref (ad 10)) (C := RX10) (T := TX10) (N := 48) hx hb hts fin_X10_copiesSetm_X10 hown hK hP 0 rfl rfl 26 (by decide) (hts (.fieldLink RX10 51 "PatternGateModel" "rowMany" "[I") (List.mem_of_getElem? (i := 1) (by decide +kernel))) (fun _ h9 => h9) rfl dX10_copiesSet_6 ?_
  refine lv_iload_n hx hb dX10_copiesSet_9 rfl (lv_at hl 1 rfl) ?_
  refine va_iald hx hb hK hP 10 9 rfl rfl (i := i1) (vp_of (a := i1.toInt) rfl (by omega) (by omega)) dX10_copiesSet_10 ?_
  refine lv_topi (fun y_1 ey_1 => ?_)
  have rg_y_1 := i_rng y_1
  have vy_1 := vI_lda (f := f9) (i := i1) (a := i1.toInt) ey_1 (by first | omega | decide)
  have rg_y_1 := i_rng y_1
  refine va_iast hx hb hK hP hD hS 10 9 rfl rfl (i := i2) (vp_of (a := i2.toInt) rfl (by omega) (by omega)) dX10_copiesSet_11 (fun H locs hP hD hS => ?_)
  generalize hf_f_2 : upd f9 _ _ = f_2 at hP hD
  have uf_2 := vI_up (a := i2.toInt) (b := y_1.toInt) hf_f_2 (by first | omega | decide) (by omega) rfl
  have hP : va_P (dC, dI) vwCl (mW ad kc x0 x1 x2 x3 x4 x5 x6 x7 x8 x9 x10 x11 x12 x13 x14 x15 x16 x17 x18 x19 x20 x21 f0 f1 f2 f3 f4 f5 f6 f7 f8 f_2 f10 f11 f12 f13 f14 f15 f16 f17 f18 f19 f20 f21 fL fN fP fM fO) H := hP
  have hD : va_D A (mW ad kc x0 x1 x2 x3 x4 x5 x6 x7 x8 x9 x10 x11 x12 x13 x14 x15 x16 x17 x18 x19 x20 x21 f0 f1 f2 f3 f4 f5 f6 f7 f8 f_2 f10 f11 f12 f13 f14 f15 f16 f17 f18 f19 f20 f21 fL fN fP fM fO) := hD
  have u9 := uf_2
  have u8 := u9.2 i1.toInt (by omega) (by omega)
  refine lv_iconst (v := 0) hx hb dX10_copiesSet_12 (by decide) ?_
  refine lv_istore_n (lv' := [(3, .int 0), (0, .ref (ad 0)), (1, .int i1), (2, .int i2)]) hx hb dX10_copiesSet_13 rfl hl (by decide) rfl (fun ls hl => ?_)
  have loop14 : ∀ (lm14 : Nat) (kk : Int32) (la : Nat → Nat → Int64), (0 ≤ kk.toInt) → (kk.toInt ≤ vI f9 i1.toInt) → (∀ k, k ≠ i2.toInt.toNat → la k = fL k) → (∀ j : Nat, (j : Int) < kk.toInt → la i2.toInt.toNat j = fL i1.toInt.toNat j) → ((vI f9 i1.toInt - kk.toInt).toNat) < lm14 → ∀ (H : Heap) (locs : List Loc) (ls : Array Slot), va_P (dC, dI) vwCl (mW ad kc x0 x1 x2 x3 x4 x5 x6 x7 x8 x9 x10 x11 x12 x13 x14 x15 x16 x17 x18 x19 x20 x21 f0 f1 f2 f3 f4 f5 f6 f7 f8 f_2 f10 f11 f12 f13 f14 f15 f16 f17 f18 f19 f20 f21 la fN fP fM fO) H → va_D A (mW ad kc x0 x1 x2 x3 x4 x5 x6 x7 x8 x9 x10 x11 x12 x13 x14 x15 x16 x17 x18 x19 x20 x21 f0 f1 f2 f3 f4 f5 f6 f7 f8 f_2 f10 f11 f12 f13 f14 f15 f16 f17 f18 f19 f20 f21 la fN fP fM fO) → va_S A s.heap H locs → lv_has ls 4 [(3, .int kk), (0, .ref (ad 0)), (1, .int i1), (2, .int i2)] → W p l e (headSpec mwX10_copiesSetm ({ frames := 0, cells := 0, slots := 0, locals := 0 })).room s m ([.ref (ad 0), .int i1, .int i2]).toArray below meth c H locs 0 0 (MQ below (va_Qv (fun (_ : Unit) => True) (fun _ t => ∃ (g9 : Nat → Int32) (L9 : Nat → Nat → Int64), (cS fL f9 L9 g9 i1.toInt i2.toInt) ∧ va_P (dC, dI) vwCl (mW ad kc x0 x1 x2 x3 x4 x5 x6 x7 x8 x9 x10 x11 x12 x13 x14 x15 x16 x17 x18 x19 x20 x21 f0 f1 f2 f3 f4 f5 f6 f7 f8 g9 f10 f11 f12 f13 f14 f15 f16 f17 f18 f19 f20 f21 L9 fN fP fM fO) t.heap ∧ va_K (dC, dI) vwCl (mT kc) t ∧ va_D A (mW ad kc x0 x1 x2 x3 x4 x5 x6 x7 x8 x9 x10 x11 x12 x13 x14 x15 x16 x17 x18 x19 x20 x21 f0 f1 f2 f3 f4 f5 f6 f7 f8 g9 f10 f11 f12 f13 f14 f15 f16 f17 f18 f19 f20 f21 L9 fN fP fM fO)) A) ([.ref (ad 0), .int i1, .int i2]).toArray s 0 0 A) (F0 m 14 ls []) := by
    intro lm14
    induction lm14 with
    | zero => intro kk la v14_0 v14_1 v14_2 v14_3 hm14; exact absurd hm14 (Nat.not_lt_zero _)
    | succ lm14 ih14 =>
      intro kk la v14_0 v14_1 v14_2 v14_3 hm14 H locs ls hP hD hS hl
      have rg_kk := i_rng kk
      refine lv_iload_n hx hb dX10_copiesSet_14 rfl (lv_at hl 0 rfl) ?_
      refine lv_aload_n hx hb dX10_copiesSet_15 rfl (lv_at hl 1 rfl) ?_
      refine va_get (D := (dC, dI)) (ci := 10) (v := .ref (ad 10)) (C := RX10) (T := TX10) (N := 48) hx hb hts fin_X10_copiesSetm_X10 hown hK hP 0 rfl rfl 26 (by decide) (hts (.fieldLink RX10 51 "PatternGateModel" "rowMany" "[I") (List.mem_of_getElem? (i := 1) (by decide +kernel))) (fun _ h9 => h9) rfl dX10_copiesSet_16 ?_
      refine lv_iload_n hx hb dX10_copiesSet_19 rfl (lv_at hl 2 rfl) ?_
      refine va_iald hx hb hK hP 10 9 rfl rfl (i := i1) (vp_of (a := i1.toInt) rfl (by omega) (by omega)) dX10_copiesSet_20 ?_
      refine lv_topi (fun y_3 ey_3 => ?_)
      have rg_y_3 := i_rng y_3
      have vy_3 := vI_lda (f := f_2) (i := i1) (a := i1.toInt) ey_3 (by first | omega | decide)
      have rg_y_3 := i_rng y_3
      refine lv_icmp_ge (tgt := 46) hx hb dX10_copiesSet_21 (by decide) (fun k_4 => ?_) (fun k_4 => ?_)
      · have tk_4 := c_ge (a := kk.toInt) (b := y_3.toInt) rfl rfl k_4
        exact W.vret hx hb hr (fun t ht hW => ⟨⟨(), rfl, trivial, f_2, la, ⟨u9.2, v14_2, by have h9 := u9.1; omega, fun j hj => v14_3 j (by omega)⟩, by rw [ht]; exact hP, va_K.moved hW.alike hK, hD⟩, hS.F ht⟩) hS.2.2 dX10_copiesSet_46
      · have tk_4 := c_nge (a := kk.toInt) (b := y_3.toInt) rfl rfl k_4
        refine lv_aload_n hx hb dX10_copiesSet_24 rfl (lv_at hl 1 rfl) ?_
        refine va_get (D := (dC, dI)) (ci := 10) (v := .ref (ad 23)) (C := RX10) (T := TX10) (N := 48) hx hb hts fin_X10_copiesSetm_X10 hown hK hP 0 rfl rfl 25 (by decide) (hts (.fieldLink RX10 48 "PatternGateModel" "rows" "[[J") (List.mem_of_getElem? (i := 2) (by decide +kernel))) (fun _ h9 => h9) rfl dX10_copiesSet_25 ?_
        refine lv_iload_n hx hb dX10_copiesSet_28 rfl (lv_at hl 3 rfl) ?_
        refine m_aak hx hb hK hP 23 22 (k := i2.toInt.toNat) (b := ad (100 + i2.toInt.toNat)) rfl rfl rfl (i := i2) (by omega) (by omega) rfl dX10_copiesSet_29 ?_
        refine lv_iload_n hx hb dX10_copiesSet_30 rfl (lv_at hl 0 rfl) ?_
        refine lv_aload_n hx hb dX10_copiesSet_31 rfl (lv_at hl 1 rfl) ?_
        refine va_get (D := (dC, dI)) (ci := 10) (v := .ref (ad 23)) (C := RX10) (T := TX10) (N := 48) hx hb hts fin_X10_copiesSetm_X10 hown hK hP 0 rfl rfl 25 (by decide) (hts (.fieldLink RX10 48 "PatternGateModel" "rows" "[[J") (List.mem_of_getElem? (i := 2) (by decide +kernel))) (fun _ h9 => h9) rfl dX10_copiesSet_32 ?_
        refine lv_iload_n hx hb dX10_copiesSet_35 rfl (lv_at hl 2 rfl) ?_
        refine m_aak hx hb hK hP 23 22 (k := i1.toInt.toNat) (b := ad (100 + i1.toInt.toNat)) rfl rfl rfl (i := i1) (by omega) (by omega) rfl dX10_copiesSet_36 ?_
        refine lv_iload_n hx hb dX10_copiesSet_37 rfl (lv_at hl 0 rfl) ?_
        refine va_lald hx hb hK hP (27 + i1.toInt.toNat) 26 (mW_L (by omega)) rfl (i := kk) (vp_of (a := kk.toInt) rfl (by omega) (by omega)) dX10_copiesSet_38 ?_
        refine lv_topl (fun w_5 ew_5 => ?_)
        refine va_last hx hb hK hP hD hS (27 + i2.toInt.toNat) 26 (mW_L (by omega)) rfl (i := kk) (vp_of (a := kk.toInt) rfl (by omega) (by omega)) dX10_copiesSet_39 (fun H locs hP hD hS => ?_)
        rw [mW_Ls (by omega)] at hP hD
        generalize hL_6 : uF la i2.toInt.toNat (vp_updL _ _ _) = L_6 at hP hD
        have hP : va_P (dC, dI) vwCl (mW ad kc x0 x1 x2 x3 x4 x5 x6 x7 x8 x9 x10 x11 x12 x13 x14 x15 x16 x17 x18 x19 x20 x21 f0 f1 f2 f3 f4 f5 f6 f7 f8 f_2 f10 f11 f12 f13 f14 f15 f16 f17 f18 f19 f20 f21 L_6 fN fP fM fO) H := hP
        have hD : va_D A (mW ad kc x0 x1 x2 x3 x4 x5 x6 x7 x8 x9 x10 x11 x12 x13 x14 x15 x16 x17 x18 x19 x20 x21 f0 f1 f2 f3 f4 f5 f6 f7 f8 f_2 f10 f11 f12 f13 f14 f15 f16 f17 f18 f19 f20 f21 L_6 fN fP fM fO) := hD
        obtain ⟨y_7, ey_7⟩ : ∃ y : Int32, y = kk + 1 := ⟨_, rfl⟩
        first | have ty_7 := i_add (a := kk.toInt) (b := 1) rfl (by decide) ey_7 (by omega) (by omega) | skip
        refine lv_iinc (v := y_7) (lv' := [(3, .int y_7), (0, .ref (ad 0)), (1, .int i1), (2, .int i2)]) hx hb dX10_copiesSet_40 hl (k := 0) rfl (by rw [ey_7]; rfl) (by decide) rfl (fun ls hl => ?_)
        refine lv_goto (tgt := 14) hx hb dX10_copiesSet_43 (by decide) ?_
        exact ih14 y_7 L_6 (by first | omega | assumption | decide) (by first | omega | assumption | decide) (fun k h => (uF_n hL_6 h).trans (v14_2 k h)) (cs_step hL_6 v14_3 (by rw [ew_5, v14_2 _ (by omega)]) (by omega) (by omega)) (by omega) _ _ ls hP hD hS (lv_sub hl [0, 1, 2, 3] rfl)
  have lit_7 : (0 : Int32).toInt = 0 := by decide
  exact loop14 _ 0 fL (by first | omega | assumption | decide) (by first | omega | assumption | decide) (fun _ _ => rfl) (fun j hj => by omega) (Nat.lt_succ_self _) _ _ ls hP hD hS (lv_sub hl [0, 1, 2, 3] rfl)
theorem dX10_crosses_0 : decode cX10_crosses 0 = .ok (.iconst 1, 1) := by decide +kernel
theorem dX10_crosses_1 : decode cX10_crosses 1 = .ok (.istore 5, 2) := by decide +kernel
theorem dX10_crosses_3 : decode cX10_crosses 3 = .ok (.aload_n 0, 1) := by decide +kernel
theorem dX10_crosses_4 : decode cX10_crosses 4 = .ok (.getfield 51, 3) := by decide +kernel
theorem dX10_crosses_7 : decode cX10_crosses 7 = .ok (.iload_n 3, 1) := by decide +kernel
theorem dX10_crosses_8 : decode cX10_crosses 8 = .ok (.iconst 0, 1) := by decide +kernel
theorem dX10_crosses_9 : decode cX10_crosses 9 = .ok (.iastore, 1) := by decide +kernel
theorem dX10_crosses_10 : decode cX10_crosses 10 = .ok (.iconst 0, 1) := by decide +kernel
theorem dX10_crosses_11 : decode cX10_crosses 11 = .ok (.istore 6, 2) := by decide +kernel
theorem dX10_crosses_13 : decode cX10_crosses 13 = .ok (.iload 6, 2) := by decide +kernel
theorem dX10_crosses_15 : decode cX10_crosses 15 = .ok (.aload_n 0, 1) := by decide +kernel
theorem dX10_crosses_16 : decode cX10_crosses 16 = .ok (.getfield 51, 3) := by decide +kernel
theorem dX10_crosses_19 : decode cX10_crosses 19 = .ok (.iload_n 1, 1) := by decide +kernel
theorem dX10_crosses_20 : decode cX10_crosses 20 = .ok (.iaload, 1) := by decide +kernel
theorem dX10_crosses_21 : decode cX10_crosses 21 = .ok (.if_icmp .ge 108, 3) := by decide +kernel
theorem dX10_crosses_24 : decode cX10_crosses 24 = .ok (.iconst 0, 1) := by decide +kernel
theorem dX10_crosses_25 : decode cX10_crosses 25 = .ok (.istore 7, 2) := by decide +kernel
theorem dX10_crosses_27 : decode cX10_crosses 27 = .ok (.iload 7, 2) := by decide +kernel
theorem dX10_crosses_29 : decode cX10_crosses 29 = .ok (.aload_n 0, 1) := by decide +kernel
theorem dX10_crosses_30 : decode cX10_crosses 30 = .ok (.getfield 51, 3) := by decide +kernel
theorem dX10_crosses_33 : decode cX10_crosses 33 = .ok (.iload_n 2, 1) := by decide +kernel
theorem dX10_crosses_34 : decode cX10_crosses 34 = .ok (.iaload, 1) := by decide +kernel
theorem dX10_crosses_35 : decode cX10_crosses 35 = .ok (.if_icmp .ge 88, 3) := by decide +kernel
theorem dX10_crosses_38 : decode cX10_crosses 38 = .ok (.iload 4, 2) := by decide +kernel
theorem dX10_crosses_40 : decode cX10_crosses 40 = .ok (.ifCond .eq 18, 3) := by decide +kernel
theorem dX10_crosses_43 : decode cX10_crosses 43 = .ok (.aload_n 0, 1) := by decide +kernel
theorem dX10_crosses_44 : decode cX10_crosses 44 = .ok (.getfield 48, 3) := by decide +kernel
theorem dX10_crosses_47 : decode cX10_crosses 47 = .ok (.iload_n 1, 1) := by decide +kernel
theorem dX10_crosses_48 : decode cX10_crosses 48 = .ok (.aaload, 1) := by decide +kernel
theorem dX10_crosses_49 : decode cX10_crosses 49 = .ok (.iload 6, 2) := by decide +kernel
theorem dX10_crosses_51 : decode cX10_crosses 51 = .ok (.laload, 1) := by decide +kernel
theorem dX10_crosses_52 : decode cX10_crosses 52 = .ok (.invokestatic 277, 3) := by decide +kernel
theorem dX10_crosses_55 : decode cX10_crosses 55 = .ok (.goto 12, 3) := by decide +kernel
theorem dX10_crosses_58 : decode cX10_crosses 58 = .ok (.aload_n 0, 1) := by decide +kernel
theorem dX10_crosses_59 : decode cX10_crosses 59 = .ok (.getfield 48, 3) := by decide +kernel
theorem dX10_crosses_62 : decode cX10_crosses 62 = .ok (.iload_n 1, 1) := by decide +kernel
theorem dX10_crosses_63 : decode cX10_crosses 63 = .ok (.aaload, 1) := by decide +kernel
theorem dX10_crosses_64 : decode cX10_crosses 64 = .ok (.iload 6, 2) := by decide +kernel
theorem dX10_crosses_66 : decode cX10_crosses 66 = .ok (.laload, 1) := by decide +kernel
theorem dX10_crosses_67 : decode cX10_crosses 67 = .ok (.lstore 8, 2) := by decide +kernel
theorem dX10_crosses_69 : decode cX10_crosses 69 = .ok (.lload 8, 2) := by decide +kernel
theorem dX10_crosses_71 : decode cX10_crosses 71 = .ok (.invokestatic 256, 3) := by decide +kernel
theorem dX10_crosses_74 : decode cX10_crosses 74 = .ok (.aload_n 0, 1) := by decide +kernel
theorem dX10_crosses_75 : decode cX10_crosses 75 = .ok (.getfield 48, 3) := by decide +kernel
theorem dX10_crosses_78 : decode cX10_crosses 78 = .ok (.iload_n 2, 1) := by decide +kernel
theorem dX10_crosses_79 : decode cX10_crosses 79 = .ok (.aaload, 1) := by decide +kernel
theorem dX10_crosses_80 : decode cX10_crosses 80 = .ok (.iload 7, 2) := by decide +kernel
theorem dX10_crosses_82 : decode cX10_crosses 82 = .ok (.laload, 1) := by decide +kernel
theorem dX10_crosses_83 : decode cX10_crosses 83 = .ok (.invokestatic 256, 3) := by decide +kernel
theorem dX10_crosses_86 : decode cX10_crosses 86 = .ok (.iadd, 1) := by decide +kernel
theorem dX10_crosses_87 : decode cX10_crosses 87 = .ok (.bipush 8, 2) := by decide +kernel
theorem dX10_crosses_89 : decode cX10_crosses 89 = .ok (.if_icmp .le 9, 3) := by decide +kernel
theorem dX10_crosses_92 : decode cX10_crosses 92 = .ok (.iconst 0, 1) := by decide +kernel
theorem dX10_crosses_93 : decode cX10_crosses 93 = .ok (.istore 5, 2) := by decide +kernel
theorem dX10_crosses_95 : decode cX10_crosses 95 = .ok (.goto 22, 3) := by decide +kernel
theorem dX10_crosses_98 : decode cX10_crosses 98 = .ok (.aload_n 0, 1) := by decide +kernel
theorem dX10_crosses_99 : decode cX10_crosses 99 = .ok (.iload_n 3, 1) := by decide +kernel
theorem dX10_crosses_100 : decode cX10_crosses 100 = .ok (.lload 8, 2) := by decide +kernel
theorem dX10_crosses_102 : decode cX10_crosses 102 = .ok (.aload_n 0, 1) := by decide +kernel
theorem dX10_crosses_103 : decode cX10_crosses 103 = .ok (.getfield 48, 3) := by decide +kernel
theorem dX10_crosses_106 : decode cX10_crosses 106 = .ok (.iload_n 2, 1) := by decide +kernel
theorem dX10_crosses_107 : decode cX10_crosses 107 = .ok (.aaload, 1) := by decide +kernel
theorem dX10_crosses_108 : decode cX10_crosses 108 = .ok (.iload 7, 2) := by decide +kernel
theorem dX10_crosses_110 : decode cX10_crosses 110 = .ok (.laload, 1) := by decide +kernel
theorem dX10_crosses_111 : decode cX10_crosses 111 = .ok (.invokestatic 281, 3) := by decide +kernel
theorem dX10_crosses_114 : decode cX10_crosses 114 = .ok (.invokevirtual 285, 3) := by decide +kernel
theorem dX10_crosses_117 : decode cX10_crosses 117 = .ok (.iinc 7 1, 3) := by decide +kernel
theorem dX10_crosses_120 : decode cX10_crosses 120 = .ok (.goto (-93), 3) := by decide +kernel
theorem dX10_crosses_123 : decode cX10_crosses 123 = .ok (.iinc 6 1, 3) := by decide +kernel
theorem dX10_crosses_126 : decode cX10_crosses 126 = .ok (.goto (-113), 3) := by decide +kernel
theorem dX10_crosses_129 : decode cX10_crosses 129 = .ok (.iload 5, 2) := by decide +kernel
theorem dX10_crosses_131 : decode cX10_crosses 131 = .ok (.ifCond .eq 18, 3) := by decide +kernel
theorem dX10_crosses_134 : decode cX10_crosses 134 = .ok (.aload_n 0, 1) := by decide +kernel
theorem dX10_crosses_135 : decode cX10_crosses 135 = .ok (.getfield 51, 3) := by decide +kernel
theorem dX10_crosses_138 : decode cX10_crosses 138 = .ok (.iload_n 3, 1) := by decide +kernel
theorem dX10_crosses_139 : decode cX10_crosses 139 = .ok (.iaload, 1) := by decide +kernel
theorem dX10_crosses_140 : decode cX10_crosses 140 = .ok (.bipush 6, 2) := by decide +kernel
theorem dX10_crosses_142 : decode cX10_crosses 142 = .ok (.if_icmp .gt 7, 3) := by decide +kernel
theorem dX10_crosses_145 : decode cX10_crosses 145 = .ok (.iconst 1, 1) := by decide +kernel
theorem dX10_crosses_146 : decode cX10_crosses 146 = .ok (.goto 4, 3) := by decide +kernel
theorem dX10_crosses_149 : decode cX10_crosses 149 = .ok (.iconst 0, 1) := by decide +kernel
theorem dX10_crosses_150 : decode cX10_crosses 150 = .ok (.ireturn, 1) := by decide +kernel
def mwX10_crossesm : List Cond := .code yX10_crosses cX10_crosses 10 (some .boolean) :: ([.fieldLink RX10 51 "PatternGateModel" "rowMany" "[I", .fieldLink RX10 48 "PatternGateModel" "rows" "[[J", .code yX10_longOf cX10_longOf 2 (some .int), .methodLink RX10 256 yX10_longOf, .static yX10_longOf, .initialized RX10, .code yX10_behind cX10_behind 7 (some .long), .code yX10_letterIn cX10_letterIn 3 (some .int), .constantLong RX10 252 (31), .methodLink RX10 260 yX10_letterIn, .static yX10_letterIn, .code yX10_with cX10_with 3 (some .long), .constantLong RX10 254 (1125899906842624), .methodLink RX10 264 yX10_with, .static yX10_with, .methodLink RX10 281 yX10_behind, .static yX10_behind, .code yX10_addsRow cX10_addsRow 5 none, .methodLink RX10 285 yX10_addsRow, .instanceMethod yX10_addsRow, .selects RX10 yX10_addsRow yX10_addsRow, .code yX10_lastTwo cX10_lastTwo 5 (some .long), .methodLink RX10 268 Lib.Math.max.name, .static Lib.Math.max.name, .initialized "java/lang/Math", .code Lib.Math.max.name Lib.Math.max.code 2 (some .int), .methodLink RX10 277 yX10_lastTwo, .static yX10_lastTwo] ++ wsX100)
theorem fin_X10_crossesm_X10 : ∀ w ∈ wsX100, w ∈ mwX10_crossesm := fun w h => List.mem_cons_of_mem _ (List.mem_append_right _ h)
set_option maxRecDepth 20000 in
theorem mg_X10_crossesm_X10_longOf_256 : GoodIn mwX10_crossesm (va_wsS RX10 256 yX10_longOf mwX10_longOfm) := goodIn_r _ [4, 5, 6, 3] (by decide +kernel) (by decide +kernel)
set_option maxRecDepth 20000 in
theorem mg_X10_crossesm_X10_behind_281 : GoodIn mwX10_crossesm (va_wsS RX10 281 yX10_behind mwX10_behindm) := goodIn_r _ [16, 17, 6, 7, 3, 4, 5, 6, 8, 9, 10, 11, 12, 13, 14, 15] (by decide +kernel) (by decide +kernel)
set_option maxRecDepth 20000 in
theorem mg_X10_crossesm_X10_addsRow_285 : GoodIn mwX10_crossesm (wsV RX10 285 RX10 yX10_addsRow mwX10_addsRowm) := goodIn_r _ [19, 20, 21, 6, 18, 1, 2, 29, 30, 31, 32, 33, 34, 35, 36, 37, 38, 39, 40, 41, 42, 43, 44, 45, 46, 47, 48, 49, 50, 51, 52, 53, 54, 55, 56, 57, 58, 59, 60, 61, 62, 63, 64, 65, 66, 67, 68, 69, 70, 71, 72, 73, 74, 75, 76] (by decide +kernel) (by decide +kernel)
set_option maxRecDepth 20000 in
theorem mg_X10_crossesm_X10_lastTwo_277 : GoodIn mwX10_crossesm (va_wsS RX10 277 yX10_lastTwo mwX10_lastTwom) := goodIn_r _ [27, 28, 6, 22, 3, 4, 5, 6, 23, 24, 25, 26, 8, 9, 10, 11, 12, 13, 14, 15] (by decide +kernel) (by decide +kernel)
set_option maxHeartbeats 4000000 in
set_option maxRecDepth 100000 in
theorem m_crosses (l : Launch) (dC : Nat → ClassId) (dI : Nat → Nat → Nat) (ad : Nat → Nat) (kc : Nat → ClassId) (x0 x1 x2 x3 x4 x5 x6 x7 x8 x9 x10 x11 x12 x13 x14 x15 x16 x17 x18 x19 x20 x21 : Int32) (f0 f1 f2 f3 f4 f5 f6 f7 f8 f9 f10 f11 f12 f13 f14 f15 f16 f17 f18 f19 f20 f21 : Nat → Int32) (fL : Nat → Nat → Int64) (fN : Nat → Nat → Int32) (fP : Nat → Nat → Nat) (fM : Nat → Nat → Int32) (fO : Nat → Nat → Int32) (sz : Nat) (i1 i2 i3 i4 : Int32) (ba : Int) (bb : Int) (cc : Int) (q0 : 0 ≤ i1.toInt ∧ i1.toInt < 90) (q1 : 0 ≤ i2.toInt ∧ i2.toInt < 90) (q2 : 0 ≤ i3.toInt ∧ i3.toInt < 90) (q3 : i1.toInt ≠ i3.toInt) (q4 : i2.toInt ≠ i3.toInt) (q5 : i4.toInt = 0 ∨ i4.toInt = 1) (q6 : sOK fL f9 i1.toInt 6 ba) (q7 : sOK fL f9 i2.toInt 6 bb) (q8 : i4.toInt = 0 → ba + bb ≤ cc) (q9 : i4.toInt = 1 → 2 + bb ≤ cc) : Met l yX10_crosses mwX10_crossesm ({ frames := 3, cells := 0, slots := 0, locals := 180 }) (va_Pc [.ref (ad 0), .int i1, .int i2, .int i3, .int i4] (fun U => U.heap.size = sz ∧ va_P (dC, dI) vwCl (mW ad kc x0 x1 x2 x3 x4 x5 x6 x7 x8 x9 x10 x11 x12 x13 x14 x15 x16 x17 x18 x19 x20 x21 f0 f1 f2 f3 f4 f5 f6 f7 f8 f9 f10 f11 f12 f13 f14 f15 f16 f17 f18 f19 f20 f21 fL fN fP fM fO) U.heap ∧ va_K (dC, dI) vwCl (mT kc) U ∧ va_D (fun _ => True) (mW ad kc x0 x1 x2 x3 x4 x5 x6 x7 x8 x9 x10 x11 x12 x13 x14 x15 x16 x17 x18 x19 x20 x21 f0 f1 f2 f3 f4 f5 f6 f7 f8 f9 f10 f11 f12 f13 f14 f15 f16 f17 f18 f19 f20 f21 fL fN fP fM fO))) (va_Qi (fun (o9 u9 : Int32) => o9 = u9) (fun (o9 : Int32) t => ∃ (g9 : Nat → Int32) (L9 : Nat → Nat → Int64), (o9.toInt = 0 ∨ o9.toInt = 1) ∧ (sFr fL f9 L9 g9 i3.toInt) ∧ (sOK L9 g9 i3.toInt (36) cc) ∧ (o9.toInt = 1 → vI g9 i3.toInt ≤ 6) ∧ va_P (dC, dI) vwCl (mW ad kc x0 x1 x2 x3 x4 x5 x6 x7 x8 x9 x10 x11 x12 x13 x14 x15 x16 x17 x18 x19 x20 x21 f0 f1 f2 f3 f4 f5 f6 f7 f8 g9 f10 f11 f12 f13 f14 f15 f16 f17 f18 f19 f20 f21 L9 fN fP fM fO) t.heap ∧ va_K (dC, dI) vwCl (mT kc) t ∧ va_D (va_A (mW ad kc x0 x1 x2 x3 x4 x5 x6 x7 x8 x9 x10 x11 x12 x13 x14 x15 x16 x17 x18 x19 x20 x21 f0 f1 f2 f3 f4 f5 f6 f7 f8 f9 f10 f11 f12 f13 f14 f15 f16 f17 f18 f19 f20 f21 fL fN fP fM fO) sz) (mW ad kc x0 x1 x2 x3 x4 x5 x6 x7 x8 x9 x10 x11 x12 x13 x14 x15 x16 x17 x18 x19 x20 x21 f0 f1 f2 f3 f4 f5 f6 f7 f8 g9 f10 f11 f12 f13 f14 f15 f16 f17 f18 f19 f20 f21 L9 fN fP fM fO)) (va_A (mW ad kc x0 x1 x2 x3 x4 x5 x6 x7 x8 x9 x10 x11 x12 x13 x14 x15 x16 x17 x18 x19 x20 x21 f0 f1 f2 f3 f4 f5 f6 f7 f8 f9 f10 f11 f12 f13 f14 f15 f16 f17 f18 f19 f20 f21 fL fN fP fM fO) sz)) 0 0 (va_A (mW ad kc x0 x1 x2 x3 x4 x5 x6 x7 x8 x9 x10 x11 x12 x13 x14 x15 x16 x17 x18 x19 x20 x21 f0 f1 f2 f3 f4 f5 f6 f7 f8 f9 f10 f11 f12 f13 f14 f15 f16 f17 f18 f19 f20 f21 fL fN fP fM fO) sz) := by
  refine Met.ofW (cc := cX10_crosses) (maxL := 10) (ret := (some .boolean)) (by decide +kernel) rfl ?_
  intro p e s m args below meth c s₁ B hml hv
  obtain ⟨rfl, hsz, hP, hK, hD0⟩ := hv
  have hx := B.exec
  have hb := B.bytes
  have hr := B.returns
  have hts := atoms_spec (ws := mwX10_crossesm) B.pre
  have hown : s.vm.findClass RX10 = some m.cls := findClass_of_methodNamed B.named
  have hlocks := B.notSynchronized
  subst hsz
  have hD := hD0.self (sz := s.heap.size)
  generalize hAe : va_A (mW ad kc x0 x1 x2 x3 x4 x5 x6 x7 x8 x9 x10 x11 x12 x13 x14 x15 x16 x17 x18 x19 x20 x21 f0 f1 f2 f3 f4 f5 f6 f7 f8 f9 f10 f11 f12 f13 f14 f15 f16 f17 f18 f19 f20 f21 fL fN fP fM fO) s.heap.size = A at hD ⊢
  have hA : ∀ q : Nat, s.heap.size ≤ q → A q := fun q h => by rw [← hAe]; exact Or.inr h
  have hP : va_P (dC, dI) vwCl (mW ad kc x0 x1 x2 x3 x4 x5 x6 x7 x8 x9 x10 x11 x12 x13 x14 x15 x16 x17 x18 x19 x20 x21 f0 f1 f2 f3 f4 f5 f6 f7 f8 f9 f10 f11 f12 f13 f14 f15 f16 f17 f18 f19 f20 f21 fL fN fP fM fO) s.heap := hP
  have hD : va_D A (mW ad kc x0 x1 x2 x3 x4 x5 x6 x7 x8 x9 x10 x11 x12 x13 x14 x15 x16 x17 x18 x19 x20 x21 f0 f1 f2 f3 f4 f5 f6 f7 f8 f9 f10 f11 f12 f13 f14 f15 f16 f17 f18 f19 f20 f21 fL fN fP fM fO) := hD
  have hK : va_K (dC, dI) vwCl (mT kc) s := hK
  generalize hH : s.heap = H at hP ⊢
  have hS : va_S A s.heap H [] := by rw [← hH]; exact va_S.rf
  have hl := lv_entry ([.ref (ad 0), .int i1, .int i2, .int i3, .int i4]) (n := 10) (Nat.le_of_ble_eq_true rfl)
  rw [lg_entry_eq]
  generalize (lg_sl ([.ref (ad 0), .int i1, .int i2, .int i3, .int i4]) ++ List.replicate (10 - (lg_sl ([.ref (ad 0), .int i1, .int i2, .int i3, .int i4])).length) Slot.unset).toArray = ls at hl ⊢
  have hl : lv_has ls 10 [(0, .ref (ad 0)), (1, .int i1), (2, .int i2), (3, .int i3), (4, .int i4)] := hl
  have rg_i1 := i_rng i1
  have rg_i2 := i_rng i2
  have rg_i3 := i_rng i3
  have rg_i4 := i_rng i4
  have q6a := q6.1
  have q6b := q6.2.1
  have q7a := q7.1
  have q7b := q7.2.1
  refine lv_iconst (v := 1) hx hb dX10_crosses_0 (by decide) ?_
  refine lv_istore (lv' := [(5, .int 1), (0, .ref (ad 0)), (1, .int i1), (2, .int i2), (3, .int i3), (4, .int i4)]) hx hb dX10_crosses_1 hl (by decide) rfl (fun ls hl => ?_)
  refine lv_aload_n hx hb dX10_crosses_3 rfl (lv_at hl 1 rfl) ?_
  refine va_get (D := (dC, dI)) (ci := 10) (v := .ref (ad 10)) (C := RX10) (T := TX10) (N := 48) hx hb hts fin_X10_crossesm_X10 hown hK hP 0 rfl rfl 26 (by decide) (hts (.fieldLink RX10 51 "PatternGateModel" "rowMany" "[I") (List.mem_of_getElem? (i := 1) (by decide +kernel))) (fun _ h9 => h9) rfl dX10_crosses_4 ?_
  refine lv_iload_n hx hb dX10_crosses_7 rfl (lv_at hl 4 rfl) ?_
  refine lv_iconst (v := 0) hx hb dX10_crosses_8 (by decide) ?_
  refine va_iast hx hb hK hP hD hS 10 9 rfl rfl (i := i3) (vp_of (a := i3.toInt) rfl (by omega) (by omega)) dX10_crosses_9 (fun H locs hP hD hS => ?_)
  generalize hf_f_1 : upd f9 _ _ = f_1 at hP hD
  have uf_1 := vI_up (a := i3.toInt) (b := 0) hf_f_1 (by first | omega | decide) (by omega) (by decide)
  have hP : va_P (dC, dI) vwCl (mW ad kc x0 x1 x2 x3 x4 x5 x6 x7 x8 x9 x10 x11 x12 x13 x14 x15 x16 x17 x18 x19 x20 x21 f0 f1 f2 f3 f4 f5 f6 f7 f8 f_1 f10 f11 f12 f13 f14 f15 f16 f17 f18 f19 f20 f21 fL fN fP fM fO) H := hP
  have hD : va_D A (mW ad kc x0 x1 x2 x3 x4 x5 x6 x7 x8 x9 x10 x11 x12 x13 x14 x15 x16 x17 x18 x19 x20 x21 f0 f1 f2 f3 f4 f5 f6 f7 f8 f_1 f10 f11 f12 f13 f14 f15 f16 f17 f18 f19 f20 f21 fL fN fP fM fO) := hD
  refine lv_iconst (v := 0) hx hb dX10_crosses_10 (by decide) ?_
  refine lv_istore (lv' := [(6, .int 0), (5, .int 1), (0, .ref (ad 0)), (1, .int i1), (2, .int i2), (3, .int i3), (4, .int i4)]) hx hb dX10_crosses_11 hl (by decide) rfl (fun ls hl => ?_)
  have loop13 : ∀ (lm13 : Nat) (my ii : Int32) (ga : Nat → Int32) (la : Nat → Nat → Int64), (0 ≤ ii.toInt) → (ii.toInt ≤ vI f9 i1.toInt) → (my.toInt = 0 ∨ my.toInt = 1) → (sFr fL f9 la ga i3.toInt) → (sOK la ga i3.toInt (6 * ii.toInt) cc) → ((vI f9 i1.toInt - ii.toInt).toNat) < lm13 → ∀ (H : Heap) (locs : List Loc) (ls : Array Slot), va_P (dC, dI) vwCl (mW ad kc x0 x1 x2 x3 x4 x5 x6 x7 x8 x9 x10 x11 x12 x13 x14 x15 x16 x17 x18 x19 x20 x21 f0 f1 f2 f3 f4 f5 f6 f7 f8 ga f10 f11 f12 f13 f14 f15 f16 f17 f18 f19 f20 f21 la fN fP fM fO) H → va_D A (mW ad kc x0 x1 x2 x3 x4 x5 x6 x7 x8 x9 x10 x11 x12 x13 x14 x15 x16 x17 x18 x19 x20 x21 f0 f1 f2 f3 f4 f5 f6 f7 f8 ga f10 f11 f12 f13 f14 f15 f16 f17 f18 f19 f20 f21 la fN fP fM fO) → va_S A s.heap H locs → lv_has ls 10 [(6, .int ii), (5, .int my), (0, .ref (ad 0)), (1, .int i1), (2, .int i2), (3, .int i3), (4, .int i4)] → W p l e (headSpec mwX10_crossesm ({ frames := 3, cells := 0, slots := 0, locals := 180 })).room s m ([.ref (ad 0), .int i1, .int i2, .int i3, .int i4]).toArray below meth c H locs 0 0 (MQ below (va_Qi (fun (o9 u9 : Int32) => o9 = u9) (fun (o9 : Int32) t => ∃ (g9 : Nat → Int32) (L9 : Nat → Nat → Int64), (o9.toInt = 0 ∨ o9.toInt = 1) ∧ (sFr fL f9 L9 g9 i3.toInt) ∧ (sOK L9 g9 i3.toInt (36) cc) ∧ (o9.toInt = 1 → vI g9 i3.toInt ≤ 6) ∧ va_P (dC, dI) vwCl (mW ad kc x0 x1 x2 x3 x4 x5 x6 x7 x8 x9 x10 x11 x12 x13 x14 x15 x16 x17 x18 x19 x20 x21 f0 f1 f2 f3 f4 f5 f6 f7 f8 g9 f10 f11 f12 f13 f14 f15 f16 f17 f18 f19 f20 f21 L9 fN fP fM fO) t.heap ∧ va_K (dC, dI) vwCl (mT kc) t ∧ va_D A (mW ad kc x0 x1 x2 x3 x4 x5 x6 x7 x8 x9 x10 x11 x12 x13 x14 x15 x16 x17 x18 x19 x20 x21 f0 f1 f2 f3 f4 f5 f6 f7 f8 g9 f10 f11 f12 f13 f14 f15 f16 f17 f18 f19 f20 f21 L9 fN fP fM fO)) A) ([.ref (ad 0), .int i1, .int i2, .int i3, .int i4]).toArray s 0 0 A) (F0 m 13 ls []) := by
    intro lm13
    induction lm13 with
    | zero => intro my ii ga la v13_0 v13_1 v13_2 v13_3 v13_4 hm13; exact absurd hm13 (Nat.not_lt_zero _)
    | succ lm13 ih13 =>
      intro my ii ga la v13_0 v13_1 v13_2 v13_3 v13_4 hm13 H locs ls hP hD hS hl
      have rg_my := i_rng my
      have rg_ii := i_rng ii
      refine lv_iload hx hb dX10_crosses_13 (lv_at hl 0 rfl) ?_
      refine lv_aload_n hx hb dX10_crosses_15 rfl (lv_at hl 2 rfl) ?_
      refine va_get (D := (dC, dI)) (ci := 10) (v := .ref (ad 10)) (C := RX10) (T := TX10) (N := 48) hx hb hts fin_X10_crossesm_X10 hown hK hP 0 rfl rfl 26 (by decide) (hts (.fieldLink RX10 51 "PatternGateModel" "rowMany" "[I") (List.mem_of_getElem? (i := 1) (by decide +kernel))) (fun _ h9 => h9) rfl dX10_crosses_16 ?_
      refine lv_iload_n hx hb dX10_crosses_19 rfl (lv_at hl 3 rfl) ?_
      refine va_iald hx hb hK hP 10 9 rfl rfl (i := i1) (vp_of (a := i1.toInt) rfl (by omega) (by omega)) dX10_crosses_20 ?_
      refine lv_topi (fun y_2 ey_2 => ?_)
      have rg_y_2 := i_rng y_2
      have vy_2 := vI_lda (f := ga) (i := i1) (a := i1.toInt) ey_2 (by first | omega | decide)
      have rg_y_2 := i_rng y_2
      have wy_2 := v13_3.1 i1.toInt (by omega) (by omega)
      refine lv_icmp_ge (tgt := 129) hx hb dX10_crosses_21 (by decide) (fun k_3 => ?_) (fun k_3 => ?_)
      · have tk_3 := c_ge (a := ii.toInt) (b := y_2.toInt) rfl rfl k_3
        refine lv_iload hx hb dX10_crosses_129 (lv_at hl 1 rfl) ?_
        refine lv_if_eq (tgt := 149) hx hb dX10_crosses_131 (by decide) (fun k_4 => ?_) (fun k_4 => ?_)
        · have tk_4 := c_eq (a := my.toInt) (b := 0) rfl (by decide) k_4
          refine lv_iconst (v := 0) hx hb dX10_crosses_149 (by decide) ?_
          have lit_4 : (0 : Int32).toInt = 0 := by decide
          exact W.zret hx hb hr (z_nar (by first | assumption | decide | exact z_of (by omega))) (fun t ht hW => ⟨⟨_, _, rfl, rfl, ga, la, (by first | omega | assumption | rfl | decide), v13_3, (v13_4.mono (by omega) (by omega)), (fun h9 => by first | omega | (rw [lit_0] at h9; omega)), by rw [ht]; exact hP, va_K.moved hW.alike hK, hD⟩, hS.F ht⟩) hS.2.2 dX10_crosses_150
        · have tk_4 := c_ne (a := my.toInt) (b := 0) rfl (by decide) k_4
          refine lv_aload_n hx hb dX10_crosses_134 rfl (lv_at hl 2 rfl) ?_
          refine va_get (D := (dC, dI)) (ci := 10) (v := .ref (ad 10)) (C := RX10) (T := TX10) (N := 48) hx hb hts fin_X10_crossesm_X10 hown hK hP 0 rfl rfl 26 (by decide) (hts (.fieldLink RX10 51 "PatternGateModel" "rowMany" "[I") (List.mem_of_getElem? (i := 1) (by decide +kernel))) (fun _ h9 => h9) rfl dX10_crosses_135 ?_
          refine lv_iload_n hx hb dX10_crosses_138 rfl (lv_at hl 5 rfl) ?_
          refine va_iald hx hb hK hP 10 9 rfl rfl (i := i3) (vp_of (a := i3.toInt) rfl (by omega) (by omega)) dX10_crosses_139 ?_
          refine lv_topi (fun y_6 ey_6 => ?_)
          have rg_y_6 := i_rng y_6
          have vy_6 := vI_lda (f := ga) (i := i3) (a := i3.toInt) ey_6 (by first | omega | decide)
          have rg_y_6 := i_rng y_6
          refine lv_bipush (v := 6) hx hb dX10_crosses_140 (by decide) ?_
          refine lv_icmp_gt (tgt := 149) hx hb dX10_crosses_142 (by decide) (fun k_7 => ?_) (fun k_7 => ?_)
          · have tk_7 := c_gt (a := y_6.toInt) (b := 6) rfl (by decide) k_7
            refine lv_iconst (v := 0) hx hb dX10_crosses_149 (by decide) ?_
            have lit_7 : (0 : Int32).toInt = 0 := by decide
            exact W.zret hx hb hr (z_nar (by first | assumption | decide | exact z_of (by omega))) (fun t ht hW => ⟨⟨_, _, rfl, rfl, ga, la, (by first | omega | assumption | rfl | decide), v13_3, (v13_4.mono (by omega) (by omega)), (fun h9 => by first | omega | (rw [lit_0] at h9; omega)), by rw [ht]; exact hP, va_K.moved hW.alike hK, hD⟩, hS.F ht⟩) hS.2.2 dX10_crosses_150
          · have tk_7 := c_ngt (a := y_6.toInt) (b := 6) rfl (by decide) k_7
            refine lv_iconst (v := 1) hx hb dX10_crosses_145 (by decide) ?_
            refine lv_goto (tgt := 150) hx hb dX10_crosses_146 (by decide) ?_
            have lit_8 : (1 : Int32).toInt = 1 := by decide
            exact W.zret hx hb hr (z_nar (by first | assumption | decide | exact z_of (by omega))) (fun t ht hW => ⟨⟨_, _, rfl, rfl, ga, la, (by first | omega | assumption | rfl | decide), v13_3, (v13_4.mono (by omega) (by omega)), (fun h9 => by first | omega | (rw [lit_0] at h9; omega)), by rw [ht]; exact hP, va_K.moved hW.alike hK, hD⟩, hS.F ht⟩) hS.2.2 dX10_crosses_150
      · have tk_3 := c_nge (a := ii.toInt) (b := y_2.toInt) rfl rfl k_3
        refine lv_iconst (v := 0) hx hb dX10_crosses_24 (by decide) ?_
        refine lv_istore (lv' := [(7, .int 0), (6, .int ii), (5, .int my), (0, .ref (ad 0)), (1, .int i1), (2, .int i2), (3, .int i3), (4, .int i4)]) hx hb dX10_crosses_25 hl (by decide) rfl (fun ls hl => ?_)
        have loop27 : ∀ (lm27 : Nat) (mz kk : Int32) (gb : Nat → Int32) (lb : Nat → Nat → Int64), (0 ≤ kk.toInt) → (kk.toInt ≤ vI f9 i2.toInt) → (mz.toInt = 0 ∨ mz.toInt = 1) → True → (sFr fL f9 lb gb i3.toInt) → (sOK lb gb i3.toInt (6 * ii.toInt + kk.toInt) cc) → ((vI f9 i2.toInt - kk.toInt).toNat) < lm27 → ∀ (H : Heap) (locs : List Loc) (ls : Array Slot), va_P (dC, dI) vwCl (mW ad kc x0 x1 x2 x3 x4 x5 x6 x7 x8 x9 x10 x11 x12 x13 x14 x15 x16 x17 x18 x19 x20 x21 f0 f1 f2 f3 f4 f5 f6 f7 f8 gb f10 f11 f12 f13 f14 f15 f16 f17 f18 f19 f20 f21 lb fN fP fM fO) H → va_D A (mW ad kc x0 x1 x2 x3 x4 x5 x6 x7 x8 x9 x10 x11 x12 x13 x14 x15 x16 x17 x18 x19 x20 x21 f0 f1 f2 f3 f4 f5 f6 f7 f8 gb f10 f11 f12 f13 f14 f15 f16 f17 f18 f19 f20 f21 lb fN fP fM fO) → va_S A s.heap H locs → lv_has ls 10 [(7, .int kk), (6, .int ii), (5, .int mz), (0, .ref (ad 0)), (1, .int i1), (2, .int i2), (3, .int i3), (4, .int i4)] → W p l e (headSpec mwX10_crossesm ({ frames := 3, cells := 0, slots := 0, locals := 180 })).room s m ([.ref (ad 0), .int i1, .int i2, .int i3, .int i4]).toArray below meth c H locs 0 0 (MQ below (va_Qi (fun (o9 u9 : Int32) => o9 = u9) (fun (o9 : Int32) t => ∃ (g9 : Nat → Int32) (L9 : Nat → Nat → Int64), (o9.toInt = 0 ∨ o9.toInt = 1) ∧ (sFr fL f9 L9 g9 i3.toInt) ∧ (sOK L9 g9 i3.toInt (36) cc) ∧ (o9.toInt = 1 → vI g9 i3.toInt ≤ 6) ∧ va_P (dC, dI) vwCl (mW ad kc x0 x1 x2 x3 x4 x5 x6 x7 x8 x9 x10 x11 x12 x13 x14 x15 x16 x17 x18 x19 x20 x21 f0 f1 f2 f3 f4 f5 f6 f7 f8 g9 f10 f11 f12 f13 f14 f15 f16 f17 f18 f19 f20 f21 L9 fN fP fM fO) t.heap ∧ va_K (dC, dI) vwCl (mT kc) t ∧ va_D A (mW ad kc x0 x1 x2 x3 x4 x5 x6 x7 x8 x9 x10 x11 x12 x13 x14 x15 x16 x17 x18 x19 x20 x21 f0 f1 f2 f3 f4 f5 f6 f7 f8 g9 f10 f11 f12 f13 f14 f15 f16 f17 f18 f19 f20 f21 L9 fN fP fM fO)) A) ([.ref (ad 0), .int i1, .int i2, .int i3, .int i4]).toArray s 0 0 A) (F0 m 27 ls []) := by
          intro lm27
          induction lm27 with
          | zero => intro mz kk gb lb v27_0 v27_1 v27_2 v27_3 v27_4 v27_5 hm27; exact absurd hm27 (Nat.not_lt_zero _)
          | succ lm27 ih27 =>
            intro mz kk gb lb v27_0 v27_1 v27_2 v27_3 v27_4 v27_5 hm27 H locs ls hP hD hS hl
            have rg_mz := i_rng mz
            have rg_kk := i_rng kk
            refine lv_iload hx hb dX10_crosses_27 (lv_at hl 0 rfl) ?_
            refine lv_aload_n hx hb dX10_crosses_29 rfl (lv_at hl 3 rfl) ?_
            refine va_get (D := (dC, dI)) (ci := 10) (v := .ref (ad 10)) (C := RX10) (T := TX10) (N := 48) hx hb hts fin_X10_crossesm_X10 hown hK hP 0 rfl rfl 26 (by decide) (hts (.fieldLink RX10 51 "PatternGateModel" "rowMany" "[I") (List.mem_of_getElem? (i := 1) (by decide +kernel))) (fun _ h9 => h9) rfl dX10_crosses_30 ?_
            refine lv_iload_n hx hb dX10_crosses_33 rfl (lv_at hl 5 rfl) ?_
            refine va_iald hx hb hK hP 10 9 rfl rfl (i := i2) (vp_of (a := i2.toInt) rfl (by omega) (by omega)) dX10_crosses_34 ?_
            refine lv_topi (fun y_10 ey_10 => ?_)
            have rg_y_10 := i_rng y_10
            have vy_10 := vI_lda (f := gb) (i := i2) (a := i2.toInt) ey_10 (by first | omega | decide)
            have rg_y_10 := i_rng y_10
            have wy_10 := v27_4.1 i2.toInt (by omega) (by omega)
            refine lv_icmp_ge (tgt := 123) hx hb dX10_crosses_35 (by decide) (fun k_11 => ?_) (fun k_11 => ?_)
            · have tk_11 := c_ge (a := kk.toInt) (b := y_10.toInt) rfl rfl k_11
              obtain ⟨y_12, ey_12⟩ : ∃ y : Int32, y = ii + 1 := ⟨_, rfl⟩
              first | have ty_12 := i_add (a := ii.toInt) (b := 1) rfl (by decide) ey_12 (by omega) (by omega) | skip
              refine lv_iinc (v := y_12) (lv' := [(6, .int y_12), (7, .int kk), (5, .int mz), (0, .ref (ad 0)), (1, .int i1), (2, .int i2), (3, .int i3), (4, .int i4)]) hx hb dX10_crosses_123 hl (k := 1) rfl (by rw [ey_12]; rfl) (by decide) rfl (fun ls hl => ?_)
              refine lv_goto (tgt := 13) hx hb dX10_crosses_126 (by decide) ?_
              exact ih13 mz y_12 gb lb (by first | omega | assumption | decide) (by first | omega | assumption | decide) (by first | omega | assumption | decide) v27_4 (v27_5.mono (by omega) (by omega)) (by omega) _ _ ls hP hD hS (lv_sub hl [0, 2, 3, 4, 5, 6, 7] rfl)
            · have tk_11 := c_nge (a := kk.toInt) (b := y_10.toInt) rfl rfl k_11
              refine lv_iload hx hb dX10_crosses_38 (lv_at hl 7 rfl) ?_
              refine lv_if_eq (tgt := 58) hx hb dX10_crosses_40 (by decide) (fun k_13 => ?_) (fun k_13 => ?_)
              · have tk_13 := c_eq (a := i4.toInt) (b := 0) rfl (by decide) k_13
                refine lv_aload_n hx hb dX10_crosses_58 rfl (lv_at hl 3 rfl) ?_
                refine va_get (D := (dC, dI)) (ci := 10) (v := .ref (ad 23)) (C := RX10) (T := TX10) (N := 48) hx hb hts fin_X10_crossesm_X10 hown hK hP 0 rfl rfl 25 (by decide) (hts (.fieldLink RX10 48 "PatternGateModel" "rows" "[[J") (List.mem_of_getElem? (i := 2) (by decide +kernel))) (fun _ h9 => h9) rfl dX10_crosses_59 ?_
                refine lv_iload_n hx hb dX10_crosses_62 rfl (lv_at hl 4 rfl) ?_
                refine m_aak hx hb hK hP 23 22 (k := i1.toInt.toNat) (b := ad (100 + i1.toInt.toNat)) rfl rfl rfl (i := i1) (by omega) (by omega) rfl dX10_crosses_63 ?_
                refine lv_iload hx hb dX10_crosses_64 (lv_at hl 1 rfl) ?_
                refine va_lald hx hb hK hP (27 + i1.toInt.toNat) 26 (mW_L (by omega)) rfl (i := ii) (vp_of (a := ii.toInt) rfl (by omega) (by omega)) dX10_crosses_66 ?_
                refine lv_topl (fun w_14 ew_14 => ?_)
                obtain ⟨n1, hn1a, hn1b, hn1c⟩ := q6.2.2 ii.toInt.toNat (by omega)
                have hn1w : rLen w_14 n1 := by rw [ew_14, v27_4.2 _ (by omega)]; exact hn1c
                refine lv_lstore (lv' := [(8, .long w_14), (7, .int kk), (6, .int ii), (5, .int mz), (0, .ref (ad 0)), (1, .int i1), (2, .int i2), (3, .int i3), (4, .int i4)]) hx hb dX10_crosses_67 hl (by decide) rfl (fun ls hl => ?_)
                refine lv_lload hx hb dX10_crosses_69 (lv_at hl 0 rfl) ?_
                refine vp_callSi (W.runS (As := [.long w_14]) (rest := []) ⟨hx, hb, hml, hown, hts⟩ (m_longOf l dC dI  w_14 ) (va_cwS 1 hts mg_X10_crossesm_X10_longOf_256 rfl rfl rfl (by decide +kernel) ⟨Nat.le_of_ble_eq_true rfl, Nat.le_of_ble_eq_true rfl⟩) ⟨fun a U g mk q => ⟨q.1, trivial⟩, fun U hU hW => ⟨rfl, trivial⟩⟩ rfl rfl hl.1 rfl (lv_room (Nat.le_of_ble_eq_true rfl)) dX10_crosses_71 ⟨Nat.le_of_ble_eq_true rfl, Nat.le_of_ble_eq_true rfl⟩) (fun r_15 hr_15 => ?_)
                have rg_r_15 := i_rng r_15
                have hqr_15 := hr_15 n1 (by omega) hn1w
                refine lv_aload_n hx hb dX10_crosses_74 rfl (lv_at hl 4 rfl) ?_
                refine va_get (D := (dC, dI)) (ci := 10) (v := .ref (ad 23)) (C := RX10) (T := TX10) (N := 48) hx hb hts fin_X10_crossesm_X10 hown hK hP 0 rfl rfl 25 (by decide) (hts (.fieldLink RX10 48 "PatternGateModel" "rows" "[[J") (List.mem_of_getElem? (i := 2) (by decide +kernel))) (fun _ h9 => h9) rfl dX10_crosses_75 ?_
                refine lv_iload_n hx hb dX10_crosses_78 rfl (lv_at hl 6 rfl) ?_
                refine m_aak hx hb hK hP 23 22 (k := i2.toInt.toNat) (b := ad (100 + i2.toInt.toNat)) rfl rfl rfl (i := i2) (by omega) (by omega) rfl dX10_crosses_79 ?_
                refine lv_iload hx hb dX10_crosses_80 (lv_at hl 1 rfl) ?_
                refine va_lald hx hb hK hP (27 + i2.toInt.toNat) 26 (mW_L (by omega)) rfl (i := kk) (vp_of (a := kk.toInt) rfl (by omega) (by omega)) dX10_crosses_82 ?_
                refine lv_topl (fun w_16 ew_16 => ?_)
                obtain ⟨n2, hn2a, hn2b, hn2c⟩ := q7.2.2 kk.toInt.toNat (by omega)
                have hn2w : rLen w_16 n2 := by rw [ew_16, v27_4.2 _ (by omega)]; exact hn2c
                refine vp_callSi (W.runS (As := [.long w_16]) (rest := [.int r_15]) ⟨hx, hb, hml, hown, hts⟩ (m_longOf l dC dI  w_16 ) (va_cwS 1 hts mg_X10_crossesm_X10_longOf_256 rfl rfl rfl (by decide +kernel) ⟨Nat.le_of_ble_eq_true rfl, Nat.le_of_ble_eq_true rfl⟩) ⟨fun a U g mk q => ⟨q.1, trivial⟩, fun U hU hW => ⟨rfl, trivial⟩⟩ rfl rfl hl.1 rfl (lv_room (Nat.le_of_ble_eq_true rfl)) dX10_crosses_83 ⟨Nat.le_of_ble_eq_true rfl, Nat.le_of_ble_eq_true rfl⟩) (fun r_17 hr_17 => ?_)
                have rg_r_17 := i_rng r_17
                have hqr_17 := hr_17 n2 (by omega) hn2w
                refine lv_iadd hx hb dX10_crosses_86 ?_
                refine lv_topi (fun y_18 ey_18 => ?_)
                first | have ty_18 := i_add (a := r_15.toInt) (b := r_17.toInt) rfl rfl ey_18 (by omega) (by omega) | skip
                refine lv_bipush (v := 8) hx hb dX10_crosses_87 (by decide) ?_
                refine lv_icmp_le (tgt := 98) hx hb dX10_crosses_89 (by decide) (fun k_19 => ?_) (fun k_19 => ?_)
                · have tk_19 := c_le (a := y_18.toInt) (b := 8) rfl (by decide) k_19
                  refine lv_aload_n hx hb dX10_crosses_98 rfl (lv_at hl 4 rfl) ?_
                  refine lv_iload_n hx hb dX10_crosses_99 rfl (lv_at hl 7 rfl) ?_
                  refine lv_lload hx hb dX10_crosses_100 (lv_at hl 0 rfl) ?_
                  refine lv_aload_n hx hb dX10_crosses_102 rfl (lv_at hl 4 rfl) ?_
                  refine va_get (D := (dC, dI)) (ci := 10) (v := .ref (ad 23)) (C := RX10) (T := TX10) (N := 48) hx hb hts fin_X10_crossesm_X10 hown hK hP 0 rfl rfl 25 (by decide) (hts (.fieldLink RX10 48 "PatternGateModel" "rows" "[[J") (List.mem_of_getElem? (i := 2) (by decide +kernel))) (fun _ h9 => h9) rfl dX10_crosses_103 ?_
                  refine lv_iload_n hx hb dX10_crosses_106 rfl (lv_at hl 6 rfl) ?_
                  refine m_aak hx hb hK hP 23 22 (k := i2.toInt.toNat) (b := ad (100 + i2.toInt.toNat)) rfl rfl rfl (i := i2) (by omega) (by omega) rfl dX10_crosses_107 ?_
                  refine lv_iload hx hb dX10_crosses_108 (lv_at hl 1 rfl) ?_
                  refine va_lald hx hb hK hP (27 + i2.toInt.toNat) 26 (mW_L (by omega)) rfl (i := kk) (vp_of (a := kk.toInt) rfl (by omega) (by omega)) dX10_crosses_110 ?_
                  refine lv_topl (fun w_20 ew_20 => ?_)
                  have hn3w : rLen w_20 n2 := by rw [ew_20, v27_4.2 _ (by omega)]; exact hn2c
                  have hFc := m_free hD hS hA
                  refine va_calll (va_runS (As := [.long w_14, .long w_20]) (rest := [.int i3, .ref (ad 0)]) ⟨hx, hb, hml, hown, hts⟩ (m_behind l dC dI ad kc x0 x1 x2 x3 x4 x5 x6 x7 x8 x9 x10 x11 x12 x13 x14 x15 x16 x17 x18 x19 x20 x21 f0 f1 f2 f3 f4 f5 f6 f7 f8 gb f10 f11 f12 f13 f14 f15 f16 f17 f18 f19 f20 f21 lb fN fP fM fO H.size w_14 w_20 n1 n2 hn1w hn3w (by first | omega | assumption | decide | (have l0 := Int32.toInt_zero; omega))) (va_cwS 2 hts mg_X10_crossesm_X10_behind_281 rfl rfl rfl (by decide +kernel) ⟨Nat.le_of_ble_eq_true rfl, Nat.le_of_ble_eq_true rfl⟩) ⟨fun a U g mk q => by obtain ⟨q0, q1, qP, qK, qD⟩ := q; exact ⟨q0, q1, qP, va_K.moved (u := U) (U := U.calling g mk a) (Vm.Alike.refl U.vm) qK, qD⟩, fun U hU hW => ⟨rfl, by rw [hU], by rw [hU]; exact hP, va_K.moved hW.alike hK, hD.weaken (fun _ _ _ _ => trivial)⟩⟩ rfl rfl hl.1 rfl (lv_room (Nat.le_of_ble_eq_true rfl)) dX10_crosses_111 ⟨Nat.le_of_ble_eq_true rfl, Nat.le_of_ble_eq_true rfl⟩) hS (fun q _ h => hFc q h) hFc (fun r_21 u t H1 locs ht hvm hw hB hz1 hk1 hS => ?_)
                  subst hw
                  obtain ⟨hr_21_0, hP, hK1, hD1⟩ := hB
                  rw [ht] at hP
                  have hD := hD1.weaken (fun k q _ h => hFc q.1 h)
                  generalize H1 = H at hP hS ⊢
                  have hP : va_P (dC, dI) vwCl (mW ad kc x0 x1 x2 x3 x4 x5 x6 x7 x8 x9 x10 x11 x12 x13 x14 x15 x16 x17 x18 x19 x20 x21 f0 f1 f2 f3 f4 f5 f6 f7 f8 gb f10 f11 f12 f13 f14 f15 f16 f17 f18 f19 f20 f21 lb fN fP fM fO) H := hP
                  have hD : va_D A (mW ad kc x0 x1 x2 x3 x4 x5 x6 x7 x8 x9 x10 x11 x12 x13 x14 x15 x16 x17 x18 x19 x20 x21 f0 f1 f2 f3 f4 f5 f6 f7 f8 gb f10 f11 f12 f13 f14 f15 f16 f17 f18 f19 f20 f21 lb fN fP fM fO) := hD
                  have hFc := m_free hD hS hA
                  refine va_callv (va_runV (As := [.int i3, .long r_21]) (rest := []) ⟨hx, hb, hml, hown, hts⟩ (m_addsRow l dC dI ad kc x0 x1 x2 x3 x4 x5 x6 x7 x8 x9 x10 x11 x12 x13 x14 x15 x16 x17 x18 x19 x20 x21 f0 f1 f2 f3 f4 f5 f6 f7 f8 gb f10 f11 f12 f13 f14 f15 f16 f17 f18 f19 f20 f21 lb fN fP fM fO H.size i3 r_21 (by first | omega | assumption | decide | (have l0 := Int32.toInt_zero; omega)) (by first | omega | assumption | decide | (have l0 := Int32.toInt_zero; omega)) v27_5.1 (by have h9 := v27_5.2.1; omega)) (cwV 2 hts mg_X10_crossesm_X10_addsRow_285 rfl rfl rfl (by decide +kernel) ⟨Nat.le_of_ble_eq_true rfl, Nat.le_of_ble_eq_true rfl⟩) ⟨fun a U g mk q => by obtain ⟨q0, q1, qP, qK, qD⟩ := q; exact ⟨q0, q1, qP, va_K.moved (u := U) (U := U.calling g mk a) (Vm.Alike.refl U.vm) qK, qD⟩, va_recv hK hP (ci := 10) (q0 := 0) rfl rfl, fun U hU hW => ⟨rfl, by rw [hU], by rw [hU]; exact hP, va_K.moved hW.alike hK, hD.weaken (fun _ _ _ _ => trivial)⟩⟩ rfl rfl hl.1 rfl (lv_room (Nat.le_of_ble_eq_true rfl)) dX10_crosses_114 ⟨Nat.le_of_ble_eq_true rfl, Nat.le_of_ble_eq_true rfl⟩) hS (fun q _ h => hFc q h) hFc (fun u t H1 locs ht hvm hw hB hz1 hk1 hS => ?_)
                  obtain ⟨f_23, L_24, hr_22_0, hP, hK1, hD1⟩ := hB
                  rw [ht] at hP
                  have hD := hD1.weaken (fun k q _ h => hFc q.1 h)
                  generalize H1 = H at hP hS ⊢
                  have hP : va_P (dC, dI) vwCl (mW ad kc x0 x1 x2 x3 x4 x5 x6 x7 x8 x9 x10 x11 x12 x13 x14 x15 x16 x17 x18 x19 x20 x21 f0 f1 f2 f3 f4 f5 f6 f7 f8 f_23 f10 f11 f12 f13 f14 f15 f16 f17 f18 f19 f20 f21 L_24 fN fP fM fO) H := hP
                  have hD : va_D A (mW ad kc x0 x1 x2 x3 x4 x5 x6 x7 x8 x9 x10 x11 x12 x13 x14 x15 x16 x17 x18 x19 x20 x21 f0 f1 f2 f3 f4 f5 f6 f7 f8 f_23 f10 f11 f12 f13 f14 f15 f16 f17 f18 f19 f20 f21 L_24 fN fP fM fO) := hD
                  obtain ⟨y_25, ey_25⟩ : ∃ y : Int32, y = kk + 1 := ⟨_, rfl⟩
                  first | have ty_25 := i_add (a := kk.toInt) (b := 1) rfl (by decide) ey_25 (by omega) (by omega) | skip
                  refine lv_iinc (v := y_25) (lv' := [(7, .int y_25), (8, .long w_14), (6, .int ii), (5, .int mz), (0, .ref (ad 0)), (1, .int i1), (2, .int i2), (3, .int i3), (4, .int i4)]) hx hb dX10_crosses_117 hl (k := 1) rfl (by rw [ey_25]; rfl) (by decide) rfl (fun ls hl => ?_)
                  refine lv_goto (tgt := 27) hx hb dX10_crosses_120 (by decide) ?_
                  exact ih27 mz y_25 f_23 L_24 (by first | omega | assumption | decide) (by first | omega | assumption | decide) (by first | omega | assumption | decide) (by first | omega | assumption | decide) (v27_4.add hr_22_0) (by rw [show 6 * ii.toInt + y_25.toInt = 6 * ii.toInt + kk.toInt + 1 by omega]; exact v27_5.add hr_22_0 hr_21_0 (by omega) (by omega)) (by omega) _ _ ls hP hD hS (lv_sub hl [0, 2, 3, 4, 5, 6, 7, 8] rfl)
                · have tk_19 := c_nle (a := y_18.toInt) (b := 8) rfl (by decide) k_19
                  refine lv_iconst (v := 0) hx hb dX10_crosses_92 (by decide) ?_
                  refine lv_istore (lv' := [(5, .int 0), (8, .long w_14), (7, .int kk), (6, .int ii), (0, .ref (ad 0)), (1, .int i1), (2, .int i2), (3, .int i3), (4, .int i4)]) hx hb dX10_crosses_93 hl (by decide) rfl (fun ls hl => ?_)
                  refine lv_goto (tgt := 117) hx hb dX10_crosses_95 (by decide) ?_
                  obtain ⟨y_26, ey_26⟩ : ∃ y : Int32, y = kk + 1 := ⟨_, rfl⟩
                  first | have ty_26 := i_add (a := kk.toInt) (b := 1) rfl (by decide) ey_26 (by omega) (by omega) | skip
                  refine lv_iinc (v := y_26) (lv' := [(7, .int y_26), (5, .int 0), (8, .long w_14), (6, .int ii), (0, .ref (ad 0)), (1, .int i1), (2, .int i2), (3, .int i3), (4, .int i4)]) hx hb dX10_crosses_117 hl (k := 2) rfl (by rw [ey_26]; rfl) (by decide) rfl (fun ls hl => ?_)
                  refine lv_goto (tgt := 27) hx hb dX10_crosses_120 (by decide) ?_
                  have lit_26 : (0 : Int32).toInt = 0 := by decide
                  exact ih27 0 y_26 gb lb (by first | omega | assumption | decide) (by first | omega | assumption | decide) (by first | omega | assumption | decide) (by first | omega | assumption | decide) v27_4 (v27_5.mono (by omega) (by omega)) (by omega) _ _ ls hP hD hS (lv_sub hl [0, 3, 1, 4, 5, 6, 7, 8] rfl)
              · have tk_13 := c_ne (a := i4.toInt) (b := 0) rfl (by decide) k_13
                refine lv_aload_n hx hb dX10_crosses_43 rfl (lv_at hl 3 rfl) ?_
                refine va_get (D := (dC, dI)) (ci := 10) (v := .ref (ad 23)) (C := RX10) (T := TX10) (N := 48) hx hb hts fin_X10_crossesm_X10 hown hK hP 0 rfl rfl 25 (by decide) (hts (.fieldLink RX10 48 "PatternGateModel" "rows" "[[J") (List.mem_of_getElem? (i := 2) (by decide +kernel))) (fun _ h9 => h9) rfl dX10_crosses_44 ?_
                refine lv_iload_n hx hb dX10_crosses_47 rfl (lv_at hl 4 rfl) ?_
                refine m_aak hx hb hK hP 23 22 (k := i1.toInt.toNat) (b := ad (100 + i1.toInt.toNat)) rfl rfl rfl (i := i1) (by omega) (by omega) rfl dX10_crosses_48 ?_
                refine lv_iload hx hb dX10_crosses_49 (lv_at hl 1 rfl) ?_
                refine va_lald hx hb hK hP (27 + i1.toInt.toNat) 26 (mW_L (by omega)) rfl (i := ii) (vp_of (a := ii.toInt) rfl (by omega) (by omega)) dX10_crosses_51 ?_
                refine lv_topl (fun w_28 ew_28 => ?_)
                obtain ⟨n1, hn1a, hn1b, hn1c⟩ := q6.2.2 ii.toInt.toNat (by omega)
                have hn1w : rLen w_28 n1 := by rw [ew_28, v27_4.2 _ (by omega)]; exact hn1c
                have hFc := m_free hD hS hA
                refine va_calll (va_runS (As := [.long w_28]) (rest := []) ⟨hx, hb, hml, hown, hts⟩ (m_lastTwo l dC dI ad kc x0 x1 x2 x3 x4 x5 x6 x7 x8 x9 x10 x11 x12 x13 x14 x15 x16 x17 x18 x19 x20 x21 f0 f1 f2 f3 f4 f5 f6 f7 f8 gb f10 f11 f12 f13 f14 f15 f16 f17 f18 f19 f20 f21 lb fN fP fM fO H.size w_28 n1 (by first | omega | assumption | decide | (have l0 := Int32.toInt_zero; omega)) (by first | omega | assumption | decide | (have l0 := Int32.toInt_zero; omega))) (va_cwS 1 hts mg_X10_crossesm_X10_lastTwo_277 rfl rfl rfl (by decide +kernel) ⟨Nat.le_of_ble_eq_true rfl, Nat.le_of_ble_eq_true rfl⟩) ⟨fun a U g mk q => by obtain ⟨q0, q1, qP, qK, qD⟩ := q; exact ⟨q0, q1, qP, va_K.moved (u := U) (U := U.calling g mk a) (Vm.Alike.refl U.vm) qK, qD⟩, fun U hU hW => ⟨rfl, by rw [hU], by rw [hU]; exact hP, va_K.moved hW.alike hK, hD.weaken (fun _ _ _ _ => trivial)⟩⟩ rfl rfl hl.1 rfl (lv_room (Nat.le_of_ble_eq_true rfl)) dX10_crosses_52 ⟨Nat.le_of_ble_eq_true rfl, Nat.le_of_ble_eq_true rfl⟩) hS (fun q _ h => hFc q h) hFc (fun r_29 u t H1 locs ht hvm hw hB hz1 hk1 hS => ?_)
                subst hw
                obtain ⟨hr_29_0, hP, hK1, hD1⟩ := hB
                rw [ht] at hP
                have hD := hD1.weaken (fun k q _ h => hFc q.1 h)
                generalize H1 = H at hP hS ⊢
                have hP : va_P (dC, dI) vwCl (mW ad kc x0 x1 x2 x3 x4 x5 x6 x7 x8 x9 x10 x11 x12 x13 x14 x15 x16 x17 x18 x19 x20 x21 f0 f1 f2 f3 f4 f5 f6 f7 f8 gb f10 f11 f12 f13 f14 f15 f16 f17 f18 f19 f20 f21 lb fN fP fM fO) H := hP
                have hD : va_D A (mW ad kc x0 x1 x2 x3 x4 x5 x6 x7 x8 x9 x10 x11 x12 x13 x14 x15 x16 x17 x18 x19 x20 x21 f0 f1 f2 f3 f4 f5 f6 f7 f8 gb f10 f11 f12 f13 f14 f15 f16 f17 f18 f19 f20 f21 lb fN fP fM fO) := hD
                obtain ⟨n4, h4a, h4b, h4c⟩ := hr_29_0
                refine lv_goto (tgt := 67) hx hb dX10_crosses_55 (by decide) ?_
                refine lv_lstore (lv' := [(8, .long r_29), (7, .int kk), (6, .int ii), (5, .int mz), (0, .ref (ad 0)), (1, .int i1), (2, .int i2), (3, .int i3), (4, .int i4)]) hx hb dX10_crosses_67 hl (by decide) rfl (fun ls hl => ?_)
                refine lv_lload hx hb dX10_crosses_69 (lv_at hl 0 rfl) ?_
                refine vp_callSi (W.runS (As := [.long r_29]) (rest := []) ⟨hx, hb, hml, hown, hts⟩ (m_longOf l dC dI  r_29 ) (va_cwS 1 hts mg_X10_crossesm_X10_longOf_256 rfl rfl rfl (by decide +kernel) ⟨Nat.le_of_ble_eq_true rfl, Nat.le_of_ble_eq_true rfl⟩) ⟨fun a U g mk q => ⟨q.1, trivial⟩, fun U hU hW => ⟨rfl, trivial⟩⟩ rfl rfl hl.1 rfl (lv_room (Nat.le_of_ble_eq_true rfl)) dX10_crosses_71 ⟨Nat.le_of_ble_eq_true rfl, Nat.le_of_ble_eq_true rfl⟩) (fun r_30 hr_30 => ?_)
                have rg_r_30 := i_rng r_30
                have hqr_30 := hr_30 n4 (by omega) h4c
                refine lv_aload_n hx hb dX10_crosses_74 rfl (lv_at hl 4 rfl) ?_
                refine va_get (D := (dC, dI)) (ci := 10) (v := .ref (ad 23)) (C := RX10) (T := TX10) (N := 48) hx hb hts fin_X10_crossesm_X10 hown hK hP 0 rfl rfl 25 (by decide) (hts (.fieldLink RX10 48 "PatternGateModel" "rows" "[[J") (List.mem_of_getElem? (i := 2) (by decide +kernel))) (fun _ h9 => h9) rfl dX10_crosses_75 ?_
                refine lv_iload_n hx hb dX10_crosses_78 rfl (lv_at hl 6 rfl) ?_
                refine m_aak hx hb hK hP 23 22 (k := i2.toInt.toNat) (b := ad (100 + i2.toInt.toNat)) rfl rfl rfl (i := i2) (by omega) (by omega) rfl dX10_crosses_79 ?_
                refine lv_iload hx hb dX10_crosses_80 (lv_at hl 1 rfl) ?_
                refine va_lald hx hb hK hP (27 + i2.toInt.toNat) 26 (mW_L (by omega)) rfl (i := kk) (vp_of (a := kk.toInt) rfl (by omega) (by omega)) dX10_crosses_82 ?_
                refine lv_topl (fun w_31 ew_31 => ?_)
                obtain ⟨n2, hn2a, hn2b, hn2c⟩ := q7.2.2 kk.toInt.toNat (by omega)
                have hn2w : rLen w_31 n2 := by rw [ew_31, v27_4.2 _ (by omega)]; exact hn2c
                refine vp_callSi (W.runS (As := [.long w_31]) (rest := [.int r_30]) ⟨hx, hb, hml, hown, hts⟩ (m_longOf l dC dI  w_31 ) (va_cwS 1 hts mg_X10_crossesm_X10_longOf_256 rfl rfl rfl (by decide +kernel) ⟨Nat.le_of_ble_eq_true rfl, Nat.le_of_ble_eq_true rfl⟩) ⟨fun a U g mk q => ⟨q.1, trivial⟩, fun U hU hW => ⟨rfl, trivial⟩⟩ rfl rfl hl.1 rfl (lv_room (Nat.le_of_ble_eq_true rfl)) dX10_crosses_83 ⟨Nat.le_of_ble_eq_true rfl, Nat.le_of_ble_eq_true rfl⟩) (fun r_32 hr_32 => ?_)
                have rg_r_32 := i_rng r_32
                have hqr_32 := hr_32 n2 (by omega) hn2w
                refine lv_iadd hx hb dX10_crosses_86 ?_
                refine lv_topi (fun y_33 ey_33 => ?_)
                first | have ty_33 := i_add (a := r_30.toInt) (b := r_32.toInt) rfl rfl ey_33 (by omega) (by omega) | skip
                refine lv_bipush (v := 8) hx hb dX10_crosses_87 (by decide) ?_
                refine lv_icmp_le (tgt := 98) hx hb dX10_crosses_89 (by decide) (fun k_34 => ?_) (fun k_34 => ?_)
                · have tk_34 := c_le (a := y_33.toInt) (b := 8) rfl (by decide) k_34
                  refine lv_aload_n hx hb dX10_crosses_98 rfl (lv_at hl 4 rfl) ?_
                  refine lv_iload_n hx hb dX10_crosses_99 rfl (lv_at hl 7 rfl) ?_
                  refine lv_lload hx hb dX10_crosses_100 (lv_at hl 0 rfl) ?_
                  refine lv_aload_n hx hb dX10_crosses_102 rfl (lv_at hl 4 rfl) ?_
                  refine va_get (D := (dC, dI)) (ci := 10) (v := .ref (ad 23)) (C := RX10) (T := TX10) (N := 48) hx hb hts fin_X10_crossesm_X10 hown hK hP 0 rfl rfl 25 (by decide) (hts (.fieldLink RX10 48 "PatternGateModel" "rows" "[[J") (List.mem_of_getElem? (i := 2) (by decide +kernel))) (fun _ h9 => h9) rfl dX10_crosses_103 ?_
                  refine lv_iload_n hx hb dX10_crosses_106 rfl (lv_at hl 6 rfl) ?_
                  refine m_aak hx hb hK hP 23 22 (k := i2.toInt.toNat) (b := ad (100 + i2.toInt.toNat)) rfl rfl rfl (i := i2) (by omega) (by omega) rfl dX10_crosses_107 ?_
                  refine lv_iload hx hb dX10_crosses_108 (lv_at hl 1 rfl) ?_
                  refine va_lald hx hb hK hP (27 + i2.toInt.toNat) 26 (mW_L (by omega)) rfl (i := kk) (vp_of (a := kk.toInt) rfl (by omega) (by omega)) dX10_crosses_110 ?_
                  refine lv_topl (fun w_35 ew_35 => ?_)
                  have hn3w : rLen w_35 n2 := by rw [ew_35, v27_4.2 _ (by omega)]; exact hn2c
                  have hFc := m_free hD hS hA
                  refine va_calll (va_runS (As := [.long r_29, .long w_35]) (rest := [.int i3, .ref (ad 0)]) ⟨hx, hb, hml, hown, hts⟩ (m_behind l dC dI ad kc x0 x1 x2 x3 x4 x5 x6 x7 x8 x9 x10 x11 x12 x13 x14 x15 x16 x17 x18 x19 x20 x21 f0 f1 f2 f3 f4 f5 f6 f7 f8 gb f10 f11 f12 f13 f14 f15 f16 f17 f18 f19 f20 f21 lb fN fP fM fO H.size r_29 w_35 n4 n2 h4c hn3w (by first | omega | assumption | decide | (have l0 := Int32.toInt_zero; omega))) (va_cwS 2 hts mg_X10_crossesm_X10_behind_281 rfl rfl rfl (by decide +kernel) ⟨Nat.le_of_ble_eq_true rfl, Nat.le_of_ble_eq_true rfl⟩) ⟨fun a U g mk q => by obtain ⟨q0, q1, qP, qK, qD⟩ := q; exact ⟨q0, q1, qP, va_K.moved (u := U) (U := U.calling g mk a) (Vm.Alike.refl U.vm) qK, qD⟩, fun U hU hW => ⟨rfl, by rw [hU], by rw [hU]; exact hP, va_K.moved hW.alike hK, hD.weaken (fun _ _ _ _ => trivial)⟩⟩ rfl rfl hl.1 rfl (lv_room (Nat.le_of_ble_eq_true rfl)) dX10_crosses_111 ⟨Nat.le_of_ble_eq_true rfl, Nat.le_of_ble_eq_true rfl⟩) hS (fun q _ h => hFc q h) hFc (fun r_36 u t H1 locs ht hvm hw hB hz1 hk1 hS => ?_)
                  subst hw
                  obtain ⟨hr_36_0, hP, hK1, hD1⟩ := hB
                  rw [ht] at hP
                  have hD := hD1.weaken (fun k q _ h => hFc q.1 h)
                  generalize H1 = H at hP hS ⊢
                  have hP : va_P (dC, dI) vwCl (mW ad kc x0 x1 x2 x3 x4 x5 x6 x7 x8 x9 x10 x11 x12 x13 x14 x15 x16 x17 x18 x19 x20 x21 f0 f1 f2 f3 f4 f5 f6 f7 f8 gb f10 f11 f12 f13 f14 f15 f16 f17 f18 f19 f20 f21 lb fN fP fM fO) H := hP
                  have hD : va_D A (mW ad kc x0 x1 x2 x3 x4 x5 x6 x7 x8 x9 x10 x11 x12 x13 x14 x15 x16 x17 x18 x19 x20 x21 f0 f1 f2 f3 f4 f5 f6 f7 f8 gb f10 f11 f12 f13 f14 f15 f16 f17 f18 f19 f20 f21 lb fN fP fM fO) := hD
                  have hFc := m_free hD hS hA
                  refine va_callv (va_runV (As := [.int i3, .long r_36]) (rest := []) ⟨hx, hb, hml, hown, hts⟩ (m_addsRow l dC dI ad kc x0 x1 x2 x3 x4 x5 x6 x7 x8 x9 x10 x11 x12 x13 x14 x15 x16 x17 x18 x19 x20 x21 f0 f1 f2 f3 f4 f5 f6 f7 f8 gb f10 f11 f12 f13 f14 f15 f16 f17 f18 f19 f20 f21 lb fN fP fM fO H.size i3 r_36 (by first | omega | assumption | decide | (have l0 := Int32.toInt_zero; omega)) (by first | omega | assumption | decide | (have l0 := Int32.toInt_zero; omega)) v27_5.1 (by have h9 := v27_5.2.1; omega)) (cwV 2 hts mg_X10_crossesm_X10_addsRow_285 rfl rfl rfl (by decide +kernel) ⟨Nat.le_of_ble_eq_true rfl, Nat.le_of_ble_eq_true rfl⟩) ⟨fun a U g mk q => by obtain ⟨q0, q1, qP, qK, qD⟩ := q; exact ⟨q0, q1, qP, va_K.moved (u := U) (U := U.calling g mk a) (Vm.Alike.refl U.vm) qK, qD⟩, va_recv hK hP (ci := 10) (q0 := 0) rfl rfl, fun U hU hW => ⟨rfl, by rw [hU], by rw [hU]; exact hP, va_K.moved hW.alike hK, hD.weaken (fun _ _ _ _ => trivial)⟩⟩ rfl rfl hl.1 rfl (lv_room (Nat.le_of_ble_eq_true rfl)) dX10_crosses_114 ⟨Nat.le_of_ble_eq_true rfl, Nat.le_of_ble_eq_true rfl⟩) hS (fun q _ h => hFc q h) hFc (fun u t H1 locs ht hvm hw hB hz1 hk1 hS => ?_)
                  obtain ⟨f_38, L_39, hr_37_0, hP, hK1, hD1⟩ := hB
                  rw [ht] at hP
                  have hD := hD1.weaken (fun k q _ h => hFc q.1 h)
                  generalize H1 = H at hP hS ⊢
                  have hP : va_P (dC, dI) vwCl (mW ad kc x0 x1 x2 x3 x4 x5 x6 x7 x8 x9 x10 x11 x12 x13 x14 x15 x16 x17 x18 x19 x20 x21 f0 f1 f2 f3 f4 f5 f6 f7 f8 f_38 f10 f11 f12 f13 f14 f15 f16 f17 f18 f19 f20 f21 L_39 fN fP fM fO) H := hP
                  have hD : va_D A (mW ad kc x0 x1 x2 x3 x4 x5 x6 x7 x8 x9 x10 x11 x12 x13 x14 x15 x16 x17 x18 x19 x20 x21 f0 f1 f2 f3 f4 f5 f6 f7 f8 f_38 f10 f11 f12 f13 f14 f15 f16 f17 f18 f19 f20 f21 L_39 fN fP fM fO) := hD
                  obtain ⟨y_40, ey_40⟩ : ∃ y : Int32, y = kk + 1 := ⟨_, rfl⟩
                  first | have ty_40 := i_add (a := kk.toInt) (b := 1) rfl (by decide) ey_40 (by omega) (by omega) | skip
                  refine lv_iinc (v := y_40) (lv' := [(7, .int y_40), (8, .long r_29), (6, .int ii), (5, .int mz), (0, .ref (ad 0)), (1, .int i1), (2, .int i2), (3, .int i3), (4, .int i4)]) hx hb dX10_crosses_117 hl (k := 1) rfl (by rw [ey_40]; rfl) (by decide) rfl (fun ls hl => ?_)
                  refine lv_goto (tgt := 27) hx hb dX10_crosses_120 (by decide) ?_
                  exact ih27 mz y_40 f_38 L_39 (by first | omega | assumption | decide) (by first | omega | assumption | decide) (by first | omega | assumption | decide) (by first | omega | assumption | decide) (v27_4.add hr_37_0) (by rw [show 6 * ii.toInt + y_40.toInt = 6 * ii.toInt + kk.toInt + 1 by omega]; exact v27_5.add hr_37_0 hr_36_0 (by omega) (by omega)) (by omega) _ _ ls hP hD hS (lv_sub hl [0, 2, 3, 4, 5, 6, 7, 8] rfl)
                · have tk_34 := c_nle (a := y_33.toInt) (b := 8) rfl (by decide) k_34
                  refine lv_iconst (v := 0) hx hb dX10_crosses_92 (by decide) ?_
                  refine lv_istore (lv' := [(5, .int 0), (8, .long r_29), (7, .int kk), (6, .int ii), (0, .ref (ad 0)), (1, .int i1), (2, .int i2), (3, .int i3), (4, .int i4)]) hx hb dX10_crosses_93 hl (by decide) rfl (fun ls hl => ?_)
                  refine lv_goto (tgt := 117) hx hb dX10_crosses_95 (by decide) ?_
                  obtain ⟨y_41, ey_41⟩ : ∃ y : Int32, y = kk + 1 := ⟨_, rfl⟩
                  first | have ty_41 := i_add (a := kk.toInt) (b := 1) rfl (by decide) ey_41 (by omega) (by omega) | skip
                  refine lv_iinc (v := y_41) (lv' := [(7, .int y_41), (5, .int 0), (8, .long r_29), (6, .int ii), (0, .ref (ad 0)), (1, .int i1), (2, .int i2), (3, .int i3), (4, .int i4)]) hx hb dX10_crosses_117 hl (k := 2) rfl (by rw [ey_41]; rfl) (by decide) rfl (fun ls hl => ?_)
                  refine lv_goto (tgt := 27) hx hb dX10_crosses_120 (by decide) ?_
                  have lit_41 : (0 : Int32).toInt = 0 := by decide
                  exact ih27 0 y_41 gb lb (by first | omega | assumption | decide) (by first | omega | assumption | decide) (by first | omega | assumption | decide) (by first | omega | assumption | decide) v27_4 (v27_5.mono (by omega) (by omega)) (by omega) _ _ ls hP hD hS (lv_sub hl [0, 3, 1, 4, 5, 6, 7, 8] rfl)
        have lit_42 : (0 : Int32).toInt = 0 := by decide
        exact loop27 _ my 0 ga la (by first | omega | assumption | decide) (by first | omega | assumption | decide) (by first | omega | assumption | decide) (by first | omega | assumption | decide) v13_3 (v13_4.mono (by omega) (by omega)) (Nat.lt_succ_self _) _ _ ls hP hD hS (lv_sub hl [0, 1, 2, 3, 4, 5, 6, 7] rfl)
  have lit_43 : (1 : Int32).toInt = 1 := by decide
  have lit_44 : (0 : Int32).toInt = 0 := by decide
  exact loop13 _ 1 0 f_1 fL (by first | omega | assumption | decide) (by first | omega | assumption | decide) (by first | omega | assumption | decide) (sFr.up uf_1) (sOK.zero uf_1.1 (by omega)) (Nat.lt_succ_self _) _ _ ls hP hD hS (lv_sub hl [0, 1, 2, 3, 4, 5, 6] rfl)

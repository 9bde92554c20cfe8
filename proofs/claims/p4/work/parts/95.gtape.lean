theorem dX9_readTape_0 : decode cX9_readTape 0 = .ok (.aload_n 0, 1) := by decide +kernel
theorem dX9_readTape_1 : decode cX9_readTape 1 = .ok (.getfield 43, 3) := by decide +kernel
theorem dX9_readTape_4 : decode cX9_readTape 4 = .ok (.aload_n 0, 1) := by decide +kernel
theorem dX9_readTape_5 : decode cX9_readTape 5 = .ok (.getfield 9, 3) := by decide +kernel
theorem dX9_readTape_8 : decode cX9_readTape 8 = .ok (.iload_n 1, 1) := by decide +kernel
theorem dX9_readTape_9 : decode cX9_readTape 9 = .ok (.iload_n 2, 1) := by decide +kernel
theorem dX9_readTape_10 : decode cX9_readTape 10 = .ok (.iload_n 3, 1) := by decide +kernel
theorem dX9_readTape_11 : decode cX9_readTape 11 = .ok (.invokevirtual 293, 3) := by decide +kernel
theorem dX9_readTape_14 : decode cX9_readTape 14 = .ok (.istore 4, 2) := by decide +kernel
theorem dX9_readTape_16 : decode cX9_readTape 16 = .ok (.aload_n 0, 1) := by decide +kernel
theorem dX9_readTape_17 : decode cX9_readTape 17 = .ok (.aload_n 0, 1) := by decide +kernel
theorem dX9_readTape_18 : decode cX9_readTape 18 = .ok (.getfield 43, 3) := by decide +kernel
theorem dX9_readTape_21 : decode cX9_readTape 21 = .ok (.getfield 297, 3) := by decide +kernel
theorem dX9_readTape_24 : decode cX9_readTape 24 = .ok (.putfield 13, 3) := by decide +kernel
theorem dX9_readTape_27 : decode cX9_readTape 27 = .ok (.aload_n 0, 1) := by decide +kernel
theorem dX9_readTape_28 : decode cX9_readTape 28 = .ok (.aload_n 0, 1) := by decide +kernel
theorem dX9_readTape_29 : decode cX9_readTape 29 = .ok (.getfield 43, 3) := by decide +kernel
theorem dX9_readTape_32 : decode cX9_readTape 32 = .ok (.getfield 298, 3) := by decide +kernel
theorem dX9_readTape_35 : decode cX9_readTape 35 = .ok (.putfield 17, 3) := by decide +kernel
theorem dX9_readTape_38 : decode cX9_readTape 38 = .ok (.aload_n 0, 1) := by decide +kernel
theorem dX9_readTape_39 : decode cX9_readTape 39 = .ok (.iconst 0, 1) := by decide +kernel
theorem dX9_readTape_40 : decode cX9_readTape 40 = .ok (.putfield 73, 3) := by decide +kernel
theorem dX9_readTape_43 : decode cX9_readTape 43 = .ok (.iload 4, 2) := by decide +kernel
theorem dX9_readTape_45 : decode cX9_readTape 45 = .ok (.ireturn, 1) := by decide +kernel
def mwX9_readTape : List Cond := .code yX9_readTape cX9_readTape 5 (some .boolean) :: (([.fieldLink RX9 43 "PatternGate" "reader" "LPatternGate$Reader;", .fieldLink RX9 9 "PatternGate" "tape" "[I", .methodLink RX9 293 yX6_read, .instanceMethod yX6_read, .selects RX6 yX6_read yX6_read, .initialized RX6, .fieldLink RX9 297 "PatternGate$Reader" "faultKind" "I", .fieldLink RX9 13 "PatternGate" "faultKind" "I", .fieldLink RX9 298 "PatternGate$Reader" "faultPlace" "I", .fieldLink RX9 17 "PatternGate" "faultPlace" "I", .fieldLink RX9 73 "PatternGate" "taped" "I"] : List Cond) ++ (wsX90 ++ (wsX60 ++ (mwX6_read))))
theorem fin_X9_readTape_X6 : ∀ w ∈ wsX60, w ∈ mwX9_readTape := fun w h => List.mem_cons_of_mem _ (List.mem_append_right _ (List.mem_append_right _ (List.mem_append_left _ h)))
theorem fin_X9_readTape_X9 : ∀ w ∈ wsX90, w ∈ mwX9_readTape := fun w h => List.mem_cons_of_mem _ (List.mem_append_right _ (List.mem_append_left _ h))
set_option maxRecDepth 100000 in
theorem gd_mwX6_read : mwX6_read.all goodWord = true := by decide +kernel
set_option maxRecDepth 20000 in
theorem mg_X9_readTape_X6_read_293 : GoodIn mwX9_readTape (wsV RX9 293 RX6 yX6_read mwX6_read) := gi_app (A := [.methodLink RX9 293 yX6_read, .instanceMethod yX6_read, .selects RX6 yX6_read yX6_read, .initialized RX6]) (goodIn_r _ [3, 4, 5, 6] (by decide +kernel) (by decide +kernel)) (gi_sub gd_mwX6_read (fun w h => List.mem_cons_of_mem _ (List.mem_append_right _ (List.mem_append_right _ (List.mem_append_right _ (h))))))
set_option maxHeartbeats 4000000 in
set_option maxRecDepth 100000 in
/-- gate: readTape -/
theorem s_g_readTape (l : Launch) (dC : Nat → ClassId) (dI : Nat → Nat → Nat) (gt tp bk mb mu rd cm wk pp so ty : Nat) (st9 td fk fpl un mk : Int32) (r : Nat → Nat) (q0 q1 q2 q3 q4 q5 q6 q7 : Int32) (ctp cb0 cb1 cb2 : ClassId) (ftp fb0 fb1 fb2 : Nat → Int32) (sz : Nat) (i2 i3 i4 : Int32) (h2 : 0 ≤ i2.toInt) (h3 : 0 ≤ i3.toInt ∧ i3.toInt ≤ 10) (h4 : 0 ≤ i4.toInt ∧ i4.toInt ≤ 8) : Met l yX9_readTape mwX9_readTape ({ frames := 7, cells := 0, slots := 0, locals := 420 }) (va_Pc [.ref gt, .int i2, .int i3, .int i4] (fun U => U.heap.size = sz ∧ va_P (dC, dI) vwCl ([(gt, .inr (9, [.int st9, .ref tp, .int td, .int fk, .int fpl, .ref bk, .int un, .ref mb, .ref mu, .int mk, .ref rd, .ref cm, .ref wk, .ref pp, .ref so, .ref ty])), (tp, .inl (ctp, 900, .inl ftp)), (rd, .inr (6, rF r q0 q1 q2 q3 q4 q5 q6 q7)), (r 0, .inl (cb0, 18, .inl fb0)), (r 1, .inl (cb1, 18, .inl fb1)), (r 2, .inl (cb2, 18, .inl fb2))]) U.heap ∧ va_K (dC, dI) vwCl ([(ctp, .int), (cb0, .int), (cb1, .int), (cb2, .boolean)]) U ∧ va_D (fun _ => True) ([(gt, .inr (9, [.int st9, .ref tp, .int td, .int fk, .int fpl, .ref bk, .int un, .ref mb, .ref mu, .int mk, .ref rd, .ref cm, .ref wk, .ref pp, .ref so, .ref ty])), (tp, .inl (ctp, 900, .inl ftp)), (rd, .inr (6, rF r q0 q1 q2 q3 q4 q5 q6 q7)), (r 0, .inl (cb0, 18, .inl fb0)), (r 1, .inl (cb1, 18, .inl fb1)), (r 2, .inl (cb2, 18, .inl fb2))]) ∧ va_Nw (.methodLinkNest RX6 53 yX9_isSmall "PatternGate") U ∧ sR (va_A ([(gt, .inr (9, [.int st9, .ref tp, .int td, .int fk, .int fpl, .ref bk, .int un, .ref mb, .ref mu, .int mk, .ref rd, .ref cm, .ref wk, .ref pp, .ref so, .ref ty])), (tp, .inl (ctp, 900, .inl ftp)), (rd, .inr (6, rF r q0 q1 q2 q3 q4 q5 q6 q7)), (r 0, .inl (cb0, 18, .inl fb0)), (r 1, .inl (cb1, 18, .inl fb1)), (r 2, .inl (cb2, 18, .inl fb2))]) sz) U U.heap)) (va_Qi (fun (o9 : Int32) (u : Int32) => o9 = u ∧ (u = 0 ∨ u = 1)) (fun u t => ∃ (y0 y1 y2 y3 y4 y7 : Int32) (f0 f1 f2 : Nat → Int32), (u = 0 ∨ rJ f0 f1 f2 901 y2 y3 y4 i3 i4 y7) ∧ va_P (dC, dI) vwCl [(gt, .inr (9, [.int st9, .ref tp, .int 0, .int y0, .int y1, .ref bk, .int un, .ref mb, .ref mu, .int mk, .ref rd, .ref cm, .ref wk, .ref pp, .ref so, .ref ty])), (tp, .inl (ctp, 900, .inl ftp)), (rd, .inr (6, rF r y0 y1 y2 y3 y4 i3 i4 y7)), (r 0, .inl (cb0, 18, .inl f0)), (r 1, .inl (cb1, 18, .inl f1)), (r 2, .inl (cb2, 18, .inl f2))] t.heap ∧ va_K (dC, dI) vwCl [(ctp, .int), (cb0, .int), (cb1, .int), (cb2, .boolean)] t ∧ va_D (va_A ([(gt, .inr (9, [.int st9, .ref tp, .int td, .int fk, .int fpl, .ref bk, .int un, .ref mb, .ref mu, .int mk, .ref rd, .ref cm, .ref wk, .ref pp, .ref so, .ref ty])), (tp, .inl (ctp, 900, .inl ftp)), (rd, .inr (6, rF r q0 q1 q2 q3 q4 q5 q6 q7)), (r 0, .inl (cb0, 18, .inl fb0)), (r 1, .inl (cb1, 18, .inl fb1)), (r 2, .inl (cb2, 18, .inl fb2))]) sz) [(gt, .inr (9, [.int st9, .ref tp, .int 0, .int y0, .int y1, .ref bk, .int un, .ref mb, .ref mu, .int mk, .ref rd, .ref cm, .ref wk, .ref pp, .ref so, .ref ty])), (tp, .inl (ctp, 900, .inl ftp)), (rd, .inr (6, rF r y0 y1 y2 y3 y4 i3 i4 y7)), (r 0, .inl (cb0, 18, .inl f0)), (r 1, .inl (cb1, 18, .inl f1)), (r 2, .inl (cb2, 18, .inl f2))]) (va_A ([(gt, .inr (9, [.int st9, .ref tp, .int td, .int fk, .int fpl, .ref bk, .int un, .ref mb, .ref mu, .int mk, .ref rd, .ref cm, .ref wk, .ref pp, .ref so, .ref ty])), (tp, .inl (ctp, 900, .inl ftp)), (rd, .inr (6, rF r q0 q1 q2 q3 q4 q5 q6 q7)), (r 0, .inl (cb0, 18, .inl fb0)), (r 1, .inl (cb1, 18, .inl fb1)), (r 2, .inl (cb2, 18, .inl fb2))]) sz)) 0 0 (va_A ([(gt, .inr (9, [.int st9, .ref tp, .int td, .int fk, .int fpl, .ref bk, .int un, .ref mb, .ref mu, .int mk, .ref rd, .ref cm, .ref wk, .ref pp, .ref so, .ref ty])), (tp, .inl (ctp, 900, .inl ftp)), (rd, .inr (6, rF r q0 q1 q2 q3 q4 q5 q6 q7)), (r 0, .inl (cb0, 18, .inl fb0)), (r 1, .inl (cb1, 18, .inl fb1)), (r 2, .inl (cb2, 18, .inl fb2))]) sz) := by
  refine Met.ofW (cc := cX9_readTape) (maxL := 5) (ret := (some .boolean)) (by decide +kernel) rfl ?_
  intro p e s m args below meth c s₁ B hml hv
  obtain ⟨rfl, hsz, hP, hK, hD0, hN53, hSR⟩ := hv
  have hx := B.exec
  have hb := B.bytes
  have hr := B.returns
  have hts := atoms_spec (ws := mwX9_readTape) B.pre
  have hown : s.vm.findClass RX9 = some m.cls := findClass_of_methodNamed B.named
  have hlocks := B.notSynchronized
  subst hsz
  have hD := hD0.self (sz := s.heap.size)
  generalize hAe : va_A ([(gt, .inr (9, [.int st9, .ref tp, .int td, .int fk, .int fpl, .ref bk, .int un, .ref mb, .ref mu, .int mk, .ref rd, .ref cm, .ref wk, .ref pp, .ref so, .ref ty])), (tp, .inl (ctp, 900, .inl ftp)), (rd, .inr (6, rF r q0 q1 q2 q3 q4 q5 q6 q7)), (r 0, .inl (cb0, 18, .inl fb0)), (r 1, .inl (cb1, 18, .inl fb1)), (r 2, .inl (cb2, 18, .inl fb2))]) s.heap.size = A at hD hSR ⊢
  have hA : ∀ q : Nat, s.heap.size ≤ q → A q := fun q h => by rw [← hAe]; exact Or.inr h
  have hP : va_P (dC, dI) vwCl [(gt, .inr (9, [.int st9, .ref tp, .int td, .int fk, .int fpl, .ref bk, .int un, .ref mb, .ref mu, .int mk, .ref rd, .ref cm, .ref wk, .ref pp, .ref so, .ref ty])), (tp, .inl (ctp, 900, .inl ftp)), (rd, .inr (6, rF r q0 q1 q2 q3 q4 q5 q6 q7)), (r 0, .inl (cb0, 18, .inl fb0)), (r 1, .inl (cb1, 18, .inl fb1)), (r 2, .inl (cb2, 18, .inl fb2))] s.heap := hP
  have hD : va_D A [(gt, .inr (9, [.int st9, .ref tp, .int td, .int fk, .int fpl, .ref bk, .int un, .ref mb, .ref mu, .int mk, .ref rd, .ref cm, .ref wk, .ref pp, .ref so, .ref ty])), (tp, .inl (ctp, 900, .inl ftp)), (rd, .inr (6, rF r q0 q1 q2 q3 q4 q5 q6 q7)), (r 0, .inl (cb0, 18, .inl fb0)), (r 1, .inl (cb1, 18, .inl fb1)), (r 2, .inl (cb2, 18, .inl fb2))] := hD
  have hK : va_K (dC, dI) vwCl [(ctp, .int), (cb0, .int), (cb1, .int), (cb2, .boolean)] s := hK
  generalize hH : s.heap = H at hP ⊢
  have hS : va_S A s.heap H [] := by rw [← hH]; exact va_S.rf
  have hl := lv_entry ([.ref gt, .int i2, .int i3, .int i4]) (n := 5) (Nat.le_of_ble_eq_true rfl)
  rw [lg_entry_eq]
  generalize (lg_sl ([.ref gt, .int i2, .int i3, .int i4]) ++ List.replicate (5 - (lg_sl ([.ref gt, .int i2, .int i3, .int i4])).length) Slot.unset).toArray = ls at hl ⊢
  have hl : lv_has ls 5 [(0, .ref gt), (1, .int i2), (2, .int i3), (3, .int i4)] := hl
  have rg_i2 := i_rng i2
  have rg_i3 := i_rng i3
  have rg_i4 := i_rng i4
  refine lv_aload_n hx hb dX9_readTape_0 rfl (lv_at hl 0 rfl) ?_
  refine va_get (D := (dC, dI)) (ci := 9) (v := .ref rd) (C := RX9) (T := TX9) (N := 16) hx hb hts fin_X9_readTape_X9 hown hK hP 0 rfl rfl 10 (by decide) (hts (.fieldLink RX9 43 "PatternGate" "reader" "LPatternGate$Reader;") (List.mem_of_getElem? (i := 1) (by decide +kernel))) (fun _ h9 => h9) rfl dX9_readTape_1 ?_
  refine lv_aload_n hx hb dX9_readTape_4 rfl (lv_at hl 0 rfl) ?_
  refine va_get (D := (dC, dI)) (ci := 9) (v := .ref tp) (C := RX9) (T := TX9) (N := 16) hx hb hts fin_X9_readTape_X9 hown hK hP 0 rfl rfl 1 (by decide) (hts (.fieldLink RX9 9 "PatternGate" "tape" "[I") (List.mem_of_getElem? (i := 2) (by decide +kernel))) (fun _ h9 => h9) rfl dX9_readTape_5 ?_
  refine lv_iload_n hx hb dX9_readTape_8 rfl (lv_at hl 1 rfl) ?_
  refine lv_iload_n hx hb dX9_readTape_9 rfl (lv_at hl 2 rfl) ?_
  refine lv_iload_n hx hb dX9_readTape_10 rfl (lv_at hl 3 rfl) ?_
  have hPc := hP.sub (ws' := [(rd, .inr (6, rF r q0 q1 q2 q3 q4 q5 q6 q7)), (tp, .inl (ctp, 900, .inl ftp)), (r 0, .inl (cb0, 18, .inl fb0)), (r 1, .inl (cb1, 18, .inl fb1)), (r 2, .inl (cb2, 18, .inl fb2))]) [2, 1, 3, 4, 5] rfl
  have hKc := hK.sub (tys' := [(ctp, .int), (cb0, .int), (cb1, .int), (cb2, .boolean)]) [0, 1, 2, 3] rfl
  have hDc := hD.sub (ws' := [(rd, .inr (6, rF r q0 q1 q2 q3 q4 q5 q6 q7)), (tp, .inl (ctp, 900, .inl ftp)), (r 0, .inl (cb0, 18, .inl fb0)), (r 1, .inl (cb1, 18, .inl fb1)), (r 2, .inl (cb2, 18, .inl fb2))]) [2, 1, 3, 4, 5] (by decide) rfl
  have hFc := va_free (wc := [(rd, .inr (6, rF r q0 q1 q2 q3 q4 q5 q6 q7)), (tp, .inl (ctp, 900, .inl ftp)), (r 0, .inl (cb0, 18, .inl fb0)), (r 1, .inl (cb1, 18, .inl fb1)), (r 2, .inl (cb2, 18, .inl fb2))]) hD hS hA [2, 1, 3, 4, 5] rfl
  refine va_calli (va_runV (As := [.ref tp, .int i2, .int i3, .int i4]) (rest := []) ⟨hx, hb, hml, hown, hts⟩ (s_read l dC dI rd r q0 q1 q2 q3 q4 q5 q6 q7 tp 900 ctp cb0 cb1 cb2 ftp fb0 fb1 fb2 H.size i2 i3 i4 (by omega) (by omega) (by omega) (by omega)) (cwV 4 hts mg_X9_readTape_X6_read_293 rfl rfl rfl (by decide +kernel) ⟨Nat.le_of_ble_eq_true rfl, Nat.le_of_ble_eq_true rfl⟩) ⟨fun a U g mk q => by obtain ⟨q0, q1, qP, qK, qD, qE0, qE1⟩ := q; exact ⟨q0, q1, qP, va_K.moved (u := U) (U := U.calling g mk a) (Vm.Alike.refl U.vm) qK, qD, va_Nw.same rfl (rfl : U.vm = (U.calling g mk a).vm) qE0, sR.call qE1⟩, va_recv hKc hPc (ci := 6) (q0 := 0) rfl rfl, fun U hU hW => ⟨rfl, by rw [hU], by rw [hU]; exact hPc, va_K.moved hW.alike hKc, hDc.weaken (fun _ _ _ _ => trivial), va_Nw.warmM hW hN53, sR.to hSR hS hFc hW hU⟩⟩ rfl rfl hl.1 rfl (lv_room (Nat.le_of_ble_eq_true rfl)) dX9_readTape_11 ⟨Nat.le_of_ble_eq_true rfl, Nat.le_of_ble_eq_true rfl⟩) hS (fun q _ h => hFc q h) hFc (fun r_2 u t H1 locs ht hvm hw hB hz1 hk1 hS => ?_)
  obtain ⟨hu9, hr_2⟩ := hw
  obtain ⟨y_3, y_4, y_5, y_6, y_7, y_8, f_9, f_10, f_11, hJ9, hP1, hK1, hD1⟩ := hB
  rw [← hu9] at hJ9 hr_2
  rw [ht] at hP1
  obtain ⟨hP, hD⟩ := va_join (wr := [(gt, .inr (9, [.int st9, .ref tp, .int td, .int fk, .int fpl, .ref bk, .int un, .ref mb, .ref mu, .int mk, .ref rd, .ref cm, .ref wk, .ref pp, .ref so, .ref ty]))]) (w1 := [(rd, .inr (6, rF r y_3 y_4 y_5 y_6 y_7 i3 i4 y_8)), (tp, .inl (ctp, 900, .inl ftp)), (r 0, .inl (cb0, 18, .inl f_9)), (r 1, .inl (cb1, 18, .inl f_10)), (r 2, .inl (cb2, 18, .inl f_11))]) hP hD [2, 1, 3, 4, 5] [0] rfl rfl (by decide) (by decide) hk1 hFc hP1 hD1
  generalize H1 = H at hP hS ⊢
  have hP : va_P (dC, dI) vwCl [(gt, .inr (9, [.int st9, .ref tp, .int td, .int fk, .int fpl, .ref bk, .int un, .ref mb, .ref mu, .int mk, .ref rd, .ref cm, .ref wk, .ref pp, .ref so, .ref ty])), (rd, .inr (6, rF r y_3 y_4 y_5 y_6 y_7 i3 i4 y_8)), (tp, .inl (ctp, 900, .inl ftp)), (r 0, .inl (cb0, 18, .inl f_9)), (r 1, .inl (cb1, 18, .inl f_10)), (r 2, .inl (cb2, 18, .inl f_11))] H := hP
  have hD : va_D A [(gt, .inr (9, [.int st9, .ref tp, .int td, .int fk, .int fpl, .ref bk, .int un, .ref mb, .ref mu, .int mk, .ref rd, .ref cm, .ref wk, .ref pp, .ref so, .ref ty])), (rd, .inr (6, rF r y_3 y_4 y_5 y_6 y_7 i3 i4 y_8)), (tp, .inl (ctp, 900, .inl ftp)), (r 0, .inl (cb0, 18, .inl f_9)), (r 1, .inl (cb1, 18, .inl f_10)), (r 2, .inl (cb2, 18, .inl f_11))] := hD
  refine lv_istore (lv' := [(4, .int r_2), (0, .ref gt), (1, .int i2), (2, .int i3), (3, .int i4)]) hx hb dX9_readTape_14 hl (by decide) rfl (fun ls hl => ?_)
  refine lv_aload_n hx hb dX9_readTape_16 rfl (lv_at hl 1 rfl) ?_
  refine lv_aload_n hx hb dX9_readTape_17 rfl (lv_at hl 1 rfl) ?_
  refine va_get (D := (dC, dI)) (ci := 9) (v := .ref rd) (C := RX9) (T := TX9) (N := 16) hx hb hts fin_X9_readTape_X9 hown hK hP 0 rfl rfl 10 (by decide) (hts (.fieldLink RX9 43 "PatternGate" "reader" "LPatternGate$Reader;") (List.mem_of_getElem? (i := 1) (by decide +kernel))) (fun _ h9 => h9) rfl dX9_readTape_18 ?_
  refine va_get (D := (dC, dI)) (ci := 6) (v := .int y_3) (C := RX6) (T := TX6) (N := 11) hx hb hts fin_X9_readTape_X6 hown hK hP 1 rfl rfl 0 (by decide) (hts (.fieldLink RX9 297 "PatternGate$Reader" "faultKind" "I") (List.mem_of_getElem? (i := 7) (by decide +kernel))) (fun _ h9 => h9) rfl dX9_readTape_21 ?_
  refine va_put (D := (dC, dI)) (ci := 9) (v := .int y_3) (ty := .int) (C := RX9) (T := TX9) (N := 16) hx hb hts fin_X9_readTape_X9 tyX9 tyX9_ok nmX9 hown hK hP hD hS 0 rfl rfl 3 (by decide) (hts (.fieldLink RX9 13 "PatternGate" "faultKind" "I") (List.mem_of_getElem? (i := 8) (by decide +kernel))) (fun _ h9 => h9) rfl (by decide +kernel) rfl rfl (Nat.le_of_ble_eq_true rfl) dX9_readTape_24 (fun H locs hP hD hS => ?_)
  have hP : va_P (dC, dI) vwCl [(gt, .inr (9, [.int st9, .ref tp, .int td, .int y_3, .int fpl, .ref bk, .int un, .ref mb, .ref mu, .int mk, .ref rd, .ref cm, .ref wk, .ref pp, .ref so, .ref ty])), (rd, .inr (6, rF r y_3 y_4 y_5 y_6 y_7 i3 i4 y_8)), (tp, .inl (ctp, 900, .inl ftp)), (r 0, .inl (cb0, 18, .inl f_9)), (r 1, .inl (cb1, 18, .inl f_10)), (r 2, .inl (cb2, 18, .inl f_11))] H := hP
  have hD : va_D A [(gt, .inr (9, [.int st9, .ref tp, .int td, .int y_3, .int fpl, .ref bk, .int un, .ref mb, .ref mu, .int mk, .ref rd, .ref cm, .ref wk, .ref pp, .ref so, .ref ty])), (rd, .inr (6, rF r y_3 y_4 y_5 y_6 y_7 i3 i4 y_8)), (tp, .inl (ctp, 900, .inl ftp)), (r 0, .inl (cb0, 18, .inl f_9)), (r 1, .inl (cb1, 18, .inl f_10)), (r 2, .inl (cb2, 18, .inl f_11))] := hD
  refine lv_aload_n hx hb dX9_readTape_27 rfl (lv_at hl 1 rfl) ?_
  refine lv_aload_n hx hb dX9_readTape_28 rfl (lv_at hl 1 rfl) ?_
  refine va_get (D := (dC, dI)) (ci := 9) (v := .ref rd) (C := RX9) (T := TX9) (N := 16) hx hb hts fin_X9_readTape_X9 hown hK hP 0 rfl rfl 10 (by decide) (hts (.fieldLink RX9 43 "PatternGate" "reader" "LPatternGate$Reader;") (List.mem_of_getElem? (i := 1) (by decide +kernel))) (fun _ h9 => h9) rfl dX9_readTape_29 ?_
  refine va_get (D := (dC, dI)) (ci := 6) (v := .int y_4) (C := RX6) (T := TX6) (N := 11) hx hb hts fin_X9_readTape_X6 hown hK hP 1 rfl rfl 1 (by decide) (hts (.fieldLink RX9 298 "PatternGate$Reader" "faultPlace" "I") (List.mem_of_getElem? (i := 9) (by decide +kernel))) (fun _ h9 => h9) rfl dX9_readTape_32 ?_
  refine va_put (D := (dC, dI)) (ci := 9) (v := .int y_4) (ty := .int) (C := RX9) (T := TX9) (N := 16) hx hb hts fin_X9_readTape_X9 tyX9 tyX9_ok nmX9 hown hK hP hD hS 0 rfl rfl 4 (by decide) (hts (.fieldLink RX9 17 "PatternGate" "faultPlace" "I") (List.mem_of_getElem? (i := 10) (by decide +kernel))) (fun _ h9 => h9) rfl (by decide +kernel) rfl rfl (Nat.le_of_ble_eq_true rfl) dX9_readTape_35 (fun H locs hP hD hS => ?_)
  have hP : va_P (dC, dI) vwCl [(gt, .inr (9, [.int st9, .ref tp, .int td, .int y_3, .int y_4, .ref bk, .int un, .ref mb, .ref mu, .int mk, .ref rd, .ref cm, .ref wk, .ref pp, .ref so, .ref ty])), (rd, .inr (6, rF r y_3 y_4 y_5 y_6 y_7 i3 i4 y_8)), (tp, .inl (ctp, 900, .inl ftp)), (r 0, .inl (cb0, 18, .inl f_9)), (r 1, .inl (cb1, 18, .inl f_10)), (r 2, .inl (cb2, 18, .inl f_11))] H := hP
  have hD : va_D A [(gt, .inr (9, [.int st9, .ref tp, .int td, .int y_3, .int y_4, .ref bk, .int un, .ref mb, .ref mu, .int mk, .ref rd, .ref cm, .ref wk, .ref pp, .ref so, .ref ty])), (rd, .inr (6, rF r y_3 y_4 y_5 y_6 y_7 i3 i4 y_8)), (tp, .inl (ctp, 900, .inl ftp)), (r 0, .inl (cb0, 18, .inl f_9)), (r 1, .inl (cb1, 18, .inl f_10)), (r 2, .inl (cb2, 18, .inl f_11))] := hD
  refine lv_aload_n hx hb dX9_readTape_38 rfl (lv_at hl 1 rfl) ?_
  refine lv_iconst (v := 0) hx hb dX9_readTape_39 (by decide) ?_
  refine va_put (D := (dC, dI)) (ci := 9) (v := .int 0) (ty := .int) (C := RX9) (T := TX9) (N := 16) hx hb hts fin_X9_readTape_X9 tyX9 tyX9_ok nmX9 hown hK hP hD hS 0 rfl rfl 2 (by decide) (hts (.fieldLink RX9 73 "PatternGate" "taped" "I") (List.mem_of_getElem? (i := 11) (by decide +kernel))) (fun _ h9 => h9) rfl (by decide +kernel) rfl rfl (Nat.le_of_ble_eq_true rfl) dX9_readTape_40 (fun H locs hP hD hS => ?_)
  have hP : va_P (dC, dI) vwCl [(gt, .inr (9, [.int st9, .ref tp, .int 0, .int y_3, .int y_4, .ref bk, .int un, .ref mb, .ref mu, .int mk, .ref rd, .ref cm, .ref wk, .ref pp, .ref so, .ref ty])), (rd, .inr (6, rF r y_3 y_4 y_5 y_6 y_7 i3 i4 y_8)), (tp, .inl (ctp, 900, .inl ftp)), (r 0, .inl (cb0, 18, .inl f_9)), (r 1, .inl (cb1, 18, .inl f_10)), (r 2, .inl (cb2, 18, .inl f_11))] H := hP
  have hD : va_D A [(gt, .inr (9, [.int st9, .ref tp, .int 0, .int y_3, .int y_4, .ref bk, .int un, .ref mb, .ref mu, .int mk, .ref rd, .ref cm, .ref wk, .ref pp, .ref so, .ref ty])), (rd, .inr (6, rF r y_3 y_4 y_5 y_6 y_7 i3 i4 y_8)), (tp, .inl (ctp, 900, .inl ftp)), (r 0, .inl (cb0, 18, .inl f_9)), (r 1, .inl (cb1, 18, .inl f_10)), (r 2, .inl (cb2, 18, .inl f_11))] := hD
  refine lv_iload hx hb dX9_readTape_43 (lv_at hl 0 rfl) ?_
  have hP9 := hP.sub (ws' := [(gt, .inr (9, [.int st9, .ref tp, .int 0, .int y_3, .int y_4, .ref bk, .int un, .ref mb, .ref mu, .int mk, .ref rd, .ref cm, .ref wk, .ref pp, .ref so, .ref ty])), (tp, .inl (ctp, 900, .inl ftp)), (rd, .inr (6, rF r y_3 y_4 y_5 y_6 y_7 i3 i4 y_8)), (r 0, .inl (cb0, 18, .inl f_9)), (r 1, .inl (cb1, 18, .inl f_10)), (r 2, .inl (cb2, 18, .inl f_11))]) [0, 2, 1, 3, 4, 5] rfl
  have hD9 := hD.sub (ws' := [(gt, .inr (9, [.int st9, .ref tp, .int 0, .int y_3, .int y_4, .ref bk, .int un, .ref mb, .ref mu, .int mk, .ref rd, .ref cm, .ref wk, .ref pp, .ref so, .ref ty])), (tp, .inl (ctp, 900, .inl ftp)), (rd, .inr (6, rF r y_3 y_4 y_5 y_6 y_7 i3 i4 y_8)), (r 0, .inl (cb0, 18, .inl f_9)), (r 1, .inl (cb1, 18, .inl f_10)), (r 2, .inl (cb2, 18, .inl f_11))]) [0, 2, 1, 3, 4, 5] (by decide) rfl
  have hK9 := hK.sub (tys' := [(ctp, .int), (cb0, .int), (cb1, .int), (cb2, .boolean)]) [0, 1, 2, 3] rfl
  exact W.zret hx hb hr (z_nar (by assumption)) (fun t ht hW => ⟨⟨_, r_2, rfl, ⟨rfl, by assumption⟩, y_3, y_4, y_5, y_6, y_7, y_8, f_9, f_10, f_11, hJ9, by rw [ht]; exact hP9, va_K.moved hW.alike hK9, hD9⟩, hS.F ht⟩) hS.2.2 dX9_readTape_45

/-- an array of ints among what is never changed -/
abbrev poA (W : va_W) (T : List (ClassId × FieldType)) (a n : Nat) (f : Nat → Int32) (cA : ClassId) : Prop := (a, .inl (cA, n, .inl f)) ∈ W ∧ (cA, .int) ∈ T
/-- a DOCUMENT -/
def poD (W : va_W) (T : List (ClassId × FieldType)) (d : Nat) : Prop := ∃ (la ta m n : Nat) (fl ft : Nat → Int32) (cI cJ : ClassId), (d, .inr (2, [.ref la, .ref ta])) ∈ W ∧ poA W T la m fl cI ∧ poA W T ta n ft cJ ∧ m ≤ 60 ∧ n ≤ 60
/-- a PATTERN -/
def poP (W : va_W) (T : List (ClassId × FieldType)) (pt : Nat) : Prop := ∃ (q : Nat → Nat) (a0 a1 a2 a3 a4 a5 : Int32) (nx nf nk nr ns nu : Nat) (fx ff fk fr fs fu : Nat → Int32) (cX cF cK cR cS cU : ClassId), (pt, .inr (5, pF q a0 a1 a2 a3 a4 a5)) ∈ W ∧ poA W T (q 0) nx fx cX ∧ poA W T (q 1) nf ff cF ∧ poA W T (q 2) nk fk cK ∧ poA W T (q 4) nr fr cR ∧ poA W T (q 5) ns fs cS ∧ poA W T (q 6) nu fu cU ∧ (a1 = 0 ∨ a1 = 1) ∧ (a5 = 0 ∨ a5 = 1) ∧ nx ≤ 900 ∧ nf ≤ 24 ∧ nk ≤ 26 ∧ nr ≤ 288 ∧ 1 ≤ ns ∧ ns ≤ 13 ∧ nu ≤ 288 ∧ ∀ i, i < ns → 0 ≤ (fs i).toInt ∧ (fs i).toInt ≤ nr
/-- a Book, and what it holds -/
def poB (W : va_W) (T : List (ClassId × FieldType)) (b : Nat) : Prop := ∃ (ds ps nd np : Nat) (e : Option Nat) (fd fp : Nat → Option Nat) (cD cP : ClassId), (b, .inr (0, [.ref ds, .ref ps, va_rf e])) ∈ W ∧ (ds, .inl (cD, nd, .inr (.inr (.inr (.inr fd))))) ∈ W ∧ (cD, .object "PatternGate$Doc") ∈ T ∧ (ps, .inl (cP, np, .inr (.inr (.inr (.inr fp))))) ∈ W ∧ (cP, .object "PatternGate$Pattern") ∈ T ∧ nd ≤ 10 ∧ np ≤ 8 ∧ (∀ i, i < nd → ∃ a, fd i = some a ∧ poD W T a) ∧ ∀ i, i < np → ∃ a, fp i = some a ∧ poP W T a
theorem dX0_docAt_0 : decode cX0_docAt 0 = .ok (.iload_n 1, 1) := by decide +kernel
theorem dX0_docAt_1 : decode cX0_docAt 1 = .ok (.ifCond .lt 21, 3) := by decide +kernel
theorem dX0_docAt_4 : decode cX0_docAt 4 = .ok (.iload_n 1, 1) := by decide +kernel
theorem dX0_docAt_5 : decode cX0_docAt 5 = .ok (.aload_n 0, 1) := by decide +kernel
theorem dX0_docAt_6 : decode cX0_docAt 6 = .ok (.getfield 7, 3) := by decide +kernel
theorem dX0_docAt_9 : decode cX0_docAt 9 = .ok (.arraylength, 1) := by decide +kernel
theorem dX0_docAt_10 : decode cX0_docAt 10 = .ok (.if_icmp .ge 12, 3) := by decide +kernel
theorem dX0_docAt_13 : decode cX0_docAt 13 = .ok (.aload_n 0, 1) := by decide +kernel
theorem dX0_docAt_14 : decode cX0_docAt 14 = .ok (.getfield 7, 3) := by decide +kernel
theorem dX0_docAt_17 : decode cX0_docAt 17 = .ok (.iload_n 1, 1) := by decide +kernel
theorem dX0_docAt_18 : decode cX0_docAt 18 = .ok (.aaload, 1) := by decide +kernel
theorem dX0_docAt_19 : decode cX0_docAt 19 = .ok (.goto 4, 3) := by decide +kernel
theorem dX0_docAt_22 : decode cX0_docAt 22 = .ok (.aconst_null, 1) := by decide +kernel
theorem dX0_docAt_23 : decode cX0_docAt 23 = .ok (.areturn, 1) := by decide +kernel
def mwX0_docAt : List Cond := .code yX0_docAt cX0_docAt 2 (some (.object "PatternGate$Doc")) :: ([.fieldLink RX0 7 "PatternGate$Book" "docs" "[LPatternGate$Doc;"] ++ wsX00)
theorem fin_X0_docAt_X0 : ∀ w ∈ wsX00, w ∈ mwX0_docAt := fun w h => List.mem_cons_of_mem _ (List.mem_append_right _ h)
set_option maxHeartbeats 4000000 in
set_option maxRecDepth 100000 in
/-- Book.docAt -/
theorem s_docAt (l : Launch) (dC : Nat → ClassId) (dI : Nat → Nat → Nat) (W9 : va_W) (T9 : List (ClassId × FieldType)) (b : Nat) (i : Int32) (hB : poB W9 T9 b) : Met l yX0_docAt mwX0_docAt ({ frames := 0, cells := 0, slots := 0, locals := 0 }) (va_Pc [.ref b, .int i] (fun U => va_P (dC, dI) vwCl W9 U.heap ∧ va_K (dC, dI) vwCl T9 U)) (va_Sq (fun o => o = none ∨ ∃ a, o = some a ∧ poD W9 T9 a)) 0 0 (fun _ => False) := by
  refine Met.ofW (cc := cX0_docAt) (maxL := 2) (ret := (some (.object "PatternGate$Doc"))) (by decide +kernel) rfl ?_
  intro p e s m args below meth c s₁ B hml hv
  obtain ⟨rfl, hQ, hKQ⟩ := hv
  have hx := B.exec
  have hb := B.bytes
  have hr := B.returns
  have hts := atoms_spec (ws := mwX0_docAt) B.pre
  have hown : s.vm.findClass RX0 = some m.cls := findClass_of_methodNamed B.named
  have hlocks := B.notSynchronized
  generalize hH : s.heap = H at hQ ⊢
  have hl := lv_entry ([.ref b, .int i]) (n := 2) (Nat.le_of_ble_eq_true rfl)
  rw [lg_entry_eq]
  generalize (lg_sl ([.ref b, .int i]) ++ List.replicate (2 - (lg_sl ([.ref b, .int i])).length) Slot.unset).toArray = ls at hl ⊢
  have hl : lv_has ls 2 [(0, .ref b), (1, .int i)] := hl
  have rg_i := i_rng i
  obtain ⟨ds, ps, nd, np, ear, fd, fp, cD, cP, m1, m2, m3, m4, m5, hnd, hnp, hds, hps⟩ := hB
  obtain ⟨k_1, hk_1⟩ := List.getElem?_of_mem m1
  obtain ⟨k_2, hk_2⟩ := List.getElem?_of_mem m2
  obtain ⟨j_3, hj_3⟩ := List.getElem?_of_mem m3
  obtain ⟨k_4, hk_4⟩ := List.getElem?_of_mem m4
  obtain ⟨j_5, hj_5⟩ := List.getElem?_of_mem m5
  refine lv_iload_n hx hb dX0_docAt_0 rfl (lv_at hl 1 rfl) ?_
  refine lv_if_lt (tgt := 22) hx hb dX0_docAt_1 (by decide) (fun k_6 => ?_) (fun k_6 => ?_)
  · have tk_6 := c_lt (a := i.toInt) (b := 0) rfl (by decide) k_6
    refine lv_null hx hb dX0_docAt_22 ?_
    exact W.aret hx hb hr (Or.inl ⟨_, rfl⟩) (Or.inl rfl) (fun t ht hW => ⟨none, rfl, Or.inl rfl, ht.trans hH.symm⟩) t_nil dX0_docAt_23
  · have tk_6 := c_nlt (a := i.toInt) (b := 0) rfl (by decide) k_6
    refine lv_iload_n hx hb dX0_docAt_4 rfl (lv_at hl 1 rfl) ?_
    refine lv_aload_n hx hb dX0_docAt_5 rfl (lv_at hl 0 rfl) ?_
    refine va_get (D := (dC, dI)) (ci := 0) (v := .ref ds) (C := RX0) (T := TX0) (N := 3) hx hb hts fin_X0_docAt_X0 hown hKQ hQ k_1 hk_1 rfl 0 (by decide) (hts (.fieldLink RX0 7 "PatternGate$Book" "docs" "[LPatternGate$Doc;") (List.mem_of_getElem? (i := 1) (by decide +kernel))) (fun _ h9 => h9) rfl dX0_docAt_6 ?_
    refine va_alen hx hb hKQ hQ k_2 j_3 hk_2 hj_3 rfl dX0_docAt_9 ?_
    refine lv_topi (fun y_7 ey_7 => ?_)
    have ty_7 : y_7.toInt = (nd : Int) := i_len ey_7 (by omega)
    refine lv_icmp_ge (tgt := 22) hx hb dX0_docAt_10 (by decide) (fun k_8 => ?_) (fun k_8 => ?_)
    · have tk_8 := c_ge (a := i.toInt) (b := y_7.toInt) rfl rfl k_8
      refine lv_null hx hb dX0_docAt_22 ?_
      exact W.aret hx hb hr (Or.inl ⟨_, rfl⟩) (Or.inl rfl) (fun t ht hW => ⟨none, rfl, Or.inl rfl, ht.trans hH.symm⟩) t_nil dX0_docAt_23
    · have tk_8 := c_nge (a := i.toInt) (b := y_7.toInt) rfl rfl k_8
      refine lv_aload_n hx hb dX0_docAt_13 rfl (lv_at hl 0 rfl) ?_
      refine va_get (D := (dC, dI)) (ci := 0) (v := .ref ds) (C := RX0) (T := TX0) (N := 3) hx hb hts fin_X0_docAt_X0 hown hKQ hQ k_1 hk_1 rfl 0 (by decide) (hts (.fieldLink RX0 7 "PatternGate$Book" "docs" "[LPatternGate$Doc;") (List.mem_of_getElem? (i := 1) (by decide +kernel))) (fun _ h9 => h9) rfl dX0_docAt_14 ?_
      refine lv_iload_n hx hb dX0_docAt_17 rfl (lv_at hl 1 rfl) ?_
      refine va_aldq hx hb hKQ hQ k_2 j_3 hk_2 hj_3 (i := i) (vp_of (a := i.toInt) rfl (by omega) (by omega)) dX0_docAt_18 ?_
      obtain ⟨d_9, ed_9, hd_9⟩ := hds _ (vp_nat (i := i) (a := i.toInt) (n := nd) rfl (by omega) (by omega))
      rw [ed_9]
      refine W.eq (g2 := F0 m 19 ls [.ref d_9]) rfl ?_
      refine lv_goto (tgt := 23) hx hb dX0_docAt_19 (by decide) ?_
      exact W.aret hx hb hr (Or.inl ⟨_, rfl⟩) (Or.inr ⟨_, rfl⟩) (fun t ht hW => ⟨some d_9, rfl, Or.inr ⟨_, rfl, hd_9⟩, ht.trans hH.symm⟩) t_nil dX0_docAt_23
theorem dX0_patternAt_0 : decode cX0_patternAt 0 = .ok (.iload_n 1, 1) := by decide +kernel
theorem dX0_patternAt_1 : decode cX0_patternAt 1 = .ok (.ifCond .lt 21, 3) := by decide +kernel
theorem dX0_patternAt_4 : decode cX0_patternAt 4 = .ok (.iload_n 1, 1) := by decide +kernel
theorem dX0_patternAt_5 : decode cX0_patternAt 5 = .ok (.aload_n 0, 1) := by decide +kernel
theorem dX0_patternAt_6 : decode cX0_patternAt 6 = .ok (.getfield 13, 3) := by decide +kernel
theorem dX0_patternAt_9 : decode cX0_patternAt 9 = .ok (.arraylength, 1) := by decide +kernel
theorem dX0_patternAt_10 : decode cX0_patternAt 10 = .ok (.if_icmp .ge 12, 3) := by decide +kernel
theorem dX0_patternAt_13 : decode cX0_patternAt 13 = .ok (.aload_n 0, 1) := by decide +kernel
theorem dX0_patternAt_14 : decode cX0_patternAt 14 = .ok (.getfield 13, 3) := by decide +kernel
theorem dX0_patternAt_17 : decode cX0_patternAt 17 = .ok (.iload_n 1, 1) := by decide +kernel
theorem dX0_patternAt_18 : decode cX0_patternAt 18 = .ok (.aaload, 1) := by decide +kernel
theorem dX0_patternAt_19 : decode cX0_patternAt 19 = .ok (.goto 4, 3) := by decide +kernel
theorem dX0_patternAt_22 : decode cX0_patternAt 22 = .ok (.aconst_null, 1) := by decide +kernel
theorem dX0_patternAt_23 : decode cX0_patternAt 23 = .ok (.areturn, 1) := by decide +kernel
def mwX0_patternAt : List Cond := .code yX0_patternAt cX0_patternAt 2 (some (.object "PatternGate$Pattern")) :: ([.fieldLink RX0 13 "PatternGate$Book" "patterns" "[LPatternGate$Pattern;"] ++ wsX00)
theorem fin_X0_patternAt_X0 : ∀ w ∈ wsX00, w ∈ mwX0_patternAt := fun w h => List.mem_cons_of_mem _ (List.mem_append_right _ h)
set_option maxHeartbeats 4000000 in
set_option maxRecDepth 100000 in
/-- Book.patternAt -/
theorem s_patternAt (l : Launch) (dC : Nat → ClassId) (dI : Nat → Nat → Nat) (W9 : va_W) (T9 : List (ClassId × FieldType)) (b : Nat) (i : Int32) (hB : poB W9 T9 b) : Met l yX0_patternAt mwX0_patternAt ({ frames := 0, cells := 0, slots := 0, locals := 0 }) (va_Pc [.ref b, .int i] (fun U => va_P (dC, dI) vwCl W9 U.heap ∧ va_K (dC, dI) vwCl T9 U)) (va_Sq (fun o => o = none ∨ ∃ a, o = some a ∧ poP W9 T9 a)) 0 0 (fun _ => False) := by
  refine Met.ofW (cc := cX0_patternAt) (maxL := 2) (ret := (some (.object "PatternGate$Pattern"))) (by decide +kernel) rfl ?_
  intro p e s m args below meth c s₁ B hml hv
  obtain ⟨rfl, hQ, hKQ⟩ := hv
  have hx := B.exec
  have hb := B.bytes
  have hr := B.returns
  have hts := atoms_spec (ws := mwX0_patternAt) B.pre
  have hown : s.vm.findClass RX0 = some m.cls := findClass_of_methodNamed B.named
  have hlocks := B.notSynchronized
  generalize hH : s.heap = H at hQ ⊢
  have hl := lv_entry ([.ref b, .int i]) (n := 2) (Nat.le_of_ble_eq_true rfl)
  rw [lg_entry_eq]
  generalize (lg_sl ([.ref b, .int i]) ++ List.replicate (2 - (lg_sl ([.ref b, .int i])).length) Slot.unset).toArray = ls at hl ⊢
  have hl : lv_has ls 2 [(0, .ref b), (1, .int i)] := hl
  have rg_i := i_rng i
  obtain ⟨ds, ps, nd, np, ear, fd, fp, cD, cP, m1, m2, m3, m4, m5, hnd, hnp, hds, hps⟩ := hB
  obtain ⟨k_1, hk_1⟩ := List.getElem?_of_mem m1
  obtain ⟨k_2, hk_2⟩ := List.getElem?_of_mem m2
  obtain ⟨j_3, hj_3⟩ := List.getElem?_of_mem m3
  obtain ⟨k_4, hk_4⟩ := List.getElem?_of_mem m4
  obtain ⟨j_5, hj_5⟩ := List.getElem?_of_mem m5
  refine lv_iload_n hx hb dX0_patternAt_0 rfl (lv_at hl 1 rfl) ?_
  refine lv_if_lt (tgt := 22) hx hb dX0_patternAt_1 (by decide) (fun k_6 => ?_) (fun k_6 => ?_)
  · have tk_6 := c_lt (a := i.toInt) (b := 0) rfl (by decide) k_6
    refine lv_null hx hb dX0_patternAt_22 ?_
    exact W.aret hx hb hr (Or.inl ⟨_, rfl⟩) (Or.inl rfl) (fun t ht hW => ⟨none, rfl, Or.inl rfl, ht.trans hH.symm⟩) t_nil dX0_patternAt_23
  · have tk_6 := c_nlt (a := i.toInt) (b := 0) rfl (by decide) k_6
    refine lv_iload_n hx hb dX0_patternAt_4 rfl (lv_at hl 1 rfl) ?_
    refine lv_aload_n hx hb dX0_patternAt_5 rfl (lv_at hl 0 rfl) ?_
    refine va_get (D := (dC, dI)) (ci := 0) (v := .ref ps) (C := RX0) (T := TX0) (N := 3) hx hb hts fin_X0_patternAt_X0 hown hKQ hQ k_1 hk_1 rfl 1 (by decide) (hts (.fieldLink RX0 13 "PatternGate$Book" "patterns" "[LPatternGate$Pattern;") (List.mem_of_getElem? (i := 1) (by decide +kernel))) (fun _ h9 => h9) rfl dX0_patternAt_6 ?_
    refine va_alen hx hb hKQ hQ k_4 j_5 hk_4 hj_5 rfl dX0_patternAt_9 ?_
    refine lv_topi (fun y_7 ey_7 => ?_)
    have ty_7 : y_7.toInt = (np : Int) := i_len ey_7 (by omega)
    refine lv_icmp_ge (tgt := 22) hx hb dX0_patternAt_10 (by decide) (fun k_8 => ?_) (fun k_8 => ?_)
    · have tk_8 := c_ge (a := i.toInt) (b := y_7.toInt) rfl rfl k_8
      refine lv_null hx hb dX0_patternAt_22 ?_
      exact W.aret hx hb hr (Or.inl ⟨_, rfl⟩) (Or.inl rfl) (fun t ht hW => ⟨none, rfl, Or.inl rfl, ht.trans hH.symm⟩) t_nil dX0_patternAt_23
    · have tk_8 := c_nge (a := i.toInt) (b := y_7.toInt) rfl rfl k_8
      refine lv_aload_n hx hb dX0_patternAt_13 rfl (lv_at hl 0 rfl) ?_
      refine va_get (D := (dC, dI)) (ci := 0) (v := .ref ps) (C := RX0) (T := TX0) (N := 3) hx hb hts fin_X0_patternAt_X0 hown hKQ hQ k_1 hk_1 rfl 1 (by decide) (hts (.fieldLink RX0 13 "PatternGate$Book" "patterns" "[LPatternGate$Pattern;") (List.mem_of_getElem? (i := 1) (by decide +kernel))) (fun _ h9 => h9) rfl dX0_patternAt_14 ?_
      refine lv_iload_n hx hb dX0_patternAt_17 rfl (lv_at hl 1 rfl) ?_
      refine va_aldq hx hb hKQ hQ k_4 j_5 hk_4 hj_5 (i := i) (vp_of (a := i.toInt) rfl (by omega) (by omega)) dX0_patternAt_18 ?_
      obtain ⟨d_9, ed_9, hd_9⟩ := hps _ (vp_nat (i := i) (a := i.toInt) (n := np) rfl (by omega) (by omega))
      rw [ed_9]
      refine W.eq (g2 := F0 m 19 ls [.ref d_9]) rfl ?_
      refine lv_goto (tgt := 23) hx hb dX0_patternAt_19 (by decide) ?_
      exact W.aret hx hb hr (Or.inl ⟨_, rfl⟩) (Or.inr ⟨_, rfl⟩) (fun t ht hW => ⟨some d_9, rfl, Or.inr ⟨_, rfl, hd_9⟩, ht.trans hH.symm⟩) t_nil dX0_patternAt_23
theorem dX0_listBits_0 : decode cX0_listBits 0 = .ok (.iconst 0, 1) := by decide +kernel
theorem dX0_listBits_1 : decode cX0_listBits 1 = .ok (.istore_n 2, 1) := by decide +kernel
theorem dX0_listBits_2 : decode cX0_listBits 2 = .ok (.iconst 0, 1) := by decide +kernel
theorem dX0_listBits_3 : decode cX0_listBits 3 = .ok (.istore_n 3, 1) := by decide +kernel
theorem dX0_listBits_4 : decode cX0_listBits 4 = .ok (.iload_n 3, 1) := by decide +kernel
theorem dX0_listBits_5 : decode cX0_listBits 5 = .ok (.aload_n 0, 1) := by decide +kernel
theorem dX0_listBits_6 : decode cX0_listBits 6 = .ok (.getfield 7, 3) := by decide +kernel
theorem dX0_listBits_9 : decode cX0_listBits 9 = .ok (.arraylength, 1) := by decide +kernel
theorem dX0_listBits_10 : decode cX0_listBits 10 = .ok (.if_icmp .ge 37, 3) := by decide +kernel
theorem dX0_listBits_13 : decode cX0_listBits 13 = .ok (.aload_n 0, 1) := by decide +kernel
theorem dX0_listBits_14 : decode cX0_listBits 14 = .ok (.getfield 7, 3) := by decide +kernel
theorem dX0_listBits_17 : decode cX0_listBits 17 = .ok (.iload_n 3, 1) := by decide +kernel
theorem dX0_listBits_18 : decode cX0_listBits 18 = .ok (.aaload, 1) := by decide +kernel
theorem dX0_listBits_19 : decode cX0_listBits 19 = .ok (.ifnull 22, 3) := by decide +kernel
theorem dX0_listBits_22 : decode cX0_listBits 22 = .ok (.aload_n 0, 1) := by decide +kernel
theorem dX0_listBits_23 : decode cX0_listBits 23 = .ok (.getfield 7, 3) := by decide +kernel
theorem dX0_listBits_26 : decode cX0_listBits 26 = .ok (.iload_n 3, 1) := by decide +kernel
theorem dX0_listBits_27 : decode cX0_listBits 27 = .ok (.aaload, 1) := by decide +kernel
theorem dX0_listBits_28 : decode cX0_listBits 28 = .ok (.iload_n 1, 1) := by decide +kernel
theorem dX0_listBits_29 : decode cX0_listBits 29 = .ok (.invokevirtual 21, 3) := by decide +kernel
theorem dX0_listBits_32 : decode cX0_listBits 32 = .ok (.ifCond .eq 9, 3) := by decide +kernel
theorem dX0_listBits_35 : decode cX0_listBits 35 = .ok (.iload_n 2, 1) := by decide +kernel
theorem dX0_listBits_36 : decode cX0_listBits 36 = .ok (.iconst 1, 1) := by decide +kernel
theorem dX0_listBits_37 : decode cX0_listBits 37 = .ok (.iload_n 3, 1) := by decide +kernel
theorem dX0_listBits_38 : decode cX0_listBits 38 = .ok (.ishl, 1) := by decide +kernel
theorem dX0_listBits_39 : decode cX0_listBits 39 = .ok (.ior, 1) := by decide +kernel
theorem dX0_listBits_40 : decode cX0_listBits 40 = .ok (.istore_n 2, 1) := by decide +kernel
theorem dX0_listBits_41 : decode cX0_listBits 41 = .ok (.iinc 3 1, 3) := by decide +kernel
theorem dX0_listBits_44 : decode cX0_listBits 44 = .ok (.goto (-40), 3) := by decide +kernel
theorem dX0_listBits_47 : decode cX0_listBits 47 = .ok (.iload_n 2, 1) := by decide +kernel
theorem dX0_listBits_48 : decode cX0_listBits 48 = .ok (.ireturn, 1) := by decide +kernel
def mwX0_listBits : List Cond := .code yX0_listBits cX0_listBits 4 (some .int) :: ([.fieldLink RX0 7 "PatternGate$Book" "docs" "[LPatternGate$Doc;", .code yX2_has cX2_has 5 (some .boolean), .fieldLink RX2 15 "PatternGate$Doc" "triples" "[I", .methodLink RX0 21 yX2_has, .instanceMethod yX2_has, .selects RX2 yX2_has yX2_has, .initialized RX2] ++ wsX00 ++ wsX20)
theorem fin_X0_listBits_X0 : ∀ w ∈ wsX00, w ∈ mwX0_listBits := fun w h => List.mem_cons_of_mem _ (List.mem_append_left _ (List.mem_append_right _ h))
set_option maxRecDepth 20000 in
theorem mg_X0_listBits_X2_has_21 : GoodIn mwX0_listBits (wsV RX0 21 RX2 yX2_has mwX2_has) := goodIn_r _ [4, 5, 6, 7, 2, 3, 11, 12] (by decide +kernel) (by decide +kernel)
set_option maxHeartbeats 4000000 in
set_option maxRecDepth 100000 in
/-- Book.listBits -/
theorem s_listBits (l : Launch) (dC : Nat → ClassId) (dI : Nat → Nat → Nat) (W9 : va_W) (T9 : List (ClassId × FieldType)) (b : Nat) (i : Int32) (hB : poB W9 T9 b) : Met l yX0_listBits mwX0_listBits ({ frames := 1, cells := 0, slots := 0, locals := 60 }) (va_Pc [.ref b, .int i] (fun U => va_P (dC, dI) vwCl W9 U.heap ∧ va_K (dC, dI) vwCl T9 U)) (vp_Si (fun o => True)) 0 0 (fun _ => False) := by
  refine Met.ofW (cc := cX0_listBits) (maxL := 4) (ret := (some .int)) (by decide +kernel) rfl ?_
  intro p e s m args below meth c s₁ B hml hv
  obtain ⟨rfl, hQ, hKQ⟩ := hv
  have hx := B.exec
  have hb := B.bytes
  have hr := B.returns
  have hts := atoms_spec (ws := mwX0_listBits) B.pre
  have hown : s.vm.findClass RX0 = some m.cls := findClass_of_methodNamed B.named
  have hlocks := B.notSynchronized
  generalize hH : s.heap = H at hQ ⊢
  have hl := lv_entry ([.ref b, .int i]) (n := 4) (Nat.le_of_ble_eq_true rfl)
  rw [lg_entry_eq]
  generalize (lg_sl ([.ref b, .int i]) ++ List.replicate (4 - (lg_sl ([.ref b, .int i])).length) Slot.unset).toArray = ls at hl ⊢
  have hl : lv_has ls 4 [(0, .ref b), (1, .int i)] := hl
  have rg_i := i_rng i
  obtain ⟨ds, ps, nd, np, ear, fd, fp, cD, cP, m1, m2, m3, m4, m5, hnd, hnp, hds, hps⟩ := hB
  obtain ⟨k_1, hk_1⟩ := List.getElem?_of_mem m1
  obtain ⟨k_2, hk_2⟩ := List.getElem?_of_mem m2
  obtain ⟨j_3, hj_3⟩ := List.getElem?_of_mem m3
  obtain ⟨k_4, hk_4⟩ := List.getElem?_of_mem m4
  obtain ⟨j_5, hj_5⟩ := List.getElem?_of_mem m5
  refine lv_iconst (v := 0) hx hb dX0_listBits_0 (by decide) ?_
  refine lv_istore_n (lv' := [(2, .int 0), (0, .ref b), (1, .int i)]) hx hb dX0_listBits_1 rfl hl (by decide) rfl (fun ls hl => ?_)
  refine lv_iconst (v := 0) hx hb dX0_listBits_2 (by decide) ?_
  refine lv_istore_n (lv' := [(3, .int 0), (2, .int 0), (0, .ref b), (1, .int i)]) hx hb dX0_listBits_3 rfl hl (by decide) rfl (fun ls hl => ?_)
  have loop4 : ∀ (n4 : Nat) (bi ii : Int32), (0 ≤ ii.toInt) → (((nd : Int) - ii.toInt).toNat) < n4 → ∀ (ls : Array Slot), lv_has ls 4 [(3, .int ii), (2, .int bi), (0, .ref b), (1, .int i)] → W p l e (headSpec mwX0_listBits ({ frames := 1, cells := 0, slots := 0, locals := 60 })).room s m ([.ref b, .int i]).toArray below meth c H [] 0 0 (MQ below (vp_Si (fun o => True)) ([.ref b, .int i]).toArray s 0 0 (fun _ => False)) (F0 m 4 ls []) := by
    intro n4
    induction n4 with
    | zero => intro bi ii v4_0 hm4; exact absurd hm4 (Nat.not_lt_zero _)
    | succ n4 ih4 =>
      intro bi ii v4_0 hm4 ls hl
      have rg_bi := i_rng bi
      have rg_ii := i_rng ii
      refine lv_iload_n hx hb dX0_listBits_4 rfl (lv_at hl 0 rfl) ?_
      refine lv_aload_n hx hb dX0_listBits_5 rfl (lv_at hl 2 rfl) ?_
      refine va_get (D := (dC, dI)) (ci := 0) (v := .ref ds) (C := RX0) (T := TX0) (N := 3) hx hb hts fin_X0_listBits_X0 hown hKQ hQ k_1 hk_1 rfl 0 (by decide) (hts (.fieldLink RX0 7 "PatternGate$Book" "docs" "[LPatternGate$Doc;") (List.mem_of_getElem? (i := 1) (by decide +kernel))) (fun _ h9 => h9) rfl dX0_listBits_6 ?_
      refine va_alen hx hb hKQ hQ k_2 j_3 hk_2 hj_3 rfl dX0_listBits_9 ?_
      refine lv_topi (fun y_6 ey_6 => ?_)
      have ty_6 : y_6.toInt = (nd : Int) := i_len ey_6 (by omega)
      refine lv_icmp_ge (tgt := 47) hx hb dX0_listBits_10 (by decide) (fun k_7 => ?_) (fun k_7 => ?_)
      · have tk_7 := c_ge (a := ii.toInt) (b := y_6.toInt) rfl rfl k_7
        refine lv_iload_n hx hb dX0_listBits_47 rfl (lv_at hl 1 rfl) ?_
        exact W.iret hx hb hr (fun t ht hW => ⟨_, rfl, trivial, ht.trans hH.symm⟩) t_nil dX0_listBits_48
      · have tk_7 := c_nge (a := ii.toInt) (b := y_6.toInt) rfl rfl k_7
        refine lv_aload_n hx hb dX0_listBits_13 rfl (lv_at hl 2 rfl) ?_
        refine va_get (D := (dC, dI)) (ci := 0) (v := .ref ds) (C := RX0) (T := TX0) (N := 3) hx hb hts fin_X0_listBits_X0 hown hKQ hQ k_1 hk_1 rfl 0 (by decide) (hts (.fieldLink RX0 7 "PatternGate$Book" "docs" "[LPatternGate$Doc;") (List.mem_of_getElem? (i := 1) (by decide +kernel))) (fun _ h9 => h9) rfl dX0_listBits_14 ?_
        refine lv_iload_n hx hb dX0_listBits_17 rfl (lv_at hl 0 rfl) ?_
        refine va_aldq hx hb hKQ hQ k_2 j_3 hk_2 hj_3 (i := ii) (vp_of (a := ii.toInt) rfl (by omega) (by omega)) dX0_listBits_18 ?_
        obtain ⟨d_8, ed_8, hd_8⟩ := hds _ (vp_nat (i := ii) (a := ii.toInt) (n := nd) rfl (by omega) (by omega))
        rw [ed_8]
        refine W.eq (g2 := F0 m 19 ls [.ref d_8]) rfl ?_
        obtain ⟨la_9, ta_10, m_11, n_12, fl_13, ft_14, cI_15, cJ_16, m_17, ⟨m_18, m_19⟩, ⟨m_20, m_21⟩, m_22, m_23⟩ := hd_8
        obtain ⟨k_24, hk_24⟩ := List.getElem?_of_mem m_17
        obtain ⟨k_25, hk_25⟩ := List.getElem?_of_mem m_18
        obtain ⟨j_26, hj_26⟩ := List.getElem?_of_mem m_19
        obtain ⟨k_27, hk_27⟩ := List.getElem?_of_mem m_20
        obtain ⟨j_28, hj_28⟩ := List.getElem?_of_mem m_21
        refine lv_ifnull hx hb dX0_listBits_19 ?_
        refine lv_aload_n hx hb dX0_listBits_22 rfl (lv_at hl 2 rfl) ?_
        refine va_get (D := (dC, dI)) (ci := 0) (v := .ref ds) (C := RX0) (T := TX0) (N := 3) hx hb hts fin_X0_listBits_X0 hown hKQ hQ k_1 hk_1 rfl 0 (by decide) (hts (.fieldLink RX0 7 "PatternGate$Book" "docs" "[LPatternGate$Doc;") (List.mem_of_getElem? (i := 1) (by decide +kernel))) (fun _ h9 => h9) rfl dX0_listBits_23 ?_
        refine lv_iload_n hx hb dX0_listBits_26 rfl (lv_at hl 0 rfl) ?_
        refine va_aldq hx hb hKQ hQ k_2 j_3 hk_2 hj_3 (i := ii) (vp_of (a := ii.toInt) rfl (by omega) (by omega)) dX0_listBits_27 ?_
        obtain ⟨d_29, ed_29, hd_29⟩ := hds _ (vp_nat (i := ii) (a := ii.toInt) (n := nd) rfl (by omega) (by omega))
        rw [ed_29]
        refine W.eq (g2 := F0 m 28 ls [.ref d_29]) rfl ?_
        obtain ⟨la_30, ta_31, m_32, n_33, fl_34, ft_35, cI_36, cJ_37, m_38, ⟨m_39, m_40⟩, ⟨m_41, m_42⟩, m_43, m_44⟩ := hd_29
        obtain ⟨k_45, hk_45⟩ := List.getElem?_of_mem m_38
        obtain ⟨k_46, hk_46⟩ := List.getElem?_of_mem m_39
        obtain ⟨j_47, hj_47⟩ := List.getElem?_of_mem m_40
        obtain ⟨k_48, hk_48⟩ := List.getElem?_of_mem m_41
        obtain ⟨j_49, hj_49⟩ := List.getElem?_of_mem m_42
        refine lv_iload_n hx hb dX0_listBits_28 rfl (lv_at hl 3 rfl) ?_
        have hPc : va_P (dC, dI) vwCl [(d_29, .inr (2, [.ref la_30, .ref ta_31])), (la_30, .inl (cI_36, m_32, .inl fl_34)), (ta_31, .inl (cJ_37, n_33, .inl ft_35))] H := p_sub hQ (List.forall_mem_cons.mpr ⟨m_38, List.forall_mem_cons.mpr ⟨m_39, List.forall_mem_cons.mpr ⟨m_41, fun _ h => absurd h List.not_mem_nil⟩⟩⟩)
        have hKc : va_K (dC, dI) vwCl [(cI_36, .int), (cJ_37, .int)] s := k_sub hKQ (List.forall_mem_cons.mpr ⟨m_40, List.forall_mem_cons.mpr ⟨m_42, fun _ h => absurd h List.not_mem_nil⟩⟩)
        refine vp_callSi (W.runV (As := [.int i]) (rest := []) ⟨hx, hb, hml, hown, hts⟩ (s_Doc_has l dC dI d_29 la_30 ta_31 m_32 n_33 fl_34 ft_35 cI_36 cJ_37 i (by omega) (by omega)) (cwV 1 hts mg_X0_listBits_X2_has_21 rfl rfl rfl (by decide +kernel) ⟨Nat.le_of_ble_eq_true rfl, Nat.le_of_ble_eq_true rfl⟩) ⟨fun a U g mk q => by obtain ⟨q0, qP, qK⟩ := q; exact ⟨q0, qP, va_K.moved (u := U) (U := U.calling g mk a) (Vm.Alike.refl U.vm) qK⟩, va_recv hKc hPc (ci := 2) (q0 := 0) rfl rfl, fun U hU hW => ⟨rfl, by rw [hU]; exact hPc, va_K.moved hW.alike hKc⟩⟩ rfl rfl hl.1 rfl (lv_room (Nat.le_of_ble_eq_true rfl)) dX0_listBits_29 ⟨Nat.le_of_ble_eq_true rfl, Nat.le_of_ble_eq_true rfl⟩) (fun r_51 hw => ?_)
        refine lv_if_eq (tgt := 41) hx hb dX0_listBits_32 (by decide) (fun k_52 => ?_) (fun k_52 => ?_)
        · have tk_52 := c_eq (a := r_51.toInt) (b := 0) rfl (by decide) k_52
          obtain ⟨y_53, ey_53⟩ : ∃ y : Int32, y = ii + 1 := ⟨_, rfl⟩
          first | have ty_53 := i_add (a := ii.toInt) (b := 1) rfl (by decide) ey_53 (by omega) (by omega) | skip
          refine lv_iinc (v := y_53) (lv' := [(3, .int y_53), (2, .int bi), (0, .ref b), (1, .int i)]) hx hb dX0_listBits_41 hl (k := 0) rfl (by rw [ey_53]; rfl) (by decide) rfl (fun ls hl => ?_)
          refine lv_goto (tgt := 4) hx hb dX0_listBits_44 (by decide) ?_
          exact ih4 bi y_53 (by first | omega | decide | assumption) (by omega) ls (lv_sub hl [0, 1, 2, 3] rfl)
        · have tk_52 := c_ne (a := r_51.toInt) (b := 0) rfl (by decide) k_52
          refine lv_iload_n hx hb dX0_listBits_35 rfl (lv_at hl 1 rfl) ?_
          refine lv_iconst (v := 1) hx hb dX0_listBits_36 (by decide) ?_
          refine lv_iload_n hx hb dX0_listBits_37 rfl (lv_at hl 0 rfl) ?_
          refine lv_ishl hx hb dX0_listBits_38 ?_
          refine lv_topi (fun y_54 ey_54 => ?_)
          have rg_y_54 := i_rng y_54
          refine lv_ior hx hb dX0_listBits_39 ?_
          refine lv_topi (fun y_55 ey_55 => ?_)
          have rg_y_55 := i_rng y_55
          refine lv_istore_n (lv' := [(2, .int y_55), (3, .int ii), (0, .ref b), (1, .int i)]) hx hb dX0_listBits_40 rfl hl (by decide) rfl (fun ls hl => ?_)
          obtain ⟨y_56, ey_56⟩ : ∃ y : Int32, y = ii + 1 := ⟨_, rfl⟩
          first | have ty_56 := i_add (a := ii.toInt) (b := 1) rfl (by decide) ey_56 (by omega) (by omega) | skip
          refine lv_iinc (v := y_56) (lv' := [(3, .int y_56), (2, .int y_55), (0, .ref b), (1, .int i)]) hx hb dX0_listBits_41 hl (k := 1) rfl (by rw [ey_56]; rfl) (by decide) rfl (fun ls hl => ?_)
          refine lv_goto (tgt := 4) hx hb dX0_listBits_44 (by decide) ?_
          exact ih4 y_55 y_56 (by first | omega | decide | assumption) (by omega) ls (lv_sub hl [0, 1, 2, 3] rfl)
  have lit_56 : (0 : Int32).toInt = 0 := by decide
  have lit_57 : (0 : Int32).toInt = 0 := by decide
  exact loop4 _ 0 0 (by first | omega | decide | assumption) (Nat.lt_succ_self _) ls (lv_sub hl [0, 1, 2, 3] rfl)
theorem dX0_allLetters_0 : decode cX0_allLetters 0 = .ok (.iconst 0, 1) := by decide +kernel
theorem dX0_allLetters_1 : decode cX0_allLetters 1 = .ok (.istore_n 1, 1) := by decide +kernel
theorem dX0_allLetters_2 : decode cX0_allLetters 2 = .ok (.iconst 0, 1) := by decide +kernel
theorem dX0_allLetters_3 : decode cX0_allLetters 3 = .ok (.istore_n 2, 1) := by decide +kernel
theorem dX0_allLetters_4 : decode cX0_allLetters 4 = .ok (.iload_n 2, 1) := by decide +kernel
theorem dX0_allLetters_5 : decode cX0_allLetters 5 = .ok (.aload_n 0, 1) := by decide +kernel
theorem dX0_allLetters_6 : decode cX0_allLetters 6 = .ok (.getfield 7, 3) := by decide +kernel
theorem dX0_allLetters_9 : decode cX0_allLetters 9 = .ok (.arraylength, 1) := by decide +kernel
theorem dX0_allLetters_10 : decode cX0_allLetters 10 = .ok (.if_icmp .ge 35, 3) := by decide +kernel
theorem dX0_allLetters_13 : decode cX0_allLetters 13 = .ok (.iload_n 1, 1) := by decide +kernel
theorem dX0_allLetters_14 : decode cX0_allLetters 14 = .ok (.aload_n 0, 1) := by decide +kernel
theorem dX0_allLetters_15 : decode cX0_allLetters 15 = .ok (.getfield 7, 3) := by decide +kernel
theorem dX0_allLetters_18 : decode cX0_allLetters 18 = .ok (.iload_n 2, 1) := by decide +kernel
theorem dX0_allLetters_19 : decode cX0_allLetters 19 = .ok (.aaload, 1) := by decide +kernel
theorem dX0_allLetters_20 : decode cX0_allLetters 20 = .ok (.ifnonnull 7, 3) := by decide +kernel
theorem dX0_allLetters_27 : decode cX0_allLetters 27 = .ok (.aload_n 0, 1) := by decide +kernel
theorem dX0_allLetters_28 : decode cX0_allLetters 28 = .ok (.getfield 7, 3) := by decide +kernel
theorem dX0_allLetters_31 : decode cX0_allLetters 31 = .ok (.iload_n 2, 1) := by decide +kernel
theorem dX0_allLetters_32 : decode cX0_allLetters 32 = .ok (.aaload, 1) := by decide +kernel
theorem dX0_allLetters_33 : decode cX0_allLetters 33 = .ok (.getfield 27, 3) := by decide +kernel
theorem dX0_allLetters_36 : decode cX0_allLetters 36 = .ok (.arraylength, 1) := by decide +kernel
theorem dX0_allLetters_37 : decode cX0_allLetters 37 = .ok (.iadd, 1) := by decide +kernel
theorem dX0_allLetters_38 : decode cX0_allLetters 38 = .ok (.istore_n 1, 1) := by decide +kernel
theorem dX0_allLetters_39 : decode cX0_allLetters 39 = .ok (.iinc 2 1, 3) := by decide +kernel
theorem dX0_allLetters_42 : decode cX0_allLetters 42 = .ok (.goto (-38), 3) := by decide +kernel
theorem dX0_allLetters_45 : decode cX0_allLetters 45 = .ok (.iload_n 1, 1) := by decide +kernel
theorem dX0_allLetters_46 : decode cX0_allLetters 46 = .ok (.ireturn, 1) := by decide +kernel
def mwX0_allLetters : List Cond := .code yX0_allLetters cX0_allLetters 3 (some .int) :: ([.fieldLink RX0 7 "PatternGate$Book" "docs" "[LPatternGate$Doc;", .fieldLink RX0 27 "PatternGate$Doc" "letters" "[I"] ++ wsX00 ++ wsX20)
theorem fin_X0_allLetters_X0 : ∀ w ∈ wsX00, w ∈ mwX0_allLetters := fun w h => List.mem_cons_of_mem _ (List.mem_append_left _ (List.mem_append_right _ h))
theorem fin_X0_allLetters_X2 : ∀ w ∈ wsX20, w ∈ mwX0_allLetters := fun w h => List.mem_cons_of_mem _ (List.mem_append_right _ h)
set_option maxHeartbeats 4000000 in
set_option maxRecDepth 100000 in
/-- Book.allLetters -/
theorem s_allLetters (l : Launch) (dC : Nat → ClassId) (dI : Nat → Nat → Nat) (W9 : va_W) (T9 : List (ClassId × FieldType)) (b : Nat) (hB : poB W9 T9 b) : Met l yX0_allLetters mwX0_allLetters ({ frames := 0, cells := 0, slots := 0, locals := 0 }) (va_Pc [.ref b] (fun U => va_P (dC, dI) vwCl W9 U.heap ∧ va_K (dC, dI) vwCl T9 U)) (vp_Si (fun o => True)) 0 0 (fun _ => False) := by
  refine Met.ofW (cc := cX0_allLetters) (maxL := 3) (ret := (some .int)) (by decide +kernel) rfl ?_
  intro p e s m args below meth c s₁ B hml hv
  obtain ⟨rfl, hQ, hKQ⟩ := hv
  have hx := B.exec
  have hb := B.bytes
  have hr := B.returns
  have hts := atoms_spec (ws := mwX0_allLetters) B.pre
  have hown : s.vm.findClass RX0 = some m.cls := findClass_of_methodNamed B.named
  have hlocks := B.notSynchronized
  generalize hH : s.heap = H at hQ ⊢
  have hl := lv_entry ([.ref b]) (n := 3) (Nat.le_of_ble_eq_true rfl)
  rw [lg_entry_eq]
  generalize (lg_sl ([.ref b]) ++ List.replicate (3 - (lg_sl ([.ref b])).length) Slot.unset).toArray = ls at hl ⊢
  have hl : lv_has ls 3 [(0, .ref b)] := hl
  obtain ⟨ds, ps, nd, np, ear, fd, fp, cD, cP, m1, m2, m3, m4, m5, hnd, hnp, hds, hps⟩ := hB
  obtain ⟨k_1, hk_1⟩ := List.getElem?_of_mem m1
  obtain ⟨k_2, hk_2⟩ := List.getElem?_of_mem m2
  obtain ⟨j_3, hj_3⟩ := List.getElem?_of_mem m3
  obtain ⟨k_4, hk_4⟩ := List.getElem?_of_mem m4
  obtain ⟨j_5, hj_5⟩ := List.getElem?_of_mem m5
  refine lv_iconst (v := 0) hx hb dX0_allLetters_0 (by decide) ?_
  refine lv_istore_n (lv' := [(1, .int 0), (0, .ref b)]) hx hb dX0_allLetters_1 rfl hl (by decide) rfl (fun ls hl => ?_)
  refine lv_iconst (v := 0) hx hb dX0_allLetters_2 (by decide) ?_
  refine lv_istore_n (lv' := [(2, .int 0), (1, .int 0), (0, .ref b)]) hx hb dX0_allLetters_3 rfl hl (by decide) rfl (fun ls hl => ?_)
  have loop4 : ∀ (n4 : Nat) (le ii : Int32), (0 ≤ ii.toInt) → (((nd : Int) - ii.toInt).toNat) < n4 → ∀ (ls : Array Slot), lv_has ls 3 [(2, .int ii), (1, .int le), (0, .ref b)] → W p l e (headSpec mwX0_allLetters ({ frames := 0, cells := 0, slots := 0, locals := 0 })).room s m ([.ref b]).toArray below meth c H [] 0 0 (MQ below (vp_Si (fun o => True)) ([.ref b]).toArray s 0 0 (fun _ => False)) (F0 m 4 ls []) := by
    intro n4
    induction n4 with
    | zero => intro le ii v4_0 hm4; exact absurd hm4 (Nat.not_lt_zero _)
    | succ n4 ih4 =>
      intro le ii v4_0 hm4 ls hl
      have rg_le := i_rng le
      have rg_ii := i_rng ii
      refine lv_iload_n hx hb dX0_allLetters_4 rfl (lv_at hl 0 rfl) ?_
      refine lv_aload_n hx hb dX0_allLetters_5 rfl (lv_at hl 2 rfl) ?_
      refine va_get (D := (dC, dI)) (ci := 0) (v := .ref ds) (C := RX0) (T := TX0) (N := 3) hx hb hts fin_X0_allLetters_X0 hown hKQ hQ k_1 hk_1 rfl 0 (by decide) (hts (.fieldLink RX0 7 "PatternGate$Book" "docs" "[LPatternGate$Doc;") (List.mem_of_getElem? (i := 1) (by decide +kernel))) (fun _ h9 => h9) rfl dX0_allLetters_6 ?_
      refine va_alen hx hb hKQ hQ k_2 j_3 hk_2 hj_3 rfl dX0_allLetters_9 ?_
      refine lv_topi (fun y_6 ey_6 => ?_)
      have ty_6 : y_6.toInt = (nd : Int) := i_len ey_6 (by omega)
      refine lv_icmp_ge (tgt := 45) hx hb dX0_allLetters_10 (by decide) (fun k_7 => ?_) (fun k_7 => ?_)
      · have tk_7 := c_ge (a := ii.toInt) (b := y_6.toInt) rfl rfl k_7
        refine lv_iload_n hx hb dX0_allLetters_45 rfl (lv_at hl 1 rfl) ?_
        exact W.iret hx hb hr (fun t ht hW => ⟨_, rfl, trivial, ht.trans hH.symm⟩) t_nil dX0_allLetters_46
      · have tk_7 := c_nge (a := ii.toInt) (b := y_6.toInt) rfl rfl k_7
        refine lv_iload_n hx hb dX0_allLetters_13 rfl (lv_at hl 1 rfl) ?_
        refine lv_aload_n hx hb dX0_allLetters_14 rfl (lv_at hl 2 rfl) ?_
        refine va_get (D := (dC, dI)) (ci := 0) (v := .ref ds) (C := RX0) (T := TX0) (N := 3) hx hb hts fin_X0_allLetters_X0 hown hKQ hQ k_1 hk_1 rfl 0 (by decide) (hts (.fieldLink RX0 7 "PatternGate$Book" "docs" "[LPatternGate$Doc;") (List.mem_of_getElem? (i := 1) (by decide +kernel))) (fun _ h9 => h9) rfl dX0_allLetters_15 ?_
        refine lv_iload_n hx hb dX0_allLetters_18 rfl (lv_at hl 0 rfl) ?_
        refine va_aldq hx hb hKQ hQ k_2 j_3 hk_2 hj_3 (i := ii) (vp_of (a := ii.toInt) rfl (by omega) (by omega)) dX0_allLetters_19 ?_
        obtain ⟨d_8, ed_8, hd_8⟩ := hds _ (vp_nat (i := ii) (a := ii.toInt) (n := nd) rfl (by omega) (by omega))
        rw [ed_8]
        refine W.eq (g2 := F0 m 20 ls [.ref d_8, .int le]) rfl ?_
        obtain ⟨la_9, ta_10, m_11, n_12, fl_13, ft_14, cI_15, cJ_16, m_17, ⟨m_18, m_19⟩, ⟨m_20, m_21⟩, m_22, m_23⟩ := hd_8
        obtain ⟨k_24, hk_24⟩ := List.getElem?_of_mem m_17
        obtain ⟨k_25, hk_25⟩ := List.getElem?_of_mem m_18
        obtain ⟨j_26, hj_26⟩ := List.getElem?_of_mem m_19
        obtain ⟨k_27, hk_27⟩ := List.getElem?_of_mem m_20
        obtain ⟨j_28, hj_28⟩ := List.getElem?_of_mem m_21
        refine lv_ifnonnull (tgt := 27) hx hb dX0_allLetters_20 (by decide) ?_
        refine lv_aload_n hx hb dX0_allLetters_27 rfl (lv_at hl 2 rfl) ?_
        refine va_get (D := (dC, dI)) (ci := 0) (v := .ref ds) (C := RX0) (T := TX0) (N := 3) hx hb hts fin_X0_allLetters_X0 hown hKQ hQ k_1 hk_1 rfl 0 (by decide) (hts (.fieldLink RX0 7 "PatternGate$Book" "docs" "[LPatternGate$Doc;") (List.mem_of_getElem? (i := 1) (by decide +kernel))) (fun _ h9 => h9) rfl dX0_allLetters_28 ?_
        refine lv_iload_n hx hb dX0_allLetters_31 rfl (lv_at hl 0 rfl) ?_
        refine va_aldq hx hb hKQ hQ k_2 j_3 hk_2 hj_3 (i := ii) (vp_of (a := ii.toInt) rfl (by omega) (by omega)) dX0_allLetters_32 ?_
        obtain ⟨d_29, ed_29, hd_29⟩ := hds _ (vp_nat (i := ii) (a := ii.toInt) (n := nd) rfl (by omega) (by omega))
        rw [ed_29]
        refine W.eq (g2 := F0 m 33 ls [.ref d_29, .int le]) rfl ?_
        obtain ⟨la_30, ta_31, m_32, n_33, fl_34, ft_35, cI_36, cJ_37, m_38, ⟨m_39, m_40⟩, ⟨m_41, m_42⟩, m_43, m_44⟩ := hd_29
        obtain ⟨k_45, hk_45⟩ := List.getElem?_of_mem m_38
        obtain ⟨k_46, hk_46⟩ := List.getElem?_of_mem m_39
        obtain ⟨j_47, hj_47⟩ := List.getElem?_of_mem m_40
        obtain ⟨k_48, hk_48⟩ := List.getElem?_of_mem m_41
        obtain ⟨j_49, hj_49⟩ := List.getElem?_of_mem m_42
        refine va_get (D := (dC, dI)) (ci := 2) (v := .ref la_30) (C := RX2) (T := TX2) (N := 2) hx hb hts fin_X0_allLetters_X2 hown hKQ hQ k_45 hk_45 rfl 0 (by decide) (hts (.fieldLink RX0 27 "PatternGate$Doc" "letters" "[I") (List.mem_of_getElem? (i := 2) (by decide +kernel))) (fun _ h9 => h9) rfl dX0_allLetters_33 ?_
        refine va_alen hx hb hKQ hQ k_46 j_47 hk_46 hj_47 rfl dX0_allLetters_36 ?_
        refine lv_topi (fun y_50 ey_50 => ?_)
        have ty_50 : y_50.toInt = (m_32 : Int) := i_len ey_50 (by omega)
        refine lv_iadd hx hb dX0_allLetters_37 ?_
        refine lv_topi (fun y_51 ey_51 => ?_)
        first | have ty_51 := i_add (a := le.toInt) (b := y_50.toInt) rfl rfl ey_51 (by omega) (by omega) | skip
        refine lv_istore_n (lv' := [(1, .int y_51), (2, .int ii), (0, .ref b)]) hx hb dX0_allLetters_38 rfl hl (by decide) rfl (fun ls hl => ?_)
        obtain ⟨y_52, ey_52⟩ : ∃ y : Int32, y = ii + 1 := ⟨_, rfl⟩
        first | have ty_52 := i_add (a := ii.toInt) (b := 1) rfl (by decide) ey_52 (by omega) (by omega) | skip
        refine lv_iinc (v := y_52) (lv' := [(2, .int y_52), (1, .int y_51), (0, .ref b)]) hx hb dX0_allLetters_39 hl (k := 1) rfl (by rw [ey_52]; rfl) (by decide) rfl (fun ls hl => ?_)
        refine lv_goto (tgt := 4) hx hb dX0_allLetters_42 (by decide) ?_
        exact ih4 y_51 y_52 (by first | omega | decide | assumption) (by omega) ls (lv_sub hl [0, 1, 2] rfl)
  have lit_52 : (0 : Int32).toInt = 0 := by decide
  have lit_53 : (0 : Int32).toInt = 0 := by decide
  exact loop4 _ 0 0 (by first | omega | decide | assumption) (Nat.lt_succ_self _) ls (lv_sub hl [0, 1, 2] rfl)

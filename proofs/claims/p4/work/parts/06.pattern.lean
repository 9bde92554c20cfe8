abbrev pF (q : Nat → Nat) (a0 a1 a2 a3 a4 a5 : Int32) : List Value := [.ref (q 0), .int a0, .int a1, .int a2, .int a3, .int a4, .ref (q 1), .ref (q 2), .int a5, .ref (q 3), .ref (q 4), .ref (q 5), .ref (q 6)]
theorem dX5_takersOf_0 : decode cX5_takersOf 0 = .ok (.iload_n 1, 1) := by decide +kernel
theorem dX5_takersOf_1 : decode cX5_takersOf 1 = .ok (.ifCond .lt 21, 3) := by decide +kernel
theorem dX5_takersOf_4 : decode cX5_takersOf 4 = .ok (.iload_n 1, 1) := by decide +kernel
theorem dX5_takersOf_5 : decode cX5_takersOf 5 = .ok (.aload_n 0, 1) := by decide +kernel
theorem dX5_takersOf_6 : decode cX5_takersOf 6 = .ok (.getfield 42, 3) := by decide +kernel
theorem dX5_takersOf_9 : decode cX5_takersOf 9 = .ok (.arraylength, 1) := by decide +kernel
theorem dX5_takersOf_10 : decode cX5_takersOf 10 = .ok (.if_icmp .ge 12, 3) := by decide +kernel
theorem dX5_takersOf_13 : decode cX5_takersOf 13 = .ok (.aload_n 0, 1) := by decide +kernel
theorem dX5_takersOf_14 : decode cX5_takersOf 14 = .ok (.getfield 42, 3) := by decide +kernel
theorem dX5_takersOf_17 : decode cX5_takersOf 17 = .ok (.iload_n 1, 1) := by decide +kernel
theorem dX5_takersOf_18 : decode cX5_takersOf 18 = .ok (.iaload, 1) := by decide +kernel
theorem dX5_takersOf_19 : decode cX5_takersOf 19 = .ok (.goto 4, 3) := by decide +kernel
theorem dX5_takersOf_22 : decode cX5_takersOf 22 = .ok (.iconst 0, 1) := by decide +kernel
theorem dX5_takersOf_23 : decode cX5_takersOf 23 = .ok (.ireturn, 1) := by decide +kernel
def mwX5_takersOf : List Cond := .code yX5_takersOf cX5_takersOf 2 (some .int) :: ([.fieldLink RX5 42 "PatternGate$Pattern" "takers" "[I"] ++ wsX50)
theorem fin_X5_takersOf_X5 : ∀ w ∈ wsX50, w ∈ mwX5_takersOf := fun w h => List.mem_cons_of_mem _ (List.mem_append_right _ h)
set_option maxHeartbeats 4000000 in
set_option maxRecDepth 100000 in
/-- Pattern.takersOf -/
theorem s_takersOf (l : Launch) (dC : Nat → ClassId) (dI : Nat → Nat → Nat) (pt : Nat) (q : Nat → Nat) (a0 a1 a2 a3 a4 a5 : Int32) (nk : Nat) (fk : Nat → Int32) (cK : ClassId) (i : Int32) (hk : nk ≤ 1000) : Met l yX5_takersOf mwX5_takersOf ({ frames := 0, cells := 0, slots := 0, locals := 0 }) (va_Pc [.ref pt, .int i] (fun U => va_P (dC, dI) vwCl ([(pt, .inr (5, pF q a0 a1 a2 a3 a4 a5)), (q 2, .inl (cK, nk, .inl fk))]) U.heap ∧ va_K (dC, dI) vwCl ([(cK, .int)]) U)) (vp_Si (fun o => True)) 0 0 (fun _ => False) := by
  refine Met.ofW (cc := cX5_takersOf) (maxL := 2) (ret := (some .int)) (by decide +kernel) rfl ?_
  intro p e s m args below meth c s₁ B hml hv
  obtain ⟨rfl, hP, hK⟩ := hv
  have hx := B.exec
  have hb := B.bytes
  have hr := B.returns
  have hts := atoms_spec (ws := mwX5_takersOf) B.pre
  have hown : s.vm.findClass RX5 = some m.cls := findClass_of_methodNamed B.named
  have hlocks := B.notSynchronized
  have hP : va_P (dC, dI) vwCl [(pt, .inr (5, pF q a0 a1 a2 a3 a4 a5)), (q 2, .inl (cK, nk, .inl fk))] s.heap := hP
  have hK : va_K (dC, dI) vwCl [(cK, .int)] s := hK
  generalize hH : s.heap = H at hP ⊢
  have hl := lv_entry ([.ref pt, .int i]) (n := 2) (Nat.le_of_ble_eq_true rfl)
  rw [lg_entry_eq]
  generalize (lg_sl ([.ref pt, .int i]) ++ List.replicate (2 - (lg_sl ([.ref pt, .int i])).length) Slot.unset).toArray = ls at hl ⊢
  have hl : lv_has ls 2 [(0, .ref pt), (1, .int i)] := hl
  have rg_i := i_rng i
  refine lv_iload_n hx hb dX5_takersOf_0 rfl (lv_at hl 1 rfl) ?_
  refine lv_if_lt (tgt := 22) hx hb dX5_takersOf_1 (by decide) (fun k_1 => ?_) (fun k_1 => ?_)
  · have tk_1 := c_lt (a := i.toInt) (b := 0) rfl (by decide) k_1
    refine lv_iconst (v := 0) hx hb dX5_takersOf_22 (by decide) ?_
    exact W.iret hx hb hr (fun t ht hW => ⟨_, rfl, trivial, ht.trans hH.symm⟩) t_nil dX5_takersOf_23
  · have tk_1 := c_nlt (a := i.toInt) (b := 0) rfl (by decide) k_1
    refine lv_iload_n hx hb dX5_takersOf_4 rfl (lv_at hl 1 rfl) ?_
    refine lv_aload_n hx hb dX5_takersOf_5 rfl (lv_at hl 0 rfl) ?_
    refine va_get (D := (dC, dI)) (ci := 5) (v := .ref (q 2)) (C := RX5) (T := TX5) (N := 13) hx hb hts fin_X5_takersOf_X5 hown hK hP 0 rfl rfl 7 (by decide) (hts (.fieldLink RX5 42 "PatternGate$Pattern" "takers" "[I") (List.mem_of_getElem? (i := 1) (by decide +kernel))) (fun _ h9 => h9) rfl dX5_takersOf_6 ?_
    refine va_alen hx hb hK hP 1 0 rfl rfl rfl dX5_takersOf_9 ?_
    refine lv_topi (fun y_2 ey_2 => ?_)
    have ty_2 : y_2.toInt = (nk : Int) := i_len ey_2 (by omega)
    refine lv_icmp_ge (tgt := 22) hx hb dX5_takersOf_10 (by decide) (fun k_3 => ?_) (fun k_3 => ?_)
    · have tk_3 := c_ge (a := i.toInt) (b := y_2.toInt) rfl rfl k_3
      refine lv_iconst (v := 0) hx hb dX5_takersOf_22 (by decide) ?_
      exact W.iret hx hb hr (fun t ht hW => ⟨_, rfl, trivial, ht.trans hH.symm⟩) t_nil dX5_takersOf_23
    · have tk_3 := c_nge (a := i.toInt) (b := y_2.toInt) rfl rfl k_3
      refine lv_aload_n hx hb dX5_takersOf_13 rfl (lv_at hl 0 rfl) ?_
      refine va_get (D := (dC, dI)) (ci := 5) (v := .ref (q 2)) (C := RX5) (T := TX5) (N := 13) hx hb hts fin_X5_takersOf_X5 hown hK hP 0 rfl rfl 7 (by decide) (hts (.fieldLink RX5 42 "PatternGate$Pattern" "takers" "[I") (List.mem_of_getElem? (i := 1) (by decide +kernel))) (fun _ h9 => h9) rfl dX5_takersOf_14 ?_
      refine lv_iload_n hx hb dX5_takersOf_17 rfl (lv_at hl 1 rfl) ?_
      refine va_iald hx hb hK hP 1 0 rfl rfl (i := i) (vp_of (a := i.toInt) rfl (by omega) (by omega)) dX5_takersOf_18 ?_
      refine lv_topi (fun y_4 ey_4 => ?_)
      have rg_y_4 := i_rng y_4
      refine lv_goto (tgt := 23) hx hb dX5_takersOf_19 (by decide) ?_
      exact W.iret hx hb hr (fun t ht hW => ⟨_, rfl, trivial, ht.trans hH.symm⟩) t_nil dX5_takersOf_23
theorem dX5_followersOf_0 : decode cX5_followersOf 0 = .ok (.iconst 0, 1) := by decide +kernel
theorem dX5_followersOf_1 : decode cX5_followersOf 1 = .ok (.istore_n 2, 1) := by decide +kernel
theorem dX5_followersOf_2 : decode cX5_followersOf 2 = .ok (.iconst 0, 1) := by decide +kernel
theorem dX5_followersOf_3 : decode cX5_followersOf 3 = .ok (.istore_n 3, 1) := by decide +kernel
theorem dX5_followersOf_4 : decode cX5_followersOf 4 = .ok (.iload_n 3, 1) := by decide +kernel
theorem dX5_followersOf_5 : decode cX5_followersOf 5 = .ok (.aload_n 0, 1) := by decide +kernel
theorem dX5_followersOf_6 : decode cX5_followersOf 6 = .ok (.getfield 39, 3) := by decide +kernel
theorem dX5_followersOf_9 : decode cX5_followersOf 9 = .ok (.arraylength, 1) := by decide +kernel
theorem dX5_followersOf_10 : decode cX5_followersOf 10 = .ok (.if_icmp .ge 26, 3) := by decide +kernel
theorem dX5_followersOf_13 : decode cX5_followersOf 13 = .ok (.iload_n 1, 1) := by decide +kernel
theorem dX5_followersOf_14 : decode cX5_followersOf 14 = .ok (.iload_n 3, 1) := by decide +kernel
theorem dX5_followersOf_15 : decode cX5_followersOf 15 = .ok (.iushr, 1) := by decide +kernel
theorem dX5_followersOf_16 : decode cX5_followersOf 16 = .ok (.iconst 1, 1) := by decide +kernel
theorem dX5_followersOf_17 : decode cX5_followersOf 17 = .ok (.iand, 1) := by decide +kernel
theorem dX5_followersOf_18 : decode cX5_followersOf 18 = .ok (.ifCond .eq 12, 3) := by decide +kernel
theorem dX5_followersOf_21 : decode cX5_followersOf 21 = .ok (.iload_n 2, 1) := by decide +kernel
theorem dX5_followersOf_22 : decode cX5_followersOf 22 = .ok (.aload_n 0, 1) := by decide +kernel
theorem dX5_followersOf_23 : decode cX5_followersOf 23 = .ok (.getfield 39, 3) := by decide +kernel
theorem dX5_followersOf_26 : decode cX5_followersOf 26 = .ok (.iload_n 3, 1) := by decide +kernel
theorem dX5_followersOf_27 : decode cX5_followersOf 27 = .ok (.iaload, 1) := by decide +kernel
theorem dX5_followersOf_28 : decode cX5_followersOf 28 = .ok (.ior, 1) := by decide +kernel
theorem dX5_followersOf_29 : decode cX5_followersOf 29 = .ok (.istore_n 2, 1) := by decide +kernel
theorem dX5_followersOf_30 : decode cX5_followersOf 30 = .ok (.iinc 3 1, 3) := by decide +kernel
theorem dX5_followersOf_33 : decode cX5_followersOf 33 = .ok (.goto (-29), 3) := by decide +kernel
theorem dX5_followersOf_36 : decode cX5_followersOf 36 = .ok (.iload_n 2, 1) := by decide +kernel
theorem dX5_followersOf_37 : decode cX5_followersOf 37 = .ok (.ireturn, 1) := by decide +kernel
def mwX5_followersOf : List Cond := .code yX5_followersOf cX5_followersOf 4 (some .int) :: ([.fieldLink RX5 39 "PatternGate$Pattern" "follow" "[I"] ++ wsX50)
theorem fin_X5_followersOf_X5 : ∀ w ∈ wsX50, w ∈ mwX5_followersOf := fun w h => List.mem_cons_of_mem _ (List.mem_append_right _ h)
set_option maxHeartbeats 4000000 in
set_option maxRecDepth 100000 in
/-- Pattern.followersOf -/
theorem s_followersOf (l : Launch) (dC : Nat → ClassId) (dI : Nat → Nat → Nat) (pt : Nat) (q : Nat → Nat) (a0 a1 a2 a3 a4 a5 : Int32) (nf : Nat) (ff : Nat → Int32) (cF : ClassId) (i : Int32) (hf : nf ≤ 1000) : Met l yX5_followersOf mwX5_followersOf ({ frames := 0, cells := 0, slots := 0, locals := 0 }) (va_Pc [.ref pt, .int i] (fun U => va_P (dC, dI) vwCl ([(pt, .inr (5, pF q a0 a1 a2 a3 a4 a5)), (q 1, .inl (cF, nf, .inl ff))]) U.heap ∧ va_K (dC, dI) vwCl ([(cF, .int)]) U)) (vp_Si (fun o => True)) 0 0 (fun _ => False) := by
  refine Met.ofW (cc := cX5_followersOf) (maxL := 4) (ret := (some .int)) (by decide +kernel) rfl ?_
  intro p e s m args below meth c s₁ B hml hv
  obtain ⟨rfl, hP, hK⟩ := hv
  have hx := B.exec
  have hb := B.bytes
  have hr := B.returns
  have hts := atoms_spec (ws := mwX5_followersOf) B.pre
  have hown : s.vm.findClass RX5 = some m.cls := findClass_of_methodNamed B.named
  have hlocks := B.notSynchronized
  have hP : va_P (dC, dI) vwCl [(pt, .inr (5, pF q a0 a1 a2 a3 a4 a5)), (q 1, .inl (cF, nf, .inl ff))] s.heap := hP
  have hK : va_K (dC, dI) vwCl [(cF, .int)] s := hK
  generalize hH : s.heap = H at hP ⊢
  have hl := lv_entry ([.ref pt, .int i]) (n := 4) (Nat.le_of_ble_eq_true rfl)
  rw [lg_entry_eq]
  generalize (lg_sl ([.ref pt, .int i]) ++ List.replicate (4 - (lg_sl ([.ref pt, .int i])).length) Slot.unset).toArray = ls at hl ⊢
  have hl : lv_has ls 4 [(0, .ref pt), (1, .int i)] := hl
  have rg_i := i_rng i
  refine lv_iconst (v := 0) hx hb dX5_followersOf_0 (by decide) ?_
  refine lv_istore_n (lv' := [(2, .int 0), (0, .ref pt), (1, .int i)]) hx hb dX5_followersOf_1 rfl hl (by decide) rfl (fun ls hl => ?_)
  refine lv_iconst (v := 0) hx hb dX5_followersOf_2 (by decide) ?_
  refine lv_istore_n (lv' := [(3, .int 0), (2, .int 0), (0, .ref pt), (1, .int i)]) hx hb dX5_followersOf_3 rfl hl (by decide) rfl (fun ls hl => ?_)
  have loop4 : ∀ (n4 : Nat) (nx ii : Int32), (0 ≤ ii.toInt) → (((nf : Int) - ii.toInt).toNat) < n4 → ∀ (ls : Array Slot), lv_has ls 4 [(3, .int ii), (2, .int nx), (0, .ref pt), (1, .int i)] → W p l e (headSpec mwX5_followersOf ({ frames := 0, cells := 0, slots := 0, locals := 0 })).room s m ([.ref pt, .int i]).toArray below meth c H [] 0 0 (MQ below (vp_Si (fun o => True)) ([.ref pt, .int i]).toArray s 0 0 (fun _ => False)) (F0 m 4 ls []) := by
    intro n4
    induction n4 with
    | zero => intro nx ii v4_0 hm4; exact absurd hm4 (Nat.not_lt_zero _)
    | succ n4 ih4 =>
      intro nx ii v4_0 hm4 ls hl
      have rg_nx := i_rng nx
      have rg_ii := i_rng ii
      refine lv_iload_n hx hb dX5_followersOf_4 rfl (lv_at hl 0 rfl) ?_
      refine lv_aload_n hx hb dX5_followersOf_5 rfl (lv_at hl 2 rfl) ?_
      refine va_get (D := (dC, dI)) (ci := 5) (v := .ref (q 1)) (C := RX5) (T := TX5) (N := 13) hx hb hts fin_X5_followersOf_X5 hown hK hP 0 rfl rfl 6 (by decide) (hts (.fieldLink RX5 39 "PatternGate$Pattern" "follow" "[I") (List.mem_of_getElem? (i := 1) (by decide +kernel))) (fun _ h9 => h9) rfl dX5_followersOf_6 ?_
      refine va_alen hx hb hK hP 1 0 rfl rfl rfl dX5_followersOf_9 ?_
      refine lv_topi (fun y_1 ey_1 => ?_)
      have ty_1 : y_1.toInt = (nf : Int) := i_len ey_1 (by omega)
      refine lv_icmp_ge (tgt := 36) hx hb dX5_followersOf_10 (by decide) (fun k_2 => ?_) (fun k_2 => ?_)
      · have tk_2 := c_ge (a := ii.toInt) (b := y_1.toInt) rfl rfl k_2
        refine lv_iload_n hx hb dX5_followersOf_36 rfl (lv_at hl 1 rfl) ?_
        exact W.iret hx hb hr (fun t ht hW => ⟨_, rfl, trivial, ht.trans hH.symm⟩) t_nil dX5_followersOf_37
      · have tk_2 := c_nge (a := ii.toInt) (b := y_1.toInt) rfl rfl k_2
        refine lv_iload_n hx hb dX5_followersOf_13 rfl (lv_at hl 3 rfl) ?_
        refine lv_iload_n hx hb dX5_followersOf_14 rfl (lv_at hl 0 rfl) ?_
        refine lv_iushr hx hb dX5_followersOf_15 rfl ?_
        refine lv_topi (fun y_3 ey_3 => ?_)
        refine lv_iconst (v := 1) hx hb dX5_followersOf_16 (by decide) ?_
        refine lv_iand hx hb dX5_followersOf_17 ?_
        refine lv_topi (fun y_4 ey_4 => ?_)
        have ty_4 := i_and (b := 1) (by decide) (by decide) ey_4
        refine lv_if_eq (tgt := 30) hx hb dX5_followersOf_18 (by decide) (fun k_5 => ?_) (fun k_5 => ?_)
        · have tk_5 := c_eq (a := y_4.toInt) (b := 0) rfl (by decide) k_5
          obtain ⟨y_6, ey_6⟩ : ∃ y : Int32, y = ii + 1 := ⟨_, rfl⟩
          first | have ty_6 := i_add (a := ii.toInt) (b := 1) rfl (by decide) ey_6 (by omega) (by omega) | skip
          refine lv_iinc (v := y_6) (lv' := [(3, .int y_6), (2, .int nx), (0, .ref pt), (1, .int i)]) hx hb dX5_followersOf_30 hl (k := 0) rfl (by rw [ey_6]; rfl) (by decide) rfl (fun ls hl => ?_)
          refine lv_goto (tgt := 4) hx hb dX5_followersOf_33 (by decide) ?_
          exact ih4 nx y_6 (by first | omega | decide | assumption) (by omega) ls (lv_sub hl [0, 1, 2, 3] rfl)
        · have tk_5 := c_ne (a := y_4.toInt) (b := 0) rfl (by decide) k_5
          refine lv_iload_n hx hb dX5_followersOf_21 rfl (lv_at hl 1 rfl) ?_
          refine lv_aload_n hx hb dX5_followersOf_22 rfl (lv_at hl 2 rfl) ?_
          refine va_get (D := (dC, dI)) (ci := 5) (v := .ref (q 1)) (C := RX5) (T := TX5) (N := 13) hx hb hts fin_X5_followersOf_X5 hown hK hP 0 rfl rfl 6 (by decide) (hts (.fieldLink RX5 39 "PatternGate$Pattern" "follow" "[I") (List.mem_of_getElem? (i := 1) (by decide +kernel))) (fun _ h9 => h9) rfl dX5_followersOf_23 ?_
          refine lv_iload_n hx hb dX5_followersOf_26 rfl (lv_at hl 0 rfl) ?_
          refine va_iald hx hb hK hP 1 0 rfl rfl (i := ii) (vp_of (a := ii.toInt) rfl (by omega) (by omega)) dX5_followersOf_27 ?_
          refine lv_topi (fun y_7 ey_7 => ?_)
          have rg_y_7 := i_rng y_7
          refine lv_ior hx hb dX5_followersOf_28 ?_
          refine lv_topi (fun y_8 ey_8 => ?_)
          have rg_y_8 := i_rng y_8
          refine lv_istore_n (lv' := [(2, .int y_8), (3, .int ii), (0, .ref pt), (1, .int i)]) hx hb dX5_followersOf_29 rfl hl (by decide) rfl (fun ls hl => ?_)
          obtain ⟨y_9, ey_9⟩ : ∃ y : Int32, y = ii + 1 := ⟨_, rfl⟩
          first | have ty_9 := i_add (a := ii.toInt) (b := 1) rfl (by decide) ey_9 (by omega) (by omega) | skip
          refine lv_iinc (v := y_9) (lv' := [(3, .int y_9), (2, .int y_8), (0, .ref pt), (1, .int i)]) hx hb dX5_followersOf_30 hl (k := 1) rfl (by rw [ey_9]; rfl) (by decide) rfl (fun ls hl => ?_)
          refine lv_goto (tgt := 4) hx hb dX5_followersOf_33 (by decide) ?_
          exact ih4 y_8 y_9 (by first | omega | decide | assumption) (by omega) ls (lv_sub hl [0, 1, 2, 3] rfl)
  have lit_9 : (0 : Int32).toInt = 0 := by decide
  have lit_10 : (0 : Int32).toInt = 0 := by decide
  exact loop4 _ 0 0 (by first | omega | decide | assumption) (Nat.lt_succ_self _) ls (lv_sub hl [0, 1, 2, 3] rfl)
theorem dX5_leadersTo_0 : decode cX5_leadersTo 0 = .ok (.iconst 0, 1) := by decide +kernel
theorem dX5_leadersTo_1 : decode cX5_leadersTo 1 = .ok (.istore_n 2, 1) := by decide +kernel
theorem dX5_leadersTo_2 : decode cX5_leadersTo 2 = .ok (.iconst 0, 1) := by decide +kernel
theorem dX5_leadersTo_3 : decode cX5_leadersTo 3 = .ok (.istore_n 3, 1) := by decide +kernel
theorem dX5_leadersTo_4 : decode cX5_leadersTo 4 = .ok (.iload_n 3, 1) := by decide +kernel
theorem dX5_leadersTo_5 : decode cX5_leadersTo 5 = .ok (.aload_n 0, 1) := by decide +kernel
theorem dX5_leadersTo_6 : decode cX5_leadersTo 6 = .ok (.getfield 39, 3) := by decide +kernel
theorem dX5_leadersTo_9 : decode cX5_leadersTo 9 = .ok (.arraylength, 1) := by decide +kernel
theorem dX5_leadersTo_10 : decode cX5_leadersTo 10 = .ok (.if_icmp .ge 26, 3) := by decide +kernel
theorem dX5_leadersTo_13 : decode cX5_leadersTo 13 = .ok (.aload_n 0, 1) := by decide +kernel
theorem dX5_leadersTo_14 : decode cX5_leadersTo 14 = .ok (.getfield 39, 3) := by decide +kernel
theorem dX5_leadersTo_17 : decode cX5_leadersTo 17 = .ok (.iload_n 3, 1) := by decide +kernel
theorem dX5_leadersTo_18 : decode cX5_leadersTo 18 = .ok (.iaload, 1) := by decide +kernel
theorem dX5_leadersTo_19 : decode cX5_leadersTo 19 = .ok (.iload_n 1, 1) := by decide +kernel
theorem dX5_leadersTo_20 : decode cX5_leadersTo 20 = .ok (.iand, 1) := by decide +kernel
theorem dX5_leadersTo_21 : decode cX5_leadersTo 21 = .ok (.ifCond .eq 9, 3) := by decide +kernel
theorem dX5_leadersTo_24 : decode cX5_leadersTo 24 = .ok (.iload_n 2, 1) := by decide +kernel
theorem dX5_leadersTo_25 : decode cX5_leadersTo 25 = .ok (.iconst 1, 1) := by decide +kernel
theorem dX5_leadersTo_26 : decode cX5_leadersTo 26 = .ok (.iload_n 3, 1) := by decide +kernel
theorem dX5_leadersTo_27 : decode cX5_leadersTo 27 = .ok (.ishl, 1) := by decide +kernel
theorem dX5_leadersTo_28 : decode cX5_leadersTo 28 = .ok (.ior, 1) := by decide +kernel
theorem dX5_leadersTo_29 : decode cX5_leadersTo 29 = .ok (.istore_n 2, 1) := by decide +kernel
theorem dX5_leadersTo_30 : decode cX5_leadersTo 30 = .ok (.iinc 3 1, 3) := by decide +kernel
theorem dX5_leadersTo_33 : decode cX5_leadersTo 33 = .ok (.goto (-29), 3) := by decide +kernel
theorem dX5_leadersTo_36 : decode cX5_leadersTo 36 = .ok (.iload_n 2, 1) := by decide +kernel
theorem dX5_leadersTo_37 : decode cX5_leadersTo 37 = .ok (.ireturn, 1) := by decide +kernel
def mwX5_leadersTo : List Cond := .code yX5_leadersTo cX5_leadersTo 4 (some .int) :: ([.fieldLink RX5 39 "PatternGate$Pattern" "follow" "[I"] ++ wsX50)
theorem fin_X5_leadersTo_X5 : ∀ w ∈ wsX50, w ∈ mwX5_leadersTo := fun w h => List.mem_cons_of_mem _ (List.mem_append_right _ h)
set_option maxHeartbeats 4000000 in
set_option maxRecDepth 100000 in
/-- Pattern.leadersTo -/
theorem s_leadersTo (l : Launch) (dC : Nat → ClassId) (dI : Nat → Nat → Nat) (pt : Nat) (q : Nat → Nat) (a0 a1 a2 a3 a4 a5 : Int32) (nf : Nat) (ff : Nat → Int32) (cF : ClassId) (i : Int32) (hf : nf ≤ 1000) : Met l yX5_leadersTo mwX5_leadersTo ({ frames := 0, cells := 0, slots := 0, locals := 0 }) (va_Pc [.ref pt, .int i] (fun U => va_P (dC, dI) vwCl ([(pt, .inr (5, pF q a0 a1 a2 a3 a4 a5)), (q 1, .inl (cF, nf, .inl ff))]) U.heap ∧ va_K (dC, dI) vwCl ([(cF, .int)]) U)) (vp_Si (fun o => True)) 0 0 (fun _ => False) := by
  refine Met.ofW (cc := cX5_leadersTo) (maxL := 4) (ret := (some .int)) (by decide +kernel) rfl ?_
  intro p e s m args below meth c s₁ B hml hv
  obtain ⟨rfl, hP, hK⟩ := hv
  have hx := B.exec
  have hb := B.bytes
  have hr := B.returns
  have hts := atoms_spec (ws := mwX5_leadersTo) B.pre
  have hown : s.vm.findClass RX5 = some m.cls := findClass_of_methodNamed B.named
  have hlocks := B.notSynchronized
  have hP : va_P (dC, dI) vwCl [(pt, .inr (5, pF q a0 a1 a2 a3 a4 a5)), (q 1, .inl (cF, nf, .inl ff))] s.heap := hP
  have hK : va_K (dC, dI) vwCl [(cF, .int)] s := hK
  generalize hH : s.heap = H at hP ⊢
  have hl := lv_entry ([.ref pt, .int i]) (n := 4) (Nat.le_of_ble_eq_true rfl)
  rw [lg_entry_eq]
  generalize (lg_sl ([.ref pt, .int i]) ++ List.replicate (4 - (lg_sl ([.ref pt, .int i])).length) Slot.unset).toArray = ls at hl ⊢
  have hl : lv_has ls 4 [(0, .ref pt), (1, .int i)] := hl
  have rg_i := i_rng i
  refine lv_iconst (v := 0) hx hb dX5_leadersTo_0 (by decide) ?_
  refine lv_istore_n (lv' := [(2, .int 0), (0, .ref pt), (1, .int i)]) hx hb dX5_leadersTo_1 rfl hl (by decide) rfl (fun ls hl => ?_)
  refine lv_iconst (v := 0) hx hb dX5_leadersTo_2 (by decide) ?_
  refine lv_istore_n (lv' := [(3, .int 0), (2, .int 0), (0, .ref pt), (1, .int i)]) hx hb dX5_leadersTo_3 rfl hl (by decide) rfl (fun ls hl => ?_)
  have loop4 : ∀ (n4 : Nat) (nx ii : Int32), (0 ≤ ii.toInt) → (((nf : Int) - ii.toInt).toNat) < n4 → ∀ (ls : Array Slot), lv_has ls 4 [(3, .int ii), (2, .int nx), (0, .ref pt), (1, .int i)] → W p l e (headSpec mwX5_leadersTo ({ frames := 0, cells := 0, slots := 0, locals := 0 })).room s m ([.ref pt, .int i]).toArray below meth c H [] 0 0 (MQ below (vp_Si (fun o => True)) ([.ref pt, .int i]).toArray s 0 0 (fun _ => False)) (F0 m 4 ls []) := by
    intro n4
    induction n4 with
    | zero => intro nx ii v4_0 hm4; exact absurd hm4 (Nat.not_lt_zero _)
    | succ n4 ih4 =>
      intro nx ii v4_0 hm4 ls hl
      have rg_nx := i_rng nx
      have rg_ii := i_rng ii
      refine lv_iload_n hx hb dX5_leadersTo_4 rfl (lv_at hl 0 rfl) ?_
      refine lv_aload_n hx hb dX5_leadersTo_5 rfl (lv_at hl 2 rfl) ?_
      refine va_get (D := (dC, dI)) (ci := 5) (v := .ref (q 1)) (C := RX5) (T := TX5) (N := 13) hx hb hts fin_X5_leadersTo_X5 hown hK hP 0 rfl rfl 6 (by decide) (hts (.fieldLink RX5 39 "PatternGate$Pattern" "follow" "[I") (List.mem_of_getElem? (i := 1) (by decide +kernel))) (fun _ h9 => h9) rfl dX5_leadersTo_6 ?_
      refine va_alen hx hb hK hP 1 0 rfl rfl rfl dX5_leadersTo_9 ?_
      refine lv_topi (fun y_1 ey_1 => ?_)
      have ty_1 : y_1.toInt = (nf : Int) := i_len ey_1 (by omega)
      refine lv_icmp_ge (tgt := 36) hx hb dX5_leadersTo_10 (by decide) (fun k_2 => ?_) (fun k_2 => ?_)
      · have tk_2 := c_ge (a := ii.toInt) (b := y_1.toInt) rfl rfl k_2
        refine lv_iload_n hx hb dX5_leadersTo_36 rfl (lv_at hl 1 rfl) ?_
        exact W.iret hx hb hr (fun t ht hW => ⟨_, rfl, trivial, ht.trans hH.symm⟩) t_nil dX5_leadersTo_37
      · have tk_2 := c_nge (a := ii.toInt) (b := y_1.toInt) rfl rfl k_2
        refine lv_aload_n hx hb dX5_leadersTo_13 rfl (lv_at hl 2 rfl) ?_
        refine va_get (D := (dC, dI)) (ci := 5) (v := .ref (q 1)) (C := RX5) (T := TX5) (N := 13) hx hb hts fin_X5_leadersTo_X5 hown hK hP 0 rfl rfl 6 (by decide) (hts (.fieldLink RX5 39 "PatternGate$Pattern" "follow" "[I") (List.mem_of_getElem? (i := 1) (by decide +kernel))) (fun _ h9 => h9) rfl dX5_leadersTo_14 ?_
        refine lv_iload_n hx hb dX5_leadersTo_17 rfl (lv_at hl 0 rfl) ?_
        refine va_iald hx hb hK hP 1 0 rfl rfl (i := ii) (vp_of (a := ii.toInt) rfl (by omega) (by omega)) dX5_leadersTo_18 ?_
        refine lv_topi (fun y_3 ey_3 => ?_)
        have rg_y_3 := i_rng y_3
        refine lv_iload_n hx hb dX5_leadersTo_19 rfl (lv_at hl 3 rfl) ?_
        refine lv_iand hx hb dX5_leadersTo_20 ?_
        refine lv_topi (fun y_4 ey_4 => ?_)
        have rg_y_4 := i_rng y_4
        refine lv_if_eq (tgt := 30) hx hb dX5_leadersTo_21 (by decide) (fun k_5 => ?_) (fun k_5 => ?_)
        · have tk_5 := c_eq (a := y_4.toInt) (b := 0) rfl (by decide) k_5
          obtain ⟨y_6, ey_6⟩ : ∃ y : Int32, y = ii + 1 := ⟨_, rfl⟩
          first | have ty_6 := i_add (a := ii.toInt) (b := 1) rfl (by decide) ey_6 (by omega) (by omega) | skip
          refine lv_iinc (v := y_6) (lv' := [(3, .int y_6), (2, .int nx), (0, .ref pt), (1, .int i)]) hx hb dX5_leadersTo_30 hl (k := 0) rfl (by rw [ey_6]; rfl) (by decide) rfl (fun ls hl => ?_)
          refine lv_goto (tgt := 4) hx hb dX5_leadersTo_33 (by decide) ?_
          exact ih4 nx y_6 (by first | omega | decide | assumption) (by omega) ls (lv_sub hl [0, 1, 2, 3] rfl)
        · have tk_5 := c_ne (a := y_4.toInt) (b := 0) rfl (by decide) k_5
          refine lv_iload_n hx hb dX5_leadersTo_24 rfl (lv_at hl 1 rfl) ?_
          refine lv_iconst (v := 1) hx hb dX5_leadersTo_25 (by decide) ?_
          refine lv_iload_n hx hb dX5_leadersTo_26 rfl (lv_at hl 0 rfl) ?_
          refine lv_ishl hx hb dX5_leadersTo_27 ?_
          refine lv_topi (fun y_7 ey_7 => ?_)
          have rg_y_7 := i_rng y_7
          refine lv_ior hx hb dX5_leadersTo_28 ?_
          refine lv_topi (fun y_8 ey_8 => ?_)
          have rg_y_8 := i_rng y_8
          refine lv_istore_n (lv' := [(2, .int y_8), (3, .int ii), (0, .ref pt), (1, .int i)]) hx hb dX5_leadersTo_29 rfl hl (by decide) rfl (fun ls hl => ?_)
          obtain ⟨y_9, ey_9⟩ : ∃ y : Int32, y = ii + 1 := ⟨_, rfl⟩
          first | have ty_9 := i_add (a := ii.toInt) (b := 1) rfl (by decide) ey_9 (by omega) (by omega) | skip
          refine lv_iinc (v := y_9) (lv' := [(3, .int y_9), (2, .int y_8), (0, .ref pt), (1, .int i)]) hx hb dX5_leadersTo_30 hl (k := 1) rfl (by rw [ey_9]; rfl) (by decide) rfl (fun ls hl => ?_)
          refine lv_goto (tgt := 4) hx hb dX5_leadersTo_33 (by decide) ?_
          exact ih4 y_8 y_9 (by first | omega | decide | assumption) (by omega) ls (lv_sub hl [0, 1, 2, 3] rfl)
  have lit_9 : (0 : Int32).toInt = 0 := by decide
  have lit_10 : (0 : Int32).toInt = 0 := by decide
  exact loop4 _ 0 0 (by first | omega | decide | assumption) (Nat.lt_succ_self _) ls (lv_sub hl [0, 1, 2, 3] rfl)
theorem dX5_choices_0 : decode cX5_choices 0 = .ok (.aload_n 0, 1) := by decide +kernel
theorem dX5_choices_1 : decode cX5_choices 1 = .ok (.getfield 76, 3) := by decide +kernel
theorem dX5_choices_4 : decode cX5_choices 4 = .ok (.arraylength, 1) := by decide +kernel
theorem dX5_choices_5 : decode cX5_choices 5 = .ok (.iconst 1, 1) := by decide +kernel
theorem dX5_choices_6 : decode cX5_choices 6 = .ok (.isub, 1) := by decide +kernel
theorem dX5_choices_7 : decode cX5_choices 7 = .ok (.ireturn, 1) := by decide +kernel
def mwX5_choices : List Cond := .code yX5_choices cX5_choices 1 (some .int) :: ([.fieldLink RX5 76 "PatternGate$Pattern" "starts" "[I"] ++ wsX50)
theorem fin_X5_choices_X5 : ∀ w ∈ wsX50, w ∈ mwX5_choices := fun w h => List.mem_cons_of_mem _ (List.mem_append_right _ h)
set_option maxHeartbeats 4000000 in
set_option maxRecDepth 100000 in
/-- Pattern.choices -/
theorem s_choices (l : Launch) (dC : Nat → ClassId) (dI : Nat → Nat → Nat) (pt : Nat) (q : Nat → Nat) (a0 a1 a2 a3 a4 a5 : Int32) (ns : Nat) (fs : Nat → Int32) (cS : ClassId) (hs : ns ≤ 1000) : Met l yX5_choices mwX5_choices ({ frames := 0, cells := 0, slots := 0, locals := 0 }) (va_Pc [.ref pt] (fun U => va_P (dC, dI) vwCl ([(pt, .inr (5, pF q a0 a1 a2 a3 a4 a5)), (q 5, .inl (cS, ns, .inl fs))]) U.heap ∧ va_K (dC, dI) vwCl ([(cS, .int)]) U)) (vp_Si (fun o => o.toInt = (ns : Int) - 1)) 0 0 (fun _ => False) := by
  refine Met.ofW (cc := cX5_choices) (maxL := 1) (ret := (some .int)) (by decide +kernel) rfl ?_
  intro p e s m args below meth c s₁ B hml hv
  obtain ⟨rfl, hP, hK⟩ := hv
  have hx := B.exec
  have hb := B.bytes
  have hr := B.returns
  have hts := atoms_spec (ws := mwX5_choices) B.pre
  have hown : s.vm.findClass RX5 = some m.cls := findClass_of_methodNamed B.named
  have hlocks := B.notSynchronized
  have hP : va_P (dC, dI) vwCl [(pt, .inr (5, pF q a0 a1 a2 a3 a4 a5)), (q 5, .inl (cS, ns, .inl fs))] s.heap := hP
  have hK : va_K (dC, dI) vwCl [(cS, .int)] s := hK
  generalize hH : s.heap = H at hP ⊢
  have hl := lv_entry ([.ref pt]) (n := 1) (Nat.le_of_ble_eq_true rfl)
  rw [lg_entry_eq]
  generalize (lg_sl ([.ref pt]) ++ List.replicate (1 - (lg_sl ([.ref pt])).length) Slot.unset).toArray = ls at hl ⊢
  have hl : lv_has ls 1 [(0, .ref pt)] := hl
  refine lv_aload_n hx hb dX5_choices_0 rfl (lv_at hl 0 rfl) ?_
  refine va_get (D := (dC, dI)) (ci := 5) (v := .ref (q 5)) (C := RX5) (T := TX5) (N := 13) hx hb hts fin_X5_choices_X5 hown hK hP 0 rfl rfl 11 (by decide) (hts (.fieldLink RX5 76 "PatternGate$Pattern" "starts" "[I") (List.mem_of_getElem? (i := 1) (by decide +kernel))) (fun _ h9 => h9) rfl dX5_choices_1 ?_
  refine va_alen hx hb hK hP 1 0 rfl rfl rfl dX5_choices_4 ?_
  refine lv_topi (fun y_1 ey_1 => ?_)
  have ty_1 : y_1.toInt = (ns : Int) := i_len ey_1 (by omega)
  refine lv_iconst (v := 1) hx hb dX5_choices_5 (by decide) ?_
  refine lv_isub hx hb dX5_choices_6 ?_
  refine lv_topi (fun y_2 ey_2 => ?_)
  first | have ty_2 := i_sub (a := y_1.toInt) (b := 1) rfl (by decide) ey_2 (by omega) (by omega) | skip
  exact W.iret hx hb hr (fun t ht hW => ⟨_, rfl, (by first | omega | decide), ht.trans hH.symm⟩) t_nil dX5_choices_7
theorem dX5_sizeOf_0 : decode cX5_sizeOf 0 = .ok (.iload_n 1, 1) := by decide +kernel
theorem dX5_sizeOf_1 : decode cX5_sizeOf 1 = .ok (.ifCond .lt 32, 3) := by decide +kernel
theorem dX5_sizeOf_4 : decode cX5_sizeOf 4 = .ok (.iload_n 1, 1) := by decide +kernel
theorem dX5_sizeOf_5 : decode cX5_sizeOf 5 = .ok (.iconst 1, 1) := by decide +kernel
theorem dX5_sizeOf_6 : decode cX5_sizeOf 6 = .ok (.iadd, 1) := by decide +kernel
theorem dX5_sizeOf_7 : decode cX5_sizeOf 7 = .ok (.aload_n 0, 1) := by decide +kernel
theorem dX5_sizeOf_8 : decode cX5_sizeOf 8 = .ok (.getfield 76, 3) := by decide +kernel
theorem dX5_sizeOf_11 : decode cX5_sizeOf 11 = .ok (.arraylength, 1) := by decide +kernel
theorem dX5_sizeOf_12 : decode cX5_sizeOf 12 = .ok (.if_icmp .ge 21, 3) := by decide +kernel
theorem dX5_sizeOf_15 : decode cX5_sizeOf 15 = .ok (.aload_n 0, 1) := by decide +kernel
theorem dX5_sizeOf_16 : decode cX5_sizeOf 16 = .ok (.getfield 76, 3) := by decide +kernel
theorem dX5_sizeOf_19 : decode cX5_sizeOf 19 = .ok (.iload_n 1, 1) := by decide +kernel
theorem dX5_sizeOf_20 : decode cX5_sizeOf 20 = .ok (.iconst 1, 1) := by decide +kernel
theorem dX5_sizeOf_21 : decode cX5_sizeOf 21 = .ok (.iadd, 1) := by decide +kernel
theorem dX5_sizeOf_22 : decode cX5_sizeOf 22 = .ok (.iaload, 1) := by decide +kernel
theorem dX5_sizeOf_23 : decode cX5_sizeOf 23 = .ok (.aload_n 0, 1) := by decide +kernel
theorem dX5_sizeOf_24 : decode cX5_sizeOf 24 = .ok (.getfield 76, 3) := by decide +kernel
theorem dX5_sizeOf_27 : decode cX5_sizeOf 27 = .ok (.iload_n 1, 1) := by decide +kernel
theorem dX5_sizeOf_28 : decode cX5_sizeOf 28 = .ok (.iaload, 1) := by decide +kernel
theorem dX5_sizeOf_29 : decode cX5_sizeOf 29 = .ok (.isub, 1) := by decide +kernel
theorem dX5_sizeOf_30 : decode cX5_sizeOf 30 = .ok (.goto 4, 3) := by decide +kernel
theorem dX5_sizeOf_33 : decode cX5_sizeOf 33 = .ok (.iconst 0, 1) := by decide +kernel
theorem dX5_sizeOf_34 : decode cX5_sizeOf 34 = .ok (.ireturn, 1) := by decide +kernel
def mwX5_sizeOf : List Cond := .code yX5_sizeOf cX5_sizeOf 2 (some .int) :: ([.fieldLink RX5 76 "PatternGate$Pattern" "starts" "[I"] ++ wsX50)
theorem fin_X5_sizeOf_X5 : ∀ w ∈ wsX50, w ∈ mwX5_sizeOf := fun w h => List.mem_cons_of_mem _ (List.mem_append_right _ h)
set_option maxHeartbeats 4000000 in
set_option maxRecDepth 100000 in
/-- Pattern.sizeOf -/
theorem s_sizeOf (l : Launch) (dC : Nat → ClassId) (dI : Nat → Nat → Nat) (pt : Nat) (q : Nat → Nat) (a0 a1 a2 a3 a4 a5 : Int32) (ns : Nat) (fs : Nat → Int32) (cS : ClassId) (i : Int32) (hs : ns ≤ 1000) (hi : i.toInt ≤ 1000) : Met l yX5_sizeOf mwX5_sizeOf ({ frames := 0, cells := 0, slots := 0, locals := 0 }) (va_Pc [.ref pt, .int i] (fun U => va_P (dC, dI) vwCl ([(pt, .inr (5, pF q a0 a1 a2 a3 a4 a5)), (q 5, .inl (cS, ns, .inl fs))]) U.heap ∧ va_K (dC, dI) vwCl ([(cS, .int)]) U)) (vp_Si (fun o => True)) 0 0 (fun _ => False) := by
  refine Met.ofW (cc := cX5_sizeOf) (maxL := 2) (ret := (some .int)) (by decide +kernel) rfl ?_
  intro p e s m args below meth c s₁ B hml hv
  obtain ⟨rfl, hP, hK⟩ := hv
  have hx := B.exec
  have hb := B.bytes
  have hr := B.returns
  have hts := atoms_spec (ws := mwX5_sizeOf) B.pre
  have hown : s.vm.findClass RX5 = some m.cls := findClass_of_methodNamed B.named
  have hlocks := B.notSynchronized
  have hP : va_P (dC, dI) vwCl [(pt, .inr (5, pF q a0 a1 a2 a3 a4 a5)), (q 5, .inl (cS, ns, .inl fs))] s.heap := hP
  have hK : va_K (dC, dI) vwCl [(cS, .int)] s := hK
  generalize hH : s.heap = H at hP ⊢
  have hl := lv_entry ([.ref pt, .int i]) (n := 2) (Nat.le_of_ble_eq_true rfl)
  rw [lg_entry_eq]
  generalize (lg_sl ([.ref pt, .int i]) ++ List.replicate (2 - (lg_sl ([.ref pt, .int i])).length) Slot.unset).toArray = ls at hl ⊢
  have hl : lv_has ls 2 [(0, .ref pt), (1, .int i)] := hl
  have rg_i := i_rng i
  refine lv_iload_n hx hb dX5_sizeOf_0 rfl (lv_at hl 1 rfl) ?_
  refine lv_if_lt (tgt := 33) hx hb dX5_sizeOf_1 (by decide) (fun k_1 => ?_) (fun k_1 => ?_)
  · have tk_1 := c_lt (a := i.toInt) (b := 0) rfl (by decide) k_1
    refine lv_iconst (v := 0) hx hb dX5_sizeOf_33 (by decide) ?_
    exact W.iret hx hb hr (fun t ht hW => ⟨_, rfl, trivial, ht.trans hH.symm⟩) t_nil dX5_sizeOf_34
  · have tk_1 := c_nlt (a := i.toInt) (b := 0) rfl (by decide) k_1
    refine lv_iload_n hx hb dX5_sizeOf_4 rfl (lv_at hl 1 rfl) ?_
    refine lv_iconst (v := 1) hx hb dX5_sizeOf_5 (by decide) ?_
    refine lv_iadd hx hb dX5_sizeOf_6 ?_
    refine lv_topi (fun y_2 ey_2 => ?_)
    first | have ty_2 := i_add (a := i.toInt) (b := 1) rfl (by decide) ey_2 (by omega) (by omega) | skip
    refine lv_aload_n hx hb dX5_sizeOf_7 rfl (lv_at hl 0 rfl) ?_
    refine va_get (D := (dC, dI)) (ci := 5) (v := .ref (q 5)) (C := RX5) (T := TX5) (N := 13) hx hb hts fin_X5_sizeOf_X5 hown hK hP 0 rfl rfl 11 (by decide) (hts (.fieldLink RX5 76 "PatternGate$Pattern" "starts" "[I") (List.mem_of_getElem? (i := 1) (by decide +kernel))) (fun _ h9 => h9) rfl dX5_sizeOf_8 ?_
    refine va_alen hx hb hK hP 1 0 rfl rfl rfl dX5_sizeOf_11 ?_
    refine lv_topi (fun y_3 ey_3 => ?_)
    have ty_3 : y_3.toInt = (ns : Int) := i_len ey_3 (by omega)
    refine lv_icmp_ge (tgt := 33) hx hb dX5_sizeOf_12 (by decide) (fun k_4 => ?_) (fun k_4 => ?_)
    · have tk_4 := c_ge (a := y_2.toInt) (b := y_3.toInt) rfl rfl k_4
      refine lv_iconst (v := 0) hx hb dX5_sizeOf_33 (by decide) ?_
      exact W.iret hx hb hr (fun t ht hW => ⟨_, rfl, trivial, ht.trans hH.symm⟩) t_nil dX5_sizeOf_34
    · have tk_4 := c_nge (a := y_2.toInt) (b := y_3.toInt) rfl rfl k_4
      refine lv_aload_n hx hb dX5_sizeOf_15 rfl (lv_at hl 0 rfl) ?_
      refine va_get (D := (dC, dI)) (ci := 5) (v := .ref (q 5)) (C := RX5) (T := TX5) (N := 13) hx hb hts fin_X5_sizeOf_X5 hown hK hP 0 rfl rfl 11 (by decide) (hts (.fieldLink RX5 76 "PatternGate$Pattern" "starts" "[I") (List.mem_of_getElem? (i := 1) (by decide +kernel))) (fun _ h9 => h9) rfl dX5_sizeOf_16 ?_
      refine lv_iload_n hx hb dX5_sizeOf_19 rfl (lv_at hl 1 rfl) ?_
      refine lv_iconst (v := 1) hx hb dX5_sizeOf_20 (by decide) ?_
      refine lv_iadd hx hb dX5_sizeOf_21 ?_
      refine lv_topi (fun y_5 ey_5 => ?_)
      first | have ty_5 := i_add (a := i.toInt) (b := 1) rfl (by decide) ey_5 (by omega) (by omega) | skip
      refine va_iald hx hb hK hP 1 0 rfl rfl (i := y_5) (vp_of (a := y_5.toInt) rfl (by omega) (by omega)) dX5_sizeOf_22 ?_
      refine lv_topi (fun y_6 ey_6 => ?_)
      have rg_y_6 := i_rng y_6
      refine lv_aload_n hx hb dX5_sizeOf_23 rfl (lv_at hl 0 rfl) ?_
      refine va_get (D := (dC, dI)) (ci := 5) (v := .ref (q 5)) (C := RX5) (T := TX5) (N := 13) hx hb hts fin_X5_sizeOf_X5 hown hK hP 0 rfl rfl 11 (by decide) (hts (.fieldLink RX5 76 "PatternGate$Pattern" "starts" "[I") (List.mem_of_getElem? (i := 1) (by decide +kernel))) (fun _ h9 => h9) rfl dX5_sizeOf_24 ?_
      refine lv_iload_n hx hb dX5_sizeOf_27 rfl (lv_at hl 1 rfl) ?_
      refine va_iald hx hb hK hP 1 0 rfl rfl (i := i) (vp_of (a := i.toInt) rfl (by omega) (by omega)) dX5_sizeOf_28 ?_
      refine lv_topi (fun y_7 ey_7 => ?_)
      have rg_y_7 := i_rng y_7
      refine lv_isub hx hb dX5_sizeOf_29 ?_
      refine lv_topi (fun y_8 ey_8 => ?_)
      first | have ty_8 := i_sub (a := y_6.toInt) (b := y_7.toInt) rfl rfl ey_8 (by omega) (by omega) | skip
      refine lv_goto (tgt := 34) hx hb dX5_sizeOf_30 (by decide) ?_
      exact W.iret hx hb hr (fun t ht hW => ⟨_, rfl, trivial, ht.trans hH.symm⟩) t_nil dX5_sizeOf_34
theorem dX5_tripleAt_0 : decode cX5_tripleAt 0 = .ok (.iload_n 1, 1) := by decide +kernel
theorem dX5_tripleAt_1 : decode cX5_tripleAt 1 = .ok (.ifCond .lt 23, 3) := by decide +kernel
theorem dX5_tripleAt_4 : decode cX5_tripleAt 4 = .ok (.iload_n 1, 1) := by decide +kernel
theorem dX5_tripleAt_5 : decode cX5_tripleAt 5 = .ok (.aload_n 0, 1) := by decide +kernel
theorem dX5_tripleAt_6 : decode cX5_tripleAt 6 = .ok (.getfield 76, 3) := by decide +kernel
theorem dX5_tripleAt_9 : decode cX5_tripleAt 9 = .ok (.arraylength, 1) := by decide +kernel
theorem dX5_tripleAt_10 : decode cX5_tripleAt 10 = .ok (.if_icmp .ge 14, 3) := by decide +kernel
theorem dX5_tripleAt_13 : decode cX5_tripleAt 13 = .ok (.aload_n 0, 1) := by decide +kernel
theorem dX5_tripleAt_14 : decode cX5_tripleAt 14 = .ok (.getfield 76, 3) := by decide +kernel
theorem dX5_tripleAt_17 : decode cX5_tripleAt 17 = .ok (.iload_n 1, 1) := by decide +kernel
theorem dX5_tripleAt_18 : decode cX5_tripleAt 18 = .ok (.iaload, 1) := by decide +kernel
theorem dX5_tripleAt_19 : decode cX5_tripleAt 19 = .ok (.iload_n 2, 1) := by decide +kernel
theorem dX5_tripleAt_20 : decode cX5_tripleAt 20 = .ok (.iadd, 1) := by decide +kernel
theorem dX5_tripleAt_21 : decode cX5_tripleAt 21 = .ok (.goto 4, 3) := by decide +kernel
theorem dX5_tripleAt_24 : decode cX5_tripleAt 24 = .ok (.iconst (-1), 1) := by decide +kernel
theorem dX5_tripleAt_25 : decode cX5_tripleAt 25 = .ok (.istore_n 3, 1) := by decide +kernel
theorem dX5_tripleAt_26 : decode cX5_tripleAt 26 = .ok (.iload_n 3, 1) := by decide +kernel
theorem dX5_tripleAt_27 : decode cX5_tripleAt 27 = .ok (.ifCond .lt 21, 3) := by decide +kernel
theorem dX5_tripleAt_30 : decode cX5_tripleAt 30 = .ok (.iload_n 3, 1) := by decide +kernel
theorem dX5_tripleAt_31 : decode cX5_tripleAt 31 = .ok (.aload_n 0, 1) := by decide +kernel
theorem dX5_tripleAt_32 : decode cX5_tripleAt 32 = .ok (.getfield 83, 3) := by decide +kernel
theorem dX5_tripleAt_35 : decode cX5_tripleAt 35 = .ok (.arraylength, 1) := by decide +kernel
theorem dX5_tripleAt_36 : decode cX5_tripleAt 36 = .ok (.if_icmp .ge 12, 3) := by decide +kernel
theorem dX5_tripleAt_39 : decode cX5_tripleAt 39 = .ok (.aload_n 0, 1) := by decide +kernel
theorem dX5_tripleAt_40 : decode cX5_tripleAt 40 = .ok (.getfield 83, 3) := by decide +kernel
theorem dX5_tripleAt_43 : decode cX5_tripleAt 43 = .ok (.iload_n 3, 1) := by decide +kernel
theorem dX5_tripleAt_44 : decode cX5_tripleAt 44 = .ok (.iaload, 1) := by decide +kernel
theorem dX5_tripleAt_45 : decode cX5_tripleAt 45 = .ok (.goto 4, 3) := by decide +kernel
theorem dX5_tripleAt_48 : decode cX5_tripleAt 48 = .ok (.iconst (-1), 1) := by decide +kernel
theorem dX5_tripleAt_49 : decode cX5_tripleAt 49 = .ok (.ireturn, 1) := by decide +kernel
def mwX5_tripleAt : List Cond := .code yX5_tripleAt cX5_tripleAt 4 (some .int) :: ([.fieldLink RX5 76 "PatternGate$Pattern" "starts" "[I", .fieldLink RX5 83 "PatternGate$Pattern" "triples" "[I"] ++ wsX50)
theorem fin_X5_tripleAt_X5 : ∀ w ∈ wsX50, w ∈ mwX5_tripleAt := fun w h => List.mem_cons_of_mem _ (List.mem_append_right _ h)
set_option maxHeartbeats 4000000 in
set_option maxRecDepth 100000 in
/-- Pattern.tripleAt -/
theorem s_tripleAt (l : Launch) (dC : Nat → ClassId) (dI : Nat → Nat → Nat) (pt : Nat) (q : Nat → Nat) (a0 a1 a2 a3 a4 a5 : Int32) (ns : Nat) (fs : Nat → Int32) (cS : ClassId) (nr : Nat) (fr : Nat → Int32) (cR : ClassId) (i k : Int32) (hs : ns ≤ 1000) (hr9 : nr ≤ 1000) : Met l yX5_tripleAt mwX5_tripleAt ({ frames := 0, cells := 0, slots := 0, locals := 0 }) (va_Pc [.ref pt, .int i, .int k] (fun U => va_P (dC, dI) vwCl ([(pt, .inr (5, pF q a0 a1 a2 a3 a4 a5)), (q 5, .inl (cS, ns, .inl fs)), (q 4, .inl (cR, nr, .inl fr))]) U.heap ∧ va_K (dC, dI) vwCl ([(cS, .int), (cR, .int)]) U)) (vp_Si (fun o => True)) 0 0 (fun _ => False) := by
  refine Met.ofW (cc := cX5_tripleAt) (maxL := 4) (ret := (some .int)) (by decide +kernel) rfl ?_
  intro p e s m args below meth c s₁ B hml hv
  obtain ⟨rfl, hP, hK⟩ := hv
  have hx := B.exec
  have hb := B.bytes
  have hr := B.returns
  have hts := atoms_spec (ws := mwX5_tripleAt) B.pre
  have hown : s.vm.findClass RX5 = some m.cls := findClass_of_methodNamed B.named
  have hlocks := B.notSynchronized
  have hP : va_P (dC, dI) vwCl [(pt, .inr (5, pF q a0 a1 a2 a3 a4 a5)), (q 5, .inl (cS, ns, .inl fs)), (q 4, .inl (cR, nr, .inl fr))] s.heap := hP
  have hK : va_K (dC, dI) vwCl [(cS, .int), (cR, .int)] s := hK
  generalize hH : s.heap = H at hP ⊢
  have hl := lv_entry ([.ref pt, .int i, .int k]) (n := 4) (Nat.le_of_ble_eq_true rfl)
  rw [lg_entry_eq]
  generalize (lg_sl ([.ref pt, .int i, .int k]) ++ List.replicate (4 - (lg_sl ([.ref pt, .int i, .int k])).length) Slot.unset).toArray = ls at hl ⊢
  have hl : lv_has ls 4 [(0, .ref pt), (1, .int i), (2, .int k)] := hl
  have rg_i := i_rng i
  have rg_k := i_rng k
  refine lv_iload_n hx hb dX5_tripleAt_0 rfl (lv_at hl 1 rfl) ?_
  refine lv_if_lt (tgt := 24) hx hb dX5_tripleAt_1 (by decide) (fun k_1 => ?_) (fun k_1 => ?_)
  · have tk_1 := c_lt (a := i.toInt) (b := 0) rfl (by decide) k_1
    refine lv_iconst (v := (-1)) hx hb dX5_tripleAt_24 (by decide) ?_
    refine lv_istore_n (lv' := [(3, .int (-1)), (0, .ref pt), (1, .int i), (2, .int k)]) hx hb dX5_tripleAt_25 rfl hl (by decide) rfl (fun ls hl => ?_)
    refine lv_iload_n hx hb dX5_tripleAt_26 rfl (lv_at hl 0 rfl) ?_
    refine lv_if_lt (tgt := 48) hx hb dX5_tripleAt_27 (by decide) (fun k_2 => ?_) (fun k_2 => absurd (by decide) k_2)
    have tk_2 := c_lt (a := (-1)) (b := 0) (by decide) (by decide) k_2
    refine lv_iconst (v := (-1)) hx hb dX5_tripleAt_48 (by decide) ?_
    exact W.iret hx hb hr (fun t ht hW => ⟨_, rfl, trivial, ht.trans hH.symm⟩) t_nil dX5_tripleAt_49
  · have tk_1 := c_nlt (a := i.toInt) (b := 0) rfl (by decide) k_1
    refine lv_iload_n hx hb dX5_tripleAt_4 rfl (lv_at hl 1 rfl) ?_
    refine lv_aload_n hx hb dX5_tripleAt_5 rfl (lv_at hl 0 rfl) ?_
    refine va_get (D := (dC, dI)) (ci := 5) (v := .ref (q 5)) (C := RX5) (T := TX5) (N := 13) hx hb hts fin_X5_tripleAt_X5 hown hK hP 0 rfl rfl 11 (by decide) (hts (.fieldLink RX5 76 "PatternGate$Pattern" "starts" "[I") (List.mem_of_getElem? (i := 1) (by decide +kernel))) (fun _ h9 => h9) rfl dX5_tripleAt_6 ?_
    refine va_alen hx hb hK hP 1 0 rfl rfl rfl dX5_tripleAt_9 ?_
    refine lv_topi (fun y_3 ey_3 => ?_)
    have ty_3 : y_3.toInt = (ns : Int) := i_len ey_3 (by omega)
    refine lv_icmp_ge (tgt := 24) hx hb dX5_tripleAt_10 (by decide) (fun k_4 => ?_) (fun k_4 => ?_)
    · have tk_4 := c_ge (a := i.toInt) (b := y_3.toInt) rfl rfl k_4
      refine lv_iconst (v := (-1)) hx hb dX5_tripleAt_24 (by decide) ?_
      refine lv_istore_n (lv' := [(3, .int (-1)), (0, .ref pt), (1, .int i), (2, .int k)]) hx hb dX5_tripleAt_25 rfl hl (by decide) rfl (fun ls hl => ?_)
      refine lv_iload_n hx hb dX5_tripleAt_26 rfl (lv_at hl 0 rfl) ?_
      refine lv_if_lt (tgt := 48) hx hb dX5_tripleAt_27 (by decide) (fun k_5 => ?_) (fun k_5 => absurd (by decide) k_5)
      have tk_5 := c_lt (a := (-1)) (b := 0) (by decide) (by decide) k_5
      refine lv_iconst (v := (-1)) hx hb dX5_tripleAt_48 (by decide) ?_
      exact W.iret hx hb hr (fun t ht hW => ⟨_, rfl, trivial, ht.trans hH.symm⟩) t_nil dX5_tripleAt_49
    · have tk_4 := c_nge (a := i.toInt) (b := y_3.toInt) rfl rfl k_4
      refine lv_aload_n hx hb dX5_tripleAt_13 rfl (lv_at hl 0 rfl) ?_
      refine va_get (D := (dC, dI)) (ci := 5) (v := .ref (q 5)) (C := RX5) (T := TX5) (N := 13) hx hb hts fin_X5_tripleAt_X5 hown hK hP 0 rfl rfl 11 (by decide) (hts (.fieldLink RX5 76 "PatternGate$Pattern" "starts" "[I") (List.mem_of_getElem? (i := 1) (by decide +kernel))) (fun _ h9 => h9) rfl dX5_tripleAt_14 ?_
      refine lv_iload_n hx hb dX5_tripleAt_17 rfl (lv_at hl 1 rfl) ?_
      refine va_iald hx hb hK hP 1 0 rfl rfl (i := i) (vp_of (a := i.toInt) rfl (by omega) (by omega)) dX5_tripleAt_18 ?_
      refine lv_topi (fun y_6 ey_6 => ?_)
      have rg_y_6 := i_rng y_6
      refine lv_iload_n hx hb dX5_tripleAt_19 rfl (lv_at hl 2 rfl) ?_
      refine lv_iadd hx hb dX5_tripleAt_20 ?_
      refine lv_topi (fun y_7 ey_7 => ?_)
      first | have ty_7 := i_add (a := y_6.toInt) (b := k.toInt) rfl rfl ey_7 (by omega) (by omega) | skip
      refine lv_goto (tgt := 25) hx hb dX5_tripleAt_21 (by decide) ?_
      refine lv_istore_n (lv' := [(3, .int y_7), (0, .ref pt), (1, .int i), (2, .int k)]) hx hb dX5_tripleAt_25 rfl hl (by decide) rfl (fun ls hl => ?_)
      refine lv_iload_n hx hb dX5_tripleAt_26 rfl (lv_at hl 0 rfl) ?_
      refine lv_if_lt (tgt := 48) hx hb dX5_tripleAt_27 (by decide) (fun k_8 => ?_) (fun k_8 => ?_)
      · have tk_8 := c_lt (a := y_7.toInt) (b := 0) rfl (by decide) k_8
        refine lv_iconst (v := (-1)) hx hb dX5_tripleAt_48 (by decide) ?_
        exact W.iret hx hb hr (fun t ht hW => ⟨_, rfl, trivial, ht.trans hH.symm⟩) t_nil dX5_tripleAt_49
      · have tk_8 := c_nlt (a := y_7.toInt) (b := 0) rfl (by decide) k_8
        refine lv_iload_n hx hb dX5_tripleAt_30 rfl (lv_at hl 0 rfl) ?_
        refine lv_aload_n hx hb dX5_tripleAt_31 rfl (lv_at hl 1 rfl) ?_
        refine va_get (D := (dC, dI)) (ci := 5) (v := .ref (q 4)) (C := RX5) (T := TX5) (N := 13) hx hb hts fin_X5_tripleAt_X5 hown hK hP 0 rfl rfl 10 (by decide) (hts (.fieldLink RX5 83 "PatternGate$Pattern" "triples" "[I") (List.mem_of_getElem? (i := 2) (by decide +kernel))) (fun _ h9 => h9) rfl dX5_tripleAt_32 ?_
        refine va_alen hx hb hK hP 2 1 rfl rfl rfl dX5_tripleAt_35 ?_
        refine lv_topi (fun y_9 ey_9 => ?_)
        have ty_9 : y_9.toInt = (nr : Int) := i_len ey_9 (by omega)
        refine lv_icmp_ge (tgt := 48) hx hb dX5_tripleAt_36 (by decide) (fun k_10 => ?_) (fun k_10 => ?_)
        · have tk_10 := c_ge (a := y_7.toInt) (b := y_9.toInt) rfl rfl k_10
          refine lv_iconst (v := (-1)) hx hb dX5_tripleAt_48 (by decide) ?_
          exact W.iret hx hb hr (fun t ht hW => ⟨_, rfl, trivial, ht.trans hH.symm⟩) t_nil dX5_tripleAt_49
        · have tk_10 := c_nge (a := y_7.toInt) (b := y_9.toInt) rfl rfl k_10
          refine lv_aload_n hx hb dX5_tripleAt_39 rfl (lv_at hl 1 rfl) ?_
          refine va_get (D := (dC, dI)) (ci := 5) (v := .ref (q 4)) (C := RX5) (T := TX5) (N := 13) hx hb hts fin_X5_tripleAt_X5 hown hK hP 0 rfl rfl 10 (by decide) (hts (.fieldLink RX5 83 "PatternGate$Pattern" "triples" "[I") (List.mem_of_getElem? (i := 2) (by decide +kernel))) (fun _ h9 => h9) rfl dX5_tripleAt_40 ?_
          refine lv_iload_n hx hb dX5_tripleAt_43 rfl (lv_at hl 0 rfl) ?_
          refine va_iald hx hb hK hP 2 1 rfl rfl (i := y_7) (vp_of (a := y_7.toInt) rfl (by omega) (by omega)) dX5_tripleAt_44 ?_
          refine lv_topi (fun y_11 ey_11 => ?_)
          have rg_y_11 := i_rng y_11
          refine lv_goto (tgt := 49) hx hb dX5_tripleAt_45 (by decide) ?_
          exact W.iret hx hb hr (fun t ht hW => ⟨_, rfl, trivial, ht.trans hH.symm⟩) t_nil dX5_tripleAt_49
theorem dX5_fits_0 : decode cX5_fits 0 = .ok (.aload_n 0, 1) := by decide +kernel
theorem dX5_fits_1 : decode cX5_fits 1 = .ok (.getfield 26, 3) := by decide +kernel
theorem dX5_fits_4 : decode cX5_fits 4 = .ok (.istore_n 2, 1) := by decide +kernel
theorem dX5_fits_5 : decode cX5_fits 5 = .ok (.iconst 0, 1) := by decide +kernel
theorem dX5_fits_6 : decode cX5_fits 6 = .ok (.istore_n 3, 1) := by decide +kernel
theorem dX5_fits_7 : decode cX5_fits 7 = .ok (.iconst 0, 1) := by decide +kernel
theorem dX5_fits_8 : decode cX5_fits 8 = .ok (.istore 4, 2) := by decide +kernel
theorem dX5_fits_10 : decode cX5_fits 10 = .ok (.iload 4, 2) := by decide +kernel
theorem dX5_fits_12 : decode cX5_fits 12 = .ok (.aload_n 1, 1) := by decide +kernel
theorem dX5_fits_13 : decode cX5_fits 13 = .ok (.getfield 100, 3) := by decide +kernel
theorem dX5_fits_16 : decode cX5_fits 16 = .ok (.arraylength, 1) := by decide +kernel
theorem dX5_fits_17 : decode cX5_fits 17 = .ok (.if_icmp .ge 51, 3) := by decide +kernel
theorem dX5_fits_20 : decode cX5_fits 20 = .ok (.iload_n 2, 1) := by decide +kernel
theorem dX5_fits_21 : decode cX5_fits 21 = .ok (.ifCond .ne 47, 3) := by decide +kernel
theorem dX5_fits_24 : decode cX5_fits 24 = .ok (.aload_n 0, 1) := by decide +kernel
theorem dX5_fits_25 : decode cX5_fits 25 = .ok (.getfield 34, 3) := by decide +kernel
theorem dX5_fits_28 : decode cX5_fits 28 = .ok (.aload_n 0, 1) := by decide +kernel
theorem dX5_fits_29 : decode cX5_fits 29 = .ok (.iload_n 3, 1) := by decide +kernel
theorem dX5_fits_30 : decode cX5_fits 30 = .ok (.invokevirtual 105, 3) := by decide +kernel
theorem dX5_fits_33 : decode cX5_fits 33 = .ok (.ior, 1) := by decide +kernel
theorem dX5_fits_34 : decode cX5_fits 34 = .ok (.aload_n 0, 1) := by decide +kernel
theorem dX5_fits_35 : decode cX5_fits 35 = .ok (.aload_n 1, 1) := by decide +kernel
theorem dX5_fits_36 : decode cX5_fits 36 = .ok (.getfield 100, 3) := by decide +kernel
theorem dX5_fits_39 : decode cX5_fits 39 = .ok (.iload 4, 2) := by decide +kernel
theorem dX5_fits_41 : decode cX5_fits 41 = .ok (.iaload, 1) := by decide +kernel
theorem dX5_fits_42 : decode cX5_fits 42 = .ok (.invokevirtual 109, 3) := by decide +kernel
theorem dX5_fits_45 : decode cX5_fits 45 = .ok (.iand, 1) := by decide +kernel
theorem dX5_fits_46 : decode cX5_fits 46 = .ok (.istore_n 3, 1) := by decide +kernel
theorem dX5_fits_47 : decode cX5_fits 47 = .ok (.iload_n 3, 1) := by decide +kernel
theorem dX5_fits_48 : decode cX5_fits 48 = .ok (.aload_n 0, 1) := by decide +kernel
theorem dX5_fits_49 : decode cX5_fits 49 = .ok (.getfield 38, 3) := by decide +kernel
theorem dX5_fits_52 : decode cX5_fits 52 = .ok (.iand, 1) := by decide +kernel
theorem dX5_fits_53 : decode cX5_fits 53 = .ok (.ifCond .eq 7, 3) := by decide +kernel
theorem dX5_fits_56 : decode cX5_fits 56 = .ok (.iconst 1, 1) := by decide +kernel
theorem dX5_fits_57 : decode cX5_fits 57 = .ok (.goto 4, 3) := by decide +kernel
theorem dX5_fits_60 : decode cX5_fits 60 = .ok (.iconst 0, 1) := by decide +kernel
theorem dX5_fits_61 : decode cX5_fits 61 = .ok (.istore_n 2, 1) := by decide +kernel
theorem dX5_fits_62 : decode cX5_fits 62 = .ok (.iinc 4 1, 3) := by decide +kernel
theorem dX5_fits_65 : decode cX5_fits 65 = .ok (.goto (-55), 3) := by decide +kernel
theorem dX5_fits_68 : decode cX5_fits 68 = .ok (.iload_n 2, 1) := by decide +kernel
theorem dX5_fits_69 : decode cX5_fits 69 = .ok (.ireturn, 1) := by decide +kernel
def mwX5_fits : List Cond := .code yX5_fits cX5_fits 5 (some .boolean) :: ([.fieldLink RX5 26 "PatternGate$Pattern" "canBeEmpty" "Z", .fieldLink RX5 100 "PatternGate$Doc" "letters" "[I", .fieldLink RX5 34 "PatternGate$Pattern" "first" "I", .code yX5_followersOf cX5_followersOf 4 (some .int), .fieldLink RX5 39 "PatternGate$Pattern" "follow" "[I", .methodLink RX5 105 yX5_followersOf, .instanceMethod yX5_followersOf, .selects RX5 yX5_followersOf yX5_followersOf, .initialized RX5, .code yX5_takersOf cX5_takersOf 2 (some .int), .fieldLink RX5 42 "PatternGate$Pattern" "takers" "[I", .methodLink RX5 109 yX5_takersOf, .instanceMethod yX5_takersOf, .selects RX5 yX5_takersOf yX5_takersOf, .fieldLink RX5 38 "PatternGate$Pattern" "last" "I"] ++ wsX50 ++ wsX20)
theorem fin_X5_fits_X2 : ∀ w ∈ wsX20, w ∈ mwX5_fits := fun w h => List.mem_cons_of_mem _ (List.mem_append_right _ h)
theorem fin_X5_fits_X5 : ∀ w ∈ wsX50, w ∈ mwX5_fits := fun w h => List.mem_cons_of_mem _ (List.mem_append_left _ (List.mem_append_right _ h))
set_option maxRecDepth 20000 in
theorem mg_X5_fits_X5_followersOf_105 : GoodIn mwX5_fits (wsV RX5 105 RX5 yX5_followersOf mwX5_followersOf) := goodIn_r _ [6, 7, 8, 9, 4, 5, 16, 17, 18, 19, 20, 21, 22, 23, 24, 25, 26, 27, 28] (by decide +kernel) (by decide +kernel)
set_option maxRecDepth 20000 in
theorem mg_X5_fits_X5_takersOf_109 : GoodIn mwX5_fits (wsV RX5 109 RX5 yX5_takersOf mwX5_takersOf) := goodIn_r _ [12, 13, 14, 9, 10, 11, 16, 17, 18, 19, 20, 21, 22, 23, 24, 25, 26, 27, 28] (by decide +kernel) (by decide +kernel)
set_option maxHeartbeats 4000000 in
set_option maxRecDepth 100000 in
/-- Pattern.fits -/
theorem s_fits (l : Launch) (dC : Nat → ClassId) (dI : Nat → Nat → Nat) (pt : Nat) (q : Nat → Nat) (a0 a1 a2 a3 a4 a5 : Int32) (nf : Nat) (ff : Nat → Int32) (cF : ClassId) (nk : Nat) (fk : Nat → Int32) (cK : ClassId) (d la ta mm : Nat) (fl : Nat → Int32) (cI : ClassId) (hf : nf ≤ 1000) (hk : nk ≤ 1000) (hm : mm ≤ 1000) (h1 : a1 = 0 ∨ a1 = 1) : Met l yX5_fits mwX5_fits ({ frames := 1, cells := 0, slots := 0, locals := 60 }) (va_Pc [.ref pt, .ref d] (fun U => va_P (dC, dI) vwCl ([(pt, .inr (5, pF q a0 a1 a2 a3 a4 a5)), (q 1, .inl (cF, nf, .inl ff)), (q 2, .inl (cK, nk, .inl fk)), (d, .inr (2, [.ref la, .ref ta])), (la, .inl (cI, mm, .inl fl))]) U.heap ∧ va_K (dC, dI) vwCl ([(cF, .int), (cK, .int), (cI, .int)]) U)) (vp_Si (fun o => o = 0 ∨ o = 1)) 0 0 (fun _ => False) := by
  refine Met.ofW (cc := cX5_fits) (maxL := 5) (ret := (some .boolean)) (by decide +kernel) rfl ?_
  intro p e s m args below meth c s₁ B hml hv
  obtain ⟨rfl, hP, hK⟩ := hv
  have hx := B.exec
  have hb := B.bytes
  have hr := B.returns
  have hts := atoms_spec (ws := mwX5_fits) B.pre
  have hown : s.vm.findClass RX5 = some m.cls := findClass_of_methodNamed B.named
  have hlocks := B.notSynchronized
  have hP : va_P (dC, dI) vwCl [(pt, .inr (5, pF q a0 a1 a2 a3 a4 a5)), (q 1, .inl (cF, nf, .inl ff)), (q 2, .inl (cK, nk, .inl fk)), (d, .inr (2, [.ref la, .ref ta])), (la, .inl (cI, mm, .inl fl))] s.heap := hP
  have hK : va_K (dC, dI) vwCl [(cF, .int), (cK, .int), (cI, .int)] s := hK
  generalize hH : s.heap = H at hP ⊢
  have hl := lv_entry ([.ref pt, .ref d]) (n := 5) (Nat.le_of_ble_eq_true rfl)
  rw [lg_entry_eq]
  generalize (lg_sl ([.ref pt, .ref d]) ++ List.replicate (5 - (lg_sl ([.ref pt, .ref d])).length) Slot.unset).toArray = ls at hl ⊢
  have hl : lv_has ls 5 [(0, .ref pt), (1, .ref d)] := hl
  refine lv_aload_n hx hb dX5_fits_0 rfl (lv_at hl 0 rfl) ?_
  refine va_get (D := (dC, dI)) (ci := 5) (v := .int a1) (C := RX5) (T := TX5) (N := 13) hx hb hts fin_X5_fits_X5 hown hK hP 0 rfl rfl 2 (by decide) (hts (.fieldLink RX5 26 "PatternGate$Pattern" "canBeEmpty" "Z") (List.mem_of_getElem? (i := 1) (by decide +kernel))) (fun _ h9 => h9) rfl dX5_fits_1 ?_
  refine lv_istore_n (lv' := [(2, .int a1), (0, .ref pt), (1, .ref d)]) hx hb dX5_fits_4 rfl hl (by decide) rfl (fun ls hl => ?_)
  refine lv_iconst (v := 0) hx hb dX5_fits_5 (by decide) ?_
  refine lv_istore_n (lv' := [(3, .int 0), (2, .int a1), (0, .ref pt), (1, .ref d)]) hx hb dX5_fits_6 rfl hl (by decide) rfl (fun ls hl => ?_)
  refine lv_iconst (v := 0) hx hb dX5_fits_7 (by decide) ?_
  refine lv_istore (lv' := [(4, .int 0), (3, .int 0), (2, .int a1), (0, .ref pt), (1, .ref d)]) hx hb dX5_fits_8 hl (by decide) rfl (fun ls hl => ?_)
  have loop10 : ∀ (n10 : Nat) (fo sp ii : Int32), (fo = 0 ∨ fo = 1) → (0 ≤ ii.toInt) → (((mm : Int) - ii.toInt).toNat) < n10 → ∀ (ls : Array Slot), lv_has ls 5 [(4, .int ii), (3, .int sp), (2, .int fo), (0, .ref pt), (1, .ref d)] → W p l e (headSpec mwX5_fits ({ frames := 1, cells := 0, slots := 0, locals := 60 })).room s m ([.ref pt, .ref d]).toArray below meth c H [] 0 0 (MQ below (vp_Si (fun o => o = 0 ∨ o = 1)) ([.ref pt, .ref d]).toArray s 0 0 (fun _ => False)) (F0 m 10 ls []) := by
    intro n10
    induction n10 with
    | zero => intro fo sp ii v10_0 v10_1 hm10; exact absurd hm10 (Nat.not_lt_zero _)
    | succ n10 ih10 =>
      intro fo sp ii v10_0 v10_1 hm10 ls hl
      have rg_fo := i_rng fo
      have rg_sp := i_rng sp
      have rg_ii := i_rng ii
      refine lv_iload hx hb dX5_fits_10 (lv_at hl 0 rfl) ?_
      refine lv_aload_n hx hb dX5_fits_12 rfl (lv_at hl 4 rfl) ?_
      refine va_get (D := (dC, dI)) (ci := 2) (v := .ref la) (C := RX2) (T := TX2) (N := 2) hx hb hts fin_X5_fits_X2 hown hK hP 3 rfl rfl 0 (by decide) (hts (.fieldLink RX5 100 "PatternGate$Doc" "letters" "[I") (List.mem_of_getElem? (i := 2) (by decide +kernel))) (fun _ h9 => h9) rfl dX5_fits_13 ?_
      refine va_alen hx hb hK hP 4 2 rfl rfl rfl dX5_fits_16 ?_
      refine lv_topi (fun y_1 ey_1 => ?_)
      have ty_1 : y_1.toInt = (mm : Int) := i_len ey_1 (by omega)
      refine lv_icmp_ge (tgt := 68) hx hb dX5_fits_17 (by decide) (fun k_2 => ?_) (fun k_2 => ?_)
      · have tk_2 := c_ge (a := ii.toInt) (b := y_1.toInt) rfl rfl k_2
        refine lv_iload_n hx hb dX5_fits_68 rfl (lv_at hl 2 rfl) ?_
        exact W.zret hx hb hr (z_nar (by first | assumption | decide)) (fun t ht hW => ⟨_, rfl, by first | assumption | decide, ht.trans hH.symm⟩) t_nil dX5_fits_69
      · have tk_2 := c_nge (a := ii.toInt) (b := y_1.toInt) rfl rfl k_2
        refine lv_iload_n hx hb dX5_fits_20 rfl (lv_at hl 2 rfl) ?_
        refine lv_if_ne (tgt := 68) hx hb dX5_fits_21 (by decide) (fun k_3 => ?_) (fun k_3 => ?_)
        · have tk_3 := c_ne (a := fo.toInt) (b := 0) rfl (by decide) k_3
          refine lv_iload_n hx hb dX5_fits_68 rfl (lv_at hl 2 rfl) ?_
          exact W.zret hx hb hr (z_nar (by first | assumption | decide)) (fun t ht hW => ⟨_, rfl, by first | assumption | decide, ht.trans hH.symm⟩) t_nil dX5_fits_69
        · have tk_3 := c_eq (a := fo.toInt) (b := 0) rfl (by decide) k_3
          refine lv_aload_n hx hb dX5_fits_24 rfl (lv_at hl 3 rfl) ?_
          refine va_get (D := (dC, dI)) (ci := 5) (v := .int a3) (C := RX5) (T := TX5) (N := 13) hx hb hts fin_X5_fits_X5 hown hK hP 0 rfl rfl 4 (by decide) (hts (.fieldLink RX5 34 "PatternGate$Pattern" "first" "I") (List.mem_of_getElem? (i := 3) (by decide +kernel))) (fun _ h9 => h9) rfl dX5_fits_25 ?_
          refine lv_aload_n hx hb dX5_fits_28 rfl (lv_at hl 3 rfl) ?_
          refine lv_iload_n hx hb dX5_fits_29 rfl (lv_at hl 1 rfl) ?_
          have hPc := hP.sub (ws' := [(pt, .inr (5, pF q a0 a1 a2 a3 a4 a5)), (q 1, .inl (cF, nf, .inl ff))]) [0, 1] rfl
          have hKc := hK.sub (tys' := [(cF, .int)]) [0] rfl
          refine vp_callSi (W.runV (As := [.int sp]) (rest := [.int a3]) ⟨hx, hb, hml, hown, hts⟩ (s_followersOf l dC dI pt q a0 a1 a2 a3 a4 a5 nf ff cF sp (by omega)) (cwV 1 hts mg_X5_fits_X5_followersOf_105 rfl rfl rfl (by decide +kernel) ⟨Nat.le_of_ble_eq_true rfl, Nat.le_of_ble_eq_true rfl⟩) ⟨fun a U g mk q => by obtain ⟨q0, qP, qK⟩ := q; exact ⟨q0, qP, va_K.moved (u := U) (U := U.calling g mk a) (Vm.Alike.refl U.vm) qK⟩, va_recv hKc hPc (ci := 5) (q0 := 0) rfl rfl, fun U hU hW => ⟨rfl, by rw [hU]; exact hPc, va_K.moved hW.alike hKc⟩⟩ rfl rfl hl.1 rfl (lv_room (Nat.le_of_ble_eq_true rfl)) dX5_fits_30 ⟨Nat.le_of_ble_eq_true rfl, Nat.le_of_ble_eq_true rfl⟩) (fun r_5 hw => ?_)
          refine lv_ior hx hb dX5_fits_33 ?_
          refine lv_topi (fun y_6 ey_6 => ?_)
          have rg_y_6 := i_rng y_6
          refine lv_aload_n hx hb dX5_fits_34 rfl (lv_at hl 3 rfl) ?_
          refine lv_aload_n hx hb dX5_fits_35 rfl (lv_at hl 4 rfl) ?_
          refine va_get (D := (dC, dI)) (ci := 2) (v := .ref la) (C := RX2) (T := TX2) (N := 2) hx hb hts fin_X5_fits_X2 hown hK hP 3 rfl rfl 0 (by decide) (hts (.fieldLink RX5 100 "PatternGate$Doc" "letters" "[I") (List.mem_of_getElem? (i := 2) (by decide +kernel))) (fun _ h9 => h9) rfl dX5_fits_36 ?_
          refine lv_iload hx hb dX5_fits_39 (lv_at hl 0 rfl) ?_
          refine va_iald hx hb hK hP 4 2 rfl rfl (i := ii) (vp_of (a := ii.toInt) rfl (by omega) (by omega)) dX5_fits_41 ?_
          refine lv_topi (fun y_7 ey_7 => ?_)
          have rg_y_7 := i_rng y_7
          have hPc := hP.sub (ws' := [(pt, .inr (5, pF q a0 a1 a2 a3 a4 a5)), (q 2, .inl (cK, nk, .inl fk))]) [0, 2] rfl
          have hKc := hK.sub (tys' := [(cK, .int)]) [1] rfl
          refine vp_callSi (W.runV (As := [.int y_7]) (rest := [.int y_6]) ⟨hx, hb, hml, hown, hts⟩ (s_takersOf l dC dI pt q a0 a1 a2 a3 a4 a5 nk fk cK y_7 (by omega)) (cwV 1 hts mg_X5_fits_X5_takersOf_109 rfl rfl rfl (by decide +kernel) ⟨Nat.le_of_ble_eq_true rfl, Nat.le_of_ble_eq_true rfl⟩) ⟨fun a U g mk q => by obtain ⟨q0, qP, qK⟩ := q; exact ⟨q0, qP, va_K.moved (u := U) (U := U.calling g mk a) (Vm.Alike.refl U.vm) qK⟩, va_recv hKc hPc (ci := 5) (q0 := 0) rfl rfl, fun U hU hW => ⟨rfl, by rw [hU]; exact hPc, va_K.moved hW.alike hKc⟩⟩ rfl rfl hl.1 rfl (lv_room (Nat.le_of_ble_eq_true rfl)) dX5_fits_42 ⟨Nat.le_of_ble_eq_true rfl, Nat.le_of_ble_eq_true rfl⟩) (fun r_9 hw => ?_)
          refine lv_iand hx hb dX5_fits_45 ?_
          refine lv_topi (fun y_10 ey_10 => ?_)
          have rg_y_10 := i_rng y_10
          refine lv_istore_n (lv' := [(3, .int y_10), (4, .int ii), (2, .int fo), (0, .ref pt), (1, .ref d)]) hx hb dX5_fits_46 rfl hl (by decide) rfl (fun ls hl => ?_)
          refine lv_iload_n hx hb dX5_fits_47 rfl (lv_at hl 0 rfl) ?_
          refine lv_aload_n hx hb dX5_fits_48 rfl (lv_at hl 3 rfl) ?_
          refine va_get (D := (dC, dI)) (ci := 5) (v := .int a4) (C := RX5) (T := TX5) (N := 13) hx hb hts fin_X5_fits_X5 hown hK hP 0 rfl rfl 5 (by decide) (hts (.fieldLink RX5 38 "PatternGate$Pattern" "last" "I") (List.mem_of_getElem? (i := 15) (by decide +kernel))) (fun _ h9 => h9) rfl dX5_fits_49 ?_
          refine lv_iand hx hb dX5_fits_52 ?_
          refine lv_topi (fun y_11 ey_11 => ?_)
          have rg_y_11 := i_rng y_11
          refine lv_if_eq (tgt := 60) hx hb dX5_fits_53 (by decide) (fun k_12 => ?_) (fun k_12 => ?_)
          · have tk_12 := c_eq (a := y_11.toInt) (b := 0) rfl (by decide) k_12
            refine lv_iconst (v := 0) hx hb dX5_fits_60 (by decide) ?_
            refine lv_istore_n (lv' := [(2, .int 0), (3, .int y_10), (4, .int ii), (0, .ref pt), (1, .ref d)]) hx hb dX5_fits_61 rfl hl (by decide) rfl (fun ls hl => ?_)
            obtain ⟨y_13, ey_13⟩ : ∃ y : Int32, y = ii + 1 := ⟨_, rfl⟩
            first | have ty_13 := i_add (a := ii.toInt) (b := 1) rfl (by decide) ey_13 (by omega) (by omega) | skip
            refine lv_iinc (v := y_13) (lv' := [(4, .int y_13), (2, .int 0), (3, .int y_10), (0, .ref pt), (1, .ref d)]) hx hb dX5_fits_62 hl (k := 2) rfl (by rw [ey_13]; rfl) (by decide) rfl (fun ls hl => ?_)
            refine lv_goto (tgt := 10) hx hb dX5_fits_65 (by decide) ?_
            have lit_13 : (0 : Int32).toInt = 0 := by decide
            exact ih10 0 y_10 y_13 (by first | omega | decide | assumption) (by first | omega | decide | assumption) (by omega) ls (lv_sub hl [0, 2, 1, 3, 4] rfl)
          · have tk_12 := c_ne (a := y_11.toInt) (b := 0) rfl (by decide) k_12
            refine lv_iconst (v := 1) hx hb dX5_fits_56 (by decide) ?_
            refine lv_goto (tgt := 61) hx hb dX5_fits_57 (by decide) ?_
            refine lv_istore_n (lv' := [(2, .int 1), (3, .int y_10), (4, .int ii), (0, .ref pt), (1, .ref d)]) hx hb dX5_fits_61 rfl hl (by decide) rfl (fun ls hl => ?_)
            obtain ⟨y_15, ey_15⟩ : ∃ y : Int32, y = ii + 1 := ⟨_, rfl⟩
            first | have ty_15 := i_add (a := ii.toInt) (b := 1) rfl (by decide) ey_15 (by omega) (by omega) | skip
            refine lv_iinc (v := y_15) (lv' := [(4, .int y_15), (2, .int 1), (3, .int y_10), (0, .ref pt), (1, .ref d)]) hx hb dX5_fits_62 hl (k := 2) rfl (by rw [ey_15]; rfl) (by decide) rfl (fun ls hl => ?_)
            refine lv_goto (tgt := 10) hx hb dX5_fits_65 (by decide) ?_
            have lit_15 : (1 : Int32).toInt = 1 := by decide
            exact ih10 1 y_10 y_15 (by first | omega | decide | assumption) (by first | omega | decide | assumption) (by omega) ls (lv_sub hl [0, 2, 1, 3, 4] rfl)
  have lit_16 : (0 : Int32).toInt = 0 := by decide
  have lit_17 : (0 : Int32).toInt = 0 := by decide
  exact loop10 _ a1 0 0 (by first | omega | decide | assumption) (by first | omega | decide | assumption) (Nat.lt_succ_self _) ls (lv_sub hl [0, 1, 2, 3, 4] rfl)
theorem dX5_aliveBehind_0 : decode cX5_aliveBehind 0 = .ok (.iconst 0, 1) := by decide +kernel
theorem dX5_aliveBehind_1 : decode cX5_aliveBehind 1 = .ok (.istore_n 3, 1) := by decide +kernel
theorem dX5_aliveBehind_2 : decode cX5_aliveBehind 2 = .ok (.iconst 0, 1) := by decide +kernel
theorem dX5_aliveBehind_3 : decode cX5_aliveBehind 3 = .ok (.istore 4, 2) := by decide +kernel
theorem dX5_aliveBehind_5 : decode cX5_aliveBehind 5 = .ok (.iload 4, 2) := by decide +kernel
theorem dX5_aliveBehind_7 : decode cX5_aliveBehind 7 = .ok (.iload_n 2, 1) := by decide +kernel
theorem dX5_aliveBehind_8 : decode cX5_aliveBehind 8 = .ok (.if_icmp .gt 42, 3) := by decide +kernel
theorem dX5_aliveBehind_11 : decode cX5_aliveBehind 11 = .ok (.iload 4, 2) := by decide +kernel
theorem dX5_aliveBehind_13 : decode cX5_aliveBehind 13 = .ok (.aload_n 1, 1) := by decide +kernel
theorem dX5_aliveBehind_14 : decode cX5_aliveBehind 14 = .ok (.getfield 100, 3) := by decide +kernel
theorem dX5_aliveBehind_17 : decode cX5_aliveBehind 17 = .ok (.arraylength, 1) := by decide +kernel
theorem dX5_aliveBehind_18 : decode cX5_aliveBehind 18 = .ok (.if_icmp .ge 32, 3) := by decide +kernel
theorem dX5_aliveBehind_21 : decode cX5_aliveBehind 21 = .ok (.aload_n 0, 1) := by decide +kernel
theorem dX5_aliveBehind_22 : decode cX5_aliveBehind 22 = .ok (.getfield 34, 3) := by decide +kernel
theorem dX5_aliveBehind_25 : decode cX5_aliveBehind 25 = .ok (.aload_n 0, 1) := by decide +kernel
theorem dX5_aliveBehind_26 : decode cX5_aliveBehind 26 = .ok (.iload_n 3, 1) := by decide +kernel
theorem dX5_aliveBehind_27 : decode cX5_aliveBehind 27 = .ok (.invokevirtual 105, 3) := by decide +kernel
theorem dX5_aliveBehind_30 : decode cX5_aliveBehind 30 = .ok (.ior, 1) := by decide +kernel
theorem dX5_aliveBehind_31 : decode cX5_aliveBehind 31 = .ok (.aload_n 0, 1) := by decide +kernel
theorem dX5_aliveBehind_32 : decode cX5_aliveBehind 32 = .ok (.aload_n 1, 1) := by decide +kernel
theorem dX5_aliveBehind_33 : decode cX5_aliveBehind 33 = .ok (.getfield 100, 3) := by decide +kernel
theorem dX5_aliveBehind_36 : decode cX5_aliveBehind 36 = .ok (.iload 4, 2) := by decide +kernel
theorem dX5_aliveBehind_38 : decode cX5_aliveBehind 38 = .ok (.iaload, 1) := by decide +kernel
theorem dX5_aliveBehind_39 : decode cX5_aliveBehind 39 = .ok (.invokevirtual 109, 3) := by decide +kernel
theorem dX5_aliveBehind_42 : decode cX5_aliveBehind 42 = .ok (.iand, 1) := by decide +kernel
theorem dX5_aliveBehind_43 : decode cX5_aliveBehind 43 = .ok (.istore_n 3, 1) := by decide +kernel
theorem dX5_aliveBehind_44 : decode cX5_aliveBehind 44 = .ok (.iinc 4 1, 3) := by decide +kernel
theorem dX5_aliveBehind_47 : decode cX5_aliveBehind 47 = .ok (.goto (-42), 3) := by decide +kernel
theorem dX5_aliveBehind_50 : decode cX5_aliveBehind 50 = .ok (.iload_n 3, 1) := by decide +kernel
theorem dX5_aliveBehind_51 : decode cX5_aliveBehind 51 = .ok (.ireturn, 1) := by decide +kernel
def mwX5_aliveBehind : List Cond := .code yX5_aliveBehind cX5_aliveBehind 5 (some .int) :: ([.fieldLink RX5 100 "PatternGate$Doc" "letters" "[I", .fieldLink RX5 34 "PatternGate$Pattern" "first" "I", .code yX5_followersOf cX5_followersOf 4 (some .int), .fieldLink RX5 39 "PatternGate$Pattern" "follow" "[I", .methodLink RX5 105 yX5_followersOf, .instanceMethod yX5_followersOf, .selects RX5 yX5_followersOf yX5_followersOf, .initialized RX5, .code yX5_takersOf cX5_takersOf 2 (some .int), .fieldLink RX5 42 "PatternGate$Pattern" "takers" "[I", .methodLink RX5 109 yX5_takersOf, .instanceMethod yX5_takersOf, .selects RX5 yX5_takersOf yX5_takersOf] ++ wsX20 ++ wsX50)
theorem fin_X5_aliveBehind_X2 : ∀ w ∈ wsX20, w ∈ mwX5_aliveBehind := fun w h => List.mem_cons_of_mem _ (List.mem_append_left _ (List.mem_append_right _ h))
theorem fin_X5_aliveBehind_X5 : ∀ w ∈ wsX50, w ∈ mwX5_aliveBehind := fun w h => List.mem_cons_of_mem _ (List.mem_append_right _ h)
set_option maxRecDepth 20000 in
theorem mg_X5_aliveBehind_X5_followersOf_105 : GoodIn mwX5_aliveBehind (wsV RX5 105 RX5 yX5_followersOf mwX5_followersOf) := goodIn_r _ [5, 6, 7, 8, 3, 4, 16, 17, 18, 19, 20, 21, 22, 23, 24, 25, 26, 27, 28] (by decide +kernel) (by decide +kernel)
set_option maxRecDepth 20000 in
theorem mg_X5_aliveBehind_X5_takersOf_109 : GoodIn mwX5_aliveBehind (wsV RX5 109 RX5 yX5_takersOf mwX5_takersOf) := goodIn_r _ [11, 12, 13, 8, 9, 10, 16, 17, 18, 19, 20, 21, 22, 23, 24, 25, 26, 27, 28] (by decide +kernel) (by decide +kernel)
set_option maxHeartbeats 4000000 in
set_option maxRecDepth 100000 in
/-- Pattern.aliveBehind -/
theorem s_aliveBehind (l : Launch) (dC : Nat → ClassId) (dI : Nat → Nat → Nat) (pt : Nat) (q : Nat → Nat) (a0 a1 a2 a3 a4 a5 : Int32) (nf : Nat) (ff : Nat → Int32) (cF : ClassId) (nk : Nat) (fk : Nat → Int32) (cK : ClassId) (d la ta mm : Nat) (fl : Nat → Int32) (cI : ClassId) (i : Int32) (hf : nf ≤ 1000) (hk : nk ≤ 1000) (hm : mm ≤ 1000) : Met l yX5_aliveBehind mwX5_aliveBehind ({ frames := 1, cells := 0, slots := 0, locals := 60 }) (va_Pc [.ref pt, .ref d, .int i] (fun U => va_P (dC, dI) vwCl ([(pt, .inr (5, pF q a0 a1 a2 a3 a4 a5)), (q 1, .inl (cF, nf, .inl ff)), (q 2, .inl (cK, nk, .inl fk)), (d, .inr (2, [.ref la, .ref ta])), (la, .inl (cI, mm, .inl fl))]) U.heap ∧ va_K (dC, dI) vwCl ([(cF, .int), (cK, .int), (cI, .int)]) U)) (vp_Si (fun o => True)) 0 0 (fun _ => False) := by
  refine Met.ofW (cc := cX5_aliveBehind) (maxL := 5) (ret := (some .int)) (by decide +kernel) rfl ?_
  intro p e s m args below meth c s₁ B hml hv
  obtain ⟨rfl, hP, hK⟩ := hv
  have hx := B.exec
  have hb := B.bytes
  have hr := B.returns
  have hts := atoms_spec (ws := mwX5_aliveBehind) B.pre
  have hown : s.vm.findClass RX5 = some m.cls := findClass_of_methodNamed B.named
  have hlocks := B.notSynchronized
  have hP : va_P (dC, dI) vwCl [(pt, .inr (5, pF q a0 a1 a2 a3 a4 a5)), (q 1, .inl (cF, nf, .inl ff)), (q 2, .inl (cK, nk, .inl fk)), (d, .inr (2, [.ref la, .ref ta])), (la, .inl (cI, mm, .inl fl))] s.heap := hP
  have hK : va_K (dC, dI) vwCl [(cF, .int), (cK, .int), (cI, .int)] s := hK
  generalize hH : s.heap = H at hP ⊢
  have hl := lv_entry ([.ref pt, .ref d, .int i]) (n := 5) (Nat.le_of_ble_eq_true rfl)
  rw [lg_entry_eq]
  generalize (lg_sl ([.ref pt, .ref d, .int i]) ++ List.replicate (5 - (lg_sl ([.ref pt, .ref d, .int i])).length) Slot.unset).toArray = ls at hl ⊢
  have hl : lv_has ls 5 [(0, .ref pt), (1, .ref d), (2, .int i)] := hl
  have rg_i := i_rng i
  refine lv_iconst (v := 0) hx hb dX5_aliveBehind_0 (by decide) ?_
  refine lv_istore_n (lv' := [(3, .int 0), (0, .ref pt), (1, .ref d), (2, .int i)]) hx hb dX5_aliveBehind_1 rfl hl (by decide) rfl (fun ls hl => ?_)
  refine lv_iconst (v := 0) hx hb dX5_aliveBehind_2 (by decide) ?_
  refine lv_istore (lv' := [(4, .int 0), (3, .int 0), (0, .ref pt), (1, .ref d), (2, .int i)]) hx hb dX5_aliveBehind_3 hl (by decide) rfl (fun ls hl => ?_)
  have loop5 : ∀ (n5 : Nat) (sp ii : Int32), (0 ≤ ii.toInt) → (((mm : Int) - ii.toInt).toNat) < n5 → ∀ (ls : Array Slot), lv_has ls 5 [(4, .int ii), (3, .int sp), (0, .ref pt), (1, .ref d), (2, .int i)] → W p l e (headSpec mwX5_aliveBehind ({ frames := 1, cells := 0, slots := 0, locals := 60 })).room s m ([.ref pt, .ref d, .int i]).toArray below meth c H [] 0 0 (MQ below (vp_Si (fun o => True)) ([.ref pt, .ref d, .int i]).toArray s 0 0 (fun _ => False)) (F0 m 5 ls []) := by
    intro n5
    induction n5 with
    | zero => intro sp ii v5_0 hm5; exact absurd hm5 (Nat.not_lt_zero _)
    | succ n5 ih5 =>
      intro sp ii v5_0 hm5 ls hl
      have rg_sp := i_rng sp
      have rg_ii := i_rng ii
      refine lv_iload hx hb dX5_aliveBehind_5 (lv_at hl 0 rfl) ?_
      refine lv_iload_n hx hb dX5_aliveBehind_7 rfl (lv_at hl 4 rfl) ?_
      refine lv_icmp_gt (tgt := 50) hx hb dX5_aliveBehind_8 (by decide) (fun k_1 => ?_) (fun k_1 => ?_)
      · have tk_1 := c_gt (a := ii.toInt) (b := i.toInt) rfl rfl k_1
        refine lv_iload_n hx hb dX5_aliveBehind_50 rfl (lv_at hl 1 rfl) ?_
        exact W.iret hx hb hr (fun t ht hW => ⟨_, rfl, trivial, ht.trans hH.symm⟩) t_nil dX5_aliveBehind_51
      · have tk_1 := c_ngt (a := ii.toInt) (b := i.toInt) rfl rfl k_1
        refine lv_iload hx hb dX5_aliveBehind_11 (lv_at hl 0 rfl) ?_
        refine lv_aload_n hx hb dX5_aliveBehind_13 rfl (lv_at hl 3 rfl) ?_
        refine va_get (D := (dC, dI)) (ci := 2) (v := .ref la) (C := RX2) (T := TX2) (N := 2) hx hb hts fin_X5_aliveBehind_X2 hown hK hP 3 rfl rfl 0 (by decide) (hts (.fieldLink RX5 100 "PatternGate$Doc" "letters" "[I") (List.mem_of_getElem? (i := 1) (by decide +kernel))) (fun _ h9 => h9) rfl dX5_aliveBehind_14 ?_
        refine va_alen hx hb hK hP 4 2 rfl rfl rfl dX5_aliveBehind_17 ?_
        refine lv_topi (fun y_2 ey_2 => ?_)
        have ty_2 : y_2.toInt = (mm : Int) := i_len ey_2 (by omega)
        refine lv_icmp_ge (tgt := 50) hx hb dX5_aliveBehind_18 (by decide) (fun k_3 => ?_) (fun k_3 => ?_)
        · have tk_3 := c_ge (a := ii.toInt) (b := y_2.toInt) rfl rfl k_3
          refine lv_iload_n hx hb dX5_aliveBehind_50 rfl (lv_at hl 1 rfl) ?_
          exact W.iret hx hb hr (fun t ht hW => ⟨_, rfl, trivial, ht.trans hH.symm⟩) t_nil dX5_aliveBehind_51
        · have tk_3 := c_nge (a := ii.toInt) (b := y_2.toInt) rfl rfl k_3
          refine lv_aload_n hx hb dX5_aliveBehind_21 rfl (lv_at hl 2 rfl) ?_
          refine va_get (D := (dC, dI)) (ci := 5) (v := .int a3) (C := RX5) (T := TX5) (N := 13) hx hb hts fin_X5_aliveBehind_X5 hown hK hP 0 rfl rfl 4 (by decide) (hts (.fieldLink RX5 34 "PatternGate$Pattern" "first" "I") (List.mem_of_getElem? (i := 2) (by decide +kernel))) (fun _ h9 => h9) rfl dX5_aliveBehind_22 ?_
          refine lv_aload_n hx hb dX5_aliveBehind_25 rfl (lv_at hl 2 rfl) ?_
          refine lv_iload_n hx hb dX5_aliveBehind_26 rfl (lv_at hl 1 rfl) ?_
          have hPc := hP.sub (ws' := [(pt, .inr (5, pF q a0 a1 a2 a3 a4 a5)), (q 1, .inl (cF, nf, .inl ff))]) [0, 1] rfl
          have hKc := hK.sub (tys' := [(cF, .int)]) [0] rfl
          refine vp_callSi (W.runV (As := [.int sp]) (rest := [.int a3]) ⟨hx, hb, hml, hown, hts⟩ (s_followersOf l dC dI pt q a0 a1 a2 a3 a4 a5 nf ff cF sp (by omega)) (cwV 1 hts mg_X5_aliveBehind_X5_followersOf_105 rfl rfl rfl (by decide +kernel) ⟨Nat.le_of_ble_eq_true rfl, Nat.le_of_ble_eq_true rfl⟩) ⟨fun a U g mk q => by obtain ⟨q0, qP, qK⟩ := q; exact ⟨q0, qP, va_K.moved (u := U) (U := U.calling g mk a) (Vm.Alike.refl U.vm) qK⟩, va_recv hKc hPc (ci := 5) (q0 := 0) rfl rfl, fun U hU hW => ⟨rfl, by rw [hU]; exact hPc, va_K.moved hW.alike hKc⟩⟩ rfl rfl hl.1 rfl (lv_room (Nat.le_of_ble_eq_true rfl)) dX5_aliveBehind_27 ⟨Nat.le_of_ble_eq_true rfl, Nat.le_of_ble_eq_true rfl⟩) (fun r_5 hw => ?_)
          refine lv_ior hx hb dX5_aliveBehind_30 ?_
          refine lv_topi (fun y_6 ey_6 => ?_)
          have rg_y_6 := i_rng y_6
          refine lv_aload_n hx hb dX5_aliveBehind_31 rfl (lv_at hl 2 rfl) ?_
          refine lv_aload_n hx hb dX5_aliveBehind_32 rfl (lv_at hl 3 rfl) ?_
          refine va_get (D := (dC, dI)) (ci := 2) (v := .ref la) (C := RX2) (T := TX2) (N := 2) hx hb hts fin_X5_aliveBehind_X2 hown hK hP 3 rfl rfl 0 (by decide) (hts (.fieldLink RX5 100 "PatternGate$Doc" "letters" "[I") (List.mem_of_getElem? (i := 1) (by decide +kernel))) (fun _ h9 => h9) rfl dX5_aliveBehind_33 ?_
          refine lv_iload hx hb dX5_aliveBehind_36 (lv_at hl 0 rfl) ?_
          refine va_iald hx hb hK hP 4 2 rfl rfl (i := ii) (vp_of (a := ii.toInt) rfl (by omega) (by omega)) dX5_aliveBehind_38 ?_
          refine lv_topi (fun y_7 ey_7 => ?_)
          have rg_y_7 := i_rng y_7
          have hPc := hP.sub (ws' := [(pt, .inr (5, pF q a0 a1 a2 a3 a4 a5)), (q 2, .inl (cK, nk, .inl fk))]) [0, 2] rfl
          have hKc := hK.sub (tys' := [(cK, .int)]) [1] rfl
          refine vp_callSi (W.runV (As := [.int y_7]) (rest := [.int y_6]) ⟨hx, hb, hml, hown, hts⟩ (s_takersOf l dC dI pt q a0 a1 a2 a3 a4 a5 nk fk cK y_7 (by omega)) (cwV 1 hts mg_X5_aliveBehind_X5_takersOf_109 rfl rfl rfl (by decide +kernel) ⟨Nat.le_of_ble_eq_true rfl, Nat.le_of_ble_eq_true rfl⟩) ⟨fun a U g mk q => by obtain ⟨q0, qP, qK⟩ := q; exact ⟨q0, qP, va_K.moved (u := U) (U := U.calling g mk a) (Vm.Alike.refl U.vm) qK⟩, va_recv hKc hPc (ci := 5) (q0 := 0) rfl rfl, fun U hU hW => ⟨rfl, by rw [hU]; exact hPc, va_K.moved hW.alike hKc⟩⟩ rfl rfl hl.1 rfl (lv_room (Nat.le_of_ble_eq_true rfl)) dX5_aliveBehind_39 ⟨Nat.le_of_ble_eq_true rfl, Nat.le_of_ble_eq_true rfl⟩) (fun r_9 hw => ?_)
          refine lv_iand hx hb dX5_aliveBehind_42 ?_
          refine lv_topi (fun y_10 ey_10 => ?_)
          have rg_y_10 := i_rng y_10
          refine lv_istore_n (lv' := [(3, .int y_10), (4, .int ii), (0, .ref pt), (1, .ref d), (2, .int i)]) hx hb dX5_aliveBehind_43 rfl hl (by decide) rfl (fun ls hl => ?_)
          obtain ⟨y_11, ey_11⟩ : ∃ y : Int32, y = ii + 1 := ⟨_, rfl⟩
          first | have ty_11 := i_add (a := ii.toInt) (b := 1) rfl (by decide) ey_11 (by omega) (by omega) | skip
          refine lv_iinc (v := y_11) (lv' := [(4, .int y_11), (3, .int y_10), (0, .ref pt), (1, .ref d), (2, .int i)]) hx hb dX5_aliveBehind_44 hl (k := 1) rfl (by rw [ey_11]; rfl) (by decide) rfl (fun ls hl => ?_)
          refine lv_goto (tgt := 5) hx hb dX5_aliveBehind_47 (by decide) ?_
          exact ih5 y_10 y_11 (by first | omega | decide | assumption) (by omega) ls (lv_sub hl [0, 1, 2, 3, 4] rfl)
  have lit_11 : (0 : Int32).toInt = 0 := by decide
  have lit_12 : (0 : Int32).toInt = 0 := by decide
  exact loop5 _ 0 0 (by first | omega | decide | assumption) (Nat.lt_succ_self _) ls (lv_sub hl [0, 1, 2, 3, 4] rfl)
theorem dX5_longestFrom_0 : decode cX5_longestFrom 0 = .ok (.aload_n 0, 1) := by decide +kernel
theorem dX5_longestFrom_1 : decode cX5_longestFrom 1 = .ok (.getfield 26, 3) := by decide +kernel
theorem dX5_longestFrom_4 : decode cX5_longestFrom 4 = .ok (.ifCond .eq 7, 3) := by decide +kernel
theorem dX5_longestFrom_7 : decode cX5_longestFrom 7 = .ok (.iconst 0, 1) := by decide +kernel
theorem dX5_longestFrom_8 : decode cX5_longestFrom 8 = .ok (.goto 4, 3) := by decide +kernel
theorem dX5_longestFrom_11 : decode cX5_longestFrom 11 = .ok (.iconst (-1), 1) := by decide +kernel
theorem dX5_longestFrom_12 : decode cX5_longestFrom 12 = .ok (.istore_n 3, 1) := by decide +kernel
theorem dX5_longestFrom_13 : decode cX5_longestFrom 13 = .ok (.aload_n 0, 1) := by decide +kernel
theorem dX5_longestFrom_14 : decode cX5_longestFrom 14 = .ok (.getfield 34, 3) := by decide +kernel
theorem dX5_longestFrom_17 : decode cX5_longestFrom 17 = .ok (.istore 4, 2) := by decide +kernel
theorem dX5_longestFrom_19 : decode cX5_longestFrom 19 = .ok (.iload_n 2, 1) := by decide +kernel
theorem dX5_longestFrom_20 : decode cX5_longestFrom 20 = .ok (.istore 5, 2) := by decide +kernel
theorem dX5_longestFrom_22 : decode cX5_longestFrom 22 = .ok (.iload 5, 2) := by decide +kernel
theorem dX5_longestFrom_24 : decode cX5_longestFrom 24 = .ok (.ifCond .lt 65, 3) := by decide +kernel
theorem dX5_longestFrom_27 : decode cX5_longestFrom 27 = .ok (.iload 5, 2) := by decide +kernel
theorem dX5_longestFrom_29 : decode cX5_longestFrom 29 = .ok (.aload_n 1, 1) := by decide +kernel
theorem dX5_longestFrom_30 : decode cX5_longestFrom 30 = .ok (.getfield 100, 3) := by decide +kernel
theorem dX5_longestFrom_33 : decode cX5_longestFrom 33 = .ok (.arraylength, 1) := by decide +kernel
theorem dX5_longestFrom_34 : decode cX5_longestFrom 34 = .ok (.if_icmp .ge 55, 3) := by decide +kernel
theorem dX5_longestFrom_37 : decode cX5_longestFrom 37 = .ok (.iload 4, 2) := by decide +kernel
theorem dX5_longestFrom_39 : decode cX5_longestFrom 39 = .ok (.ifCond .eq 50, 3) := by decide +kernel
theorem dX5_longestFrom_42 : decode cX5_longestFrom 42 = .ok (.iload 4, 2) := by decide +kernel
theorem dX5_longestFrom_44 : decode cX5_longestFrom 44 = .ok (.aload_n 0, 1) := by decide +kernel
theorem dX5_longestFrom_45 : decode cX5_longestFrom 45 = .ok (.aload_n 1, 1) := by decide +kernel
theorem dX5_longestFrom_46 : decode cX5_longestFrom 46 = .ok (.getfield 100, 3) := by decide +kernel
theorem dX5_longestFrom_49 : decode cX5_longestFrom 49 = .ok (.iload 5, 2) := by decide +kernel
theorem dX5_longestFrom_51 : decode cX5_longestFrom 51 = .ok (.iaload, 1) := by decide +kernel
theorem dX5_longestFrom_52 : decode cX5_longestFrom 52 = .ok (.invokevirtual 109, 3) := by decide +kernel
theorem dX5_longestFrom_55 : decode cX5_longestFrom 55 = .ok (.iand, 1) := by decide +kernel
theorem dX5_longestFrom_56 : decode cX5_longestFrom 56 = .ok (.istore 6, 2) := by decide +kernel
theorem dX5_longestFrom_58 : decode cX5_longestFrom 58 = .ok (.iload 6, 2) := by decide +kernel
theorem dX5_longestFrom_60 : decode cX5_longestFrom 60 = .ok (.aload_n 0, 1) := by decide +kernel
theorem dX5_longestFrom_61 : decode cX5_longestFrom 61 = .ok (.getfield 38, 3) := by decide +kernel
theorem dX5_longestFrom_64 : decode cX5_longestFrom 64 = .ok (.iand, 1) := by decide +kernel
theorem dX5_longestFrom_65 : decode cX5_longestFrom 65 = .ok (.ifCond .eq 10, 3) := by decide +kernel
theorem dX5_longestFrom_68 : decode cX5_longestFrom 68 = .ok (.iload 5, 2) := by decide +kernel
theorem dX5_longestFrom_70 : decode cX5_longestFrom 70 = .ok (.iload_n 2, 1) := by decide +kernel
theorem dX5_longestFrom_71 : decode cX5_longestFrom 71 = .ok (.isub, 1) := by decide +kernel
theorem dX5_longestFrom_72 : decode cX5_longestFrom 72 = .ok (.iconst 1, 1) := by decide +kernel
theorem dX5_longestFrom_73 : decode cX5_longestFrom 73 = .ok (.iadd, 1) := by decide +kernel
theorem dX5_longestFrom_74 : decode cX5_longestFrom 74 = .ok (.istore_n 3, 1) := by decide +kernel
theorem dX5_longestFrom_75 : decode cX5_longestFrom 75 = .ok (.aload_n 0, 1) := by decide +kernel
theorem dX5_longestFrom_76 : decode cX5_longestFrom 76 = .ok (.iload 6, 2) := by decide +kernel
theorem dX5_longestFrom_78 : decode cX5_longestFrom 78 = .ok (.invokevirtual 105, 3) := by decide +kernel
theorem dX5_longestFrom_81 : decode cX5_longestFrom 81 = .ok (.istore 4, 2) := by decide +kernel
theorem dX5_longestFrom_83 : decode cX5_longestFrom 83 = .ok (.iinc 5 1, 3) := by decide +kernel
theorem dX5_longestFrom_86 : decode cX5_longestFrom 86 = .ok (.goto (-64), 3) := by decide +kernel
theorem dX5_longestFrom_89 : decode cX5_longestFrom 89 = .ok (.iload_n 3, 1) := by decide +kernel
theorem dX5_longestFrom_90 : decode cX5_longestFrom 90 = .ok (.ireturn, 1) := by decide +kernel
def mwX5_longestFrom : List Cond := .code yX5_longestFrom cX5_longestFrom 7 (some .int) :: ([.fieldLink RX5 26 "PatternGate$Pattern" "canBeEmpty" "Z", .fieldLink RX5 34 "PatternGate$Pattern" "first" "I", .fieldLink RX5 100 "PatternGate$Doc" "letters" "[I", .code yX5_takersOf cX5_takersOf 2 (some .int), .fieldLink RX5 42 "PatternGate$Pattern" "takers" "[I", .methodLink RX5 109 yX5_takersOf, .instanceMethod yX5_takersOf, .selects RX5 yX5_takersOf yX5_takersOf, .initialized RX5, .fieldLink RX5 38 "PatternGate$Pattern" "last" "I", .code yX5_followersOf cX5_followersOf 4 (some .int), .fieldLink RX5 39 "PatternGate$Pattern" "follow" "[I", .methodLink RX5 105 yX5_followersOf, .instanceMethod yX5_followersOf, .selects RX5 yX5_followersOf yX5_followersOf] ++ wsX50 ++ wsX20)
theorem fin_X5_longestFrom_X2 : ∀ w ∈ wsX20, w ∈ mwX5_longestFrom := fun w h => List.mem_cons_of_mem _ (List.mem_append_right _ h)
theorem fin_X5_longestFrom_X5 : ∀ w ∈ wsX50, w ∈ mwX5_longestFrom := fun w h => List.mem_cons_of_mem _ (List.mem_append_left _ (List.mem_append_right _ h))
set_option maxRecDepth 20000 in
theorem mg_X5_longestFrom_X5_takersOf_109 : GoodIn mwX5_longestFrom (wsV RX5 109 RX5 yX5_takersOf mwX5_takersOf) := goodIn_r _ [6, 7, 8, 9, 4, 5, 16, 17, 18, 19, 20, 21, 22, 23, 24, 25, 26, 27, 28] (by decide +kernel) (by decide +kernel)
set_option maxRecDepth 20000 in
theorem mg_X5_longestFrom_X5_followersOf_105 : GoodIn mwX5_longestFrom (wsV RX5 105 RX5 yX5_followersOf mwX5_followersOf) := goodIn_r _ [13, 14, 15, 9, 11, 12, 16, 17, 18, 19, 20, 21, 22, 23, 24, 25, 26, 27, 28] (by decide +kernel) (by decide +kernel)
set_option maxHeartbeats 4000000 in
set_option maxRecDepth 100000 in
/-- Pattern.longestFrom -/
theorem s_longestFrom (l : Launch) (dC : Nat → ClassId) (dI : Nat → Nat → Nat) (pt : Nat) (q : Nat → Nat) (a0 a1 a2 a3 a4 a5 : Int32) (nf : Nat) (ff : Nat → Int32) (cF : ClassId) (nk : Nat) (fk : Nat → Int32) (cK : ClassId) (d la ta mm : Nat) (fl : Nat → Int32) (cI : ClassId) (i : Int32) (hf : nf ≤ 1000) (hk : nk ≤ 1000) (hm : mm ≤ 1000) (h0 : 0 ≤ i.toInt) : Met l yX5_longestFrom mwX5_longestFrom ({ frames := 1, cells := 0, slots := 0, locals := 60 }) (va_Pc [.ref pt, .ref d, .int i] (fun U => va_P (dC, dI) vwCl ([(pt, .inr (5, pF q a0 a1 a2 a3 a4 a5)), (q 1, .inl (cF, nf, .inl ff)), (q 2, .inl (cK, nk, .inl fk)), (d, .inr (2, [.ref la, .ref ta])), (la, .inl (cI, mm, .inl fl))]) U.heap ∧ va_K (dC, dI) vwCl ([(cF, .int), (cK, .int), (cI, .int)]) U)) (vp_Si (fun o => -1 ≤ o.toInt ∧ o.toInt ≤ mm)) 0 0 (fun _ => False) := by
  refine Met.ofW (cc := cX5_longestFrom) (maxL := 7) (ret := (some .int)) (by decide +kernel) rfl ?_
  intro p e s m args below meth c s₁ B hml hv
  obtain ⟨rfl, hP, hK⟩ := hv
  have hx := B.exec
  have hb := B.bytes
  have hr := B.returns
  have hts := atoms_spec (ws := mwX5_longestFrom) B.pre
  have hown : s.vm.findClass RX5 = some m.cls := findClass_of_methodNamed B.named
  have hlocks := B.notSynchronized
  have hP : va_P (dC, dI) vwCl [(pt, .inr (5, pF q a0 a1 a2 a3 a4 a5)), (q 1, .inl (cF, nf, .inl ff)), (q 2, .inl (cK, nk, .inl fk)), (d, .inr (2, [.ref la, .ref ta])), (la, .inl (cI, mm, .inl fl))] s.heap := hP
  have hK : va_K (dC, dI) vwCl [(cF, .int), (cK, .int), (cI, .int)] s := hK
  generalize hH : s.heap = H at hP ⊢
  have hl := lv_entry ([.ref pt, .ref d, .int i]) (n := 7) (Nat.le_of_ble_eq_true rfl)
  rw [lg_entry_eq]
  generalize (lg_sl ([.ref pt, .ref d, .int i]) ++ List.replicate (7 - (lg_sl ([.ref pt, .ref d, .int i])).length) Slot.unset).toArray = ls at hl ⊢
  have hl : lv_has ls 7 [(0, .ref pt), (1, .ref d), (2, .int i)] := hl
  have rg_i := i_rng i
  refine lv_aload_n hx hb dX5_longestFrom_0 rfl (lv_at hl 0 rfl) ?_
  refine va_get (D := (dC, dI)) (ci := 5) (v := .int a1) (C := RX5) (T := TX5) (N := 13) hx hb hts fin_X5_longestFrom_X5 hown hK hP 0 rfl rfl 2 (by decide) (hts (.fieldLink RX5 26 "PatternGate$Pattern" "canBeEmpty" "Z") (List.mem_of_getElem? (i := 1) (by decide +kernel))) (fun _ h9 => h9) rfl dX5_longestFrom_1 ?_
  refine lv_if_eq (tgt := 11) hx hb dX5_longestFrom_4 (by decide) (fun k_1 => ?_) (fun k_1 => ?_)
  · have tk_1 := c_eq (a := a1.toInt) (b := 0) rfl (by decide) k_1
    refine lv_iconst (v := (-1)) hx hb dX5_longestFrom_11 (by decide) ?_
    refine lv_istore_n (lv' := [(3, .int (-1)), (0, .ref pt), (1, .ref d), (2, .int i)]) hx hb dX5_longestFrom_12 rfl hl (by decide) rfl (fun ls hl => ?_)
    refine lv_aload_n hx hb dX5_longestFrom_13 rfl (lv_at hl 1 rfl) ?_
    refine va_get (D := (dC, dI)) (ci := 5) (v := .int a3) (C := RX5) (T := TX5) (N := 13) hx hb hts fin_X5_longestFrom_X5 hown hK hP 0 rfl rfl 4 (by decide) (hts (.fieldLink RX5 34 "PatternGate$Pattern" "first" "I") (List.mem_of_getElem? (i := 2) (by decide +kernel))) (fun _ h9 => h9) rfl dX5_longestFrom_14 ?_
    refine lv_istore (lv' := [(4, .int a3), (3, .int (-1)), (0, .ref pt), (1, .ref d), (2, .int i)]) hx hb dX5_longestFrom_17 hl (by decide) rfl (fun ls hl => ?_)
    refine lv_iload_n hx hb dX5_longestFrom_19 rfl (lv_at hl 4 rfl) ?_
    refine lv_istore (lv' := [(5, .int i), (4, .int a3), (3, .int (-1)), (0, .ref pt), (1, .ref d), (2, .int i)]) hx hb dX5_longestFrom_20 hl (by decide) rfl (fun ls hl => ?_)
    have loop22 : ∀ (n22 : Nat) (mo op ii : Int32), (-1 ≤ mo.toInt) → (mo.toInt ≤ mm) → (i.toInt ≤ ii.toInt) → (((mm : Int) - ii.toInt).toNat) < n22 → ∀ (ls : Array Slot), lv_has ls 7 [(5, .int ii), (4, .int op), (3, .int mo), (0, .ref pt), (1, .ref d), (2, .int i)] → W p l e (headSpec mwX5_longestFrom ({ frames := 1, cells := 0, slots := 0, locals := 60 })).room s m ([.ref pt, .ref d, .int i]).toArray below meth c H [] 0 0 (MQ below (vp_Si (fun o => -1 ≤ o.toInt ∧ o.toInt ≤ mm)) ([.ref pt, .ref d, .int i]).toArray s 0 0 (fun _ => False)) (F0 m 22 ls []) := by
      intro n22
      induction n22 with
      | zero => intro mo op ii v22_0 v22_1 v22_2 hm22; exact absurd hm22 (Nat.not_lt_zero _)
      | succ n22 ih22 =>
        intro mo op ii v22_0 v22_1 v22_2 hm22 ls hl
        have rg_mo := i_rng mo
        have rg_op := i_rng op
        have rg_ii := i_rng ii
        refine lv_iload hx hb dX5_longestFrom_22 (lv_at hl 0 rfl) ?_
        refine lv_if_lt (tgt := 89) hx hb dX5_longestFrom_24 (by decide) (fun k_2 => ?_) (fun k_2 => ?_)
        · have tk_2 := c_lt (a := ii.toInt) (b := 0) rfl (by decide) k_2
          refine lv_iload_n hx hb dX5_longestFrom_89 rfl (lv_at hl 2 rfl) ?_
          exact W.iret hx hb hr (fun t ht hW => ⟨_, rfl, (by first | omega | decide), ht.trans hH.symm⟩) t_nil dX5_longestFrom_90
        · have tk_2 := c_nlt (a := ii.toInt) (b := 0) rfl (by decide) k_2
          refine lv_iload hx hb dX5_longestFrom_27 (lv_at hl 0 rfl) ?_
          refine lv_aload_n hx hb dX5_longestFrom_29 rfl (lv_at hl 4 rfl) ?_
          refine va_get (D := (dC, dI)) (ci := 2) (v := .ref la) (C := RX2) (T := TX2) (N := 2) hx hb hts fin_X5_longestFrom_X2 hown hK hP 3 rfl rfl 0 (by decide) (hts (.fieldLink RX5 100 "PatternGate$Doc" "letters" "[I") (List.mem_of_getElem? (i := 3) (by decide +kernel))) (fun _ h9 => h9) rfl dX5_longestFrom_30 ?_
          refine va_alen hx hb hK hP 4 2 rfl rfl rfl dX5_longestFrom_33 ?_
          refine lv_topi (fun y_3 ey_3 => ?_)
          have ty_3 : y_3.toInt = (mm : Int) := i_len ey_3 (by omega)
          refine lv_icmp_ge (tgt := 89) hx hb dX5_longestFrom_34 (by decide) (fun k_4 => ?_) (fun k_4 => ?_)
          · have tk_4 := c_ge (a := ii.toInt) (b := y_3.toInt) rfl rfl k_4
            refine lv_iload_n hx hb dX5_longestFrom_89 rfl (lv_at hl 2 rfl) ?_
            exact W.iret hx hb hr (fun t ht hW => ⟨_, rfl, (by first | omega | decide), ht.trans hH.symm⟩) t_nil dX5_longestFrom_90
          · have tk_4 := c_nge (a := ii.toInt) (b := y_3.toInt) rfl rfl k_4
            refine lv_iload hx hb dX5_longestFrom_37 (lv_at hl 1 rfl) ?_
            refine lv_if_eq (tgt := 89) hx hb dX5_longestFrom_39 (by decide) (fun k_5 => ?_) (fun k_5 => ?_)
            · have tk_5 := c_eq (a := op.toInt) (b := 0) rfl (by decide) k_5
              refine lv_iload_n hx hb dX5_longestFrom_89 rfl (lv_at hl 2 rfl) ?_
              exact W.iret hx hb hr (fun t ht hW => ⟨_, rfl, (by first | omega | decide), ht.trans hH.symm⟩) t_nil dX5_longestFrom_90
            · have tk_5 := c_ne (a := op.toInt) (b := 0) rfl (by decide) k_5
              refine lv_iload hx hb dX5_longestFrom_42 (lv_at hl 1 rfl) ?_
              refine lv_aload_n hx hb dX5_longestFrom_44 rfl (lv_at hl 3 rfl) ?_
              refine lv_aload_n hx hb dX5_longestFrom_45 rfl (lv_at hl 4 rfl) ?_
              refine va_get (D := (dC, dI)) (ci := 2) (v := .ref la) (C := RX2) (T := TX2) (N := 2) hx hb hts fin_X5_longestFrom_X2 hown hK hP 3 rfl rfl 0 (by decide) (hts (.fieldLink RX5 100 "PatternGate$Doc" "letters" "[I") (List.mem_of_getElem? (i := 3) (by decide +kernel))) (fun _ h9 => h9) rfl dX5_longestFrom_46 ?_
              refine lv_iload hx hb dX5_longestFrom_49 (lv_at hl 0 rfl) ?_
              refine va_iald hx hb hK hP 4 2 rfl rfl (i := ii) (vp_of (a := ii.toInt) rfl (by omega) (by omega)) dX5_longestFrom_51 ?_
              refine lv_topi (fun y_6 ey_6 => ?_)
              have rg_y_6 := i_rng y_6
              have hPc := hP.sub (ws' := [(pt, .inr (5, pF q a0 a1 a2 a3 a4 a5)), (q 2, .inl (cK, nk, .inl fk))]) [0, 2] rfl
              have hKc := hK.sub (tys' := [(cK, .int)]) [1] rfl
              refine vp_callSi (W.runV (As := [.int y_6]) (rest := [.int op]) ⟨hx, hb, hml, hown, hts⟩ (s_takersOf l dC dI pt q a0 a1 a2 a3 a4 a5 nk fk cK y_6 (by omega)) (cwV 1 hts mg_X5_longestFrom_X5_takersOf_109 rfl rfl rfl (by decide +kernel) ⟨Nat.le_of_ble_eq_true rfl, Nat.le_of_ble_eq_true rfl⟩) ⟨fun a U g mk q => by obtain ⟨q0, qP, qK⟩ := q; exact ⟨q0, qP, va_K.moved (u := U) (U := U.calling g mk a) (Vm.Alike.refl U.vm) qK⟩, va_recv hKc hPc (ci := 5) (q0 := 0) rfl rfl, fun U hU hW => ⟨rfl, by rw [hU]; exact hPc, va_K.moved hW.alike hKc⟩⟩ rfl rfl hl.1 rfl (lv_room (Nat.le_of_ble_eq_true rfl)) dX5_longestFrom_52 ⟨Nat.le_of_ble_eq_true rfl, Nat.le_of_ble_eq_true rfl⟩) (fun r_8 hw => ?_)
              refine lv_iand hx hb dX5_longestFrom_55 ?_
              refine lv_topi (fun y_9 ey_9 => ?_)
              have rg_y_9 := i_rng y_9
              refine lv_istore (lv' := [(6, .int y_9), (5, .int ii), (4, .int op), (3, .int mo), (0, .ref pt), (1, .ref d), (2, .int i)]) hx hb dX5_longestFrom_56 hl (by decide) rfl (fun ls hl => ?_)
              refine lv_iload hx hb dX5_longestFrom_58 (lv_at hl 0 rfl) ?_
              refine lv_aload_n hx hb dX5_longestFrom_60 rfl (lv_at hl 4 rfl) ?_
              refine va_get (D := (dC, dI)) (ci := 5) (v := .int a4) (C := RX5) (T := TX5) (N := 13) hx hb hts fin_X5_longestFrom_X5 hown hK hP 0 rfl rfl 5 (by decide) (hts (.fieldLink RX5 38 "PatternGate$Pattern" "last" "I") (List.mem_of_getElem? (i := 10) (by decide +kernel))) (fun _ h9 => h9) rfl dX5_longestFrom_61 ?_
              refine lv_iand hx hb dX5_longestFrom_64 ?_
              refine lv_topi (fun y_10 ey_10 => ?_)
              have rg_y_10 := i_rng y_10
              refine lv_if_eq (tgt := 75) hx hb dX5_longestFrom_65 (by decide) (fun k_11 => ?_) (fun k_11 => ?_)
              · have tk_11 := c_eq (a := y_10.toInt) (b := 0) rfl (by decide) k_11
                refine lv_aload_n hx hb dX5_longestFrom_75 rfl (lv_at hl 4 rfl) ?_
                refine lv_iload hx hb dX5_longestFrom_76 (lv_at hl 0 rfl) ?_
                have hPc := hP.sub (ws' := [(pt, .inr (5, pF q a0 a1 a2 a3 a4 a5)), (q 1, .inl (cF, nf, .inl ff))]) [0, 1] rfl
                have hKc := hK.sub (tys' := [(cF, .int)]) [0] rfl
                refine vp_callSi (W.runV (As := [.int y_9]) (rest := []) ⟨hx, hb, hml, hown, hts⟩ (s_followersOf l dC dI pt q a0 a1 a2 a3 a4 a5 nf ff cF y_9 (by omega)) (cwV 1 hts mg_X5_longestFrom_X5_followersOf_105 rfl rfl rfl (by decide +kernel) ⟨Nat.le_of_ble_eq_true rfl, Nat.le_of_ble_eq_true rfl⟩) ⟨fun a U g mk q => by obtain ⟨q0, qP, qK⟩ := q; exact ⟨q0, qP, va_K.moved (u := U) (U := U.calling g mk a) (Vm.Alike.refl U.vm) qK⟩, va_recv hKc hPc (ci := 5) (q0 := 0) rfl rfl, fun U hU hW => ⟨rfl, by rw [hU]; exact hPc, va_K.moved hW.alike hKc⟩⟩ rfl rfl hl.1 rfl (lv_room (Nat.le_of_ble_eq_true rfl)) dX5_longestFrom_78 ⟨Nat.le_of_ble_eq_true rfl, Nat.le_of_ble_eq_true rfl⟩) (fun r_13 hw => ?_)
                refine lv_istore (lv' := [(4, .int r_13), (6, .int y_9), (5, .int ii), (3, .int mo), (0, .ref pt), (1, .ref d), (2, .int i)]) hx hb dX5_longestFrom_81 hl (by decide) rfl (fun ls hl => ?_)
                obtain ⟨y_14, ey_14⟩ : ∃ y : Int32, y = ii + 1 := ⟨_, rfl⟩
                first | have ty_14 := i_add (a := ii.toInt) (b := 1) rfl (by decide) ey_14 (by omega) (by omega) | skip
                refine lv_iinc (v := y_14) (lv' := [(5, .int y_14), (4, .int r_13), (6, .int y_9), (3, .int mo), (0, .ref pt), (1, .ref d), (2, .int i)]) hx hb dX5_longestFrom_83 hl (k := 2) rfl (by rw [ey_14]; rfl) (by decide) rfl (fun ls hl => ?_)
                refine lv_goto (tgt := 22) hx hb dX5_longestFrom_86 (by decide) ?_
                exact ih22 mo r_13 y_14 (by first | omega | decide | assumption) (by first | omega | decide | assumption) (by first | omega | decide | assumption) (by omega) ls (lv_sub hl [0, 1, 3, 4, 5, 6] rfl)
              · have tk_11 := c_ne (a := y_10.toInt) (b := 0) rfl (by decide) k_11
                refine lv_iload hx hb dX5_longestFrom_68 (lv_at hl 1 rfl) ?_
                refine lv_iload_n hx hb dX5_longestFrom_70 rfl (lv_at hl 6 rfl) ?_
                refine lv_isub hx hb dX5_longestFrom_71 ?_
                refine lv_topi (fun y_15 ey_15 => ?_)
                first | have ty_15 := i_sub (a := ii.toInt) (b := i.toInt) rfl rfl ey_15 (by omega) (by omega) | skip
                refine lv_iconst (v := 1) hx hb dX5_longestFrom_72 (by decide) ?_
                refine lv_iadd hx hb dX5_longestFrom_73 ?_
                refine lv_topi (fun y_16 ey_16 => ?_)
                first | have ty_16 := i_add (a := y_15.toInt) (b := 1) rfl (by decide) ey_16 (by omega) (by omega) | skip
                refine lv_istore_n (lv' := [(3, .int y_16), (6, .int y_9), (5, .int ii), (4, .int op), (0, .ref pt), (1, .ref d), (2, .int i)]) hx hb dX5_longestFrom_74 rfl hl (by decide) rfl (fun ls hl => ?_)
                refine lv_aload_n hx hb dX5_longestFrom_75 rfl (lv_at hl 4 rfl) ?_
                refine lv_iload hx hb dX5_longestFrom_76 (lv_at hl 1 rfl) ?_
                have hPc := hP.sub (ws' := [(pt, .inr (5, pF q a0 a1 a2 a3 a4 a5)), (q 1, .inl (cF, nf, .inl ff))]) [0, 1] rfl
                have hKc := hK.sub (tys' := [(cF, .int)]) [0] rfl
                refine vp_callSi (W.runV (As := [.int y_9]) (rest := []) ⟨hx, hb, hml, hown, hts⟩ (s_followersOf l dC dI pt q a0 a1 a2 a3 a4 a5 nf ff cF y_9 (by omega)) (cwV 1 hts mg_X5_longestFrom_X5_followersOf_105 rfl rfl rfl (by decide +kernel) ⟨Nat.le_of_ble_eq_true rfl, Nat.le_of_ble_eq_true rfl⟩) ⟨fun a U g mk q => by obtain ⟨q0, qP, qK⟩ := q; exact ⟨q0, qP, va_K.moved (u := U) (U := U.calling g mk a) (Vm.Alike.refl U.vm) qK⟩, va_recv hKc hPc (ci := 5) (q0 := 0) rfl rfl, fun U hU hW => ⟨rfl, by rw [hU]; exact hPc, va_K.moved hW.alike hKc⟩⟩ rfl rfl hl.1 rfl (lv_room (Nat.le_of_ble_eq_true rfl)) dX5_longestFrom_78 ⟨Nat.le_of_ble_eq_true rfl, Nat.le_of_ble_eq_true rfl⟩) (fun r_18 hw => ?_)
                refine lv_istore (lv' := [(4, .int r_18), (3, .int y_16), (6, .int y_9), (5, .int ii), (0, .ref pt), (1, .ref d), (2, .int i)]) hx hb dX5_longestFrom_81 hl (by decide) rfl (fun ls hl => ?_)
                obtain ⟨y_19, ey_19⟩ : ∃ y : Int32, y = ii + 1 := ⟨_, rfl⟩
                first | have ty_19 := i_add (a := ii.toInt) (b := 1) rfl (by decide) ey_19 (by omega) (by omega) | skip
                refine lv_iinc (v := y_19) (lv' := [(5, .int y_19), (4, .int r_18), (3, .int y_16), (6, .int y_9), (0, .ref pt), (1, .ref d), (2, .int i)]) hx hb dX5_longestFrom_83 hl (k := 3) rfl (by rw [ey_19]; rfl) (by decide) rfl (fun ls hl => ?_)
                refine lv_goto (tgt := 22) hx hb dX5_longestFrom_86 (by decide) ?_
                exact ih22 y_16 r_18 y_19 (by first | omega | decide | assumption) (by first | omega | decide | assumption) (by first | omega | decide | assumption) (by omega) ls (lv_sub hl [0, 1, 2, 4, 5, 6] rfl)
    have lit_19 : ((-1) : Int32).toInt = (-1) := by decide
    exact loop22 _ (-1) a3 i (by first | omega | decide | assumption) (by first | omega | decide | assumption) (by first | omega | decide | assumption) (Nat.lt_succ_self _) ls (lv_sub hl [0, 1, 2, 3, 4, 5] rfl)
  · have tk_1 := c_ne (a := a1.toInt) (b := 0) rfl (by decide) k_1
    refine lv_iconst (v := 0) hx hb dX5_longestFrom_7 (by decide) ?_
    refine lv_goto (tgt := 12) hx hb dX5_longestFrom_8 (by decide) ?_
    refine lv_istore_n (lv' := [(3, .int 0), (0, .ref pt), (1, .ref d), (2, .int i)]) hx hb dX5_longestFrom_12 rfl hl (by decide) rfl (fun ls hl => ?_)
    refine lv_aload_n hx hb dX5_longestFrom_13 rfl (lv_at hl 1 rfl) ?_
    refine va_get (D := (dC, dI)) (ci := 5) (v := .int a3) (C := RX5) (T := TX5) (N := 13) hx hb hts fin_X5_longestFrom_X5 hown hK hP 0 rfl rfl 4 (by decide) (hts (.fieldLink RX5 34 "PatternGate$Pattern" "first" "I") (List.mem_of_getElem? (i := 2) (by decide +kernel))) (fun _ h9 => h9) rfl dX5_longestFrom_14 ?_
    refine lv_istore (lv' := [(4, .int a3), (3, .int 0), (0, .ref pt), (1, .ref d), (2, .int i)]) hx hb dX5_longestFrom_17 hl (by decide) rfl (fun ls hl => ?_)
    refine lv_iload_n hx hb dX5_longestFrom_19 rfl (lv_at hl 4 rfl) ?_
    refine lv_istore (lv' := [(5, .int i), (4, .int a3), (3, .int 0), (0, .ref pt), (1, .ref d), (2, .int i)]) hx hb dX5_longestFrom_20 hl (by decide) rfl (fun ls hl => ?_)
    have loop22 : ∀ (n22 : Nat) (mo op ii : Int32), (-1 ≤ mo.toInt) → (mo.toInt ≤ mm) → (i.toInt ≤ ii.toInt) → (((mm : Int) - ii.toInt).toNat) < n22 → ∀ (ls : Array Slot), lv_has ls 7 [(5, .int ii), (4, .int op), (3, .int mo), (0, .ref pt), (1, .ref d), (2, .int i)] → W p l e (headSpec mwX5_longestFrom ({ frames := 1, cells := 0, slots := 0, locals := 60 })).room s m ([.ref pt, .ref d, .int i]).toArray below meth c H [] 0 0 (MQ below (vp_Si (fun o => -1 ≤ o.toInt ∧ o.toInt ≤ mm)) ([.ref pt, .ref d, .int i]).toArray s 0 0 (fun _ => False)) (F0 m 22 ls []) := by
      intro n22
      induction n22 with
      | zero => intro mo op ii v22_0 v22_1 v22_2 hm22; exact absurd hm22 (Nat.not_lt_zero _)
      | succ n22 ih22 =>
        intro mo op ii v22_0 v22_1 v22_2 hm22 ls hl
        have rg_mo := i_rng mo
        have rg_op := i_rng op
        have rg_ii := i_rng ii
        refine lv_iload hx hb dX5_longestFrom_22 (lv_at hl 0 rfl) ?_
        refine lv_if_lt (tgt := 89) hx hb dX5_longestFrom_24 (by decide) (fun k_21 => ?_) (fun k_21 => ?_)
        · have tk_21 := c_lt (a := ii.toInt) (b := 0) rfl (by decide) k_21
          refine lv_iload_n hx hb dX5_longestFrom_89 rfl (lv_at hl 2 rfl) ?_
          exact W.iret hx hb hr (fun t ht hW => ⟨_, rfl, (by first | omega | decide), ht.trans hH.symm⟩) t_nil dX5_longestFrom_90
        · have tk_21 := c_nlt (a := ii.toInt) (b := 0) rfl (by decide) k_21
          refine lv_iload hx hb dX5_longestFrom_27 (lv_at hl 0 rfl) ?_
          refine lv_aload_n hx hb dX5_longestFrom_29 rfl (lv_at hl 4 rfl) ?_
          refine va_get (D := (dC, dI)) (ci := 2) (v := .ref la) (C := RX2) (T := TX2) (N := 2) hx hb hts fin_X5_longestFrom_X2 hown hK hP 3 rfl rfl 0 (by decide) (hts (.fieldLink RX5 100 "PatternGate$Doc" "letters" "[I") (List.mem_of_getElem? (i := 3) (by decide +kernel))) (fun _ h9 => h9) rfl dX5_longestFrom_30 ?_
          refine va_alen hx hb hK hP 4 2 rfl rfl rfl dX5_longestFrom_33 ?_
          refine lv_topi (fun y_22 ey_22 => ?_)
          have ty_22 : y_22.toInt = (mm : Int) := i_len ey_22 (by omega)
          refine lv_icmp_ge (tgt := 89) hx hb dX5_longestFrom_34 (by decide) (fun k_23 => ?_) (fun k_23 => ?_)
          · have tk_23 := c_ge (a := ii.toInt) (b := y_22.toInt) rfl rfl k_23
            refine lv_iload_n hx hb dX5_longestFrom_89 rfl (lv_at hl 2 rfl) ?_
            exact W.iret hx hb hr (fun t ht hW => ⟨_, rfl, (by first | omega | decide), ht.trans hH.symm⟩) t_nil dX5_longestFrom_90
          · have tk_23 := c_nge (a := ii.toInt) (b := y_22.toInt) rfl rfl k_23
            refine lv_iload hx hb dX5_longestFrom_37 (lv_at hl 1 rfl) ?_
            refine lv_if_eq (tgt := 89) hx hb dX5_longestFrom_39 (by decide) (fun k_24 => ?_) (fun k_24 => ?_)
            · have tk_24 := c_eq (a := op.toInt) (b := 0) rfl (by decide) k_24
              refine lv_iload_n hx hb dX5_longestFrom_89 rfl (lv_at hl 2 rfl) ?_
              exact W.iret hx hb hr (fun t ht hW => ⟨_, rfl, (by first | omega | decide), ht.trans hH.symm⟩) t_nil dX5_longestFrom_90
            · have tk_24 := c_ne (a := op.toInt) (b := 0) rfl (by decide) k_24
              refine lv_iload hx hb dX5_longestFrom_42 (lv_at hl 1 rfl) ?_
              refine lv_aload_n hx hb dX5_longestFrom_44 rfl (lv_at hl 3 rfl) ?_
              refine lv_aload_n hx hb dX5_longestFrom_45 rfl (lv_at hl 4 rfl) ?_
              refine va_get (D := (dC, dI)) (ci := 2) (v := .ref la) (C := RX2) (T := TX2) (N := 2) hx hb hts fin_X5_longestFrom_X2 hown hK hP 3 rfl rfl 0 (by decide) (hts (.fieldLink RX5 100 "PatternGate$Doc" "letters" "[I") (List.mem_of_getElem? (i := 3) (by decide +kernel))) (fun _ h9 => h9) rfl dX5_longestFrom_46 ?_
              refine lv_iload hx hb dX5_longestFrom_49 (lv_at hl 0 rfl) ?_
              refine va_iald hx hb hK hP 4 2 rfl rfl (i := ii) (vp_of (a := ii.toInt) rfl (by omega) (by omega)) dX5_longestFrom_51 ?_
              refine lv_topi (fun y_25 ey_25 => ?_)
              have rg_y_25 := i_rng y_25
              have hPc := hP.sub (ws' := [(pt, .inr (5, pF q a0 a1 a2 a3 a4 a5)), (q 2, .inl (cK, nk, .inl fk))]) [0, 2] rfl
              have hKc := hK.sub (tys' := [(cK, .int)]) [1] rfl
              refine vp_callSi (W.runV (As := [.int y_25]) (rest := [.int op]) ⟨hx, hb, hml, hown, hts⟩ (s_takersOf l dC dI pt q a0 a1 a2 a3 a4 a5 nk fk cK y_25 (by omega)) (cwV 1 hts mg_X5_longestFrom_X5_takersOf_109 rfl rfl rfl (by decide +kernel) ⟨Nat.le_of_ble_eq_true rfl, Nat.le_of_ble_eq_true rfl⟩) ⟨fun a U g mk q => by obtain ⟨q0, qP, qK⟩ := q; exact ⟨q0, qP, va_K.moved (u := U) (U := U.calling g mk a) (Vm.Alike.refl U.vm) qK⟩, va_recv hKc hPc (ci := 5) (q0 := 0) rfl rfl, fun U hU hW => ⟨rfl, by rw [hU]; exact hPc, va_K.moved hW.alike hKc⟩⟩ rfl rfl hl.1 rfl (lv_room (Nat.le_of_ble_eq_true rfl)) dX5_longestFrom_52 ⟨Nat.le_of_ble_eq_true rfl, Nat.le_of_ble_eq_true rfl⟩) (fun r_27 hw => ?_)
              refine lv_iand hx hb dX5_longestFrom_55 ?_
              refine lv_topi (fun y_28 ey_28 => ?_)
              have rg_y_28 := i_rng y_28
              refine lv_istore (lv' := [(6, .int y_28), (5, .int ii), (4, .int op), (3, .int mo), (0, .ref pt), (1, .ref d), (2, .int i)]) hx hb dX5_longestFrom_56 hl (by decide) rfl (fun ls hl => ?_)
              refine lv_iload hx hb dX5_longestFrom_58 (lv_at hl 0 rfl) ?_
              refine lv_aload_n hx hb dX5_longestFrom_60 rfl (lv_at hl 4 rfl) ?_
              refine va_get (D := (dC, dI)) (ci := 5) (v := .int a4) (C := RX5) (T := TX5) (N := 13) hx hb hts fin_X5_longestFrom_X5 hown hK hP 0 rfl rfl 5 (by decide) (hts (.fieldLink RX5 38 "PatternGate$Pattern" "last" "I") (List.mem_of_getElem? (i := 10) (by decide +kernel))) (fun _ h9 => h9) rfl dX5_longestFrom_61 ?_
              refine lv_iand hx hb dX5_longestFrom_64 ?_
              refine lv_topi (fun y_29 ey_29 => ?_)
              have rg_y_29 := i_rng y_29
              refine lv_if_eq (tgt := 75) hx hb dX5_longestFrom_65 (by decide) (fun k_30 => ?_) (fun k_30 => ?_)
              · have tk_30 := c_eq (a := y_29.toInt) (b := 0) rfl (by decide) k_30
                refine lv_aload_n hx hb dX5_longestFrom_75 rfl (lv_at hl 4 rfl) ?_
                refine lv_iload hx hb dX5_longestFrom_76 (lv_at hl 0 rfl) ?_
                have hPc := hP.sub (ws' := [(pt, .inr (5, pF q a0 a1 a2 a3 a4 a5)), (q 1, .inl (cF, nf, .inl ff))]) [0, 1] rfl
                have hKc := hK.sub (tys' := [(cF, .int)]) [0] rfl
                refine vp_callSi (W.runV (As := [.int y_28]) (rest := []) ⟨hx, hb, hml, hown, hts⟩ (s_followersOf l dC dI pt q a0 a1 a2 a3 a4 a5 nf ff cF y_28 (by omega)) (cwV 1 hts mg_X5_longestFrom_X5_followersOf_105 rfl rfl rfl (by decide +kernel) ⟨Nat.le_of_ble_eq_true rfl, Nat.le_of_ble_eq_true rfl⟩) ⟨fun a U g mk q => by obtain ⟨q0, qP, qK⟩ := q; exact ⟨q0, qP, va_K.moved (u := U) (U := U.calling g mk a) (Vm.Alike.refl U.vm) qK⟩, va_recv hKc hPc (ci := 5) (q0 := 0) rfl rfl, fun U hU hW => ⟨rfl, by rw [hU]; exact hPc, va_K.moved hW.alike hKc⟩⟩ rfl rfl hl.1 rfl (lv_room (Nat.le_of_ble_eq_true rfl)) dX5_longestFrom_78 ⟨Nat.le_of_ble_eq_true rfl, Nat.le_of_ble_eq_true rfl⟩) (fun r_32 hw => ?_)
                refine lv_istore (lv' := [(4, .int r_32), (6, .int y_28), (5, .int ii), (3, .int mo), (0, .ref pt), (1, .ref d), (2, .int i)]) hx hb dX5_longestFrom_81 hl (by decide) rfl (fun ls hl => ?_)
                obtain ⟨y_33, ey_33⟩ : ∃ y : Int32, y = ii + 1 := ⟨_, rfl⟩
                first | have ty_33 := i_add (a := ii.toInt) (b := 1) rfl (by decide) ey_33 (by omega) (by omega) | skip
                refine lv_iinc (v := y_33) (lv' := [(5, .int y_33), (4, .int r_32), (6, .int y_28), (3, .int mo), (0, .ref pt), (1, .ref d), (2, .int i)]) hx hb dX5_longestFrom_83 hl (k := 2) rfl (by rw [ey_33]; rfl) (by decide) rfl (fun ls hl => ?_)
                refine lv_goto (tgt := 22) hx hb dX5_longestFrom_86 (by decide) ?_
                exact ih22 mo r_32 y_33 (by first | omega | decide | assumption) (by first | omega | decide | assumption) (by first | omega | decide | assumption) (by omega) ls (lv_sub hl [0, 1, 3, 4, 5, 6] rfl)
              · have tk_30 := c_ne (a := y_29.toInt) (b := 0) rfl (by decide) k_30
                refine lv_iload hx hb dX5_longestFrom_68 (lv_at hl 1 rfl) ?_
                refine lv_iload_n hx hb dX5_longestFrom_70 rfl (lv_at hl 6 rfl) ?_
                refine lv_isub hx hb dX5_longestFrom_71 ?_
                refine lv_topi (fun y_34 ey_34 => ?_)
                first | have ty_34 := i_sub (a := ii.toInt) (b := i.toInt) rfl rfl ey_34 (by omega) (by omega) | skip
                refine lv_iconst (v := 1) hx hb dX5_longestFrom_72 (by decide) ?_
                refine lv_iadd hx hb dX5_longestFrom_73 ?_
                refine lv_topi (fun y_35 ey_35 => ?_)
                first | have ty_35 := i_add (a := y_34.toInt) (b := 1) rfl (by decide) ey_35 (by omega) (by omega) | skip
                refine lv_istore_n (lv' := [(3, .int y_35), (6, .int y_28), (5, .int ii), (4, .int op), (0, .ref pt), (1, .ref d), (2, .int i)]) hx hb dX5_longestFrom_74 rfl hl (by decide) rfl (fun ls hl => ?_)
                refine lv_aload_n hx hb dX5_longestFrom_75 rfl (lv_at hl 4 rfl) ?_
                refine lv_iload hx hb dX5_longestFrom_76 (lv_at hl 1 rfl) ?_
                have hPc := hP.sub (ws' := [(pt, .inr (5, pF q a0 a1 a2 a3 a4 a5)), (q 1, .inl (cF, nf, .inl ff))]) [0, 1] rfl
                have hKc := hK.sub (tys' := [(cF, .int)]) [0] rfl
                refine vp_callSi (W.runV (As := [.int y_28]) (rest := []) ⟨hx, hb, hml, hown, hts⟩ (s_followersOf l dC dI pt q a0 a1 a2 a3 a4 a5 nf ff cF y_28 (by omega)) (cwV 1 hts mg_X5_longestFrom_X5_followersOf_105 rfl rfl rfl (by decide +kernel) ⟨Nat.le_of_ble_eq_true rfl, Nat.le_of_ble_eq_true rfl⟩) ⟨fun a U g mk q => by obtain ⟨q0, qP, qK⟩ := q; exact ⟨q0, qP, va_K.moved (u := U) (U := U.calling g mk a) (Vm.Alike.refl U.vm) qK⟩, va_recv hKc hPc (ci := 5) (q0 := 0) rfl rfl, fun U hU hW => ⟨rfl, by rw [hU]; exact hPc, va_K.moved hW.alike hKc⟩⟩ rfl rfl hl.1 rfl (lv_room (Nat.le_of_ble_eq_true rfl)) dX5_longestFrom_78 ⟨Nat.le_of_ble_eq_true rfl, Nat.le_of_ble_eq_true rfl⟩) (fun r_37 hw => ?_)
                refine lv_istore (lv' := [(4, .int r_37), (3, .int y_35), (6, .int y_28), (5, .int ii), (0, .ref pt), (1, .ref d), (2, .int i)]) hx hb dX5_longestFrom_81 hl (by decide) rfl (fun ls hl => ?_)
                obtain ⟨y_38, ey_38⟩ : ∃ y : Int32, y = ii + 1 := ⟨_, rfl⟩
                first | have ty_38 := i_add (a := ii.toInt) (b := 1) rfl (by decide) ey_38 (by omega) (by omega) | skip
                refine lv_iinc (v := y_38) (lv' := [(5, .int y_38), (4, .int r_37), (3, .int y_35), (6, .int y_28), (0, .ref pt), (1, .ref d), (2, .int i)]) hx hb dX5_longestFrom_83 hl (k := 3) rfl (by rw [ey_38]; rfl) (by decide) rfl (fun ls hl => ?_)
                refine lv_goto (tgt := 22) hx hb dX5_longestFrom_86 (by decide) ?_
                exact ih22 y_35 r_37 y_38 (by first | omega | decide | assumption) (by first | omega | decide | assumption) (by first | omega | decide | assumption) (by omega) ls (lv_sub hl [0, 1, 2, 4, 5, 6] rfl)
    have lit_38 : (0 : Int32).toInt = 0 := by decide
    exact loop22 _ 0 a3 i (by first | omega | decide | assumption) (by first | omega | decide | assumption) (by first | omega | decide | assumption) (Nat.lt_succ_self _) ls (lv_sub hl [0, 1, 2, 3, 4, 5] rfl)
theorem dX5_firstMatchIn_0 : decode cX5_firstMatchIn 0 = .ok (.iconst 0, 1) := by decide +kernel
theorem dX5_firstMatchIn_1 : decode cX5_firstMatchIn 1 = .ok (.istore_n 2, 1) := by decide +kernel
theorem dX5_firstMatchIn_2 : decode cX5_firstMatchIn 2 = .ok (.iload_n 2, 1) := by decide +kernel
theorem dX5_firstMatchIn_3 : decode cX5_firstMatchIn 3 = .ok (.aload_n 1, 1) := by decide +kernel
theorem dX5_firstMatchIn_4 : decode cX5_firstMatchIn 4 = .ok (.getfield 100, 3) := by decide +kernel
theorem dX5_firstMatchIn_7 : decode cX5_firstMatchIn 7 = .ok (.arraylength, 1) := by decide +kernel
theorem dX5_firstMatchIn_8 : decode cX5_firstMatchIn 8 = .ok (.if_icmp .gt 21, 3) := by decide +kernel
theorem dX5_firstMatchIn_11 : decode cX5_firstMatchIn 11 = .ok (.aload_n 0, 1) := by decide +kernel
theorem dX5_firstMatchIn_12 : decode cX5_firstMatchIn 12 = .ok (.aload_n 1, 1) := by decide +kernel
theorem dX5_firstMatchIn_13 : decode cX5_firstMatchIn 13 = .ok (.iload_n 2, 1) := by decide +kernel
theorem dX5_firstMatchIn_14 : decode cX5_firstMatchIn 14 = .ok (.invokevirtual 112, 3) := by decide +kernel
theorem dX5_firstMatchIn_17 : decode cX5_firstMatchIn 17 = .ok (.iconst (-1), 1) := by decide +kernel
theorem dX5_firstMatchIn_18 : decode cX5_firstMatchIn 18 = .ok (.if_icmp .eq 5, 3) := by decide +kernel
theorem dX5_firstMatchIn_21 : decode cX5_firstMatchIn 21 = .ok (.iload_n 2, 1) := by decide +kernel
theorem dX5_firstMatchIn_22 : decode cX5_firstMatchIn 22 = .ok (.ireturn, 1) := by decide +kernel
theorem dX5_firstMatchIn_23 : decode cX5_firstMatchIn 23 = .ok (.iinc 2 1, 3) := by decide +kernel
theorem dX5_firstMatchIn_26 : decode cX5_firstMatchIn 26 = .ok (.goto (-24), 3) := by decide +kernel
theorem dX5_firstMatchIn_29 : decode cX5_firstMatchIn 29 = .ok (.iconst (-1), 1) := by decide +kernel
theorem dX5_firstMatchIn_30 : decode cX5_firstMatchIn 30 = .ok (.ireturn, 1) := by decide +kernel
def mwX5_firstMatchIn : List Cond := .code yX5_firstMatchIn cX5_firstMatchIn 3 (some .int) :: ([.fieldLink RX5 100 "PatternGate$Doc" "letters" "[I", .code yX5_longestFrom cX5_longestFrom 7 (some .int), .fieldLink RX5 26 "PatternGate$Pattern" "canBeEmpty" "Z", .fieldLink RX5 34 "PatternGate$Pattern" "first" "I", .code yX5_takersOf cX5_takersOf 2 (some .int), .fieldLink RX5 42 "PatternGate$Pattern" "takers" "[I", .methodLink RX5 109 yX5_takersOf, .instanceMethod yX5_takersOf, .selects RX5 yX5_takersOf yX5_takersOf, .initialized RX5, .fieldLink RX5 38 "PatternGate$Pattern" "last" "I", .code yX5_followersOf cX5_followersOf 4 (some .int), .fieldLink RX5 39 "PatternGate$Pattern" "follow" "[I", .methodLink RX5 105 yX5_followersOf, .instanceMethod yX5_followersOf, .selects RX5 yX5_followersOf yX5_followersOf, .methodLink RX5 112 yX5_longestFrom, .instanceMethod yX5_longestFrom, .selects RX5 yX5_longestFrom yX5_longestFrom] ++ wsX20 ++ wsX50)
theorem fin_X5_firstMatchIn_X2 : ∀ w ∈ wsX20, w ∈ mwX5_firstMatchIn := fun w h => List.mem_cons_of_mem _ (List.mem_append_left _ (List.mem_append_right _ h))
set_option maxRecDepth 20000 in
theorem mg_X5_firstMatchIn_X5_longestFrom_112 : GoodIn mwX5_firstMatchIn (wsV RX5 112 RX5 yX5_longestFrom mwX5_longestFrom) := goodIn_r _ [17, 18, 19, 10, 2, 3, 4, 1, 5, 6, 7, 8, 9, 10, 11, 12, 13, 14, 15, 16, 22, 23, 24, 25, 26, 27, 28, 29, 30, 31, 32, 33, 34, 20, 21] (by decide +kernel) (by decide +kernel)
set_option maxHeartbeats 4000000 in
set_option maxRecDepth 100000 in
/-- Pattern.firstMatchIn -/
theorem s_firstMatchIn (l : Launch) (dC : Nat → ClassId) (dI : Nat → Nat → Nat) (pt : Nat) (q : Nat → Nat) (a0 a1 a2 a3 a4 a5 : Int32) (nf : Nat) (ff : Nat → Int32) (cF : ClassId) (nk : Nat) (fk : Nat → Int32) (cK : ClassId) (d la ta mm : Nat) (fl : Nat → Int32) (cI : ClassId) (hf : nf ≤ 1000) (hk : nk ≤ 1000) (hm : mm ≤ 1000) : Met l yX5_firstMatchIn mwX5_firstMatchIn ({ frames := 2, cells := 0, slots := 0, locals := 120 }) (va_Pc [.ref pt, .ref d] (fun U => va_P (dC, dI) vwCl ([(pt, .inr (5, pF q a0 a1 a2 a3 a4 a5)), (q 1, .inl (cF, nf, .inl ff)), (q 2, .inl (cK, nk, .inl fk)), (d, .inr (2, [.ref la, .ref ta])), (la, .inl (cI, mm, .inl fl))]) U.heap ∧ va_K (dC, dI) vwCl ([(cF, .int), (cK, .int), (cI, .int)]) U)) (vp_Si (fun o => True)) 0 0 (fun _ => False) := by
  refine Met.ofW (cc := cX5_firstMatchIn) (maxL := 3) (ret := (some .int)) (by decide +kernel) rfl ?_
  intro p e s m args below meth c s₁ B hml hv
  obtain ⟨rfl, hP, hK⟩ := hv
  have hx := B.exec
  have hb := B.bytes
  have hr := B.returns
  have hts := atoms_spec (ws := mwX5_firstMatchIn) B.pre
  have hown : s.vm.findClass RX5 = some m.cls := findClass_of_methodNamed B.named
  have hlocks := B.notSynchronized
  have hP : va_P (dC, dI) vwCl [(pt, .inr (5, pF q a0 a1 a2 a3 a4 a5)), (q 1, .inl (cF, nf, .inl ff)), (q 2, .inl (cK, nk, .inl fk)), (d, .inr (2, [.ref la, .ref ta])), (la, .inl (cI, mm, .inl fl))] s.heap := hP
  have hK : va_K (dC, dI) vwCl [(cF, .int), (cK, .int), (cI, .int)] s := hK
  generalize hH : s.heap = H at hP ⊢
  have hl := lv_entry ([.ref pt, .ref d]) (n := 3) (Nat.le_of_ble_eq_true rfl)
  rw [lg_entry_eq]
  generalize (lg_sl ([.ref pt, .ref d]) ++ List.replicate (3 - (lg_sl ([.ref pt, .ref d])).length) Slot.unset).toArray = ls at hl ⊢
  have hl : lv_has ls 3 [(0, .ref pt), (1, .ref d)] := hl
  refine lv_iconst (v := 0) hx hb dX5_firstMatchIn_0 (by decide) ?_
  refine lv_istore_n (lv' := [(2, .int 0), (0, .ref pt), (1, .ref d)]) hx hb dX5_firstMatchIn_1 rfl hl (by decide) rfl (fun ls hl => ?_)
  have loop2 : ∀ (n2 : Nat) (pl : Int32), (0 ≤ pl.toInt) → (((mm : Int) + 1 - pl.toInt).toNat) < n2 → ∀ (ls : Array Slot), lv_has ls 3 [(2, .int pl), (0, .ref pt), (1, .ref d)] → W p l e (headSpec mwX5_firstMatchIn ({ frames := 2, cells := 0, slots := 0, locals := 120 })).room s m ([.ref pt, .ref d]).toArray below meth c H [] 0 0 (MQ below (vp_Si (fun o => True)) ([.ref pt, .ref d]).toArray s 0 0 (fun _ => False)) (F0 m 2 ls []) := by
    intro n2
    induction n2 with
    | zero => intro pl v2_0 hm2; exact absurd hm2 (Nat.not_lt_zero _)
    | succ n2 ih2 =>
      intro pl v2_0 hm2 ls hl
      have rg_pl := i_rng pl
      refine lv_iload_n hx hb dX5_firstMatchIn_2 rfl (lv_at hl 0 rfl) ?_
      refine lv_aload_n hx hb dX5_firstMatchIn_3 rfl (lv_at hl 2 rfl) ?_
      refine va_get (D := (dC, dI)) (ci := 2) (v := .ref la) (C := RX2) (T := TX2) (N := 2) hx hb hts fin_X5_firstMatchIn_X2 hown hK hP 3 rfl rfl 0 (by decide) (hts (.fieldLink RX5 100 "PatternGate$Doc" "letters" "[I") (List.mem_of_getElem? (i := 1) (by decide +kernel))) (fun _ h9 => h9) rfl dX5_firstMatchIn_4 ?_
      refine va_alen hx hb hK hP 4 2 rfl rfl rfl dX5_firstMatchIn_7 ?_
      refine lv_topi (fun y_1 ey_1 => ?_)
      have ty_1 : y_1.toInt = (mm : Int) := i_len ey_1 (by omega)
      refine lv_icmp_gt (tgt := 29) hx hb dX5_firstMatchIn_8 (by decide) (fun k_2 => ?_) (fun k_2 => ?_)
      · have tk_2 := c_gt (a := pl.toInt) (b := y_1.toInt) rfl rfl k_2
        refine lv_iconst (v := (-1)) hx hb dX5_firstMatchIn_29 (by decide) ?_
        exact W.iret hx hb hr (fun t ht hW => ⟨_, rfl, trivial, ht.trans hH.symm⟩) t_nil dX5_firstMatchIn_30
      · have tk_2 := c_ngt (a := pl.toInt) (b := y_1.toInt) rfl rfl k_2
        refine lv_aload_n hx hb dX5_firstMatchIn_11 rfl (lv_at hl 1 rfl) ?_
        refine lv_aload_n hx hb dX5_firstMatchIn_12 rfl (lv_at hl 2 rfl) ?_
        refine lv_iload_n hx hb dX5_firstMatchIn_13 rfl (lv_at hl 0 rfl) ?_
        have hPc := hP.sub (ws' := [(pt, .inr (5, pF q a0 a1 a2 a3 a4 a5)), (q 1, .inl (cF, nf, .inl ff)), (q 2, .inl (cK, nk, .inl fk)), (d, .inr (2, [.ref la, .ref ta])), (la, .inl (cI, mm, .inl fl))]) [0, 1, 2, 3, 4] rfl
        have hKc := hK.sub (tys' := [(cF, .int), (cK, .int), (cI, .int)]) [0, 1, 2] rfl
        refine vp_callSi (W.runV (As := [.ref d, .int pl]) (rest := []) ⟨hx, hb, hml, hown, hts⟩ (s_longestFrom l dC dI pt q a0 a1 a2 a3 a4 a5 nf ff cF nk fk cK d la ta mm fl cI pl (by omega) (by omega) (by omega) (by omega)) (cwV 2 hts mg_X5_firstMatchIn_X5_longestFrom_112 rfl rfl rfl (by decide +kernel) ⟨Nat.le_of_ble_eq_true rfl, Nat.le_of_ble_eq_true rfl⟩) ⟨fun a U g mk q => by obtain ⟨q0, qP, qK⟩ := q; exact ⟨q0, qP, va_K.moved (u := U) (U := U.calling g mk a) (Vm.Alike.refl U.vm) qK⟩, va_recv hKc hPc (ci := 5) (q0 := 0) rfl rfl, fun U hU hW => ⟨rfl, by rw [hU]; exact hPc, va_K.moved hW.alike hKc⟩⟩ rfl rfl hl.1 rfl (lv_room (Nat.le_of_ble_eq_true rfl)) dX5_firstMatchIn_14 ⟨Nat.le_of_ble_eq_true rfl, Nat.le_of_ble_eq_true rfl⟩) (fun r_4 hw => ?_)
        refine lv_iconst (v := (-1)) hx hb dX5_firstMatchIn_17 (by decide) ?_
        refine lv_icmp_eq (tgt := 23) hx hb dX5_firstMatchIn_18 (by decide) (fun k_5 => ?_) (fun k_5 => ?_)
        · have tk_5 := c_eq (a := r_4.toInt) (b := (-1)) rfl (by decide) k_5
          obtain ⟨y_6, ey_6⟩ : ∃ y : Int32, y = pl + 1 := ⟨_, rfl⟩
          first | have ty_6 := i_add (a := pl.toInt) (b := 1) rfl (by decide) ey_6 (by omega) (by omega) | skip
          refine lv_iinc (v := y_6) (lv' := [(2, .int y_6), (0, .ref pt), (1, .ref d)]) hx hb dX5_firstMatchIn_23 hl (k := 0) rfl (by rw [ey_6]; rfl) (by decide) rfl (fun ls hl => ?_)
          refine lv_goto (tgt := 2) hx hb dX5_firstMatchIn_26 (by decide) ?_
          exact ih2 y_6 (by first | omega | decide | assumption) (by omega) ls (lv_sub hl [0, 1, 2] rfl)
        · have tk_5 := c_ne (a := r_4.toInt) (b := (-1)) rfl (by decide) k_5
          refine lv_iload_n hx hb dX5_firstMatchIn_21 rfl (lv_at hl 0 rfl) ?_
          exact W.iret hx hb hr (fun t ht hW => ⟨_, rfl, trivial, ht.trans hH.symm⟩) t_nil dX5_firstMatchIn_22
  have lit_6 : (0 : Int32).toInt = 0 := by decide
  exact loop2 _ 0 (by first | omega | decide | assumption) (Nat.lt_succ_self _) ls (lv_sub hl [0, 1, 2] rfl)
theorem dX5_matchesIn_0 : decode cX5_matchesIn 0 = .ok (.iconst 0, 1) := by decide +kernel
theorem dX5_matchesIn_1 : decode cX5_matchesIn 1 = .ok (.istore_n 2, 1) := by decide +kernel
theorem dX5_matchesIn_2 : decode cX5_matchesIn 2 = .ok (.iconst 1, 1) := by decide +kernel
theorem dX5_matchesIn_3 : decode cX5_matchesIn 3 = .ok (.istore_n 3, 1) := by decide +kernel
theorem dX5_matchesIn_4 : decode cX5_matchesIn 4 = .ok (.iconst 0, 1) := by decide +kernel
theorem dX5_matchesIn_5 : decode cX5_matchesIn 5 = .ok (.istore 4, 2) := by decide +kernel
theorem dX5_matchesIn_7 : decode cX5_matchesIn 7 = .ok (.iload 4, 2) := by decide +kernel
theorem dX5_matchesIn_9 : decode cX5_matchesIn 9 = .ok (.aload_n 1, 1) := by decide +kernel
theorem dX5_matchesIn_10 : decode cX5_matchesIn 10 = .ok (.getfield 100, 3) := by decide +kernel
theorem dX5_matchesIn_13 : decode cX5_matchesIn 13 = .ok (.arraylength, 1) := by decide +kernel
theorem dX5_matchesIn_14 : decode cX5_matchesIn 14 = .ok (.if_icmp .gt 37, 3) := by decide +kernel
theorem dX5_matchesIn_17 : decode cX5_matchesIn 17 = .ok (.aload_n 0, 1) := by decide +kernel
theorem dX5_matchesIn_18 : decode cX5_matchesIn 18 = .ok (.aload_n 1, 1) := by decide +kernel
theorem dX5_matchesIn_19 : decode cX5_matchesIn 19 = .ok (.iload 4, 2) := by decide +kernel
theorem dX5_matchesIn_21 : decode cX5_matchesIn 21 = .ok (.invokevirtual 112, 3) := by decide +kernel
theorem dX5_matchesIn_24 : decode cX5_matchesIn 24 = .ok (.istore 5, 2) := by decide +kernel
theorem dX5_matchesIn_26 : decode cX5_matchesIn 26 = .ok (.iload 5, 2) := by decide +kernel
theorem dX5_matchesIn_28 : decode cX5_matchesIn 28 = .ok (.iconst (-1), 1) := by decide +kernel
theorem dX5_matchesIn_29 : decode cX5_matchesIn 29 = .ok (.if_icmp .eq 6, 3) := by decide +kernel
theorem dX5_matchesIn_32 : decode cX5_matchesIn 32 = .ok (.iinc 2 1, 3) := by decide +kernel
theorem dX5_matchesIn_35 : decode cX5_matchesIn 35 = .ok (.iconst 1, 1) := by decide +kernel
theorem dX5_matchesIn_36 : decode cX5_matchesIn 36 = .ok (.iload 5, 2) := by decide +kernel
theorem dX5_matchesIn_38 : decode cX5_matchesIn 38 = .ok (.invokestatic 116, 3) := by decide +kernel
theorem dX5_matchesIn_41 : decode cX5_matchesIn 41 = .ok (.istore_n 3, 1) := by decide +kernel
theorem dX5_matchesIn_42 : decode cX5_matchesIn 42 = .ok (.iload 4, 2) := by decide +kernel
theorem dX5_matchesIn_44 : decode cX5_matchesIn 44 = .ok (.iload_n 3, 1) := by decide +kernel
theorem dX5_matchesIn_45 : decode cX5_matchesIn 45 = .ok (.iadd, 1) := by decide +kernel
theorem dX5_matchesIn_46 : decode cX5_matchesIn 46 = .ok (.istore 4, 2) := by decide +kernel
theorem dX5_matchesIn_48 : decode cX5_matchesIn 48 = .ok (.goto (-41), 3) := by decide +kernel
theorem dX5_matchesIn_51 : decode cX5_matchesIn 51 = .ok (.iload_n 2, 1) := by decide +kernel
theorem dX5_matchesIn_52 : decode cX5_matchesIn 52 = .ok (.ireturn, 1) := by decide +kernel
def mwX5_matchesIn : List Cond := .code yX5_matchesIn cX5_matchesIn 6 (some .int) :: ([.fieldLink RX5 100 "PatternGate$Doc" "letters" "[I", .code yX5_longestFrom cX5_longestFrom 7 (some .int), .fieldLink RX5 26 "PatternGate$Pattern" "canBeEmpty" "Z", .fieldLink RX5 34 "PatternGate$Pattern" "first" "I", .code yX5_takersOf cX5_takersOf 2 (some .int), .fieldLink RX5 42 "PatternGate$Pattern" "takers" "[I", .methodLink RX5 109 yX5_takersOf, .instanceMethod yX5_takersOf, .selects RX5 yX5_takersOf yX5_takersOf, .initialized RX5, .fieldLink RX5 38 "PatternGate$Pattern" "last" "I", .code yX5_followersOf cX5_followersOf 4 (some .int), .fieldLink RX5 39 "PatternGate$Pattern" "follow" "[I", .methodLink RX5 105 yX5_followersOf, .instanceMethod yX5_followersOf, .selects RX5 yX5_followersOf yX5_followersOf, .methodLink RX5 112 yX5_longestFrom, .instanceMethod yX5_longestFrom, .selects RX5 yX5_longestFrom yX5_longestFrom, .methodLink RX5 116 Lib.Math.max.name, .static Lib.Math.max.name, .initialized "java/lang/Math", .code Lib.Math.max.name Lib.Math.max.code 2 (some .int)] ++ wsX20 ++ wsX50)
theorem fin_X5_matchesIn_X2 : ∀ w ∈ wsX20, w ∈ mwX5_matchesIn := fun w h => List.mem_cons_of_mem _ (List.mem_append_left _ (List.mem_append_right _ h))
set_option maxRecDepth 20000 in
theorem mg_X5_matchesIn_X5_longestFrom_112 : GoodIn mwX5_matchesIn (wsV RX5 112 RX5 yX5_longestFrom mwX5_longestFrom) := goodIn_r _ [17, 18, 19, 10, 2, 3, 4, 1, 5, 6, 7, 8, 9, 10, 11, 12, 13, 14, 15, 16, 26, 27, 28, 29, 30, 31, 32, 33, 34, 35, 36, 37, 38, 24, 25] (by decide +kernel) (by decide +kernel)
set_option maxHeartbeats 4000000 in
set_option maxRecDepth 100000 in
/-- Pattern.matchesIn -/
theorem s_matchesIn (l : Launch) (dC : Nat → ClassId) (dI : Nat → Nat → Nat) (pt : Nat) (q : Nat → Nat) (a0 a1 a2 a3 a4 a5 : Int32) (nf : Nat) (ff : Nat → Int32) (cF : ClassId) (nk : Nat) (fk : Nat → Int32) (cK : ClassId) (d la ta mm : Nat) (fl : Nat → Int32) (cI : ClassId) (hf : nf ≤ 1000) (hk : nk ≤ 1000) (hm : mm ≤ 1000) : Met l yX5_matchesIn mwX5_matchesIn ({ frames := 2, cells := 0, slots := 0, locals := 120 }) (va_Pc [.ref pt, .ref d] (fun U => va_P (dC, dI) vwCl ([(pt, .inr (5, pF q a0 a1 a2 a3 a4 a5)), (q 1, .inl (cF, nf, .inl ff)), (q 2, .inl (cK, nk, .inl fk)), (d, .inr (2, [.ref la, .ref ta])), (la, .inl (cI, mm, .inl fl))]) U.heap ∧ va_K (dC, dI) vwCl ([(cF, .int), (cK, .int), (cI, .int)]) U)) (vp_Si (fun o => True)) 0 0 (fun _ => False) := by
  refine Met.ofW (cc := cX5_matchesIn) (maxL := 6) (ret := (some .int)) (by decide +kernel) rfl ?_
  intro p e s m args below meth c s₁ B hml hv
  obtain ⟨rfl, hP, hK⟩ := hv
  have hx := B.exec
  have hb := B.bytes
  have hr := B.returns
  have hts := atoms_spec (ws := mwX5_matchesIn) B.pre
  have hown : s.vm.findClass RX5 = some m.cls := findClass_of_methodNamed B.named
  have hlocks := B.notSynchronized
  have hP : va_P (dC, dI) vwCl [(pt, .inr (5, pF q a0 a1 a2 a3 a4 a5)), (q 1, .inl (cF, nf, .inl ff)), (q 2, .inl (cK, nk, .inl fk)), (d, .inr (2, [.ref la, .ref ta])), (la, .inl (cI, mm, .inl fl))] s.heap := hP
  have hK : va_K (dC, dI) vwCl [(cF, .int), (cK, .int), (cI, .int)] s := hK
  generalize hH : s.heap = H at hP ⊢
  have hl := lv_entry ([.ref pt, .ref d]) (n := 6) (Nat.le_of_ble_eq_true rfl)
  rw [lg_entry_eq]
  generalize (lg_sl ([.ref pt, .ref d]) ++ List.replicate (6 - (lg_sl ([.ref pt, .ref d])).length) Slot.unset).toArray = ls at hl ⊢
  have hl : lv_has ls 6 [(0, .ref pt), (1, .ref d)] := hl
  refine lv_iconst (v := 0) hx hb dX5_matchesIn_0 (by decide) ?_
  refine lv_istore_n (lv' := [(2, .int 0), (0, .ref pt), (1, .ref d)]) hx hb dX5_matchesIn_1 rfl hl (by decide) rfl (fun ls hl => ?_)
  refine lv_iconst (v := 1) hx hb dX5_matchesIn_2 (by decide) ?_
  refine lv_istore_n (lv' := [(3, .int 1), (2, .int 0), (0, .ref pt), (1, .ref d)]) hx hb dX5_matchesIn_3 rfl hl (by decide) rfl (fun ls hl => ?_)
  refine lv_iconst (v := 0) hx hb dX5_matchesIn_4 (by decide) ?_
  refine lv_istore (lv' := [(4, .int 0), (3, .int 1), (2, .int 0), (0, .ref pt), (1, .ref d)]) hx hb dX5_matchesIn_5 hl (by decide) rfl (fun ls hl => ?_)
  have loop7 : ∀ (n7 : Nat) (mt sp pl : Int32), (0 ≤ pl.toInt) → (((mm : Int) + 1 - pl.toInt).toNat) < n7 → ∀ (ls : Array Slot), lv_has ls 6 [(4, .int pl), (3, .int sp), (2, .int mt), (0, .ref pt), (1, .ref d)] → W p l e (headSpec mwX5_matchesIn ({ frames := 2, cells := 0, slots := 0, locals := 120 })).room s m ([.ref pt, .ref d]).toArray below meth c H [] 0 0 (MQ below (vp_Si (fun o => True)) ([.ref pt, .ref d]).toArray s 0 0 (fun _ => False)) (F0 m 7 ls []) := by
    intro n7
    induction n7 with
    | zero => intro mt sp pl v7_0 hm7; exact absurd hm7 (Nat.not_lt_zero _)
    | succ n7 ih7 =>
      intro mt sp pl v7_0 hm7 ls hl
      have rg_mt := i_rng mt
      have rg_sp := i_rng sp
      have rg_pl := i_rng pl
      refine lv_iload hx hb dX5_matchesIn_7 (lv_at hl 0 rfl) ?_
      refine lv_aload_n hx hb dX5_matchesIn_9 rfl (lv_at hl 4 rfl) ?_
      refine va_get (D := (dC, dI)) (ci := 2) (v := .ref la) (C := RX2) (T := TX2) (N := 2) hx hb hts fin_X5_matchesIn_X2 hown hK hP 3 rfl rfl 0 (by decide) (hts (.fieldLink RX5 100 "PatternGate$Doc" "letters" "[I") (List.mem_of_getElem? (i := 1) (by decide +kernel))) (fun _ h9 => h9) rfl dX5_matchesIn_10 ?_
      refine va_alen hx hb hK hP 4 2 rfl rfl rfl dX5_matchesIn_13 ?_
      refine lv_topi (fun y_1 ey_1 => ?_)
      have ty_1 : y_1.toInt = (mm : Int) := i_len ey_1 (by omega)
      refine lv_icmp_gt (tgt := 51) hx hb dX5_matchesIn_14 (by decide) (fun k_2 => ?_) (fun k_2 => ?_)
      · have tk_2 := c_gt (a := pl.toInt) (b := y_1.toInt) rfl rfl k_2
        refine lv_iload_n hx hb dX5_matchesIn_51 rfl (lv_at hl 2 rfl) ?_
        exact W.iret hx hb hr (fun t ht hW => ⟨_, rfl, trivial, ht.trans hH.symm⟩) t_nil dX5_matchesIn_52
      · have tk_2 := c_ngt (a := pl.toInt) (b := y_1.toInt) rfl rfl k_2
        refine lv_aload_n hx hb dX5_matchesIn_17 rfl (lv_at hl 3 rfl) ?_
        refine lv_aload_n hx hb dX5_matchesIn_18 rfl (lv_at hl 4 rfl) ?_
        refine lv_iload hx hb dX5_matchesIn_19 (lv_at hl 0 rfl) ?_
        have hPc := hP.sub (ws' := [(pt, .inr (5, pF q a0 a1 a2 a3 a4 a5)), (q 1, .inl (cF, nf, .inl ff)), (q 2, .inl (cK, nk, .inl fk)), (d, .inr (2, [.ref la, .ref ta])), (la, .inl (cI, mm, .inl fl))]) [0, 1, 2, 3, 4] rfl
        have hKc := hK.sub (tys' := [(cF, .int), (cK, .int), (cI, .int)]) [0, 1, 2] rfl
        refine vp_callSi (W.runV (As := [.ref d, .int pl]) (rest := []) ⟨hx, hb, hml, hown, hts⟩ (s_longestFrom l dC dI pt q a0 a1 a2 a3 a4 a5 nf ff cF nk fk cK d la ta mm fl cI pl (by omega) (by omega) (by omega) (by omega)) (cwV 2 hts mg_X5_matchesIn_X5_longestFrom_112 rfl rfl rfl (by decide +kernel) ⟨Nat.le_of_ble_eq_true rfl, Nat.le_of_ble_eq_true rfl⟩) ⟨fun a U g mk q => by obtain ⟨q0, qP, qK⟩ := q; exact ⟨q0, qP, va_K.moved (u := U) (U := U.calling g mk a) (Vm.Alike.refl U.vm) qK⟩, va_recv hKc hPc (ci := 5) (q0 := 0) rfl rfl, fun U hU hW => ⟨rfl, by rw [hU]; exact hPc, va_K.moved hW.alike hKc⟩⟩ rfl rfl hl.1 rfl (lv_room (Nat.le_of_ble_eq_true rfl)) dX5_matchesIn_21 ⟨Nat.le_of_ble_eq_true rfl, Nat.le_of_ble_eq_true rfl⟩) (fun r_4 hw => ?_)
        refine lv_istore (lv' := [(5, .int r_4), (4, .int pl), (3, .int sp), (2, .int mt), (0, .ref pt), (1, .ref d)]) hx hb dX5_matchesIn_24 hl (by decide) rfl (fun ls hl => ?_)
        refine lv_iload hx hb dX5_matchesIn_26 (lv_at hl 0 rfl) ?_
        refine lv_iconst (v := (-1)) hx hb dX5_matchesIn_28 (by decide) ?_
        refine lv_icmp_eq (tgt := 35) hx hb dX5_matchesIn_29 (by decide) (fun k_5 => ?_) (fun k_5 => ?_)
        · have tk_5 := c_eq (a := r_4.toInt) (b := (-1)) rfl (by decide) k_5
          refine lv_iconst (v := 1) hx hb dX5_matchesIn_35 (by decide) ?_
          refine lv_iload hx hb dX5_matchesIn_36 (lv_at hl 0 rfl) ?_
          refine va_mmax hx hb (hml.trans hl.1.symm) hown (hts (.methodLink RX5 116 Lib.Math.max.name) (List.mem_of_getElem? (i := 20) (by decide +kernel))) (hts (.static Lib.Math.max.name) (List.mem_of_getElem? (i := 21) (by decide +kernel))) (hts (.initialized "java/lang/Math") (List.mem_of_getElem? (i := 22) (by decide +kernel))) (hts (.code Lib.Math.max.name Lib.Math.max.code 2 (some .int)) (List.mem_of_getElem? (i := 23) (by decide +kernel))) (Nat.le_of_ble_eq_true rfl) (Nat.le_of_ble_eq_true rfl) (Nat.le_of_ble_eq_true rfl) (Nat.le_of_ble_eq_true rfl) dX5_matchesIn_38 ?_
          refine lv_topi (fun y_6 ey_6 => ?_)
          have ty_6 := i_max (a := 1) (b := r_4.toInt) (by decide) rfl ey_6
          refine lv_istore_n (lv' := [(3, .int y_6), (5, .int r_4), (4, .int pl), (2, .int mt), (0, .ref pt), (1, .ref d)]) hx hb dX5_matchesIn_41 rfl hl (by decide) rfl (fun ls hl => ?_)
          refine lv_iload hx hb dX5_matchesIn_42 (lv_at hl 2 rfl) ?_
          refine lv_iload_n hx hb dX5_matchesIn_44 rfl (lv_at hl 0 rfl) ?_
          refine lv_iadd hx hb dX5_matchesIn_45 ?_
          refine lv_topi (fun y_7 ey_7 => ?_)
          first | have ty_7 := i_add (a := pl.toInt) (b := y_6.toInt) rfl rfl ey_7 (by omega) (by omega) | skip
          refine lv_istore (lv' := [(4, .int y_7), (3, .int y_6), (5, .int r_4), (2, .int mt), (0, .ref pt), (1, .ref d)]) hx hb dX5_matchesIn_46 hl (by decide) rfl (fun ls hl => ?_)
          refine lv_goto (tgt := 7) hx hb dX5_matchesIn_48 (by decide) ?_
          exact ih7 mt y_6 y_7 (by first | omega | decide | assumption) (by omega) ls (lv_sub hl [0, 1, 3, 4, 5] rfl)
        · have tk_5 := c_ne (a := r_4.toInt) (b := (-1)) rfl (by decide) k_5
          obtain ⟨y_8, ey_8⟩ : ∃ y : Int32, y = mt + 1 := ⟨_, rfl⟩
          first | have ty_8 := i_add (a := mt.toInt) (b := 1) rfl (by decide) ey_8 (by omega) (by omega) | skip
          refine lv_iinc (v := y_8) (lv' := [(2, .int y_8), (5, .int r_4), (4, .int pl), (3, .int sp), (0, .ref pt), (1, .ref d)]) hx hb dX5_matchesIn_32 hl (k := 3) rfl (by rw [ey_8]; rfl) (by decide) rfl (fun ls hl => ?_)
          refine lv_iconst (v := 1) hx hb dX5_matchesIn_35 (by decide) ?_
          refine lv_iload hx hb dX5_matchesIn_36 (lv_at hl 1 rfl) ?_
          refine va_mmax hx hb (hml.trans hl.1.symm) hown (hts (.methodLink RX5 116 Lib.Math.max.name) (List.mem_of_getElem? (i := 20) (by decide +kernel))) (hts (.static Lib.Math.max.name) (List.mem_of_getElem? (i := 21) (by decide +kernel))) (hts (.initialized "java/lang/Math") (List.mem_of_getElem? (i := 22) (by decide +kernel))) (hts (.code Lib.Math.max.name Lib.Math.max.code 2 (some .int)) (List.mem_of_getElem? (i := 23) (by decide +kernel))) (Nat.le_of_ble_eq_true rfl) (Nat.le_of_ble_eq_true rfl) (Nat.le_of_ble_eq_true rfl) (Nat.le_of_ble_eq_true rfl) dX5_matchesIn_38 ?_
          refine lv_topi (fun y_9 ey_9 => ?_)
          have ty_9 := i_max (a := 1) (b := r_4.toInt) (by decide) rfl ey_9
          refine lv_istore_n (lv' := [(3, .int y_9), (2, .int y_8), (5, .int r_4), (4, .int pl), (0, .ref pt), (1, .ref d)]) hx hb dX5_matchesIn_41 rfl hl (by decide) rfl (fun ls hl => ?_)
          refine lv_iload hx hb dX5_matchesIn_42 (lv_at hl 3 rfl) ?_
          refine lv_iload_n hx hb dX5_matchesIn_44 rfl (lv_at hl 0 rfl) ?_
          refine lv_iadd hx hb dX5_matchesIn_45 ?_
          refine lv_topi (fun y_10 ey_10 => ?_)
          first | have ty_10 := i_add (a := pl.toInt) (b := y_9.toInt) rfl rfl ey_10 (by omega) (by omega) | skip
          refine lv_istore (lv' := [(4, .int y_10), (3, .int y_9), (2, .int y_8), (5, .int r_4), (0, .ref pt), (1, .ref d)]) hx hb dX5_matchesIn_46 hl (by decide) rfl (fun ls hl => ?_)
          refine lv_goto (tgt := 7) hx hb dX5_matchesIn_48 (by decide) ?_
          exact ih7 y_8 y_9 y_10 (by first | omega | decide | assumption) (by omega) ls (lv_sub hl [0, 1, 2, 4, 5] rfl)
  have lit_10 : (0 : Int32).toInt = 0 := by decide
  have lit_11 : (1 : Int32).toInt = 1 := by decide
  have lit_12 : (0 : Int32).toInt = 0 := by decide
  exact loop7 _ 0 1 0 (by first | omega | decide | assumption) (Nat.lt_succ_self _) ls (lv_sub hl [0, 1, 2, 3, 4] rfl)

theorem dX1_partAt_0 : decode cX1_partAt 0 = .ok (.iload_n 2, 1) := by decide +kernel
theorem dX1_partAt_1 : decode cX1_partAt 1 = .ok (.ifCond .lt 15, 3) := by decide +kernel
theorem dX1_partAt_4 : decode cX1_partAt 4 = .ok (.iload_n 2, 1) := by decide +kernel
theorem dX1_partAt_5 : decode cX1_partAt 5 = .ok (.aload_n 1, 1) := by decide +kernel
theorem dX1_partAt_6 : decode cX1_partAt 6 = .ok (.arraylength, 1) := by decide +kernel
theorem dX1_partAt_7 : decode cX1_partAt 7 = .ok (.if_icmp .ge 9, 3) := by decide +kernel
theorem dX1_partAt_10 : decode cX1_partAt 10 = .ok (.aload_n 1, 1) := by decide +kernel
theorem dX1_partAt_11 : decode cX1_partAt 11 = .ok (.iload_n 2, 1) := by decide +kernel
theorem dX1_partAt_12 : decode cX1_partAt 12 = .ok (.aaload, 1) := by decide +kernel
theorem dX1_partAt_13 : decode cX1_partAt 13 = .ok (.goto 4, 3) := by decide +kernel
theorem dX1_partAt_17 : decode cX1_partAt 17 = .ok (.astore_n 3, 1) := by decide +kernel
theorem dX1_partAt_18 : decode cX1_partAt 18 = .ok (.aload_n 3, 1) := by decide +kernel
theorem dX1_partAt_19 : decode cX1_partAt 19 = .ok (.ifnonnull 10, 3) := by decide +kernel
theorem dX1_partAt_29 : decode cX1_partAt 29 = .ok (.aload_n 3, 1) := by decide +kernel
theorem dX1_partAt_30 : decode cX1_partAt 30 = .ok (.areturn, 1) := by decide +kernel
def mwX1_partAt : List Cond := .code yX1_partAt cX1_partAt 4 (some (.object "PatternGate$Part")) :: (([] : List Cond))
set_option maxHeartbeats 4000000 in
set_option maxRecDepth 100000 in
/-- Compiler.partAt -/
theorem s_partAt (l : Launch) (dC : Nat → ClassId) (dI : Nat → Nat → Nat) (cm kA kB kG kS o3 e4 e5 kC kF kT : Nat) (spn : Int32) (qa : Nat) (cq : ClassId) (fq : Nat → Option Nat) (q9 : Nat) (i9 : Int32) (h9 : 0 ≤ i9.toInt ∧ i9.toInt ≤ 5) (hq9 : fq i9.toNatClampNeg = some q9) : Met l yX1_partAt mwX1_partAt ({ frames := 0, cells := 0, slots := 0, locals := 0 }) (va_Pc [.ref cm, .ref qa, .int i9] (fun U => va_P (dC, dI) vwCl ([(cm, .inr (1, [.ref kA, .ref kB, .ref kG, .ref kS, .ref o3, .ref e4, .ref e5, .ref kC, .ref kF, .ref kT, .int spn])), (qa, .inl (cq, 6, .inr (.inr (.inr (.inr fq)))))]) U.heap ∧ va_K (dC, dI) vwCl ([(cq, .object "PatternGate$Part")]) U)) (va_Sq (fun o => o = some q9)) 0 0 (fun _ => False) := by
  refine Met.ofW (cc := cX1_partAt) (maxL := 4) (ret := (some (.object "PatternGate$Part"))) (by decide +kernel) rfl ?_
  intro p e s m args below meth c s₁ B hml hv
  obtain ⟨rfl, hP, hK⟩ := hv
  have hx := B.exec
  have hb := B.bytes
  have hr := B.returns
  have hts := atoms_spec (ws := mwX1_partAt) B.pre
  have hown : s.vm.findClass RX1 = some m.cls := findClass_of_methodNamed B.named
  have hlocks := B.notSynchronized
  have hP : va_P (dC, dI) vwCl [(cm, .inr (1, [.ref kA, .ref kB, .ref kG, .ref kS, .ref o3, .ref e4, .ref e5, .ref kC, .ref kF, .ref kT, .int spn])), (qa, .inl (cq, 6, .inr (.inr (.inr (.inr fq)))))] s.heap := hP
  have hK : va_K (dC, dI) vwCl [(cq, .object "PatternGate$Part")] s := hK
  generalize hH : s.heap = H at hP ⊢
  have hl := lv_entry ([.ref cm, .ref qa, .int i9]) (n := 4) (Nat.le_of_ble_eq_true rfl)
  rw [lg_entry_eq]
  generalize (lg_sl ([.ref cm, .ref qa, .int i9]) ++ List.replicate (4 - (lg_sl ([.ref cm, .ref qa, .int i9])).length) Slot.unset).toArray = ls at hl ⊢
  have hl : lv_has ls 4 [(0, .ref cm), (1, .ref qa), (2, .int i9)] := hl
  have rg_i9 := i_rng i9
  refine lv_iload_n hx hb dX1_partAt_0 rfl (lv_at hl 2 rfl) ?_
  refine lv_if_lt (tgt := 16) hx hb dX1_partAt_1 (by decide) (fun k_1 => absurd k_1 (by rw [Int32.lt_iff_toInt_lt]; have l0 : (0 : Int32).toInt = 0 := rfl; omega)) (fun k_1 => ?_)
  have tk_1 := c_nlt (a := i9.toInt) (b := 0) rfl (by decide) k_1
  refine lv_iload_n hx hb dX1_partAt_4 rfl (lv_at hl 2 rfl) ?_
  refine lv_aload_n hx hb dX1_partAt_5 rfl (lv_at hl 1 rfl) ?_
  refine va_alen (v := 6) hx hb hK hP 1 0 rfl rfl rfl dX1_partAt_6 ?_
  refine lv_icmp_ge (tgt := 16) hx hb dX1_partAt_7 (by decide) (fun k_2 => absurd k_2 (by rw [Int32.le_iff_toInt_le]; have l0 : (6 : Int32).toInt = 6 := rfl; omega)) (fun k_2 => ?_)
  have tk_2 := c_nge (a := i9.toInt) (b := 6) rfl (by decide) k_2
  refine lv_aload_n hx hb dX1_partAt_10 rfl (lv_at hl 1 rfl) ?_
  refine lv_iload_n hx hb dX1_partAt_11 rfl (lv_at hl 2 rfl) ?_
  refine va_aldq hx hb hK hP 1 0 rfl rfl (i := i9) (vp_of (a := i9.toInt) rfl (by omega) (by omega)) dX1_partAt_12 ?_
  rw [hq9]
  refine W.eq (g2 := F0 m 13 ls [.ref q9]) rfl ?_
  refine lv_goto (tgt := 17) hx hb dX1_partAt_13 (by decide) ?_
  refine lv_astore_n (lv' := [(3, .ref q9), (0, .ref cm), (1, .ref qa), (2, .int i9)]) hx hb dX1_partAt_17 rfl hl (by decide) rfl (fun ls hl => ?_)
  refine lv_aload_n hx hb dX1_partAt_18 rfl (lv_at hl 0 rfl) ?_
  refine lv_ifnonnull (tgt := 29) hx hb dX1_partAt_19 (by decide) ?_
  refine lv_aload_n hx hb dX1_partAt_29 rfl (lv_at hl 0 rfl) ?_
  exact W.aret hx hb hr (Or.inl ⟨_, rfl⟩) (Or.inr ⟨_, rfl⟩) (fun t ht hW => ⟨some q9, rfl, rfl, ht.trans hH.symm⟩) t_nil dX1_partAt_30
theorem dX1_addFollow_0 : decode cX1_addFollow 0 = .ok (.iconst 0, 1) := by decide +kernel
theorem dX1_addFollow_1 : decode cX1_addFollow 1 = .ok (.istore_n 3, 1) := by decide +kernel
theorem dX1_addFollow_2 : decode cX1_addFollow 2 = .ok (.iload_n 3, 1) := by decide +kernel
theorem dX1_addFollow_3 : decode cX1_addFollow 3 = .ok (.aload_n 0, 1) := by decide +kernel
theorem dX1_addFollow_4 : decode cX1_addFollow 4 = .ok (.getfield 58, 3) := by decide +kernel
theorem dX1_addFollow_7 : decode cX1_addFollow 7 = .ok (.if_icmp .ge 27, 3) := by decide +kernel
theorem dX1_addFollow_10 : decode cX1_addFollow 10 = .ok (.iload_n 1, 1) := by decide +kernel
theorem dX1_addFollow_11 : decode cX1_addFollow 11 = .ok (.iload_n 3, 1) := by decide +kernel
theorem dX1_addFollow_12 : decode cX1_addFollow 12 = .ok (.iushr, 1) := by decide +kernel
theorem dX1_addFollow_13 : decode cX1_addFollow 13 = .ok (.iconst 1, 1) := by decide +kernel
theorem dX1_addFollow_14 : decode cX1_addFollow 14 = .ok (.iand, 1) := by decide +kernel
theorem dX1_addFollow_15 : decode cX1_addFollow 15 = .ok (.ifCond .eq 13, 3) := by decide +kernel
theorem dX1_addFollow_18 : decode cX1_addFollow 18 = .ok (.aload_n 0, 1) := by decide +kernel
theorem dX1_addFollow_19 : decode cX1_addFollow 19 = .ok (.getfield 52, 3) := by decide +kernel
theorem dX1_addFollow_22 : decode cX1_addFollow 22 = .ok (.iload_n 3, 1) := by decide +kernel
theorem dX1_addFollow_23 : decode cX1_addFollow 23 = .ok (.dup2, 1) := by decide +kernel
theorem dX1_addFollow_24 : decode cX1_addFollow 24 = .ok (.iaload, 1) := by decide +kernel
theorem dX1_addFollow_25 : decode cX1_addFollow 25 = .ok (.iload_n 2, 1) := by decide +kernel
theorem dX1_addFollow_26 : decode cX1_addFollow 26 = .ok (.ior, 1) := by decide +kernel
theorem dX1_addFollow_27 : decode cX1_addFollow 27 = .ok (.iastore, 1) := by decide +kernel
theorem dX1_addFollow_28 : decode cX1_addFollow 28 = .ok (.iinc 3 1, 3) := by decide +kernel
theorem dX1_addFollow_31 : decode cX1_addFollow 31 = .ok (.goto (-29), 3) := by decide +kernel
theorem dX1_addFollow_34 : decode cX1_addFollow 34 = .ok (.return_, 1) := by decide +kernel
def mwX1_addFollow : List Cond := .code yX1_addFollow cX1_addFollow 4 none :: (([.fieldLink RX1 58 "PatternGate$Compiler" "spots" "I", .fieldLink RX1 52 "PatternGate$Compiler" "follow" "[I"] : List Cond) ++ (wsX10))
theorem fin_X1_addFollow_X1 : ∀ w ∈ wsX10, w ∈ mwX1_addFollow := fun w h => List.mem_cons_of_mem _ (List.mem_append_right _ (h))
set_option maxHeartbeats 4000000 in
set_option maxRecDepth 100000 in
/-- Compiler.addFollow -/
theorem s_addFollow (l : Launch) (dC : Nat → ClassId) (dI : Nat → Nat → Nat) (cm kA kB kG kS o3 e4 e5 kC kT : Nat) (spn : Int32) (kF : Nat) (cF : ClassId) (fF : Nat → Int32) (sz : Nat) (i8 i9 : Int32) (hs1 : 0 ≤ spn.toInt) (hs2 : spn.toInt ≤ 24) : Met l yX1_addFollow mwX1_addFollow ({ frames := 0, cells := 0, slots := 0, locals := 0 }) (va_Pc [.ref cm, .int i8, .int i9] (fun U => U.heap.size = sz ∧ va_P (dC, dI) vwCl ([(cm, .inr (1, [.ref kA, .ref kB, .ref kG, .ref kS, .ref o3, .ref e4, .ref e5, .ref kC, .ref kF, .ref kT, .int spn])), (kF, .inl (cF, 24, .inl fF))]) U.heap ∧ va_K (dC, dI) vwCl ([(cF, .int)]) U ∧ va_D (fun _ => True) ([(cm, .inr (1, [.ref kA, .ref kB, .ref kG, .ref kS, .ref o3, .ref e4, .ref e5, .ref kC, .ref kF, .ref kT, .int spn])), (kF, .inl (cF, 24, .inl fF))]))) (va_Qv (fun (_ : Unit) => True) (fun _ t => ∃ (fF9 : Nat → Int32), va_P (dC, dI) vwCl [(cm, .inr (1, [.ref kA, .ref kB, .ref kG, .ref kS, .ref o3, .ref e4, .ref e5, .ref kC, .ref kF, .ref kT, .int spn])), (kF, .inl (cF, 24, .inl fF9))] t.heap ∧ va_K (dC, dI) vwCl [(cF, .int)] t ∧ va_D (va_A ([(cm, .inr (1, [.ref kA, .ref kB, .ref kG, .ref kS, .ref o3, .ref e4, .ref e5, .ref kC, .ref kF, .ref kT, .int spn])), (kF, .inl (cF, 24, .inl fF))]) sz) [(cm, .inr (1, [.ref kA, .ref kB, .ref kG, .ref kS, .ref o3, .ref e4, .ref e5, .ref kC, .ref kF, .ref kT, .int spn])), (kF, .inl (cF, 24, .inl fF9))]) (va_A ([(cm, .inr (1, [.ref kA, .ref kB, .ref kG, .ref kS, .ref o3, .ref e4, .ref e5, .ref kC, .ref kF, .ref kT, .int spn])), (kF, .inl (cF, 24, .inl fF))]) sz)) 0 0 (va_A ([(cm, .inr (1, [.ref kA, .ref kB, .ref kG, .ref kS, .ref o3, .ref e4, .ref e5, .ref kC, .ref kF, .ref kT, .int spn])), (kF, .inl (cF, 24, .inl fF))]) sz) := by
  refine Met.ofW (cc := cX1_addFollow) (maxL := 4) (ret := none) (by decide +kernel) rfl ?_
  intro p e s m args below meth c s₁ B hml hv
  obtain ⟨rfl, hsz, hP, hK, hD0⟩ := hv
  have hx := B.exec
  have hb := B.bytes
  have hr := B.returns
  have hts := atoms_spec (ws := mwX1_addFollow) B.pre
  have hown : s.vm.findClass RX1 = some m.cls := findClass_of_methodNamed B.named
  have hlocks := B.notSynchronized
  subst hsz
  have hD := hD0.self (sz := s.heap.size)
  generalize hAe : va_A ([(cm, .inr (1, [.ref kA, .ref kB, .ref kG, .ref kS, .ref o3, .ref e4, .ref e5, .ref kC, .ref kF, .ref kT, .int spn])), (kF, .inl (cF, 24, .inl fF))]) s.heap.size = A at hD ⊢
  have hA : ∀ q : Nat, s.heap.size ≤ q → A q := fun q h => by rw [← hAe]; exact Or.inr h
  have hP : va_P (dC, dI) vwCl [(cm, .inr (1, [.ref kA, .ref kB, .ref kG, .ref kS, .ref o3, .ref e4, .ref e5, .ref kC, .ref kF, .ref kT, .int spn])), (kF, .inl (cF, 24, .inl fF))] s.heap := hP
  have hD : va_D A [(cm, .inr (1, [.ref kA, .ref kB, .ref kG, .ref kS, .ref o3, .ref e4, .ref e5, .ref kC, .ref kF, .ref kT, .int spn])), (kF, .inl (cF, 24, .inl fF))] := hD
  have hK : va_K (dC, dI) vwCl [(cF, .int)] s := hK
  generalize hH : s.heap = H at hP ⊢
  have hS : va_S A s.heap H [] := by rw [← hH]; exact va_S.rf
  have hl := lv_entry ([.ref cm, .int i8, .int i9]) (n := 4) (Nat.le_of_ble_eq_true rfl)
  rw [lg_entry_eq]
  generalize (lg_sl ([.ref cm, .int i8, .int i9]) ++ List.replicate (4 - (lg_sl ([.ref cm, .int i8, .int i9])).length) Slot.unset).toArray = ls at hl ⊢
  have hl : lv_has ls 4 [(0, .ref cm), (1, .int i8), (2, .int i9)] := hl
  have rg_i8 := i_rng i8
  have rg_i9 := i_rng i9
  have rspn := i_rng spn
  refine lv_iconst (v := 0) hx hb dX1_addFollow_0 (by decide) ?_
  refine lv_istore_n (lv' := [(3, .int 0), (0, .ref cm), (1, .int i8), (2, .int i9)]) hx hb dX1_addFollow_1 rfl hl (by decide) rfl (fun ls hl => ?_)
  have loop2 : ∀ (lm2 : Nat) (ii : Int32) (gf : Nat → Int32), (0 ≤ ii.toInt) → ((spn.toInt - ii.toInt).toNat) < lm2 → ∀ (H : Heap) (locs : List Loc) (ls : Array Slot), va_P (dC, dI) vwCl [(cm, .inr (1, [.ref kA, .ref kB, .ref kG, .ref kS, .ref o3, .ref e4, .ref e5, .ref kC, .ref kF, .ref kT, .int spn])), (kF, .inl (cF, 24, .inl gf))] H → va_D A [(cm, .inr (1, [.ref kA, .ref kB, .ref kG, .ref kS, .ref o3, .ref e4, .ref e5, .ref kC, .ref kF, .ref kT, .int spn])), (kF, .inl (cF, 24, .inl gf))] → va_S A s.heap H locs → lv_has ls 4 [(3, .int ii), (0, .ref cm), (1, .int i8), (2, .int i9)] → W p l e (headSpec mwX1_addFollow ({ frames := 0, cells := 0, slots := 0, locals := 0 })).room s m ([.ref cm, .int i8, .int i9]).toArray below meth c H locs 0 0 (MQ below (va_Qv (fun (_ : Unit) => True) (fun _ t => ∃ (fF9 : Nat → Int32), va_P (dC, dI) vwCl [(cm, .inr (1, [.ref kA, .ref kB, .ref kG, .ref kS, .ref o3, .ref e4, .ref e5, .ref kC, .ref kF, .ref kT, .int spn])), (kF, .inl (cF, 24, .inl fF9))] t.heap ∧ va_K (dC, dI) vwCl [(cF, .int)] t ∧ va_D A [(cm, .inr (1, [.ref kA, .ref kB, .ref kG, .ref kS, .ref o3, .ref e4, .ref e5, .ref kC, .ref kF, .ref kT, .int spn])), (kF, .inl (cF, 24, .inl fF9))]) A) ([.ref cm, .int i8, .int i9]).toArray s 0 0 A) (F0 m 2 ls []) := by
    intro lm2
    induction lm2 with
    | zero => intro ii gf v2_0 hm2; exact absurd hm2 (Nat.not_lt_zero _)
    | succ lm2 ih2 =>
      intro ii gf v2_0 hm2 H locs ls hP hD hS hl
      have rg_ii := i_rng ii
      refine lv_iload_n hx hb dX1_addFollow_2 rfl (lv_at hl 0 rfl) ?_
      refine lv_aload_n hx hb dX1_addFollow_3 rfl (lv_at hl 1 rfl) ?_
      refine va_get (D := (dC, dI)) (ci := 1) (v := .int spn) (C := RX1) (T := TX1) (N := 11) hx hb hts fin_X1_addFollow_X1 hown hK hP 0 rfl rfl 10 (by decide) (hts (.fieldLink RX1 58 "PatternGate$Compiler" "spots" "I") (List.mem_of_getElem? (i := 1) (by decide +kernel))) (fun _ h9 => h9) rfl dX1_addFollow_4 ?_
      refine lv_icmp_ge (tgt := 34) hx hb dX1_addFollow_7 (by decide) (fun k_1 => ?_) (fun k_1 => ?_)
      · have tk_1 := c_ge (a := ii.toInt) (b := spn.toInt) rfl rfl k_1
        have hP9 := hP.sub (ws' := [(cm, .inr (1, [.ref kA, .ref kB, .ref kG, .ref kS, .ref o3, .ref e4, .ref e5, .ref kC, .ref kF, .ref kT, .int spn])), (kF, .inl (cF, 24, .inl gf))]) [0, 1] rfl
        have hD9 := hD.sub (ws' := [(cm, .inr (1, [.ref kA, .ref kB, .ref kG, .ref kS, .ref o3, .ref e4, .ref e5, .ref kC, .ref kF, .ref kT, .int spn])), (kF, .inl (cF, 24, .inl gf))]) [0, 1] (by decide) rfl
        have hK9 := hK.sub (tys' := [(cF, .int)]) [0] rfl
        exact W.vret hx hb hr (fun t ht hW => ⟨⟨(), rfl, trivial, gf, by rw [ht]; exact hP9, va_K.moved hW.alike hK9, hD9⟩, hS.F ht⟩) hS.2.2 dX1_addFollow_34
      · have tk_1 := c_nge (a := ii.toInt) (b := spn.toInt) rfl rfl k_1
        refine lv_iload_n hx hb dX1_addFollow_10 rfl (lv_at hl 2 rfl) ?_
        refine lv_iload_n hx hb dX1_addFollow_11 rfl (lv_at hl 0 rfl) ?_
        refine lv_iushr hx hb dX1_addFollow_12 rfl ?_
        refine lv_topi (fun y_2 ey_2 => ?_)
        refine lv_iconst (v := 1) hx hb dX1_addFollow_13 (by decide) ?_
        refine lv_iand hx hb dX1_addFollow_14 ?_
        refine lv_topi (fun y_3 ey_3 => ?_)
        have ty_3 := i_and (b := 1) (by decide) (by decide) ey_3
        first | have oy_3 : y_3 = 0 ∨ y_3 = 1 := b_iand (by first | assumption | decide) (by first | assumption | decide) ey_3 | skip
        refine lv_if_eq (tgt := 28) hx hb dX1_addFollow_15 (by decide) (fun k_4 => ?_) (fun k_4 => ?_)
        · have tk_4 := c_eq (a := y_3.toInt) (b := 0) rfl (by decide) k_4
          obtain ⟨y_5, ey_5⟩ : ∃ y : Int32, y = ii + 1 := ⟨_, rfl⟩
          first | have ty_5 := i_add (a := ii.toInt) (b := 1) rfl (by decide) ey_5 (by omega) (by omega) | skip
          refine lv_iinc (v := y_5) (lv' := [(3, .int y_5), (0, .ref cm), (1, .int i8), (2, .int i9)]) hx hb dX1_addFollow_28 hl (k := 0) rfl (by rw [ey_5]; rfl) (by decide) rfl (fun ls hl => ?_)
          refine lv_goto (tgt := 2) hx hb dX1_addFollow_31 (by decide) ?_
          exact ih2 y_5 gf (by first | omega | assumption | decide) (by omega) _ _ ls hP hD hS (lv_sub hl [0, 1, 2, 3] rfl)
        · have tk_4 := c_ne (a := y_3.toInt) (b := 0) rfl (by decide) k_4
          refine lv_aload_n hx hb dX1_addFollow_18 rfl (lv_at hl 1 rfl) ?_
          refine va_get (D := (dC, dI)) (ci := 1) (v := .ref kF) (C := RX1) (T := TX1) (N := 11) hx hb hts fin_X1_addFollow_X1 hown hK hP 0 rfl rfl 8 (by decide) (hts (.fieldLink RX1 52 "PatternGate$Compiler" "follow" "[I") (List.mem_of_getElem? (i := 2) (by decide +kernel))) (fun _ h9 => h9) rfl dX1_addFollow_19 ?_
          refine lv_iload_n hx hb dX1_addFollow_22 rfl (lv_at hl 0 rfl) ?_
          refine lv_dup2_11 hx hb dX1_addFollow_23 rfl rfl ?_
          refine va_iald hx hb hK hP 1 0 rfl rfl (i := ii) (vp_of (a := ii.toInt) rfl (by omega) (by omega)) dX1_addFollow_24 ?_
          refine lv_topi (fun y_6 ey_6 => ?_)
          have rg_y_6 := i_rng y_6
          refine lv_iload_n hx hb dX1_addFollow_25 rfl (lv_at hl 3 rfl) ?_
          refine lv_ior hx hb dX1_addFollow_26 ?_
          refine lv_topi (fun y_7 ey_7 => ?_)
          have rg_y_7 := i_rng y_7
          first | have oy_7 : y_7 = 0 ∨ y_7 = 1 := b_ior (by first | assumption | decide) (by first | assumption | decide) ey_7 | skip
          refine va_iast hx hb hK hP hD hS 1 0 rfl rfl (i := ii) (vp_of (a := ii.toInt) rfl (by omega) (by omega)) dX1_addFollow_27 (fun H locs hP hD hS => ?_)
          generalize hf_f_8 : upd gf _ _ = f_8 at hP hD
          have hP : va_P (dC, dI) vwCl [(cm, .inr (1, [.ref kA, .ref kB, .ref kG, .ref kS, .ref o3, .ref e4, .ref e5, .ref kC, .ref kF, .ref kT, .int spn])), (kF, .inl (cF, 24, .inl f_8))] H := hP
          have hD : va_D A [(cm, .inr (1, [.ref kA, .ref kB, .ref kG, .ref kS, .ref o3, .ref e4, .ref e5, .ref kC, .ref kF, .ref kT, .int spn])), (kF, .inl (cF, 24, .inl f_8))] := hD
          obtain ⟨y_9, ey_9⟩ : ∃ y : Int32, y = ii + 1 := ⟨_, rfl⟩
          first | have ty_9 := i_add (a := ii.toInt) (b := 1) rfl (by decide) ey_9 (by omega) (by omega) | skip
          refine lv_iinc (v := y_9) (lv' := [(3, .int y_9), (0, .ref cm), (1, .int i8), (2, .int i9)]) hx hb dX1_addFollow_28 hl (k := 0) rfl (by rw [ey_9]; rfl) (by decide) rfl (fun ls hl => ?_)
          refine lv_goto (tgt := 2) hx hb dX1_addFollow_31 (by decide) ?_
          exact ih2 y_9 f_8 (by first | omega | assumption | decide) (by omega) _ _ ls hP hD hS (lv_sub hl [0, 1, 2, 3] rfl)
  have lit_9 : (0 : Int32).toInt = 0 := by decide
  exact loop2 _ 0 fF (by first | omega | assumption | decide) (Nat.lt_succ_self _) _ _ ls hP hD hS (lv_sub hl [0, 1, 2, 3] rfl)
theorem dX1_openWhole_0 : decode cX1_openWhole 0 = .ok (.iload_n 1, 1) := by decide +kernel
theorem dX1_openWhole_1 : decode cX1_openWhole 1 = .ok (.ifCond .lt 19, 3) := by decide +kernel
theorem dX1_openWhole_4 : decode cX1_openWhole 4 = .ok (.iload_n 1, 1) := by decide +kernel
theorem dX1_openWhole_5 : decode cX1_openWhole 5 = .ok (.aload_n 0, 1) := by decide +kernel
theorem dX1_openWhole_6 : decode cX1_openWhole 6 = .ok (.getfield 20, 3) := by decide +kernel
theorem dX1_openWhole_9 : decode cX1_openWhole 9 = .ok (.arraylength, 1) := by decide +kernel
theorem dX1_openWhole_10 : decode cX1_openWhole 10 = .ok (.if_icmp .ge 10, 3) := by decide +kernel
theorem dX1_openWhole_13 : decode cX1_openWhole 13 = .ok (.aload_n 0, 1) := by decide +kernel
theorem dX1_openWhole_14 : decode cX1_openWhole 14 = .ok (.getfield 20, 3) := by decide +kernel
theorem dX1_openWhole_17 : decode cX1_openWhole 17 = .ok (.iload_n 1, 1) := by decide +kernel
theorem dX1_openWhole_18 : decode cX1_openWhole 18 = .ok (.iconst 0, 1) := by decide +kernel
theorem dX1_openWhole_19 : decode cX1_openWhole 19 = .ok (.bastore, 1) := by decide +kernel
theorem dX1_openWhole_20 : decode cX1_openWhole 20 = .ok (.aload_n 0, 1) := by decide +kernel
theorem dX1_openWhole_21 : decode cX1_openWhole 21 = .ok (.aload_n 0, 1) := by decide +kernel
theorem dX1_openWhole_22 : decode cX1_openWhole 22 = .ok (.getfield 17, 3) := by decide +kernel
theorem dX1_openWhole_25 : decode cX1_openWhole 25 = .ok (.iload_n 1, 1) := by decide +kernel
theorem dX1_openWhole_26 : decode cX1_openWhole 26 = .ok (.invokevirtual 95, 3) := by decide +kernel
theorem dX1_openWhole_29 : decode cX1_openWhole 29 = .ok (.invokevirtual 124, 3) := by decide +kernel
theorem dX1_openWhole_32 : decode cX1_openWhole 32 = .ok (.return_, 1) := by decide +kernel
def mwX1_openWhole : List Cond := .code yX1_openWhole cX1_openWhole 2 none :: (([.fieldLink RX1 17 "PatternGate$Compiler" "branches" "[LPatternGate$Part;", .methodLink RX1 95 yX1_partAt, .instanceMethod yX1_partAt, .selects RX1 yX1_partAt yX1_partAt, .initialized RX1, .methodLink RX1 124 yX4_beginBranch, .instanceMethod yX4_beginBranch, .selects RX4 yX4_beginBranch yX4_beginBranch, .initialized RX4, .fieldLink RX1 20 "PatternGate$Compiler" "begun" "[Z"] : List Cond) ++ (wsX10 ++ (mwX1_partAt ++ (mwX4_beginBranch))))
theorem fin_X1_openWhole_X1 : ∀ w ∈ wsX10, w ∈ mwX1_openWhole := fun w h => List.mem_cons_of_mem _ (List.mem_append_right _ (List.mem_append_left _ h))
set_option maxRecDepth 100000 in
theorem gd_mwX1_partAt : mwX1_partAt.all goodWord = true := by decide +kernel
set_option maxRecDepth 100000 in
theorem gd_mwX4_beginBranch : mwX4_beginBranch.all goodWord = true := by decide +kernel
set_option maxRecDepth 20000 in
theorem mg_X1_openWhole_X1_partAt_95 : GoodIn mwX1_openWhole (wsV RX1 95 RX1 yX1_partAt mwX1_partAt) := gi_app (A := [.methodLink RX1 95 yX1_partAt, .instanceMethod yX1_partAt, .selects RX1 yX1_partAt yX1_partAt, .initialized RX1]) (goodIn_r _ [2, 3, 4, 5] (by decide +kernel) (by decide +kernel)) (gi_sub gd_mwX1_partAt (fun w h => List.mem_cons_of_mem _ (List.mem_append_right _ (List.mem_append_right _ (List.mem_append_left _ h)))))
set_option maxRecDepth 20000 in
theorem mg_X1_openWhole_X4_beginBranch_124 : GoodIn mwX1_openWhole (wsV RX1 124 RX4 yX4_beginBranch mwX4_beginBranch) := gi_app (A := [.methodLink RX1 124 yX4_beginBranch, .instanceMethod yX4_beginBranch, .selects RX4 yX4_beginBranch yX4_beginBranch, .initialized RX4]) (goodIn_r _ [6, 7, 8, 9] (by decide +kernel) (by decide +kernel)) (gi_sub gd_mwX4_beginBranch (fun w h => List.mem_cons_of_mem _ (List.mem_append_right _ (List.mem_append_right _ (List.mem_append_right _ (h))))))
set_option maxHeartbeats 4000000 in
set_option maxRecDepth 100000 in
/-- Compiler.openWhole -/
theorem s_openWhole (l : Launch) (dC : Nat → ClassId) (dI : Nat → Nat → Nat) (cm kA kS o3 e4 e5 kC kF kT : Nat) (spn : Int32) (kB : Nat) (cB : ClassId) (fB : Nat → Option Nat) (kG : Nat) (cG : ClassId) (fG : Nat → Int32) (a1 : Nat) (x10 x11 x12 x13 x14 x15 : Int32) (o1 r1 : Nat) (c1 : ClassId) (f1 : Nat → Int64) (n1 : Int32) (e1 t1 s1 R1 : Nat) (ct1 cs1 : ClassId) (ft1 fs1 : Nat → Int32) (m1 : Int32) (sz : Nat) (i9 : Int32) (hs1 : 0 ≤ spn.toInt) (hs2 : spn.toInt ≤ 24) (hx1 : x10 = 0 ∨ x10 = 1) (hy1 : x11 = 0 ∨ x11 = 1) (ha1 : 0 ≤ n1.toInt) (hb1 : n1.toInt ≤ 6) (hR1 : 1 ≤ R1) (hU1 : R1 ≤ 144) (hc1 : 0 ≤ m1.toInt) (hd1 : m1.toInt ≤ R1) (hb_fs1 : ∀ i, 0 ≤ (fs1 i).toInt ∧ (fs1 i).toInt ≤ 24) (h9 : 0 ≤ i9.toInt ∧ i9.toInt ≤ 5) (hq1 : fB i9.toNatClampNeg = some a1) : Met l yX1_openWhole mwX1_openWhole ({ frames := 2, cells := 0, slots := 0, locals := 120 }) (va_Pc [.ref cm, .int i9] (fun U => U.heap.size = sz ∧ va_P (dC, dI) vwCl ([(cm, .inr (1, [.ref kA, .ref kB, .ref kG, .ref kS, .ref o3, .ref e4, .ref e5, .ref kC, .ref kF, .ref kT, .int spn])), (kB, .inl (cB, 6, .inr (.inr (.inr (.inr fB))))), (kG, .inl (cG, 6, .inl fG)), (a1, .inr (4, [.ref o1, .ref e1, .int x10, .int x11, .int x12, .int x13, .int x14, .int x15])), (o1, .inr (7, [.ref r1, .int n1])), (r1, .inl (c1, 6, .inr (.inl f1))), (e1, .inr (3, [.int (nI R1), .ref t1, .ref s1, .int m1])), (t1, .inl (ct1, 24 * R1, .inl ft1)), (s1, .inl (cs1, R1, .inl fs1))]) U.heap ∧ va_K (dC, dI) vwCl ([(cB, .object "PatternGate$Part"), (cG, .boolean), (c1, .long), (ct1, .int), (cs1, .int)]) U ∧ va_D (fun _ => True) ([(cm, .inr (1, [.ref kA, .ref kB, .ref kG, .ref kS, .ref o3, .ref e4, .ref e5, .ref kC, .ref kF, .ref kT, .int spn])), (kB, .inl (cB, 6, .inr (.inr (.inr (.inr fB))))), (kG, .inl (cG, 6, .inl fG)), (a1, .inr (4, [.ref o1, .ref e1, .int x10, .int x11, .int x12, .int x13, .int x14, .int x15])), (o1, .inr (7, [.ref r1, .int n1])), (r1, .inl (c1, 6, .inr (.inl f1))), (e1, .inr (3, [.int (nI R1), .ref t1, .ref s1, .int m1])), (t1, .inl (ct1, 24 * R1, .inl ft1)), (s1, .inl (cs1, R1, .inl fs1))]))) (va_Qv (fun (_ : Unit) => True) (fun _ t => ∃ (fG9 : Nat → Int32) (y10 y11 y12 y13 y14 y15 nn1 mm1 : Int32) (G1 : Nat → Int64) (F1 S1 : Nat → Int32), (y10 = 0 ∨ y10 = 1) ∧ (y11 = 0 ∨ y11 = 1) ∧ (0 ≤ nn1.toInt ∧ nn1.toInt ≤ 6) ∧ (0 ≤ mm1.toInt ∧ mm1.toInt ≤ R1) ∧ (∀ i, 0 ≤ (S1 i).toInt ∧ (S1 i).toInt ≤ 24) ∧ va_P (dC, dI) vwCl [(cm, .inr (1, [.ref kA, .ref kB, .ref kG, .ref kS, .ref o3, .ref e4, .ref e5, .ref kC, .ref kF, .ref kT, .int spn])), (kB, .inl (cB, 6, .inr (.inr (.inr (.inr fB))))), (kG, .inl (cG, 6, .inl fG9)), (a1, .inr (4, [.ref o1, .ref e1, .int y10, .int y11, .int y12, .int y13, .int y14, .int y15])), (o1, .inr (7, [.ref r1, .int nn1])), (r1, .inl (c1, 6, .inr (.inl G1))), (e1, .inr (3, [.int (nI R1), .ref t1, .ref s1, .int mm1])), (t1, .inl (ct1, 24 * R1, .inl F1)), (s1, .inl (cs1, R1, .inl S1))] t.heap ∧ va_K (dC, dI) vwCl [(cB, .object "PatternGate$Part"), (cG, .boolean), (c1, .long), (ct1, .int), (cs1, .int)] t ∧ va_D (va_A ([(cm, .inr (1, [.ref kA, .ref kB, .ref kG, .ref kS, .ref o3, .ref e4, .ref e5, .ref kC, .ref kF, .ref kT, .int spn])), (kB, .inl (cB, 6, .inr (.inr (.inr (.inr fB))))), (kG, .inl (cG, 6, .inl fG)), (a1, .inr (4, [.ref o1, .ref e1, .int x10, .int x11, .int x12, .int x13, .int x14, .int x15])), (o1, .inr (7, [.ref r1, .int n1])), (r1, .inl (c1, 6, .inr (.inl f1))), (e1, .inr (3, [.int (nI R1), .ref t1, .ref s1, .int m1])), (t1, .inl (ct1, 24 * R1, .inl ft1)), (s1, .inl (cs1, R1, .inl fs1))]) sz) [(cm, .inr (1, [.ref kA, .ref kB, .ref kG, .ref kS, .ref o3, .ref e4, .ref e5, .ref kC, .ref kF, .ref kT, .int spn])), (kB, .inl (cB, 6, .inr (.inr (.inr (.inr fB))))), (kG, .inl (cG, 6, .inl fG9)), (a1, .inr (4, [.ref o1, .ref e1, .int y10, .int y11, .int y12, .int y13, .int y14, .int y15])), (o1, .inr (7, [.ref r1, .int nn1])), (r1, .inl (c1, 6, .inr (.inl G1))), (e1, .inr (3, [.int (nI R1), .ref t1, .ref s1, .int mm1])), (t1, .inl (ct1, 24 * R1, .inl F1)), (s1, .inl (cs1, R1, .inl S1))]) (va_A ([(cm, .inr (1, [.ref kA, .ref kB, .ref kG, .ref kS, .ref o3, .ref e4, .ref e5, .ref kC, .ref kF, .ref kT, .int spn])), (kB, .inl (cB, 6, .inr (.inr (.inr (.inr fB))))), (kG, .inl (cG, 6, .inl fG)), (a1, .inr (4, [.ref o1, .ref e1, .int x10, .int x11, .int x12, .int x13, .int x14, .int x15])), (o1, .inr (7, [.ref r1, .int n1])), (r1, .inl (c1, 6, .inr (.inl f1))), (e1, .inr (3, [.int (nI R1), .ref t1, .ref s1, .int m1])), (t1, .inl (ct1, 24 * R1, .inl ft1)), (s1, .inl (cs1, R1, .inl fs1))]) sz)) 0 0 (va_A ([(cm, .inr (1, [.ref kA, .ref kB, .ref kG, .ref kS, .ref o3, .ref e4, .ref e5, .ref kC, .ref kF, .ref kT, .int spn])), (kB, .inl (cB, 6, .inr (.inr (.inr (.inr fB))))), (kG, .inl (cG, 6, .inl fG)), (a1, .inr (4, [.ref o1, .ref e1, .int x10, .int x11, .int x12, .int x13, .int x14, .int x15])), (o1, .inr (7, [.ref r1, .int n1])), (r1, .inl (c1, 6, .inr (.inl f1))), (e1, .inr (3, [.int (nI R1), .ref t1, .ref s1, .int m1])), (t1, .inl (ct1, 24 * R1, .inl ft1)), (s1, .inl (cs1, R1, .inl fs1))]) sz) := by
  refine Met.ofW (cc := cX1_openWhole) (maxL := 2) (ret := none) (by decide +kernel) rfl ?_
  intro p e s m args below meth c s₁ B hml hv
  obtain ⟨rfl, hsz, hP, hK, hD0⟩ := hv
  have hx := B.exec
  have hb := B.bytes
  have hr := B.returns
  have hts := atoms_spec (ws := mwX1_openWhole) B.pre
  have hown : s.vm.findClass RX1 = some m.cls := findClass_of_methodNamed B.named
  have hlocks := B.notSynchronized
  subst hsz
  have hD := hD0.self (sz := s.heap.size)
  generalize hAe : va_A ([(cm, .inr (1, [.ref kA, .ref kB, .ref kG, .ref kS, .ref o3, .ref e4, .ref e5, .ref kC, .ref kF, .ref kT, .int spn])), (kB, .inl (cB, 6, .inr (.inr (.inr (.inr fB))))), (kG, .inl (cG, 6, .inl fG)), (a1, .inr (4, [.ref o1, .ref e1, .int x10, .int x11, .int x12, .int x13, .int x14, .int x15])), (o1, .inr (7, [.ref r1, .int n1])), (r1, .inl (c1, 6, .inr (.inl f1))), (e1, .inr (3, [.int (nI R1), .ref t1, .ref s1, .int m1])), (t1, .inl (ct1, 24 * R1, .inl ft1)), (s1, .inl (cs1, R1, .inl fs1))]) s.heap.size = A at hD ⊢
  have hA : ∀ q : Nat, s.heap.size ≤ q → A q := fun q h => by rw [← hAe]; exact Or.inr h
  have hP : va_P (dC, dI) vwCl [(cm, .inr (1, [.ref kA, .ref kB, .ref kG, .ref kS, .ref o3, .ref e4, .ref e5, .ref kC, .ref kF, .ref kT, .int spn])), (kB, .inl (cB, 6, .inr (.inr (.inr (.inr fB))))), (kG, .inl (cG, 6, .inl fG)), (a1, .inr (4, [.ref o1, .ref e1, .int x10, .int x11, .int x12, .int x13, .int x14, .int x15])), (o1, .inr (7, [.ref r1, .int n1])), (r1, .inl (c1, 6, .inr (.inl f1))), (e1, .inr (3, [.int (nI R1), .ref t1, .ref s1, .int m1])), (t1, .inl (ct1, 24 * R1, .inl ft1)), (s1, .inl (cs1, R1, .inl fs1))] s.heap := hP
  have hD : va_D A [(cm, .inr (1, [.ref kA, .ref kB, .ref kG, .ref kS, .ref o3, .ref e4, .ref e5, .ref kC, .ref kF, .ref kT, .int spn])), (kB, .inl (cB, 6, .inr (.inr (.inr (.inr fB))))), (kG, .inl (cG, 6, .inl fG)), (a1, .inr (4, [.ref o1, .ref e1, .int x10, .int x11, .int x12, .int x13, .int x14, .int x15])), (o1, .inr (7, [.ref r1, .int n1])), (r1, .inl (c1, 6, .inr (.inl f1))), (e1, .inr (3, [.int (nI R1), .ref t1, .ref s1, .int m1])), (t1, .inl (ct1, 24 * R1, .inl ft1)), (s1, .inl (cs1, R1, .inl fs1))] := hD
  have hK : va_K (dC, dI) vwCl [(cB, .object "PatternGate$Part"), (cG, .boolean), (c1, .long), (ct1, .int), (cs1, .int)] s := hK
  generalize hH : s.heap = H at hP ⊢
  have hS : va_S A s.heap H [] := by rw [← hH]; exact va_S.rf
  have hl := lv_entry ([.ref cm, .int i9]) (n := 2) (Nat.le_of_ble_eq_true rfl)
  rw [lg_entry_eq]
  generalize (lg_sl ([.ref cm, .int i9]) ++ List.replicate (2 - (lg_sl ([.ref cm, .int i9])).length) Slot.unset).toArray = ls at hl ⊢
  have hl : lv_has ls 2 [(0, .ref cm), (1, .int i9)] := hl
  have rg_i9 := i_rng i9
  have rspn := i_rng spn
  have tr1 : (nI R1).toInt = (R1 : Int) := nI_toInt (by omega)
  have rm1 := i_rng m1
  have rn1 := i_rng n1
  refine lv_iload_n hx hb dX1_openWhole_0 rfl (lv_at hl 1 rfl) ?_
  refine lv_if_lt (tgt := 20) hx hb dX1_openWhole_1 (by decide) (fun k_1 => ?_) (fun k_1 => ?_)
  · have tk_1 := c_lt (a := i9.toInt) (b := 0) rfl (by decide) k_1
    refine lv_aload_n hx hb dX1_openWhole_20 rfl (lv_at hl 0 rfl) ?_
    refine lv_aload_n hx hb dX1_openWhole_21 rfl (lv_at hl 0 rfl) ?_
    refine va_get (D := (dC, dI)) (ci := 1) (v := .ref kB) (C := RX1) (T := TX1) (N := 11) hx hb hts fin_X1_openWhole_X1 hown hK hP 0 rfl rfl 1 (by decide) (hts (.fieldLink RX1 17 "PatternGate$Compiler" "branches" "[LPatternGate$Part;") (List.mem_of_getElem? (i := 1) (by decide +kernel))) (fun _ h9 => h9) rfl dX1_openWhole_22 ?_
    refine lv_iload_n hx hb dX1_openWhole_25 rfl (lv_at hl 1 rfl) ?_
    have hPc := hP.sub (ws' := [(cm, .inr (1, [.ref kA, .ref kB, .ref kG, .ref kS, .ref o3, .ref e4, .ref e5, .ref kC, .ref kF, .ref kT, .int spn])), (kB, .inl (cB, 6, .inr (.inr (.inr (.inr fB)))))]) [0, 1] rfl
    have hKc := hK.sub (tys' := [(cB, .object "PatternGate$Part")]) [0] rfl
    refine va_csq (W.runV (As := [.ref kB, .int i9]) (rest := []) ⟨hx, hb, hml, hown, hts⟩ (s_partAt l dC dI cm kA kB kG kS o3 e4 e5 kC kF kT spn kB cB fB a1 i9 (by omega) hq1) (cwV 2 hts mg_X1_openWhole_X1_partAt_95 rfl rfl rfl (by decide +kernel) ⟨Nat.le_of_ble_eq_true rfl, Nat.le_of_ble_eq_true rfl⟩) ⟨fun a U g mk q => by obtain ⟨q0, qP, qK⟩ := q; exact ⟨q0, qP, va_K.moved (u := U) (U := U.calling g mk a) (Vm.Alike.refl U.vm) qK⟩, va_recv hKc hPc (ci := 1) (q0 := 0) rfl rfl, fun U hU hW => ⟨rfl, by rw [hU]; exact hPc, va_K.moved hW.alike hKc⟩⟩ rfl rfl hl.1 rfl (lv_room (Nat.le_of_ble_eq_true rfl)) dX1_openWhole_26 ⟨Nat.le_of_ble_eq_true rfl, Nat.le_of_ble_eq_true rfl⟩) (fun r_3 hw => ?_)
    subst hw
    refine W.eq (g2 := F0 m 29 ls [.ref a1]) rfl ?_
    have hPc := hP.sub (ws' := [(a1, .inr (4, [.ref o1, .ref e1, .int x10, .int x11, .int x12, .int x13, .int x14, .int x15])), (o1, .inr (7, [.ref r1, .int n1])), (r1, .inl (c1, 6, .inr (.inl f1))), (e1, .inr (3, [.int (nI R1), .ref t1, .ref s1, .int m1])), (t1, .inl (ct1, 24 * R1, .inl ft1)), (s1, .inl (cs1, R1, .inl fs1))]) [3, 4, 5, 6, 7, 8] rfl
    have hKc := hK.sub (tys' := [(c1, .long), (ct1, .int), (cs1, .int)]) [2, 3, 4] rfl
    have hDc := hD.sub (ws' := [(a1, .inr (4, [.ref o1, .ref e1, .int x10, .int x11, .int x12, .int x13, .int x14, .int x15])), (o1, .inr (7, [.ref r1, .int n1])), (r1, .inl (c1, 6, .inr (.inl f1))), (e1, .inr (3, [.int (nI R1), .ref t1, .ref s1, .int m1])), (t1, .inl (ct1, 24 * R1, .inl ft1)), (s1, .inl (cs1, R1, .inl fs1))]) [3, 4, 5, 6, 7, 8] (by decide) rfl
    have hFc := va_free (wc := [(a1, .inr (4, [.ref o1, .ref e1, .int x10, .int x11, .int x12, .int x13, .int x14, .int x15])), (o1, .inr (7, [.ref r1, .int n1])), (r1, .inl (c1, 6, .inr (.inl f1))), (e1, .inr (3, [.int (nI R1), .ref t1, .ref s1, .int m1])), (t1, .inl (ct1, 24 * R1, .inl ft1)), (s1, .inl (cs1, R1, .inl fs1))]) hD hS hA [3, 4, 5, 6, 7, 8] rfl
    refine va_callv (va_runV (As := []) (rest := []) ⟨hx, hb, hml, hown, hts⟩ (s_beginBranch l dC dI a1 x10 x11 x12 x13 x14 x15 o1 r1 c1 f1 n1 e1 t1 s1 R1 ct1 cs1 ft1 fs1 m1 H.size (by first | assumption | decide) (by first | assumption | decide) (by first | omega | decide | (have l0 := Int32.toInt_zero; omega)) (by first | omega | decide | (have l0 := Int32.toInt_zero; omega)) (by first | omega | decide | (have l0 := Int32.toInt_zero; omega)) (by first | omega | decide | (have l0 := Int32.toInt_zero; omega)) (by first | omega | decide | (have l0 := Int32.toInt_zero; omega)) (by first | omega | decide | (have l0 := Int32.toInt_zero; omega)) hb_fs1) (cwV 0 hts mg_X1_openWhole_X4_beginBranch_124 rfl rfl rfl (by decide +kernel) ⟨Nat.le_of_ble_eq_true rfl, Nat.le_of_ble_eq_true rfl⟩) ⟨fun a U g mk q => by obtain ⟨q0, q1, qP, qK, qD⟩ := q; exact ⟨q0, q1, qP, va_K.moved (u := U) (U := U.calling g mk a) (Vm.Alike.refl U.vm) qK, qD⟩, va_recv hKc hPc (ci := 4) (q0 := 0) rfl rfl, fun U hU hW => ⟨rfl, by rw [hU], by rw [hU]; exact hPc, va_K.moved hW.alike hKc, hDc.weaken (fun _ _ _ _ => trivial)⟩⟩ rfl rfl hl.1 rfl (lv_room (Nat.le_of_ble_eq_true rfl)) dX1_openWhole_29 ⟨Nat.le_of_ble_eq_true rfl, Nat.le_of_ble_eq_true rfl⟩) hS (fun q _ h => hFc q h) hFc (fun u t H1 locs ht hvm hw hB hz1 hk1 hS => ?_)
    obtain ⟨w_6, w_7, w_8, w_9, w_10, w_11, u_12, u_13, f_14, f_15, f_16, h_17, h_18, h_19, h_20, hb_f_16, hP1, hK1, hD1⟩ := hB
    rw [ht] at hP1
    obtain ⟨hP, hD⟩ := va_join (wr := [(cm, .inr (1, [.ref kA, .ref kB, .ref kG, .ref kS, .ref o3, .ref e4, .ref e5, .ref kC, .ref kF, .ref kT, .int spn])), (kB, .inl (cB, 6, .inr (.inr (.inr (.inr fB))))), (kG, .inl (cG, 6, .inl fG))]) (w1 := [(a1, .inr (4, [.ref o1, .ref e1, .int w_6, .int w_7, .int w_8, .int w_9, .int w_10, .int w_11])), (o1, .inr (7, [.ref r1, .int u_12])), (r1, .inl (c1, 6, .inr (.inl f_14))), (e1, .inr (3, [.int (nI R1), .ref t1, .ref s1, .int u_13])), (t1, .inl (ct1, 24 * R1, .inl f_15)), (s1, .inl (cs1, R1, .inl f_16))]) hP hD [3, 4, 5, 6, 7, 8] [0, 1, 2] rfl rfl (by decide) (by decide) hk1 hFc hP1 hD1
    generalize H1 = H at hP hS ⊢
    have hP : va_P (dC, dI) vwCl [(cm, .inr (1, [.ref kA, .ref kB, .ref kG, .ref kS, .ref o3, .ref e4, .ref e5, .ref kC, .ref kF, .ref kT, .int spn])), (kB, .inl (cB, 6, .inr (.inr (.inr (.inr fB))))), (kG, .inl (cG, 6, .inl fG)), (a1, .inr (4, [.ref o1, .ref e1, .int w_6, .int w_7, .int w_8, .int w_9, .int w_10, .int w_11])), (o1, .inr (7, [.ref r1, .int u_12])), (r1, .inl (c1, 6, .inr (.inl f_14))), (e1, .inr (3, [.int (nI R1), .ref t1, .ref s1, .int u_13])), (t1, .inl (ct1, 24 * R1, .inl f_15)), (s1, .inl (cs1, R1, .inl f_16))] H := hP
    have hD : va_D A [(cm, .inr (1, [.ref kA, .ref kB, .ref kG, .ref kS, .ref o3, .ref e4, .ref e5, .ref kC, .ref kF, .ref kT, .int spn])), (kB, .inl (cB, 6, .inr (.inr (.inr (.inr fB))))), (kG, .inl (cG, 6, .inl fG)), (a1, .inr (4, [.ref o1, .ref e1, .int w_6, .int w_7, .int w_8, .int w_9, .int w_10, .int w_11])), (o1, .inr (7, [.ref r1, .int u_12])), (r1, .inl (c1, 6, .inr (.inl f_14))), (e1, .inr (3, [.int (nI R1), .ref t1, .ref s1, .int u_13])), (t1, .inl (ct1, 24 * R1, .inl f_15)), (s1, .inl (cs1, R1, .inl f_16))] := hD
    have hP9 := hP.sub (ws' := [(cm, .inr (1, [.ref kA, .ref kB, .ref kG, .ref kS, .ref o3, .ref e4, .ref e5, .ref kC, .ref kF, .ref kT, .int spn])), (kB, .inl (cB, 6, .inr (.inr (.inr (.inr fB))))), (kG, .inl (cG, 6, .inl fG)), (a1, .inr (4, [.ref o1, .ref e1, .int w_6, .int w_7, .int w_8, .int w_9, .int w_10, .int w_11])), (o1, .inr (7, [.ref r1, .int u_12])), (r1, .inl (c1, 6, .inr (.inl f_14))), (e1, .inr (3, [.int (nI R1), .ref t1, .ref s1, .int u_13])), (t1, .inl (ct1, 24 * R1, .inl f_15)), (s1, .inl (cs1, R1, .inl f_16))]) [0, 1, 2, 3, 4, 5, 6, 7, 8] rfl
    have hD9 := hD.sub (ws' := [(cm, .inr (1, [.ref kA, .ref kB, .ref kG, .ref kS, .ref o3, .ref e4, .ref e5, .ref kC, .ref kF, .ref kT, .int spn])), (kB, .inl (cB, 6, .inr (.inr (.inr (.inr fB))))), (kG, .inl (cG, 6, .inl fG)), (a1, .inr (4, [.ref o1, .ref e1, .int w_6, .int w_7, .int w_8, .int w_9, .int w_10, .int w_11])), (o1, .inr (7, [.ref r1, .int u_12])), (r1, .inl (c1, 6, .inr (.inl f_14))), (e1, .inr (3, [.int (nI R1), .ref t1, .ref s1, .int u_13])), (t1, .inl (ct1, 24 * R1, .inl f_15)), (s1, .inl (cs1, R1, .inl f_16))]) [0, 1, 2, 3, 4, 5, 6, 7, 8] (by decide) rfl
    have hK9 := hK.sub (tys' := [(cB, .object "PatternGate$Part"), (cG, .boolean), (c1, .long), (ct1, .int), (cs1, .int)]) [0, 1, 2, 3, 4] rfl
    exact W.vret hx hb hr (fun t ht hW => ⟨⟨(), rfl, trivial, fG, w_6, w_7, w_8, w_9, w_10, w_11, u_12, u_13, f_14, f_15, f_16, (by first | assumption | decide), (by first | assumption | decide), (by first | omega | decide | (have l1 : (1 : Int32).toInt = 1 := rfl; have l0 : (0 : Int32).toInt = 0 := rfl; omega)), (by first | omega | decide | (have l1 : (1 : Int32).toInt = 1 := rfl; have l0 : (0 : Int32).toInt = 0 := rfl; omega)), hb_f_16, by rw [ht]; exact hP9, va_K.moved hW.alike hK9, hD9⟩, hS.F ht⟩) hS.2.2 dX1_openWhole_32
  · have tk_1 := c_nlt (a := i9.toInt) (b := 0) rfl (by decide) k_1
    refine lv_iload_n hx hb dX1_openWhole_4 rfl (lv_at hl 1 rfl) ?_
    refine lv_aload_n hx hb dX1_openWhole_5 rfl (lv_at hl 0 rfl) ?_
    refine va_get (D := (dC, dI)) (ci := 1) (v := .ref kG) (C := RX1) (T := TX1) (N := 11) hx hb hts fin_X1_openWhole_X1 hown hK hP 0 rfl rfl 2 (by decide) (hts (.fieldLink RX1 20 "PatternGate$Compiler" "begun" "[Z") (List.mem_of_getElem? (i := 10) (by decide +kernel))) (fun _ h9 => h9) rfl dX1_openWhole_6 ?_
    refine va_alen (v := 6) hx hb hK hP 2 1 rfl rfl rfl dX1_openWhole_9 ?_
    refine lv_icmp_ge (tgt := 20) hx hb dX1_openWhole_10 (by decide) (fun k_21 => ?_) (fun k_21 => ?_)
    · have tk_21 := c_ge (a := i9.toInt) (b := 6) rfl (by decide) k_21
      refine lv_aload_n hx hb dX1_openWhole_20 rfl (lv_at hl 0 rfl) ?_
      refine lv_aload_n hx hb dX1_openWhole_21 rfl (lv_at hl 0 rfl) ?_
      refine va_get (D := (dC, dI)) (ci := 1) (v := .ref kB) (C := RX1) (T := TX1) (N := 11) hx hb hts fin_X1_openWhole_X1 hown hK hP 0 rfl rfl 1 (by decide) (hts (.fieldLink RX1 17 "PatternGate$Compiler" "branches" "[LPatternGate$Part;") (List.mem_of_getElem? (i := 1) (by decide +kernel))) (fun _ h9 => h9) rfl dX1_openWhole_22 ?_
      refine lv_iload_n hx hb dX1_openWhole_25 rfl (lv_at hl 1 rfl) ?_
      have hPc := hP.sub (ws' := [(cm, .inr (1, [.ref kA, .ref kB, .ref kG, .ref kS, .ref o3, .ref e4, .ref e5, .ref kC, .ref kF, .ref kT, .int spn])), (kB, .inl (cB, 6, .inr (.inr (.inr (.inr fB)))))]) [0, 1] rfl
      have hKc := hK.sub (tys' := [(cB, .object "PatternGate$Part")]) [0] rfl
      refine va_csq (W.runV (As := [.ref kB, .int i9]) (rest := []) ⟨hx, hb, hml, hown, hts⟩ (s_partAt l dC dI cm kA kB kG kS o3 e4 e5 kC kF kT spn kB cB fB a1 i9 (by omega) hq1) (cwV 2 hts mg_X1_openWhole_X1_partAt_95 rfl rfl rfl (by decide +kernel) ⟨Nat.le_of_ble_eq_true rfl, Nat.le_of_ble_eq_true rfl⟩) ⟨fun a U g mk q => by obtain ⟨q0, qP, qK⟩ := q; exact ⟨q0, qP, va_K.moved (u := U) (U := U.calling g mk a) (Vm.Alike.refl U.vm) qK⟩, va_recv hKc hPc (ci := 1) (q0 := 0) rfl rfl, fun U hU hW => ⟨rfl, by rw [hU]; exact hPc, va_K.moved hW.alike hKc⟩⟩ rfl rfl hl.1 rfl (lv_room (Nat.le_of_ble_eq_true rfl)) dX1_openWhole_26 ⟨Nat.le_of_ble_eq_true rfl, Nat.le_of_ble_eq_true rfl⟩) (fun r_23 hw => ?_)
      subst hw
      refine W.eq (g2 := F0 m 29 ls [.ref a1]) rfl ?_
      have hPc := hP.sub (ws' := [(a1, .inr (4, [.ref o1, .ref e1, .int x10, .int x11, .int x12, .int x13, .int x14, .int x15])), (o1, .inr (7, [.ref r1, .int n1])), (r1, .inl (c1, 6, .inr (.inl f1))), (e1, .inr (3, [.int (nI R1), .ref t1, .ref s1, .int m1])), (t1, .inl (ct1, 24 * R1, .inl ft1)), (s1, .inl (cs1, R1, .inl fs1))]) [3, 4, 5, 6, 7, 8] rfl
      have hKc := hK.sub (tys' := [(c1, .long), (ct1, .int), (cs1, .int)]) [2, 3, 4] rfl
      have hDc := hD.sub (ws' := [(a1, .inr (4, [.ref o1, .ref e1, .int x10, .int x11, .int x12, .int x13, .int x14, .int x15])), (o1, .inr (7, [.ref r1, .int n1])), (r1, .inl (c1, 6, .inr (.inl f1))), (e1, .inr (3, [.int (nI R1), .ref t1, .ref s1, .int m1])), (t1, .inl (ct1, 24 * R1, .inl ft1)), (s1, .inl (cs1, R1, .inl fs1))]) [3, 4, 5, 6, 7, 8] (by decide) rfl
      have hFc := va_free (wc := [(a1, .inr (4, [.ref o1, .ref e1, .int x10, .int x11, .int x12, .int x13, .int x14, .int x15])), (o1, .inr (7, [.ref r1, .int n1])), (r1, .inl (c1, 6, .inr (.inl f1))), (e1, .inr (3, [.int (nI R1), .ref t1, .ref s1, .int m1])), (t1, .inl (ct1, 24 * R1, .inl ft1)), (s1, .inl (cs1, R1, .inl fs1))]) hD hS hA [3, 4, 5, 6, 7, 8] rfl
      refine va_callv (va_runV (As := []) (rest := []) ⟨hx, hb, hml, hown, hts⟩ (s_beginBranch l dC dI a1 x10 x11 x12 x13 x14 x15 o1 r1 c1 f1 n1 e1 t1 s1 R1 ct1 cs1 ft1 fs1 m1 H.size (by first | assumption | decide) (by first | assumption | decide) (by first | omega | decide | (have l0 := Int32.toInt_zero; omega)) (by first | omega | decide | (have l0 := Int32.toInt_zero; omega)) (by first | omega | decide | (have l0 := Int32.toInt_zero; omega)) (by first | omega | decide | (have l0 := Int32.toInt_zero; omega)) (by first | omega | decide | (have l0 := Int32.toInt_zero; omega)) (by first | omega | decide | (have l0 := Int32.toInt_zero; omega)) hb_fs1) (cwV 0 hts mg_X1_openWhole_X4_beginBranch_124 rfl rfl rfl (by decide +kernel) ⟨Nat.le_of_ble_eq_true rfl, Nat.le_of_ble_eq_true rfl⟩) ⟨fun a U g mk q => by obtain ⟨q0, q1, qP, qK, qD⟩ := q; exact ⟨q0, q1, qP, va_K.moved (u := U) (U := U.calling g mk a) (Vm.Alike.refl U.vm) qK, qD⟩, va_recv hKc hPc (ci := 4) (q0 := 0) rfl rfl, fun U hU hW => ⟨rfl, by rw [hU], by rw [hU]; exact hPc, va_K.moved hW.alike hKc, hDc.weaken (fun _ _ _ _ => trivial)⟩⟩ rfl rfl hl.1 rfl (lv_room (Nat.le_of_ble_eq_true rfl)) dX1_openWhole_29 ⟨Nat.le_of_ble_eq_true rfl, Nat.le_of_ble_eq_true rfl⟩) hS (fun q _ h => hFc q h) hFc (fun u t H1 locs ht hvm hw hB hz1 hk1 hS => ?_)
      obtain ⟨w_26, w_27, w_28, w_29, w_30, w_31, u_32, u_33, f_34, f_35, f_36, h_37, h_38, h_39, h_40, hb_f_36, hP1, hK1, hD1⟩ := hB
      rw [ht] at hP1
      obtain ⟨hP, hD⟩ := va_join (wr := [(cm, .inr (1, [.ref kA, .ref kB, .ref kG, .ref kS, .ref o3, .ref e4, .ref e5, .ref kC, .ref kF, .ref kT, .int spn])), (kB, .inl (cB, 6, .inr (.inr (.inr (.inr fB))))), (kG, .inl (cG, 6, .inl fG))]) (w1 := [(a1, .inr (4, [.ref o1, .ref e1, .int w_26, .int w_27, .int w_28, .int w_29, .int w_30, .int w_31])), (o1, .inr (7, [.ref r1, .int u_32])), (r1, .inl (c1, 6, .inr (.inl f_34))), (e1, .inr (3, [.int (nI R1), .ref t1, .ref s1, .int u_33])), (t1, .inl (ct1, 24 * R1, .inl f_35)), (s1, .inl (cs1, R1, .inl f_36))]) hP hD [3, 4, 5, 6, 7, 8] [0, 1, 2] rfl rfl (by decide) (by decide) hk1 hFc hP1 hD1
      generalize H1 = H at hP hS ⊢
      have hP : va_P (dC, dI) vwCl [(cm, .inr (1, [.ref kA, .ref kB, .ref kG, .ref kS, .ref o3, .ref e4, .ref e5, .ref kC, .ref kF, .ref kT, .int spn])), (kB, .inl (cB, 6, .inr (.inr (.inr (.inr fB))))), (kG, .inl (cG, 6, .inl fG)), (a1, .inr (4, [.ref o1, .ref e1, .int w_26, .int w_27, .int w_28, .int w_29, .int w_30, .int w_31])), (o1, .inr (7, [.ref r1, .int u_32])), (r1, .inl (c1, 6, .inr (.inl f_34))), (e1, .inr (3, [.int (nI R1), .ref t1, .ref s1, .int u_33])), (t1, .inl (ct1, 24 * R1, .inl f_35)), (s1, .inl (cs1, R1, .inl f_36))] H := hP
      have hD : va_D A [(cm, .inr (1, [.ref kA, .ref kB, .ref kG, .ref kS, .ref o3, .ref e4, .ref e5, .ref kC, .ref kF, .ref kT, .int spn])), (kB, .inl (cB, 6, .inr (.inr (.inr (.inr fB))))), (kG, .inl (cG, 6, .inl fG)), (a1, .inr (4, [.ref o1, .ref e1, .int w_26, .int w_27, .int w_28, .int w_29, .int w_30, .int w_31])), (o1, .inr (7, [.ref r1, .int u_32])), (r1, .inl (c1, 6, .inr (.inl f_34))), (e1, .inr (3, [.int (nI R1), .ref t1, .ref s1, .int u_33])), (t1, .inl (ct1, 24 * R1, .inl f_35)), (s1, .inl (cs1, R1, .inl f_36))] := hD
      have hP9 := hP.sub (ws' := [(cm, .inr (1, [.ref kA, .ref kB, .ref kG, .ref kS, .ref o3, .ref e4, .ref e5, .ref kC, .ref kF, .ref kT, .int spn])), (kB, .inl (cB, 6, .inr (.inr (.inr (.inr fB))))), (kG, .inl (cG, 6, .inl fG)), (a1, .inr (4, [.ref o1, .ref e1, .int w_26, .int w_27, .int w_28, .int w_29, .int w_30, .int w_31])), (o1, .inr (7, [.ref r1, .int u_32])), (r1, .inl (c1, 6, .inr (.inl f_34))), (e1, .inr (3, [.int (nI R1), .ref t1, .ref s1, .int u_33])), (t1, .inl (ct1, 24 * R1, .inl f_35)), (s1, .inl (cs1, R1, .inl f_36))]) [0, 1, 2, 3, 4, 5, 6, 7, 8] rfl
      have hD9 := hD.sub (ws' := [(cm, .inr (1, [.ref kA, .ref kB, .ref kG, .ref kS, .ref o3, .ref e4, .ref e5, .ref kC, .ref kF, .ref kT, .int spn])), (kB, .inl (cB, 6, .inr (.inr (.inr (.inr fB))))), (kG, .inl (cG, 6, .inl fG)), (a1, .inr (4, [.ref o1, .ref e1, .int w_26, .int w_27, .int w_28, .int w_29, .int w_30, .int w_31])), (o1, .inr (7, [.ref r1, .int u_32])), (r1, .inl (c1, 6, .inr (.inl f_34))), (e1, .inr (3, [.int (nI R1), .ref t1, .ref s1, .int u_33])), (t1, .inl (ct1, 24 * R1, .inl f_35)), (s1, .inl (cs1, R1, .inl f_36))]) [0, 1, 2, 3, 4, 5, 6, 7, 8] (by decide) rfl
      have hK9 := hK.sub (tys' := [(cB, .object "PatternGate$Part"), (cG, .boolean), (c1, .long), (ct1, .int), (cs1, .int)]) [0, 1, 2, 3, 4] rfl
      exact W.vret hx hb hr (fun t ht hW => ⟨⟨(), rfl, trivial, fG, w_26, w_27, w_28, w_29, w_30, w_31, u_32, u_33, f_34, f_35, f_36, (by first | assumption | decide), (by first | assumption | decide), (by first | omega | decide | (have l1 : (1 : Int32).toInt = 1 := rfl; have l0 : (0 : Int32).toInt = 0 := rfl; omega)), (by first | omega | decide | (have l1 : (1 : Int32).toInt = 1 := rfl; have l0 : (0 : Int32).toInt = 0 := rfl; omega)), hb_f_36, by rw [ht]; exact hP9, va_K.moved hW.alike hK9, hD9⟩, hS.F ht⟩) hS.2.2 dX1_openWhole_32
    · have tk_21 := c_nge (a := i9.toInt) (b := 6) rfl (by decide) k_21
      refine lv_aload_n hx hb dX1_openWhole_13 rfl (lv_at hl 0 rfl) ?_
      refine va_get (D := (dC, dI)) (ci := 1) (v := .ref kG) (C := RX1) (T := TX1) (N := 11) hx hb hts fin_X1_openWhole_X1 hown hK hP 0 rfl rfl 2 (by decide) (hts (.fieldLink RX1 20 "PatternGate$Compiler" "begun" "[Z") (List.mem_of_getElem? (i := 10) (by decide +kernel))) (fun _ h9 => h9) rfl dX1_openWhole_14 ?_
      refine lv_iload_n hx hb dX1_openWhole_17 rfl (lv_at hl 1 rfl) ?_
      refine lv_iconst (v := 0) hx hb dX1_openWhole_18 (by decide) ?_
      refine va_zast hx hb hK hP hD hS 2 1 rfl rfl (i := i9) (vp_of (a := i9.toInt) rfl (by omega) (by omega)) dX1_openWhole_19 (fun H locs hP hD hS => ?_)
      generalize hf_f_41 : upd fG _ _ = f_41 at hP hD
      have hP : va_P (dC, dI) vwCl [(cm, .inr (1, [.ref kA, .ref kB, .ref kG, .ref kS, .ref o3, .ref e4, .ref e5, .ref kC, .ref kF, .ref kT, .int spn])), (kB, .inl (cB, 6, .inr (.inr (.inr (.inr fB))))), (kG, .inl (cG, 6, .inl f_41)), (a1, .inr (4, [.ref o1, .ref e1, .int x10, .int x11, .int x12, .int x13, .int x14, .int x15])), (o1, .inr (7, [.ref r1, .int n1])), (r1, .inl (c1, 6, .inr (.inl f1))), (e1, .inr (3, [.int (nI R1), .ref t1, .ref s1, .int m1])), (t1, .inl (ct1, 24 * R1, .inl ft1)), (s1, .inl (cs1, R1, .inl fs1))] H := hP
      have hD : va_D A [(cm, .inr (1, [.ref kA, .ref kB, .ref kG, .ref kS, .ref o3, .ref e4, .ref e5, .ref kC, .ref kF, .ref kT, .int spn])), (kB, .inl (cB, 6, .inr (.inr (.inr (.inr fB))))), (kG, .inl (cG, 6, .inl f_41)), (a1, .inr (4, [.ref o1, .ref e1, .int x10, .int x11, .int x12, .int x13, .int x14, .int x15])), (o1, .inr (7, [.ref r1, .int n1])), (r1, .inl (c1, 6, .inr (.inl f1))), (e1, .inr (3, [.int (nI R1), .ref t1, .ref s1, .int m1])), (t1, .inl (ct1, 24 * R1, .inl ft1)), (s1, .inl (cs1, R1, .inl fs1))] := hD
      refine lv_aload_n hx hb dX1_openWhole_20 rfl (lv_at hl 0 rfl) ?_
      refine lv_aload_n hx hb dX1_openWhole_21 rfl (lv_at hl 0 rfl) ?_
      refine va_get (D := (dC, dI)) (ci := 1) (v := .ref kB) (C := RX1) (T := TX1) (N := 11) hx hb hts fin_X1_openWhole_X1 hown hK hP 0 rfl rfl 1 (by decide) (hts (.fieldLink RX1 17 "PatternGate$Compiler" "branches" "[LPatternGate$Part;") (List.mem_of_getElem? (i := 1) (by decide +kernel))) (fun _ h9 => h9) rfl dX1_openWhole_22 ?_
      refine lv_iload_n hx hb dX1_openWhole_25 rfl (lv_at hl 1 rfl) ?_
      have hPc := hP.sub (ws' := [(cm, .inr (1, [.ref kA, .ref kB, .ref kG, .ref kS, .ref o3, .ref e4, .ref e5, .ref kC, .ref kF, .ref kT, .int spn])), (kB, .inl (cB, 6, .inr (.inr (.inr (.inr fB)))))]) [0, 1] rfl
      have hKc := hK.sub (tys' := [(cB, .object "PatternGate$Part")]) [0] rfl
      refine va_csq (W.runV (As := [.ref kB, .int i9]) (rest := []) ⟨hx, hb, hml, hown, hts⟩ (s_partAt l dC dI cm kA kB kG kS o3 e4 e5 kC kF kT spn kB cB fB a1 i9 (by omega) hq1) (cwV 2 hts mg_X1_openWhole_X1_partAt_95 rfl rfl rfl (by decide +kernel) ⟨Nat.le_of_ble_eq_true rfl, Nat.le_of_ble_eq_true rfl⟩) ⟨fun a U g mk q => by obtain ⟨q0, qP, qK⟩ := q; exact ⟨q0, qP, va_K.moved (u := U) (U := U.calling g mk a) (Vm.Alike.refl U.vm) qK⟩, va_recv hKc hPc (ci := 1) (q0 := 0) rfl rfl, fun U hU hW => ⟨rfl, by rw [hU]; exact hPc, va_K.moved hW.alike hKc⟩⟩ rfl rfl hl.1 rfl (lv_room (Nat.le_of_ble_eq_true rfl)) dX1_openWhole_26 ⟨Nat.le_of_ble_eq_true rfl, Nat.le_of_ble_eq_true rfl⟩) (fun r_43 hw => ?_)
      subst hw
      refine W.eq (g2 := F0 m 29 ls [.ref a1]) rfl ?_
      have hPc := hP.sub (ws' := [(a1, .inr (4, [.ref o1, .ref e1, .int x10, .int x11, .int x12, .int x13, .int x14, .int x15])), (o1, .inr (7, [.ref r1, .int n1])), (r1, .inl (c1, 6, .inr (.inl f1))), (e1, .inr (3, [.int (nI R1), .ref t1, .ref s1, .int m1])), (t1, .inl (ct1, 24 * R1, .inl ft1)), (s1, .inl (cs1, R1, .inl fs1))]) [3, 4, 5, 6, 7, 8] rfl
      have hKc := hK.sub (tys' := [(c1, .long), (ct1, .int), (cs1, .int)]) [2, 3, 4] rfl
      have hDc := hD.sub (ws' := [(a1, .inr (4, [.ref o1, .ref e1, .int x10, .int x11, .int x12, .int x13, .int x14, .int x15])), (o1, .inr (7, [.ref r1, .int n1])), (r1, .inl (c1, 6, .inr (.inl f1))), (e1, .inr (3, [.int (nI R1), .ref t1, .ref s1, .int m1])), (t1, .inl (ct1, 24 * R1, .inl ft1)), (s1, .inl (cs1, R1, .inl fs1))]) [3, 4, 5, 6, 7, 8] (by decide) rfl
      have hFc := va_free (wc := [(a1, .inr (4, [.ref o1, .ref e1, .int x10, .int x11, .int x12, .int x13, .int x14, .int x15])), (o1, .inr (7, [.ref r1, .int n1])), (r1, .inl (c1, 6, .inr (.inl f1))), (e1, .inr (3, [.int (nI R1), .ref t1, .ref s1, .int m1])), (t1, .inl (ct1, 24 * R1, .inl ft1)), (s1, .inl (cs1, R1, .inl fs1))]) hD hS hA [3, 4, 5, 6, 7, 8] rfl
      refine va_callv (va_runV (As := []) (rest := []) ⟨hx, hb, hml, hown, hts⟩ (s_beginBranch l dC dI a1 x10 x11 x12 x13 x14 x15 o1 r1 c1 f1 n1 e1 t1 s1 R1 ct1 cs1 ft1 fs1 m1 H.size (by first | assumption | decide) (by first | assumption | decide) (by first | omega | decide | (have l0 := Int32.toInt_zero; omega)) (by first | omega | decide | (have l0 := Int32.toInt_zero; omega)) (by first | omega | decide | (have l0 := Int32.toInt_zero; omega)) (by first | omega | decide | (have l0 := Int32.toInt_zero; omega)) (by first | omega | decide | (have l0 := Int32.toInt_zero; omega)) (by first | omega | decide | (have l0 := Int32.toInt_zero; omega)) hb_fs1) (cwV 0 hts mg_X1_openWhole_X4_beginBranch_124 rfl rfl rfl (by decide +kernel) ⟨Nat.le_of_ble_eq_true rfl, Nat.le_of_ble_eq_true rfl⟩) ⟨fun a U g mk q => by obtain ⟨q0, q1, qP, qK, qD⟩ := q; exact ⟨q0, q1, qP, va_K.moved (u := U) (U := U.calling g mk a) (Vm.Alike.refl U.vm) qK, qD⟩, va_recv hKc hPc (ci := 4) (q0 := 0) rfl rfl, fun U hU hW => ⟨rfl, by rw [hU], by rw [hU]; exact hPc, va_K.moved hW.alike hKc, hDc.weaken (fun _ _ _ _ => trivial)⟩⟩ rfl rfl hl.1 rfl (lv_room (Nat.le_of_ble_eq_true rfl)) dX1_openWhole_29 ⟨Nat.le_of_ble_eq_true rfl, Nat.le_of_ble_eq_true rfl⟩) hS (fun q _ h => hFc q h) hFc (fun u t H1 locs ht hvm hw hB hz1 hk1 hS => ?_)
      obtain ⟨w_46, w_47, w_48, w_49, w_50, w_51, u_52, u_53, f_54, f_55, f_56, h_57, h_58, h_59, h_60, hb_f_56, hP1, hK1, hD1⟩ := hB
      rw [ht] at hP1
      obtain ⟨hP, hD⟩ := va_join (wr := [(cm, .inr (1, [.ref kA, .ref kB, .ref kG, .ref kS, .ref o3, .ref e4, .ref e5, .ref kC, .ref kF, .ref kT, .int spn])), (kB, .inl (cB, 6, .inr (.inr (.inr (.inr fB))))), (kG, .inl (cG, 6, .inl f_41))]) (w1 := [(a1, .inr (4, [.ref o1, .ref e1, .int w_46, .int w_47, .int w_48, .int w_49, .int w_50, .int w_51])), (o1, .inr (7, [.ref r1, .int u_52])), (r1, .inl (c1, 6, .inr (.inl f_54))), (e1, .inr (3, [.int (nI R1), .ref t1, .ref s1, .int u_53])), (t1, .inl (ct1, 24 * R1, .inl f_55)), (s1, .inl (cs1, R1, .inl f_56))]) hP hD [3, 4, 5, 6, 7, 8] [0, 1, 2] rfl rfl (by decide) (by decide) hk1 hFc hP1 hD1
      generalize H1 = H at hP hS ⊢
      have hP : va_P (dC, dI) vwCl [(cm, .inr (1, [.ref kA, .ref kB, .ref kG, .ref kS, .ref o3, .ref e4, .ref e5, .ref kC, .ref kF, .ref kT, .int spn])), (kB, .inl (cB, 6, .inr (.inr (.inr (.inr fB))))), (kG, .inl (cG, 6, .inl f_41)), (a1, .inr (4, [.ref o1, .ref e1, .int w_46, .int w_47, .int w_48, .int w_49, .int w_50, .int w_51])), (o1, .inr (7, [.ref r1, .int u_52])), (r1, .inl (c1, 6, .inr (.inl f_54))), (e1, .inr (3, [.int (nI R1), .ref t1, .ref s1, .int u_53])), (t1, .inl (ct1, 24 * R1, .inl f_55)), (s1, .inl (cs1, R1, .inl f_56))] H := hP
      have hD : va_D A [(cm, .inr (1, [.ref kA, .ref kB, .ref kG, .ref kS, .ref o3, .ref e4, .ref e5, .ref kC, .ref kF, .ref kT, .int spn])), (kB, .inl (cB, 6, .inr (.inr (.inr (.inr fB))))), (kG, .inl (cG, 6, .inl f_41)), (a1, .inr (4, [.ref o1, .ref e1, .int w_46, .int w_47, .int w_48, .int w_49, .int w_50, .int w_51])), (o1, .inr (7, [.ref r1, .int u_52])), (r1, .inl (c1, 6, .inr (.inl f_54))), (e1, .inr (3, [.int (nI R1), .ref t1, .ref s1, .int u_53])), (t1, .inl (ct1, 24 * R1, .inl f_55)), (s1, .inl (cs1, R1, .inl f_56))] := hD
      have hP9 := hP.sub (ws' := [(cm, .inr (1, [.ref kA, .ref kB, .ref kG, .ref kS, .ref o3, .ref e4, .ref e5, .ref kC, .ref kF, .ref kT, .int spn])), (kB, .inl (cB, 6, .inr (.inr (.inr (.inr fB))))), (kG, .inl (cG, 6, .inl f_41)), (a1, .inr (4, [.ref o1, .ref e1, .int w_46, .int w_47, .int w_48, .int w_49, .int w_50, .int w_51])), (o1, .inr (7, [.ref r1, .int u_52])), (r1, .inl (c1, 6, .inr (.inl f_54))), (e1, .inr (3, [.int (nI R1), .ref t1, .ref s1, .int u_53])), (t1, .inl (ct1, 24 * R1, .inl f_55)), (s1, .inl (cs1, R1, .inl f_56))]) [0, 1, 2, 3, 4, 5, 6, 7, 8] rfl
      have hD9 := hD.sub (ws' := [(cm, .inr (1, [.ref kA, .ref kB, .ref kG, .ref kS, .ref o3, .ref e4, .ref e5, .ref kC, .ref kF, .ref kT, .int spn])), (kB, .inl (cB, 6, .inr (.inr (.inr (.inr fB))))), (kG, .inl (cG, 6, .inl f_41)), (a1, .inr (4, [.ref o1, .ref e1, .int w_46, .int w_47, .int w_48, .int w_49, .int w_50, .int w_51])), (o1, .inr (7, [.ref r1, .int u_52])), (r1, .inl (c1, 6, .inr (.inl f_54))), (e1, .inr (3, [.int (nI R1), .ref t1, .ref s1, .int u_53])), (t1, .inl (ct1, 24 * R1, .inl f_55)), (s1, .inl (cs1, R1, .inl f_56))]) [0, 1, 2, 3, 4, 5, 6, 7, 8] (by decide) rfl
      have hK9 := hK.sub (tys' := [(cB, .object "PatternGate$Part"), (cG, .boolean), (c1, .long), (ct1, .int), (cs1, .int)]) [0, 1, 2, 3, 4] rfl
      exact W.vret hx hb hr (fun t ht hW => ⟨⟨(), rfl, trivial, f_41, w_46, w_47, w_48, w_49, w_50, w_51, u_52, u_53, f_54, f_55, f_56, (by first | assumption | decide), (by first | assumption | decide), (by first | omega | decide | (have l1 : (1 : Int32).toInt = 1 := rfl; have l0 : (0 : Int32).toInt = 0 := rfl; omega)), (by first | omega | decide | (have l1 : (1 : Int32).toInt = 1 := rfl; have l0 : (0 : Int32).toInt = 0 := rfl; omega)), hb_f_56, by rw [ht]; exact hP9, va_K.moved hW.alike hK9, hD9⟩, hS.F ht⟩) hS.2.2 dX1_openWhole_32

/-- the class's constant texts -/
def sR (A : Nat → Prop) (U : State) (H : Heap) : Prop := ∃ qd qp : Nat, vk_R RX6 75 "doc" qd U ∧ vk_R RX6 81 "pattern" qp U ∧ sX A U H qd 3 ∧ sX A U H qp 7 ∧ sC A U H
theorem sR.call {A : Nat → Prop} {U : State} {H : Heap} {g : JFrame} {mk : MethodId} {a : Array Value} (h : sR A U H) : sR A (U.calling g mk a) H := by
  obtain ⟨qd, qp, h1, h2, h3, h4, h5⟩ := h
  exact ⟨qd, qp, vk_R.same (u := U) rfl h1, vk_R.same (u := U) rfl h2, sX.moved (u := U) (U := U.calling g mk a) (Vm.Alike.refl U.vm) h3, sX.moved (u := U) (U := U.calling g mk a) (Vm.Alike.refl U.vm) h4, sC.moved (u := U) (U := U.calling g mk a) (Vm.Alike.refl U.vm) h5⟩
theorem sR.to {A B : Nat → Prop} {s U : State} {H : Heap} {locs : List Loc} (h : sR A s s.heap) (hS : va_S A s.heap H locs) (hF : ∀ q, B q → A q) (hW : s.WarmedH U.vm) (hU : U.heap = H) : sR B U U.heap := by
  obtain ⟨qd, qp, h1, h2, h3, h4, h5⟩ := h
  rw [hU]
  exact ⟨qd, qp, vk_R.warm hW h1, vk_R.warm hW h2, ((h3.kept hS.2.1).narrow hF).moved hW.alike, ((h4.kept hS.2.1).narrow hF).moved hW.alike, ((h5.kept hS.2.1).narrow hF).moved hW.alike⟩
theorem dX6_readWord_0 : decode cX6_readWord 0 = .ok (.iload_n 2, 1) := by decide +kernel
theorem dX6_readWord_1 : decode cX6_readWord 1 = .ok (.iconst 1, 1) := by decide +kernel
theorem dX6_readWord_2 : decode cX6_readWord 2 = .ok (.iadd, 1) := by decide +kernel
theorem dX6_readWord_3 : decode cX6_readWord 3 = .ok (.istore 4, 2) := by decide +kernel
theorem dX6_readWord_5 : decode cX6_readWord 5 = .ok (.iload 4, 2) := by decide +kernel
theorem dX6_readWord_7 : decode cX6_readWord 7 = .ok (.iload_n 3, 1) := by decide +kernel
theorem dX6_readWord_8 : decode cX6_readWord 8 = .ok (.if_icmp .ge 19, 3) := by decide +kernel
theorem dX6_readWord_11 : decode cX6_readWord 11 = .ok (.aload_n 1, 1) := by decide +kernel
theorem dX6_readWord_12 : decode cX6_readWord 12 = .ok (.iload 4, 2) := by decide +kernel
theorem dX6_readWord_14 : decode cX6_readWord 14 = .ok (.iaload, 1) := by decide +kernel
theorem dX6_readWord_15 : decode cX6_readWord 15 = .ok (.invokestatic 53, 3) := by decide +kernel
theorem dX6_readWord_18 : decode cX6_readWord 18 = .ok (.ifCond .eq 9, 3) := by decide +kernel
theorem dX6_readWord_21 : decode cX6_readWord 21 = .ok (.iinc 4 1, 3) := by decide +kernel
theorem dX6_readWord_24 : decode cX6_readWord 24 = .ok (.goto (-19), 3) := by decide +kernel
theorem dX6_readWord_27 : decode cX6_readWord 27 = .ok (.aload_n 1, 1) := by decide +kernel
theorem dX6_readWord_28 : decode cX6_readWord 28 = .ok (.iload_n 2, 1) := by decide +kernel
theorem dX6_readWord_29 : decode cX6_readWord 29 = .ok (.iload 4, 2) := by decide +kernel
theorem dX6_readWord_31 : decode cX6_readWord 31 = .ok (.ldc 75, 2) := by decide +kernel
theorem dX6_readWord_33 : decode cX6_readWord 33 = .ok (.invokestatic 77, 3) := by decide +kernel
theorem dX6_readWord_36 : decode cX6_readWord 36 = .ok (.istore 5, 2) := by decide +kernel
theorem dX6_readWord_38 : decode cX6_readWord 38 = .ok (.aload_n 0, 1) := by decide +kernel
theorem dX6_readWord_39 : decode cX6_readWord 39 = .ok (.getfield 44, 3) := by decide +kernel
theorem dX6_readWord_42 : decode cX6_readWord 42 = .ok (.ifCond .ne 20, 3) := by decide +kernel
theorem dX6_readWord_45 : decode cX6_readWord 45 = .ok (.iload 5, 2) := by decide +kernel
theorem dX6_readWord_47 : decode cX6_readWord 47 = .ok (.ifCond .ne 24, 3) := by decide +kernel
theorem dX6_readWord_50 : decode cX6_readWord 50 = .ok (.aload_n 1, 1) := by decide +kernel
theorem dX6_readWord_51 : decode cX6_readWord 51 = .ok (.iload_n 2, 1) := by decide +kernel
theorem dX6_readWord_52 : decode cX6_readWord 52 = .ok (.iload 4, 2) := by decide +kernel
theorem dX6_readWord_54 : decode cX6_readWord 54 = .ok (.ldc 81, 2) := by decide +kernel
theorem dX6_readWord_56 : decode cX6_readWord 56 = .ok (.invokestatic 77, 3) := by decide +kernel
theorem dX6_readWord_59 : decode cX6_readWord 59 = .ok (.ifCond .ne 12, 3) := by decide +kernel
theorem dX6_readWord_62 : decode cX6_readWord 62 = .ok (.aload_n 0, 1) := by decide +kernel
theorem dX6_readWord_63 : decode cX6_readWord 63 = .ok (.iconst 2, 1) := by decide +kernel
theorem dX6_readWord_64 : decode cX6_readWord 64 = .ok (.iload_n 2, 1) := by decide +kernel
theorem dX6_readWord_65 : decode cX6_readWord 65 = .ok (.invokevirtual 71, 3) := by decide +kernel
theorem dX6_readWord_68 : decode cX6_readWord 68 = .ok (.goto 62, 3) := by decide +kernel
theorem dX6_readWord_71 : decode cX6_readWord 71 = .ok (.iload 5, 2) := by decide +kernel
theorem dX6_readWord_73 : decode cX6_readWord 73 = .ok (.ifCond .eq 20, 3) := by decide +kernel
theorem dX6_readWord_76 : decode cX6_readWord 76 = .ok (.aload_n 0, 1) := by decide +kernel
theorem dX6_readWord_77 : decode cX6_readWord 77 = .ok (.getfield 38, 3) := by decide +kernel
theorem dX6_readWord_80 : decode cX6_readWord 80 = .ok (.aload_n 0, 1) := by decide +kernel
theorem dX6_readWord_81 : decode cX6_readWord 81 = .ok (.getfield 32, 3) := by decide +kernel
theorem dX6_readWord_84 : decode cX6_readWord 84 = .ok (.iadd, 1) := by decide +kernel
theorem dX6_readWord_85 : decode cX6_readWord 85 = .ok (.bipush 10, 2) := by decide +kernel
theorem dX6_readWord_87 : decode cX6_readWord 87 = .ok (.if_icmp .lt 29, 3) := by decide +kernel
theorem dX6_readWord_90 : decode cX6_readWord 90 = .ok (.goto 17, 3) := by decide +kernel
theorem dX6_readWord_93 : decode cX6_readWord 93 = .ok (.aload_n 0, 1) := by decide +kernel
theorem dX6_readWord_94 : decode cX6_readWord 94 = .ok (.getfield 41, 3) := by decide +kernel
theorem dX6_readWord_97 : decode cX6_readWord 97 = .ok (.aload_n 0, 1) := by decide +kernel
theorem dX6_readWord_98 : decode cX6_readWord 98 = .ok (.getfield 35, 3) := by decide +kernel
theorem dX6_readWord_101 : decode cX6_readWord 101 = .ok (.iadd, 1) := by decide +kernel
theorem dX6_readWord_102 : decode cX6_readWord 102 = .ok (.bipush 8, 2) := by decide +kernel
theorem dX6_readWord_104 : decode cX6_readWord 104 = .ok (.if_icmp .lt 12, 3) := by decide +kernel
theorem dX6_readWord_107 : decode cX6_readWord 107 = .ok (.aload_n 0, 1) := by decide +kernel
theorem dX6_readWord_108 : decode cX6_readWord 108 = .ok (.iconst 3, 1) := by decide +kernel
theorem dX6_readWord_109 : decode cX6_readWord 109 = .ok (.iload_n 2, 1) := by decide +kernel
theorem dX6_readWord_110 : decode cX6_readWord 110 = .ok (.invokevirtual 71, 3) := by decide +kernel
theorem dX6_readWord_113 : decode cX6_readWord 113 = .ok (.goto 17, 3) := by decide +kernel
theorem dX6_readWord_116 : decode cX6_readWord 116 = .ok (.aload_n 0, 1) := by decide +kernel
theorem dX6_readWord_117 : decode cX6_readWord 117 = .ok (.iload 5, 2) := by decide +kernel
theorem dX6_readWord_119 : decode cX6_readWord 119 = .ok (.ifCond .eq 7, 3) := by decide +kernel
theorem dX6_readWord_122 : decode cX6_readWord 122 = .ok (.iconst 1, 1) := by decide +kernel
theorem dX6_readWord_123 : decode cX6_readWord 123 = .ok (.goto 4, 3) := by decide +kernel
theorem dX6_readWord_126 : decode cX6_readWord 126 = .ok (.iconst 2, 1) := by decide +kernel
theorem dX6_readWord_127 : decode cX6_readWord 127 = .ok (.putfield 44, 3) := by decide +kernel
theorem dX6_readWord_130 : decode cX6_readWord 130 = .ok (.iload 4, 2) := by decide +kernel
theorem dX6_readWord_132 : decode cX6_readWord 132 = .ok (.iconst 1, 1) := by decide +kernel
theorem dX6_readWord_133 : decode cX6_readWord 133 = .ok (.isub, 1) := by decide +kernel
theorem dX6_readWord_134 : decode cX6_readWord 134 = .ok (.ireturn, 1) := by decide +kernel
def mwX6_readWord : List Cond := .code yX6_readWord cX6_readWord 6 (some .int) :: (([.methodLink RX6 77 yX6_isWord, .static yX6_isWord, .initialized RX6, .fieldLink RX6 44 "PatternGate$Reader" "wanted" "I", .methodLink RX6 71 yX6_fail, .instanceMethod yX6_fail, .selects RX6 yX6_fail yX6_fail, .fieldLink RX6 41 "PatternGate$Reader" "patternsAhead" "I", .fieldLink RX6 35 "PatternGate$Reader" "newPatterns" "I", .fieldLink RX6 38 "PatternGate$Reader" "docsAhead" "I", .fieldLink RX6 32 "PatternGate$Reader" "newDocs" "I", .initialized RX9, .static yX9_isSmall] : List Cond) ++ (wsX60 ++ (mwX6_isWord ++ (mwX6_fail ++ (mwX9_isSmallw)))))
theorem fin_X6_readWord_X6 : ∀ w ∈ wsX60, w ∈ mwX6_readWord := fun w h => List.mem_cons_of_mem _ (List.mem_append_right _ (List.mem_append_left _ h))
set_option maxRecDepth 100000 in
theorem gd_mwX6_isWord : mwX6_isWord.all goodWord = true := by decide +kernel
set_option maxRecDepth 100000 in
theorem gd_mwX6_fail : mwX6_fail.all goodWord = true := by decide +kernel
set_option maxRecDepth 100000 in
theorem gd_mwX9_isSmallw : mwX9_isSmallw.all goodWord = true := by decide +kernel
set_option maxRecDepth 20000 in
theorem mg_X6_readWord_X6_isWord_77 : GoodIn mwX6_readWord (va_wsS RX6 77 yX6_isWord mwX6_isWord) := gi_app (A := [.methodLink RX6 77 yX6_isWord, .static yX6_isWord, .initialized RX6]) (goodIn_r _ [1, 2, 3] (by decide +kernel) (by decide +kernel)) (gi_sub gd_mwX6_isWord (fun w h => List.mem_cons_of_mem _ (List.mem_append_right _ (List.mem_append_right _ (List.mem_append_left _ h)))))
set_option maxRecDepth 20000 in
theorem mg_X6_readWord_X6_fail_71 : GoodIn mwX6_readWord (wsV RX6 71 RX6 yX6_fail mwX6_fail) := gi_app (A := [.methodLink RX6 71 yX6_fail, .instanceMethod yX6_fail, .selects RX6 yX6_fail yX6_fail, .initialized RX6]) (goodIn_r _ [5, 6, 7, 3] (by decide +kernel) (by decide +kernel)) (gi_sub gd_mwX6_fail (fun w h => List.mem_cons_of_mem _ (List.mem_append_right _ (List.mem_append_right _ (List.mem_append_right _ (List.mem_append_left _ h))))))
set_option maxRecDepth 20000 in
theorem mg_X6_readWord_X9_isSmall_53 : GoodIn mwX6_readWord mwX9_isSmallw := gi_sub gd_mwX9_isSmallw (fun w h => List.mem_cons_of_mem _ (List.mem_append_right _ (List.mem_append_right _ (List.mem_append_right _ (List.mem_append_right _ (h))))))
set_option maxHeartbeats 4000000 in
set_option maxRecDepth 100000 in
/-- Reader.readWord -/
theorem s_readWord (l : Launch) (dC : Nat → ClassId) (dI : Nat → Nat → Nat) (rd : Nat) (r : Nat → Nat) (a0 a1 a2 a3 a4 a5 a6 a7 : Int32) (ba kb : Nat) (cb : ClassId) (fb : Nat → Int32) (sz : Nat) (i1 i2 : Int32) (hkb : kb ≤ 900) (h1 : 0 ≤ i1.toInt ∧ i1.toInt < i2.toInt ∧ i2.toInt ≤ kb) (h3 : 0 ≤ a3.toInt ∧ a3.toInt ≤ 10) (h4 : 0 ≤ a4.toInt ∧ a4.toInt ≤ 8) (h5 : 0 ≤ a5.toInt ∧ a5.toInt ≤ 10) (h6 : 0 ≤ a6.toInt ∧ a6.toInt ≤ 8) : Met l yX6_readWord mwX6_readWord ({ frames := 5, cells := 0, slots := 0, locals := 300 }) (va_Pc [.ref rd, .ref ba, .int i1, .int i2] (fun U => U.heap.size = sz ∧ va_P (dC, dI) vwCl ([(rd, .inr (6, rF r a0 a1 a2 a3 a4 a5 a6 a7)), (ba, .inl (cb, kb, .inl fb))]) U.heap ∧ va_K (dC, dI) vwCl ([(cb, .int)]) U ∧ va_D (fun _ => True) ([(rd, .inr (6, rF r a0 a1 a2 a3 a4 a5 a6 a7)), (ba, .inl (cb, kb, .inl fb))]) ∧ va_Nw (.methodLinkNest RX6 53 yX9_isSmall "PatternGate") U ∧ sR (va_A ([(rd, .inr (6, rF r a0 a1 a2 a3 a4 a5 a6 a7)), (ba, .inl (cb, kb, .inl fb))]) sz) U U.heap)) (va_Qi (fun (o9 : Int32) (_ : Unit) => i1.toInt ≤ o9.toInt ∧ o9.toInt < i2.toInt) (fun _ t => ∃ y0 y1 y7 : Int32, ((y7 = a7 ∧ (y0 = 2 ∨ y0 = 3)) ∨ (y0 = a0 ∧ ((y7 = 1 ∧ a5.toInt + a3.toInt < 10) ∨ (y7 = 2 ∧ a6.toInt + a4.toInt < 8)))) ∧ va_P (dC, dI) vwCl [(rd, .inr (6, rF r y0 y1 a2 a3 a4 a5 a6 y7)), (ba, .inl (cb, kb, .inl fb))] t.heap ∧ va_K (dC, dI) vwCl [(cb, .int)] t ∧ va_D (va_A ([(rd, .inr (6, rF r a0 a1 a2 a3 a4 a5 a6 a7)), (ba, .inl (cb, kb, .inl fb))]) sz) [(rd, .inr (6, rF r y0 y1 a2 a3 a4 a5 a6 y7)), (ba, .inl (cb, kb, .inl fb))]) (va_A ([(rd, .inr (6, rF r a0 a1 a2 a3 a4 a5 a6 a7)), (ba, .inl (cb, kb, .inl fb))]) sz)) 0 0 (va_A ([(rd, .inr (6, rF r a0 a1 a2 a3 a4 a5 a6 a7)), (ba, .inl (cb, kb, .inl fb))]) sz) := by
  refine Met.ofW (cc := cX6_readWord) (maxL := 6) (ret := (some .int)) (by decide +kernel) rfl ?_
  intro p e s m args below meth c s₁ B hml hv
  obtain ⟨rfl, hsz, hP, hK, hD0, hN53, hSR⟩ := hv
  have hx := B.exec
  have hb := B.bytes
  have hr := B.returns
  have hts := atoms_spec (ws := mwX6_readWord) B.pre
  have hown : s.vm.findClass RX6 = some m.cls := findClass_of_methodNamed B.named
  have hlocks := B.notSynchronized
  subst hsz
  have hD := hD0.self (sz := s.heap.size)
  generalize hAe : va_A ([(rd, .inr (6, rF r a0 a1 a2 a3 a4 a5 a6 a7)), (ba, .inl (cb, kb, .inl fb))]) s.heap.size = A at hD hSR ⊢
  have hA : ∀ q : Nat, s.heap.size ≤ q → A q := fun q h => by rw [← hAe]; exact Or.inr h
  have hP : va_P (dC, dI) vwCl [(rd, .inr (6, rF r a0 a1 a2 a3 a4 a5 a6 a7)), (ba, .inl (cb, kb, .inl fb))] s.heap := hP
  have hD : va_D A [(rd, .inr (6, rF r a0 a1 a2 a3 a4 a5 a6 a7)), (ba, .inl (cb, kb, .inl fb))] := hD
  have hK : va_K (dC, dI) vwCl [(cb, .int)] s := hK
  generalize hH : s.heap = H at hP ⊢
  have hS : va_S A s.heap H [] := by rw [← hH]; exact va_S.rf
  have hl := lv_entry ([.ref rd, .ref ba, .int i1, .int i2]) (n := 6) (Nat.le_of_ble_eq_true rfl)
  rw [lg_entry_eq]
  generalize (lg_sl ([.ref rd, .ref ba, .int i1, .int i2]) ++ List.replicate (6 - (lg_sl ([.ref rd, .ref ba, .int i1, .int i2])).length) Slot.unset).toArray = ls at hl ⊢
  have hl : lv_has ls 6 [(0, .ref rd), (1, .ref ba), (2, .int i1), (3, .int i2)] := hl
  have rg_i1 := i_rng i1
  have rg_i2 := i_rng i2
  obtain ⟨qd, qp, hR75, hR81, hXd, hXp, hC9⟩ := hSR
  have ra3 := i_rng a3
  have ra4 := i_rng a4
  have ra5 := i_rng a5
  have ra6 := i_rng a6
  refine lv_iload_n hx hb dX6_readWord_0 rfl (lv_at hl 2 rfl) ?_
  refine lv_iconst (v := 1) hx hb dX6_readWord_1 (by decide) ?_
  refine lv_iadd hx hb dX6_readWord_2 ?_
  refine lv_topi (fun y_1 ey_1 => ?_)
  first | have ty_1 := i_add (a := i1.toInt) (b := 1) rfl (by decide) ey_1 (by omega) (by omega) | skip
  refine lv_istore (lv' := [(4, .int y_1), (0, .ref rd), (1, .ref ba), (2, .int i1), (3, .int i2)]) hx hb dX6_readWord_3 hl (by decide) rfl (fun ls hl => ?_)
  have loop5 : ∀ (lm5 : Nat) (kk : Int32), (i1.toInt + 1 ≤ kk.toInt ∧ kk.toInt ≤ i2.toInt) → ((i2.toInt - kk.toInt).toNat) < lm5 → ∀ (H : Heap) (locs : List Loc) (ls : Array Slot), va_P (dC, dI) vwCl [(rd, .inr (6, rF r a0 a1 a2 a3 a4 a5 a6 a7)), (ba, .inl (cb, kb, .inl fb))] H → va_D A [(rd, .inr (6, rF r a0 a1 a2 a3 a4 a5 a6 a7)), (ba, .inl (cb, kb, .inl fb))] → va_S A s.heap H locs → lv_has ls 6 [(4, .int kk), (0, .ref rd), (1, .ref ba), (2, .int i1), (3, .int i2)] → W p l e (headSpec mwX6_readWord ({ frames := 5, cells := 0, slots := 0, locals := 300 })).room s m ([.ref rd, .ref ba, .int i1, .int i2]).toArray below meth c H locs 0 0 (MQ below (va_Qi (fun (o9 : Int32) (_ : Unit) => i1.toInt ≤ o9.toInt ∧ o9.toInt < i2.toInt) (fun _ t => ∃ y0 y1 y7 : Int32, ((y7 = a7 ∧ (y0 = 2 ∨ y0 = 3)) ∨ (y0 = a0 ∧ ((y7 = 1 ∧ a5.toInt + a3.toInt < 10) ∨ (y7 = 2 ∧ a6.toInt + a4.toInt < 8)))) ∧ va_P (dC, dI) vwCl [(rd, .inr (6, rF r y0 y1 a2 a3 a4 a5 a6 y7)), (ba, .inl (cb, kb, .inl fb))] t.heap ∧ va_K (dC, dI) vwCl [(cb, .int)] t ∧ va_D A [(rd, .inr (6, rF r y0 y1 a2 a3 a4 a5 a6 y7)), (ba, .inl (cb, kb, .inl fb))]) A) ([.ref rd, .ref ba, .int i1, .int i2]).toArray s 0 0 A) (F0 m 5 ls []) := by
    intro lm5
    induction lm5 with
    | zero => intro kk v5_0 hm5; exact absurd hm5 (Nat.not_lt_zero _)
    | succ lm5 ih5 =>
      intro kk v5_0 hm5 H locs ls hP hD hS hl
      have rg_kk := i_rng kk
      refine lv_iload hx hb dX6_readWord_5 (lv_at hl 0 rfl) ?_
      refine lv_iload_n hx hb dX6_readWord_7 rfl (lv_at hl 4 rfl) ?_
      refine lv_icmp_ge (tgt := 27) hx hb dX6_readWord_8 (by decide) (fun k_2 => ?_) (fun k_2 => ?_)
      · have tk_2 := c_ge (a := kk.toInt) (b := i2.toInt) rfl rfl k_2
        refine lv_aload_n hx hb dX6_readWord_27 rfl (lv_at hl 2 rfl) ?_
        refine lv_iload_n hx hb dX6_readWord_28 rfl (lv_at hl 3 rfl) ?_
        refine lv_iload hx hb dX6_readWord_29 (lv_at hl 0 rfl) ?_
        refine va_ldcS hx hb hown hR75 dX6_readWord_31 ?_
        have hPc := hP.sub (ws' := [(ba, .inl (cb, kb, .inl fb))]) [1] rfl
        have hKc := hK.sub (tys' := [(cb, .int)]) [0] rfl
        have hDc := hD.sub (ws' := [(ba, .inl (cb, kb, .inl fb))]) [1] (by decide) rfl
        have hFc := va_free (wc := [(ba, .inl (cb, kb, .inl fb))]) hD hS hA [1] rfl
        refine va_calli (va_runS (As := [.ref ba, .int i1, .int kk, .ref qd]) (rest := []) ⟨hx, hb, hml, hown, hts⟩ (s_isWord l dC dI ba kb qd 3 cb fb H.size i1 kk (by omega) (by omega) (by omega)) (va_cwS 4 hts mg_X6_readWord_X6_isWord_77 rfl rfl rfl (by decide +kernel) ⟨Nat.le_of_ble_eq_true rfl, Nat.le_of_ble_eq_true rfl⟩) ⟨fun a U g mk q => by obtain ⟨q0, q1, qP, qK, qD, qE0, qE1⟩ := q; exact ⟨q0, q1, qP, va_K.moved (u := U) (U := U.calling g mk a) (Vm.Alike.refl U.vm) qK, qD, sX.moved (u := U) (U := U.calling g mk a) (Vm.Alike.refl U.vm) qE0, sC.moved (u := U) (U := U.calling g mk a) (Vm.Alike.refl U.vm) qE1⟩, fun U hU hW => ⟨rfl, by rw [hU], by rw [hU]; exact hPc, va_K.moved hW.alike hKc, hDc.weaken (fun _ _ _ _ => trivial), sX.to hXd hS hFc hW hU, sC.to hC9 hS hFc hW hU⟩⟩ rfl rfl hl.1 rfl (lv_room (Nat.le_of_ble_eq_true rfl)) dX6_readWord_33 ⟨Nat.le_of_ble_eq_true rfl, Nat.le_of_ble_eq_true rfl⟩) hS (fun q _ h => hFc q h) hFc (fun r_4 u t H1 locs ht hvm hw hB hz1 hk1 hS => ?_)
        obtain ⟨hP1, hK1, hD1⟩ := hB
        rw [ht] at hP1
        have hr_4 := hw
        obtain ⟨hP, hD⟩ := va_join (wr := [(rd, .inr (6, rF r a0 a1 a2 a3 a4 a5 a6 a7))]) (w1 := [(ba, .inl (cb, kb, .inl fb))]) hP hD [1] [0] rfl rfl (by decide) (by decide) hk1 hFc hP1 hD1
        generalize H1 = H at hP hS ⊢
        have hP : va_P (dC, dI) vwCl [(rd, .inr (6, rF r a0 a1 a2 a3 a4 a5 a6 a7)), (ba, .inl (cb, kb, .inl fb))] H := hP
        have hD : va_D A [(rd, .inr (6, rF r a0 a1 a2 a3 a4 a5 a6 a7)), (ba, .inl (cb, kb, .inl fb))] := hD
        refine lv_istore (lv' := [(5, .int r_4), (4, .int kk), (0, .ref rd), (1, .ref ba), (2, .int i1), (3, .int i2)]) hx hb dX6_readWord_36 hl (by decide) rfl (fun ls hl => ?_)
        refine lv_aload_n hx hb dX6_readWord_38 rfl (lv_at hl 2 rfl) ?_
        refine va_get (D := (dC, dI)) (ci := 6) (v := .int a7) (C := RX6) (T := TX6) (N := 11) hx hb hts fin_X6_readWord_X6 hown hK hP 0 rfl rfl 10 (by decide) (hts (.fieldLink RX6 44 "PatternGate$Reader" "wanted" "I") (List.mem_of_getElem? (i := 4) (by decide +kernel))) (fun _ h9 => h9) rfl dX6_readWord_39 ?_
        refine lv_if_ne (tgt := 62) hx hb dX6_readWord_42 (by decide) (fun k_5 => ?_) (fun k_5 => ?_)
        · have tk_5 := c_ne (a := a7.toInt) (b := 0) rfl (by decide) k_5
          refine lv_aload_n hx hb dX6_readWord_62 rfl (lv_at hl 2 rfl) ?_
          refine lv_iconst (v := 2) hx hb dX6_readWord_63 (by decide) ?_
          refine lv_iload_n hx hb dX6_readWord_64 rfl (lv_at hl 4 rfl) ?_
          have hPc := hP.sub (ws' := [(rd, .inr (6, rF r a0 a1 a2 a3 a4 a5 a6 a7))]) [0] rfl
          have hKc := hK.sub (tys' := []) [] rfl
          have hDc := hD.sub (ws' := [(rd, .inr (6, rF r a0 a1 a2 a3 a4 a5 a6 a7))]) [0] (by decide) rfl
          have hFc := va_free (wc := [(rd, .inr (6, rF r a0 a1 a2 a3 a4 a5 a6 a7))]) hD hS hA [0] rfl
          refine va_callv (va_runV (As := [.int 2, .int i1]) (rest := []) ⟨hx, hb, hml, hown, hts⟩ (s_fail l dC dI rd r a0 a1 a2 a3 a4 a5 a6 a7 H.size 2 i1) (cwV 2 hts mg_X6_readWord_X6_fail_71 rfl rfl rfl (by decide +kernel) ⟨Nat.le_of_ble_eq_true rfl, Nat.le_of_ble_eq_true rfl⟩) ⟨fun a U g mk q => by obtain ⟨q0, q1, qP, qK, qD⟩ := q; exact ⟨q0, q1, qP, va_K.moved (u := U) (U := U.calling g mk a) (Vm.Alike.refl U.vm) qK, qD⟩, va_recv hKc hPc (ci := 6) (q0 := 0) rfl rfl, fun U hU hW => ⟨rfl, by rw [hU], by rw [hU]; exact hPc, va_K.moved hW.alike hKc, hDc.weaken (fun _ _ _ _ => trivial)⟩⟩ rfl rfl hl.1 rfl (lv_room (Nat.le_of_ble_eq_true rfl)) dX6_readWord_65 ⟨Nat.le_of_ble_eq_true rfl, Nat.le_of_ble_eq_true rfl⟩) hS (fun q _ h => hFc q h) hFc (fun u t H1 locs ht hvm hw hB hz1 hk1 hS => ?_)
          obtain ⟨hP1, hK1, hD1⟩ := hB
          rw [ht] at hP1
          obtain ⟨hP, hD⟩ := va_join (wr := [(ba, .inl (cb, kb, .inl fb))]) (w1 := [(rd, .inr (6, rF r 2 i1 a2 a3 a4 a5 a6 a7))]) hP hD [0] [1] rfl rfl (by decide) (by decide) hk1 hFc hP1 hD1
          generalize H1 = H at hP hS ⊢
          have hP : va_P (dC, dI) vwCl [(ba, .inl (cb, kb, .inl fb)), (rd, .inr (6, rF r 2 i1 a2 a3 a4 a5 a6 a7))] H := hP
          have hD : va_D A [(ba, .inl (cb, kb, .inl fb)), (rd, .inr (6, rF r 2 i1 a2 a3 a4 a5 a6 a7))] := hD
          refine lv_goto (tgt := 130) hx hb dX6_readWord_68 (by decide) ?_
          refine lv_iload hx hb dX6_readWord_130 (lv_at hl 1 rfl) ?_
          refine lv_iconst (v := 1) hx hb dX6_readWord_132 (by decide) ?_
          refine lv_isub hx hb dX6_readWord_133 ?_
          refine lv_topi (fun y_8 ey_8 => ?_)
          first | have ty_8 := i_sub (a := kk.toInt) (b := 1) rfl (by decide) ey_8 (by omega) (by omega) | skip
          have hP9 := hP.sub (ws' := [(rd, .inr (6, rF r 2 i1 a2 a3 a4 a5 a6 a7)), (ba, .inl (cb, kb, .inl fb))]) [1, 0] rfl
          have hD9 := hD.sub (ws' := [(rd, .inr (6, rF r 2 i1 a2 a3 a4 a5 a6 a7)), (ba, .inl (cb, kb, .inl fb))]) [1, 0] (by decide) rfl
          have hK9 := hK.sub (tys' := [(cb, .int)]) [0] rfl
          exact W.iret hx hb hr (fun t ht hW => ⟨⟨_, (), rfl, by omega, 2, i1, a7, (Or.inl ⟨rfl, Or.inl rfl⟩), by rw [ht]; exact hP9, va_K.moved hW.alike hK9, hD9⟩, hS.F ht⟩) hS.2.2 dX6_readWord_134
        · have tk_5 := c_eq (a := a7.toInt) (b := 0) rfl (by decide) k_5
          refine lv_iload hx hb dX6_readWord_45 (lv_at hl 0 rfl) ?_
          refine lv_if_ne (tgt := 71) hx hb dX6_readWord_47 (by decide) (fun k_9 => ?_) (fun k_9 => ?_)
          · have tk_9 := c_ne (a := r_4.toInt) (b := 0) rfl (by decide) k_9
            refine lv_iload hx hb dX6_readWord_71 (lv_at hl 0 rfl) ?_
            refine lv_if_eq (tgt := 93) hx hb dX6_readWord_73 (by decide) (fun k_10 => ?_) (fun k_10 => ?_)
            · have tk_10 := c_eq (a := r_4.toInt) (b := 0) rfl (by decide) k_10
              refine lv_aload_n hx hb dX6_readWord_93 rfl (lv_at hl 2 rfl) ?_
              refine va_get (D := (dC, dI)) (ci := 6) (v := .int a6) (C := RX6) (T := TX6) (N := 11) hx hb hts fin_X6_readWord_X6 hown hK hP 0 rfl rfl 9 (by decide) (hts (.fieldLink RX6 41 "PatternGate$Reader" "patternsAhead" "I") (List.mem_of_getElem? (i := 8) (by decide +kernel))) (fun _ h9 => h9) rfl dX6_readWord_94 ?_
              refine lv_aload_n hx hb dX6_readWord_97 rfl (lv_at hl 2 rfl) ?_
              refine va_get (D := (dC, dI)) (ci := 6) (v := .int a4) (C := RX6) (T := TX6) (N := 11) hx hb hts fin_X6_readWord_X6 hown hK hP 0 rfl rfl 4 (by decide) (hts (.fieldLink RX6 35 "PatternGate$Reader" "newPatterns" "I") (List.mem_of_getElem? (i := 9) (by decide +kernel))) (fun _ h9 => h9) rfl dX6_readWord_98 ?_
              refine lv_iadd hx hb dX6_readWord_101 ?_
              refine lv_topi (fun y_11 ey_11 => ?_)
              first | have ty_11 := i_add (a := a6.toInt) (b := a4.toInt) rfl rfl ey_11 (by omega) (by omega) | skip
              refine lv_bipush (v := 8) hx hb dX6_readWord_102 (by decide) ?_
              refine lv_icmp_lt (tgt := 116) hx hb dX6_readWord_104 (by decide) (fun k_12 => ?_) (fun k_12 => ?_)
              · have tk_12 := c_lt (a := y_11.toInt) (b := 8) rfl (by decide) k_12
                refine lv_aload_n hx hb dX6_readWord_116 rfl (lv_at hl 2 rfl) ?_
                refine lv_iload hx hb dX6_readWord_117 (lv_at hl 0 rfl) ?_
                refine lv_if_eq (tgt := 126) hx hb dX6_readWord_119 (by decide) (fun k_13 => ?_) (fun k_13 => ?_)
                · have tk_13 := c_eq (a := r_4.toInt) (b := 0) rfl (by decide) k_13
                  refine lv_iconst (v := 2) hx hb dX6_readWord_126 (by decide) ?_
                  refine va_put (D := (dC, dI)) (ci := 6) (v := .int 2) (ty := .int) (C := RX6) (T := TX6) (N := 11) hx hb hts fin_X6_readWord_X6 tyX6 tyX6_ok nmX6 hown hK hP hD hS 0 rfl rfl 10 (by decide) (hts (.fieldLink RX6 44 "PatternGate$Reader" "wanted" "I") (List.mem_of_getElem? (i := 4) (by decide +kernel))) (fun _ h9 => h9) rfl (by decide +kernel) rfl rfl (Nat.le_of_ble_eq_true rfl) dX6_readWord_127 (fun H locs hP hD hS => ?_)
                  have hP : va_P (dC, dI) vwCl [(rd, .inr (6, rF r a0 a1 a2 a3 a4 a5 a6 2)), (ba, .inl (cb, kb, .inl fb))] H := hP
                  have hD : va_D A [(rd, .inr (6, rF r a0 a1 a2 a3 a4 a5 a6 2)), (ba, .inl (cb, kb, .inl fb))] := hD
                  refine lv_iload hx hb dX6_readWord_130 (lv_at hl 1 rfl) ?_
                  refine lv_iconst (v := 1) hx hb dX6_readWord_132 (by decide) ?_
                  refine lv_isub hx hb dX6_readWord_133 ?_
                  refine lv_topi (fun y_14 ey_14 => ?_)
                  first | have ty_14 := i_sub (a := kk.toInt) (b := 1) rfl (by decide) ey_14 (by omega) (by omega) | skip
                  have hP9 := hP.sub (ws' := [(rd, .inr (6, rF r a0 a1 a2 a3 a4 a5 a6 2)), (ba, .inl (cb, kb, .inl fb))]) [0, 1] rfl
                  have hD9 := hD.sub (ws' := [(rd, .inr (6, rF r a0 a1 a2 a3 a4 a5 a6 2)), (ba, .inl (cb, kb, .inl fb))]) [0, 1] (by decide) rfl
                  have hK9 := hK.sub (tys' := [(cb, .int)]) [0] rfl
                  exact W.iret hx hb hr (fun t ht hW => ⟨⟨_, (), rfl, by omega, a0, a1, 2, (Or.inr ⟨rfl, Or.inr ⟨rfl, by omega⟩⟩), by rw [ht]; exact hP9, va_K.moved hW.alike hK9, hD9⟩, hS.F ht⟩) hS.2.2 dX6_readWord_134
                · have tk_13 := c_ne (a := r_4.toInt) (b := 0) rfl (by decide) k_13
                  refine lv_iconst (v := 1) hx hb dX6_readWord_122 (by decide) ?_
                  refine lv_goto (tgt := 127) hx hb dX6_readWord_123 (by decide) ?_
                  refine va_put (D := (dC, dI)) (ci := 6) (v := .int 1) (ty := .int) (C := RX6) (T := TX6) (N := 11) hx hb hts fin_X6_readWord_X6 tyX6 tyX6_ok nmX6 hown hK hP hD hS 0 rfl rfl 10 (by decide) (hts (.fieldLink RX6 44 "PatternGate$Reader" "wanted" "I") (List.mem_of_getElem? (i := 4) (by decide +kernel))) (fun _ h9 => h9) rfl (by decide +kernel) rfl rfl (Nat.le_of_ble_eq_true rfl) dX6_readWord_127 (fun H locs hP hD hS => ?_)
                  have hP : va_P (dC, dI) vwCl [(rd, .inr (6, rF r a0 a1 a2 a3 a4 a5 a6 1)), (ba, .inl (cb, kb, .inl fb))] H := hP
                  have hD : va_D A [(rd, .inr (6, rF r a0 a1 a2 a3 a4 a5 a6 1)), (ba, .inl (cb, kb, .inl fb))] := hD
                  refine lv_iload hx hb dX6_readWord_130 (lv_at hl 1 rfl) ?_
                  refine lv_iconst (v := 1) hx hb dX6_readWord_132 (by decide) ?_
                  refine lv_isub hx hb dX6_readWord_133 ?_
                  refine lv_topi (fun y_15 ey_15 => ?_)
                  first | have ty_15 := i_sub (a := kk.toInt) (b := 1) rfl (by decide) ey_15 (by omega) (by omega) | skip
                  have hP9 := hP.sub (ws' := [(rd, .inr (6, rF r a0 a1 a2 a3 a4 a5 a6 1)), (ba, .inl (cb, kb, .inl fb))]) [0, 1] rfl
                  have hD9 := hD.sub (ws' := [(rd, .inr (6, rF r a0 a1 a2 a3 a4 a5 a6 1)), (ba, .inl (cb, kb, .inl fb))]) [0, 1] (by decide) rfl
                  have hK9 := hK.sub (tys' := [(cb, .int)]) [0] rfl
                  exact W.iret hx hb hr (fun t ht hW => ⟨⟨_, (), rfl, by omega, a0, a1, 1, (Or.inr ⟨rfl, Or.inl ⟨rfl, by omega⟩⟩), by rw [ht]; exact hP9, va_K.moved hW.alike hK9, hD9⟩, hS.F ht⟩) hS.2.2 dX6_readWord_134
              · have tk_12 := c_nlt (a := y_11.toInt) (b := 8) rfl (by decide) k_12
                refine lv_aload_n hx hb dX6_readWord_107 rfl (lv_at hl 2 rfl) ?_
                refine lv_iconst (v := 3) hx hb dX6_readWord_108 (by decide) ?_
                refine lv_iload_n hx hb dX6_readWord_109 rfl (lv_at hl 4 rfl) ?_
                have hPc := hP.sub (ws' := [(rd, .inr (6, rF r a0 a1 a2 a3 a4 a5 a6 a7))]) [0] rfl
                have hKc := hK.sub (tys' := []) [] rfl
                have hDc := hD.sub (ws' := [(rd, .inr (6, rF r a0 a1 a2 a3 a4 a5 a6 a7))]) [0] (by decide) rfl
                have hFc := va_free (wc := [(rd, .inr (6, rF r a0 a1 a2 a3 a4 a5 a6 a7))]) hD hS hA [0] rfl
                refine va_callv (va_runV (As := [.int 3, .int i1]) (rest := []) ⟨hx, hb, hml, hown, hts⟩ (s_fail l dC dI rd r a0 a1 a2 a3 a4 a5 a6 a7 H.size 3 i1) (cwV 2 hts mg_X6_readWord_X6_fail_71 rfl rfl rfl (by decide +kernel) ⟨Nat.le_of_ble_eq_true rfl, Nat.le_of_ble_eq_true rfl⟩) ⟨fun a U g mk q => by obtain ⟨q0, q1, qP, qK, qD⟩ := q; exact ⟨q0, q1, qP, va_K.moved (u := U) (U := U.calling g mk a) (Vm.Alike.refl U.vm) qK, qD⟩, va_recv hKc hPc (ci := 6) (q0 := 0) rfl rfl, fun U hU hW => ⟨rfl, by rw [hU], by rw [hU]; exact hPc, va_K.moved hW.alike hKc, hDc.weaken (fun _ _ _ _ => trivial)⟩⟩ rfl rfl hl.1 rfl (lv_room (Nat.le_of_ble_eq_true rfl)) dX6_readWord_110 ⟨Nat.le_of_ble_eq_true rfl, Nat.le_of_ble_eq_true rfl⟩) hS (fun q _ h => hFc q h) hFc (fun u t H1 locs ht hvm hw hB hz1 hk1 hS => ?_)
                obtain ⟨hP1, hK1, hD1⟩ := hB
                rw [ht] at hP1
                obtain ⟨hP, hD⟩ := va_join (wr := [(ba, .inl (cb, kb, .inl fb))]) (w1 := [(rd, .inr (6, rF r 3 i1 a2 a3 a4 a5 a6 a7))]) hP hD [0] [1] rfl rfl (by decide) (by decide) hk1 hFc hP1 hD1
                generalize H1 = H at hP hS ⊢
                have hP : va_P (dC, dI) vwCl [(ba, .inl (cb, kb, .inl fb)), (rd, .inr (6, rF r 3 i1 a2 a3 a4 a5 a6 a7))] H := hP
                have hD : va_D A [(ba, .inl (cb, kb, .inl fb)), (rd, .inr (6, rF r 3 i1 a2 a3 a4 a5 a6 a7))] := hD
                refine lv_goto (tgt := 130) hx hb dX6_readWord_113 (by decide) ?_
                refine lv_iload hx hb dX6_readWord_130 (lv_at hl 1 rfl) ?_
                refine lv_iconst (v := 1) hx hb dX6_readWord_132 (by decide) ?_
                refine lv_isub hx hb dX6_readWord_133 ?_
                refine lv_topi (fun y_18 ey_18 => ?_)
                first | have ty_18 := i_sub (a := kk.toInt) (b := 1) rfl (by decide) ey_18 (by omega) (by omega) | skip
                have hP9 := hP.sub (ws' := [(rd, .inr (6, rF r 3 i1 a2 a3 a4 a5 a6 a7)), (ba, .inl (cb, kb, .inl fb))]) [1, 0] rfl
                have hD9 := hD.sub (ws' := [(rd, .inr (6, rF r 3 i1 a2 a3 a4 a5 a6 a7)), (ba, .inl (cb, kb, .inl fb))]) [1, 0] (by decide) rfl
                have hK9 := hK.sub (tys' := [(cb, .int)]) [0] rfl
                exact W.iret hx hb hr (fun t ht hW => ⟨⟨_, (), rfl, by omega, 3, i1, a7, (Or.inl ⟨rfl, Or.inr rfl⟩), by rw [ht]; exact hP9, va_K.moved hW.alike hK9, hD9⟩, hS.F ht⟩) hS.2.2 dX6_readWord_134
            · have tk_10 := c_ne (a := r_4.toInt) (b := 0) rfl (by decide) k_10
              refine lv_aload_n hx hb dX6_readWord_76 rfl (lv_at hl 2 rfl) ?_
              refine va_get (D := (dC, dI)) (ci := 6) (v := .int a5) (C := RX6) (T := TX6) (N := 11) hx hb hts fin_X6_readWord_X6 hown hK hP 0 rfl rfl 8 (by decide) (hts (.fieldLink RX6 38 "PatternGate$Reader" "docsAhead" "I") (List.mem_of_getElem? (i := 10) (by decide +kernel))) (fun _ h9 => h9) rfl dX6_readWord_77 ?_
              refine lv_aload_n hx hb dX6_readWord_80 rfl (lv_at hl 2 rfl) ?_
              refine va_get (D := (dC, dI)) (ci := 6) (v := .int a3) (C := RX6) (T := TX6) (N := 11) hx hb hts fin_X6_readWord_X6 hown hK hP 0 rfl rfl 3 (by decide) (hts (.fieldLink RX6 32 "PatternGate$Reader" "newDocs" "I") (List.mem_of_getElem? (i := 11) (by decide +kernel))) (fun _ h9 => h9) rfl dX6_readWord_81 ?_
              refine lv_iadd hx hb dX6_readWord_84 ?_
              refine lv_topi (fun y_19 ey_19 => ?_)
              first | have ty_19 := i_add (a := a5.toInt) (b := a3.toInt) rfl rfl ey_19 (by omega) (by omega) | skip
              refine lv_bipush (v := 10) hx hb dX6_readWord_85 (by decide) ?_
              refine lv_icmp_lt (tgt := 116) hx hb dX6_readWord_87 (by decide) (fun k_20 => ?_) (fun k_20 => ?_)
              · have tk_20 := c_lt (a := y_19.toInt) (b := 10) rfl (by decide) k_20
                refine lv_aload_n hx hb dX6_readWord_116 rfl (lv_at hl 2 rfl) ?_
                refine lv_iload hx hb dX6_readWord_117 (lv_at hl 0 rfl) ?_
                refine lv_if_eq (tgt := 126) hx hb dX6_readWord_119 (by decide) (fun k_21 => ?_) (fun k_21 => ?_)
                · have tk_21 := c_eq (a := r_4.toInt) (b := 0) rfl (by decide) k_21
                  refine lv_iconst (v := 2) hx hb dX6_readWord_126 (by decide) ?_
                  refine va_put (D := (dC, dI)) (ci := 6) (v := .int 2) (ty := .int) (C := RX6) (T := TX6) (N := 11) hx hb hts fin_X6_readWord_X6 tyX6 tyX6_ok nmX6 hown hK hP hD hS 0 rfl rfl 10 (by decide) (hts (.fieldLink RX6 44 "PatternGate$Reader" "wanted" "I") (List.mem_of_getElem? (i := 4) (by decide +kernel))) (fun _ h9 => h9) rfl (by decide +kernel) rfl rfl (Nat.le_of_ble_eq_true rfl) dX6_readWord_127 (fun H locs hP hD hS => ?_)
                  have hP : va_P (dC, dI) vwCl [(rd, .inr (6, rF r a0 a1 a2 a3 a4 a5 a6 2)), (ba, .inl (cb, kb, .inl fb))] H := hP
                  have hD : va_D A [(rd, .inr (6, rF r a0 a1 a2 a3 a4 a5 a6 2)), (ba, .inl (cb, kb, .inl fb))] := hD
                  refine lv_iload hx hb dX6_readWord_130 (lv_at hl 1 rfl) ?_
                  refine lv_iconst (v := 1) hx hb dX6_readWord_132 (by decide) ?_
                  refine lv_isub hx hb dX6_readWord_133 ?_
                  refine lv_topi (fun y_22 ey_22 => ?_)
                  first | have ty_22 := i_sub (a := kk.toInt) (b := 1) rfl (by decide) ey_22 (by omega) (by omega) | skip
                  have hP9 := hP.sub (ws' := [(rd, .inr (6, rF r a0 a1 a2 a3 a4 a5 a6 2)), (ba, .inl (cb, kb, .inl fb))]) [0, 1] rfl
                  have hD9 := hD.sub (ws' := [(rd, .inr (6, rF r a0 a1 a2 a3 a4 a5 a6 2)), (ba, .inl (cb, kb, .inl fb))]) [0, 1] (by decide) rfl
                  have hK9 := hK.sub (tys' := [(cb, .int)]) [0] rfl
                  exact W.iret hx hb hr (fun t ht hW => ⟨⟨_, (), rfl, by omega, a0, a1, 2, (Or.inr ⟨rfl, Or.inr ⟨rfl, by omega⟩⟩), by rw [ht]; exact hP9, va_K.moved hW.alike hK9, hD9⟩, hS.F ht⟩) hS.2.2 dX6_readWord_134
                · have tk_21 := c_ne (a := r_4.toInt) (b := 0) rfl (by decide) k_21
                  refine lv_iconst (v := 1) hx hb dX6_readWord_122 (by decide) ?_
                  refine lv_goto (tgt := 127) hx hb dX6_readWord_123 (by decide) ?_
                  refine va_put (D := (dC, dI)) (ci := 6) (v := .int 1) (ty := .int) (C := RX6) (T := TX6) (N := 11) hx hb hts fin_X6_readWord_X6 tyX6 tyX6_ok nmX6 hown hK hP hD hS 0 rfl rfl 10 (by decide) (hts (.fieldLink RX6 44 "PatternGate$Reader" "wanted" "I") (List.mem_of_getElem? (i := 4) (by decide +kernel))) (fun _ h9 => h9) rfl (by decide +kernel) rfl rfl (Nat.le_of_ble_eq_true rfl) dX6_readWord_127 (fun H locs hP hD hS => ?_)
                  have hP : va_P (dC, dI) vwCl [(rd, .inr (6, rF r a0 a1 a2 a3 a4 a5 a6 1)), (ba, .inl (cb, kb, .inl fb))] H := hP
                  have hD : va_D A [(rd, .inr (6, rF r a0 a1 a2 a3 a4 a5 a6 1)), (ba, .inl (cb, kb, .inl fb))] := hD
                  refine lv_iload hx hb dX6_readWord_130 (lv_at hl 1 rfl) ?_
                  refine lv_iconst (v := 1) hx hb dX6_readWord_132 (by decide) ?_
                  refine lv_isub hx hb dX6_readWord_133 ?_
                  refine lv_topi (fun y_23 ey_23 => ?_)
                  first | have ty_23 := i_sub (a := kk.toInt) (b := 1) rfl (by decide) ey_23 (by omega) (by omega) | skip
                  have hP9 := hP.sub (ws' := [(rd, .inr (6, rF r a0 a1 a2 a3 a4 a5 a6 1)), (ba, .inl (cb, kb, .inl fb))]) [0, 1] rfl
                  have hD9 := hD.sub (ws' := [(rd, .inr (6, rF r a0 a1 a2 a3 a4 a5 a6 1)), (ba, .inl (cb, kb, .inl fb))]) [0, 1] (by decide) rfl
                  have hK9 := hK.sub (tys' := [(cb, .int)]) [0] rfl
                  exact W.iret hx hb hr (fun t ht hW => ⟨⟨_, (), rfl, by omega, a0, a1, 1, (Or.inr ⟨rfl, Or.inl ⟨rfl, by omega⟩⟩), by rw [ht]; exact hP9, va_K.moved hW.alike hK9, hD9⟩, hS.F ht⟩) hS.2.2 dX6_readWord_134
              · have tk_20 := c_nlt (a := y_19.toInt) (b := 10) rfl (by decide) k_20
                refine lv_goto (tgt := 107) hx hb dX6_readWord_90 (by decide) ?_
                refine lv_aload_n hx hb dX6_readWord_107 rfl (lv_at hl 2 rfl) ?_
                refine lv_iconst (v := 3) hx hb dX6_readWord_108 (by decide) ?_
                refine lv_iload_n hx hb dX6_readWord_109 rfl (lv_at hl 4 rfl) ?_
                have hPc := hP.sub (ws' := [(rd, .inr (6, rF r a0 a1 a2 a3 a4 a5 a6 a7))]) [0] rfl
                have hKc := hK.sub (tys' := []) [] rfl
                have hDc := hD.sub (ws' := [(rd, .inr (6, rF r a0 a1 a2 a3 a4 a5 a6 a7))]) [0] (by decide) rfl
                have hFc := va_free (wc := [(rd, .inr (6, rF r a0 a1 a2 a3 a4 a5 a6 a7))]) hD hS hA [0] rfl
                refine va_callv (va_runV (As := [.int 3, .int i1]) (rest := []) ⟨hx, hb, hml, hown, hts⟩ (s_fail l dC dI rd r a0 a1 a2 a3 a4 a5 a6 a7 H.size 3 i1) (cwV 2 hts mg_X6_readWord_X6_fail_71 rfl rfl rfl (by decide +kernel) ⟨Nat.le_of_ble_eq_true rfl, Nat.le_of_ble_eq_true rfl⟩) ⟨fun a U g mk q => by obtain ⟨q0, q1, qP, qK, qD⟩ := q; exact ⟨q0, q1, qP, va_K.moved (u := U) (U := U.calling g mk a) (Vm.Alike.refl U.vm) qK, qD⟩, va_recv hKc hPc (ci := 6) (q0 := 0) rfl rfl, fun U hU hW => ⟨rfl, by rw [hU], by rw [hU]; exact hPc, va_K.moved hW.alike hKc, hDc.weaken (fun _ _ _ _ => trivial)⟩⟩ rfl rfl hl.1 rfl (lv_room (Nat.le_of_ble_eq_true rfl)) dX6_readWord_110 ⟨Nat.le_of_ble_eq_true rfl, Nat.le_of_ble_eq_true rfl⟩) hS (fun q _ h => hFc q h) hFc (fun u t H1 locs ht hvm hw hB hz1 hk1 hS => ?_)
                obtain ⟨hP1, hK1, hD1⟩ := hB
                rw [ht] at hP1
                obtain ⟨hP, hD⟩ := va_join (wr := [(ba, .inl (cb, kb, .inl fb))]) (w1 := [(rd, .inr (6, rF r 3 i1 a2 a3 a4 a5 a6 a7))]) hP hD [0] [1] rfl rfl (by decide) (by decide) hk1 hFc hP1 hD1
                generalize H1 = H at hP hS ⊢
                have hP : va_P (dC, dI) vwCl [(ba, .inl (cb, kb, .inl fb)), (rd, .inr (6, rF r 3 i1 a2 a3 a4 a5 a6 a7))] H := hP
                have hD : va_D A [(ba, .inl (cb, kb, .inl fb)), (rd, .inr (6, rF r 3 i1 a2 a3 a4 a5 a6 a7))] := hD
                refine lv_goto (tgt := 130) hx hb dX6_readWord_113 (by decide) ?_
                refine lv_iload hx hb dX6_readWord_130 (lv_at hl 1 rfl) ?_
                refine lv_iconst (v := 1) hx hb dX6_readWord_132 (by decide) ?_
                refine lv_isub hx hb dX6_readWord_133 ?_
                refine lv_topi (fun y_26 ey_26 => ?_)
                first | have ty_26 := i_sub (a := kk.toInt) (b := 1) rfl (by decide) ey_26 (by omega) (by omega) | skip
                have hP9 := hP.sub (ws' := [(rd, .inr (6, rF r 3 i1 a2 a3 a4 a5 a6 a7)), (ba, .inl (cb, kb, .inl fb))]) [1, 0] rfl
                have hD9 := hD.sub (ws' := [(rd, .inr (6, rF r 3 i1 a2 a3 a4 a5 a6 a7)), (ba, .inl (cb, kb, .inl fb))]) [1, 0] (by decide) rfl
                have hK9 := hK.sub (tys' := [(cb, .int)]) [0] rfl
                exact W.iret hx hb hr (fun t ht hW => ⟨⟨_, (), rfl, by omega, 3, i1, a7, (Or.inl ⟨rfl, Or.inr rfl⟩), by rw [ht]; exact hP9, va_K.moved hW.alike hK9, hD9⟩, hS.F ht⟩) hS.2.2 dX6_readWord_134
          · have tk_9 := c_eq (a := r_4.toInt) (b := 0) rfl (by decide) k_9
            refine lv_aload_n hx hb dX6_readWord_50 rfl (lv_at hl 3 rfl) ?_
            refine lv_iload_n hx hb dX6_readWord_51 rfl (lv_at hl 4 rfl) ?_
            refine lv_iload hx hb dX6_readWord_52 (lv_at hl 1 rfl) ?_
            refine va_ldcS hx hb hown hR81 dX6_readWord_54 ?_
            have hPc := hP.sub (ws' := [(ba, .inl (cb, kb, .inl fb))]) [1] rfl
            have hKc := hK.sub (tys' := [(cb, .int)]) [0] rfl
            have hDc := hD.sub (ws' := [(ba, .inl (cb, kb, .inl fb))]) [1] (by decide) rfl
            have hFc := va_free (wc := [(ba, .inl (cb, kb, .inl fb))]) hD hS hA [1] rfl
            refine va_calli (va_runS (As := [.ref ba, .int i1, .int kk, .ref qp]) (rest := []) ⟨hx, hb, hml, hown, hts⟩ (s_isWord l dC dI ba kb qp 7 cb fb H.size i1 kk (by omega) (by omega) (by omega)) (va_cwS 4 hts mg_X6_readWord_X6_isWord_77 rfl rfl rfl (by decide +kernel) ⟨Nat.le_of_ble_eq_true rfl, Nat.le_of_ble_eq_true rfl⟩) ⟨fun a U g mk q => by obtain ⟨q0, q1, qP, qK, qD, qE0, qE1⟩ := q; exact ⟨q0, q1, qP, va_K.moved (u := U) (U := U.calling g mk a) (Vm.Alike.refl U.vm) qK, qD, sX.moved (u := U) (U := U.calling g mk a) (Vm.Alike.refl U.vm) qE0, sC.moved (u := U) (U := U.calling g mk a) (Vm.Alike.refl U.vm) qE1⟩, fun U hU hW => ⟨rfl, by rw [hU], by rw [hU]; exact hPc, va_K.moved hW.alike hKc, hDc.weaken (fun _ _ _ _ => trivial), sX.to hXp hS hFc hW hU, sC.to hC9 hS hFc hW hU⟩⟩ rfl rfl hl.1 rfl (lv_room (Nat.le_of_ble_eq_true rfl)) dX6_readWord_56 ⟨Nat.le_of_ble_eq_true rfl, Nat.le_of_ble_eq_true rfl⟩) hS (fun q _ h => hFc q h) hFc (fun r_28 u t H1 locs ht hvm hw hB hz1 hk1 hS => ?_)
            obtain ⟨hP1, hK1, hD1⟩ := hB
            rw [ht] at hP1
            have hr_28 := hw
            obtain ⟨hP, hD⟩ := va_join (wr := [(rd, .inr (6, rF r a0 a1 a2 a3 a4 a5 a6 a7))]) (w1 := [(ba, .inl (cb, kb, .inl fb))]) hP hD [1] [0] rfl rfl (by decide) (by decide) hk1 hFc hP1 hD1
            generalize H1 = H at hP hS ⊢
            have hP : va_P (dC, dI) vwCl [(rd, .inr (6, rF r a0 a1 a2 a3 a4 a5 a6 a7)), (ba, .inl (cb, kb, .inl fb))] H := hP
            have hD : va_D A [(rd, .inr (6, rF r a0 a1 a2 a3 a4 a5 a6 a7)), (ba, .inl (cb, kb, .inl fb))] := hD
            refine lv_if_ne (tgt := 71) hx hb dX6_readWord_59 (by decide) (fun k_29 => ?_) (fun k_29 => ?_)
            · have tk_29 := c_ne (a := r_28.toInt) (b := 0) rfl (by decide) k_29
              refine lv_iload hx hb dX6_readWord_71 (lv_at hl 0 rfl) ?_
              refine lv_if_eq (tgt := 93) hx hb dX6_readWord_73 (by decide) (fun k_30 => ?_) (fun k_30 => ?_)
              · have tk_30 := c_eq (a := r_4.toInt) (b := 0) rfl (by decide) k_30
                refine lv_aload_n hx hb dX6_readWord_93 rfl (lv_at hl 2 rfl) ?_
                refine va_get (D := (dC, dI)) (ci := 6) (v := .int a6) (C := RX6) (T := TX6) (N := 11) hx hb hts fin_X6_readWord_X6 hown hK hP 0 rfl rfl 9 (by decide) (hts (.fieldLink RX6 41 "PatternGate$Reader" "patternsAhead" "I") (List.mem_of_getElem? (i := 8) (by decide +kernel))) (fun _ h9 => h9) rfl dX6_readWord_94 ?_
                refine lv_aload_n hx hb dX6_readWord_97 rfl (lv_at hl 2 rfl) ?_
                refine va_get (D := (dC, dI)) (ci := 6) (v := .int a4) (C := RX6) (T := TX6) (N := 11) hx hb hts fin_X6_readWord_X6 hown hK hP 0 rfl rfl 4 (by decide) (hts (.fieldLink RX6 35 "PatternGate$Reader" "newPatterns" "I") (List.mem_of_getElem? (i := 9) (by decide +kernel))) (fun _ h9 => h9) rfl dX6_readWord_98 ?_
                refine lv_iadd hx hb dX6_readWord_101 ?_
                refine lv_topi (fun y_31 ey_31 => ?_)
                first | have ty_31 := i_add (a := a6.toInt) (b := a4.toInt) rfl rfl ey_31 (by omega) (by omega) | skip
                refine lv_bipush (v := 8) hx hb dX6_readWord_102 (by decide) ?_
                refine lv_icmp_lt (tgt := 116) hx hb dX6_readWord_104 (by decide) (fun k_32 => ?_) (fun k_32 => ?_)
                · have tk_32 := c_lt (a := y_31.toInt) (b := 8) rfl (by decide) k_32
                  refine lv_aload_n hx hb dX6_readWord_116 rfl (lv_at hl 2 rfl) ?_
                  refine lv_iload hx hb dX6_readWord_117 (lv_at hl 0 rfl) ?_
                  refine lv_if_eq (tgt := 126) hx hb dX6_readWord_119 (by decide) (fun k_33 => ?_) (fun k_33 => ?_)
                  · have tk_33 := c_eq (a := r_4.toInt) (b := 0) rfl (by decide) k_33
                    refine lv_iconst (v := 2) hx hb dX6_readWord_126 (by decide) ?_
                    refine va_put (D := (dC, dI)) (ci := 6) (v := .int 2) (ty := .int) (C := RX6) (T := TX6) (N := 11) hx hb hts fin_X6_readWord_X6 tyX6 tyX6_ok nmX6 hown hK hP hD hS 0 rfl rfl 10 (by decide) (hts (.fieldLink RX6 44 "PatternGate$Reader" "wanted" "I") (List.mem_of_getElem? (i := 4) (by decide +kernel))) (fun _ h9 => h9) rfl (by decide +kernel) rfl rfl (Nat.le_of_ble_eq_true rfl) dX6_readWord_127 (fun H locs hP hD hS => ?_)
                    have hP : va_P (dC, dI) vwCl [(rd, .inr (6, rF r a0 a1 a2 a3 a4 a5 a6 2)), (ba, .inl (cb, kb, .inl fb))] H := hP
                    have hD : va_D A [(rd, .inr (6, rF r a0 a1 a2 a3 a4 a5 a6 2)), (ba, .inl (cb, kb, .inl fb))] := hD
                    refine lv_iload hx hb dX6_readWord_130 (lv_at hl 1 rfl) ?_
                    refine lv_iconst (v := 1) hx hb dX6_readWord_132 (by decide) ?_
                    refine lv_isub hx hb dX6_readWord_133 ?_
                    refine lv_topi (fun y_34 ey_34 => ?_)
                    first | have ty_34 := i_sub (a := kk.toInt) (b := 1) rfl (by decide) ey_34 (by omega) (by omega) | skip
                    have hP9 := hP.sub (ws' := [(rd, .inr (6, rF r a0 a1 a2 a3 a4 a5 a6 2)), (ba, .inl (cb, kb, .inl fb))]) [0, 1] rfl
                    have hD9 := hD.sub (ws' := [(rd, .inr (6, rF r a0 a1 a2 a3 a4 a5 a6 2)), (ba, .inl (cb, kb, .inl fb))]) [0, 1] (by decide) rfl
                    have hK9 := hK.sub (tys' := [(cb, .int)]) [0] rfl
                    exact W.iret hx hb hr (fun t ht hW => ⟨⟨_, (), rfl, by omega, a0, a1, 2, (Or.inr ⟨rfl, Or.inr ⟨rfl, by omega⟩⟩), by rw [ht]; exact hP9, va_K.moved hW.alike hK9, hD9⟩, hS.F ht⟩) hS.2.2 dX6_readWord_134
                  · have tk_33 := c_ne (a := r_4.toInt) (b := 0) rfl (by decide) k_33
                    refine lv_iconst (v := 1) hx hb dX6_readWord_122 (by decide) ?_
                    refine lv_goto (tgt := 127) hx hb dX6_readWord_123 (by decide) ?_
                    refine va_put (D := (dC, dI)) (ci := 6) (v := .int 1) (ty := .int) (C := RX6) (T := TX6) (N := 11) hx hb hts fin_X6_readWord_X6 tyX6 tyX6_ok nmX6 hown hK hP hD hS 0 rfl rfl 10 (by decide) (hts (.fieldLink RX6 44 "PatternGate$Reader" "wanted" "I") (List.mem_of_getElem? (i := 4) (by decide +kernel))) (fun _ h9 => h9) rfl (by decide +kernel) rfl rfl (Nat.le_of_ble_eq_true rfl) dX6_readWord_127 (fun H locs hP hD hS => ?_)
                    have hP : va_P (dC, dI) vwCl [(rd, .inr (6, rF r a0 a1 a2 a3 a4 a5 a6 1)), (ba, .inl (cb, kb, .inl fb))] H := hP
                    have hD : va_D A [(rd, .inr (6, rF r a0 a1 a2 a3 a4 a5 a6 1)), (ba, .inl (cb, kb, .inl fb))] := hD
                    refine lv_iload hx hb dX6_readWord_130 (lv_at hl 1 rfl) ?_
                    refine lv_iconst (v := 1) hx hb dX6_readWord_132 (by decide) ?_
                    refine lv_isub hx hb dX6_readWord_133 ?_
                    refine lv_topi (fun y_35 ey_35 => ?_)
                    first | have ty_35 := i_sub (a := kk.toInt) (b := 1) rfl (by decide) ey_35 (by omega) (by omega) | skip
                    have hP9 := hP.sub (ws' := [(rd, .inr (6, rF r a0 a1 a2 a3 a4 a5 a6 1)), (ba, .inl (cb, kb, .inl fb))]) [0, 1] rfl
                    have hD9 := hD.sub (ws' := [(rd, .inr (6, rF r a0 a1 a2 a3 a4 a5 a6 1)), (ba, .inl (cb, kb, .inl fb))]) [0, 1] (by decide) rfl
                    have hK9 := hK.sub (tys' := [(cb, .int)]) [0] rfl
                    exact W.iret hx hb hr (fun t ht hW => ⟨⟨_, (), rfl, by omega, a0, a1, 1, (Or.inr ⟨rfl, Or.inl ⟨rfl, by omega⟩⟩), by rw [ht]; exact hP9, va_K.moved hW.alike hK9, hD9⟩, hS.F ht⟩) hS.2.2 dX6_readWord_134
                · have tk_32 := c_nlt (a := y_31.toInt) (b := 8) rfl (by decide) k_32
                  refine lv_aload_n hx hb dX6_readWord_107 rfl (lv_at hl 2 rfl) ?_
                  refine lv_iconst (v := 3) hx hb dX6_readWord_108 (by decide) ?_
                  refine lv_iload_n hx hb dX6_readWord_109 rfl (lv_at hl 4 rfl) ?_
                  have hPc := hP.sub (ws' := [(rd, .inr (6, rF r a0 a1 a2 a3 a4 a5 a6 a7))]) [0] rfl
                  have hKc := hK.sub (tys' := []) [] rfl
                  have hDc := hD.sub (ws' := [(rd, .inr (6, rF r a0 a1 a2 a3 a4 a5 a6 a7))]) [0] (by decide) rfl
                  have hFc := va_free (wc := [(rd, .inr (6, rF r a0 a1 a2 a3 a4 a5 a6 a7))]) hD hS hA [0] rfl
                  refine va_callv (va_runV (As := [.int 3, .int i1]) (rest := []) ⟨hx, hb, hml, hown, hts⟩ (s_fail l dC dI rd r a0 a1 a2 a3 a4 a5 a6 a7 H.size 3 i1) (cwV 2 hts mg_X6_readWord_X6_fail_71 rfl rfl rfl (by decide +kernel) ⟨Nat.le_of_ble_eq_true rfl, Nat.le_of_ble_eq_true rfl⟩) ⟨fun a U g mk q => by obtain ⟨q0, q1, qP, qK, qD⟩ := q; exact ⟨q0, q1, qP, va_K.moved (u := U) (U := U.calling g mk a) (Vm.Alike.refl U.vm) qK, qD⟩, va_recv hKc hPc (ci := 6) (q0 := 0) rfl rfl, fun U hU hW => ⟨rfl, by rw [hU], by rw [hU]; exact hPc, va_K.moved hW.alike hKc, hDc.weaken (fun _ _ _ _ => trivial)⟩⟩ rfl rfl hl.1 rfl (lv_room (Nat.le_of_ble_eq_true rfl)) dX6_readWord_110 ⟨Nat.le_of_ble_eq_true rfl, Nat.le_of_ble_eq_true rfl⟩) hS (fun q _ h => hFc q h) hFc (fun u t H1 locs ht hvm hw hB hz1 hk1 hS => ?_)
                  obtain ⟨hP1, hK1, hD1⟩ := hB
                  rw [ht] at hP1
                  obtain ⟨hP, hD⟩ := va_join (wr := [(ba, .inl (cb, kb, .inl fb))]) (w1 := [(rd, .inr (6, rF r 3 i1 a2 a3 a4 a5 a6 a7))]) hP hD [0] [1] rfl rfl (by decide) (by decide) hk1 hFc hP1 hD1
                  generalize H1 = H at hP hS ⊢
                  have hP : va_P (dC, dI) vwCl [(ba, .inl (cb, kb, .inl fb)), (rd, .inr (6, rF r 3 i1 a2 a3 a4 a5 a6 a7))] H := hP
                  have hD : va_D A [(ba, .inl (cb, kb, .inl fb)), (rd, .inr (6, rF r 3 i1 a2 a3 a4 a5 a6 a7))] := hD
                  refine lv_goto (tgt := 130) hx hb dX6_readWord_113 (by decide) ?_
                  refine lv_iload hx hb dX6_readWord_130 (lv_at hl 1 rfl) ?_
                  refine lv_iconst (v := 1) hx hb dX6_readWord_132 (by decide) ?_
                  refine lv_isub hx hb dX6_readWord_133 ?_
                  refine lv_topi (fun y_38 ey_38 => ?_)
                  first | have ty_38 := i_sub (a := kk.toInt) (b := 1) rfl (by decide) ey_38 (by omega) (by omega) | skip
                  have hP9 := hP.sub (ws' := [(rd, .inr (6, rF r 3 i1 a2 a3 a4 a5 a6 a7)), (ba, .inl (cb, kb, .inl fb))]) [1, 0] rfl
                  have hD9 := hD.sub (ws' := [(rd, .inr (6, rF r 3 i1 a2 a3 a4 a5 a6 a7)), (ba, .inl (cb, kb, .inl fb))]) [1, 0] (by decide) rfl
                  have hK9 := hK.sub (tys' := [(cb, .int)]) [0] rfl
                  exact W.iret hx hb hr (fun t ht hW => ⟨⟨_, (), rfl, by omega, 3, i1, a7, (Or.inl ⟨rfl, Or.inr rfl⟩), by rw [ht]; exact hP9, va_K.moved hW.alike hK9, hD9⟩, hS.F ht⟩) hS.2.2 dX6_readWord_134
              · have tk_30 := c_ne (a := r_4.toInt) (b := 0) rfl (by decide) k_30
                refine lv_aload_n hx hb dX6_readWord_76 rfl (lv_at hl 2 rfl) ?_
                refine va_get (D := (dC, dI)) (ci := 6) (v := .int a5) (C := RX6) (T := TX6) (N := 11) hx hb hts fin_X6_readWord_X6 hown hK hP 0 rfl rfl 8 (by decide) (hts (.fieldLink RX6 38 "PatternGate$Reader" "docsAhead" "I") (List.mem_of_getElem? (i := 10) (by decide +kernel))) (fun _ h9 => h9) rfl dX6_readWord_77 ?_
                refine lv_aload_n hx hb dX6_readWord_80 rfl (lv_at hl 2 rfl) ?_
                refine va_get (D := (dC, dI)) (ci := 6) (v := .int a3) (C := RX6) (T := TX6) (N := 11) hx hb hts fin_X6_readWord_X6 hown hK hP 0 rfl rfl 3 (by decide) (hts (.fieldLink RX6 32 "PatternGate$Reader" "newDocs" "I") (List.mem_of_getElem? (i := 11) (by decide +kernel))) (fun _ h9 => h9) rfl dX6_readWord_81 ?_
                refine lv_iadd hx hb dX6_readWord_84 ?_
                refine lv_topi (fun y_39 ey_39 => ?_)
                first | have ty_39 := i_add (a := a5.toInt) (b := a3.toInt) rfl rfl ey_39 (by omega) (by omega) | skip
                refine lv_bipush (v := 10) hx hb dX6_readWord_85 (by decide) ?_
                refine lv_icmp_lt (tgt := 116) hx hb dX6_readWord_87 (by decide) (fun k_40 => ?_) (fun k_40 => ?_)
                · have tk_40 := c_lt (a := y_39.toInt) (b := 10) rfl (by decide) k_40
                  refine lv_aload_n hx hb dX6_readWord_116 rfl (lv_at hl 2 rfl) ?_
                  refine lv_iload hx hb dX6_readWord_117 (lv_at hl 0 rfl) ?_
                  refine lv_if_eq (tgt := 126) hx hb dX6_readWord_119 (by decide) (fun k_41 => ?_) (fun k_41 => ?_)
                  · have tk_41 := c_eq (a := r_4.toInt) (b := 0) rfl (by decide) k_41
                    refine lv_iconst (v := 2) hx hb dX6_readWord_126 (by decide) ?_
                    refine va_put (D := (dC, dI)) (ci := 6) (v := .int 2) (ty := .int) (C := RX6) (T := TX6) (N := 11) hx hb hts fin_X6_readWord_X6 tyX6 tyX6_ok nmX6 hown hK hP hD hS 0 rfl rfl 10 (by decide) (hts (.fieldLink RX6 44 "PatternGate$Reader" "wanted" "I") (List.mem_of_getElem? (i := 4) (by decide +kernel))) (fun _ h9 => h9) rfl (by decide +kernel) rfl rfl (Nat.le_of_ble_eq_true rfl) dX6_readWord_127 (fun H locs hP hD hS => ?_)
                    have hP : va_P (dC, dI) vwCl [(rd, .inr (6, rF r a0 a1 a2 a3 a4 a5 a6 2)), (ba, .inl (cb, kb, .inl fb))] H := hP
                    have hD : va_D A [(rd, .inr (6, rF r a0 a1 a2 a3 a4 a5 a6 2)), (ba, .inl (cb, kb, .inl fb))] := hD
                    refine lv_iload hx hb dX6_readWord_130 (lv_at hl 1 rfl) ?_
                    refine lv_iconst (v := 1) hx hb dX6_readWord_132 (by decide) ?_
                    refine lv_isub hx hb dX6_readWord_133 ?_
                    refine lv_topi (fun y_42 ey_42 => ?_)
                    first | have ty_42 := i_sub (a := kk.toInt) (b := 1) rfl (by decide) ey_42 (by omega) (by omega) | skip
                    have hP9 := hP.sub (ws' := [(rd, .inr (6, rF r a0 a1 a2 a3 a4 a5 a6 2)), (ba, .inl (cb, kb, .inl fb))]) [0, 1] rfl
                    have hD9 := hD.sub (ws' := [(rd, .inr (6, rF r a0 a1 a2 a3 a4 a5 a6 2)), (ba, .inl (cb, kb, .inl fb))]) [0, 1] (by decide) rfl
                    have hK9 := hK.sub (tys' := [(cb, .int)]) [0] rfl
                    exact W.iret hx hb hr (fun t ht hW => ⟨⟨_, (), rfl, by omega, a0, a1, 2, (Or.inr ⟨rfl, Or.inr ⟨rfl, by omega⟩⟩), by rw [ht]; exact hP9, va_K.moved hW.alike hK9, hD9⟩, hS.F ht⟩) hS.2.2 dX6_readWord_134
                  · have tk_41 := c_ne (a := r_4.toInt) (b := 0) rfl (by decide) k_41
                    refine lv_iconst (v := 1) hx hb dX6_readWord_122 (by decide) ?_
                    refine lv_goto (tgt := 127) hx hb dX6_readWord_123 (by decide) ?_
                    refine va_put (D := (dC, dI)) (ci := 6) (v := .int 1) (ty := .int) (C := RX6) (T := TX6) (N := 11) hx hb hts fin_X6_readWord_X6 tyX6 tyX6_ok nmX6 hown hK hP hD hS 0 rfl rfl 10 (by decide) (hts (.fieldLink RX6 44 "PatternGate$Reader" "wanted" "I") (List.mem_of_getElem? (i := 4) (by decide +kernel))) (fun _ h9 => h9) rfl (by decide +kernel) rfl rfl (Nat.le_of_ble_eq_true rfl) dX6_readWord_127 (fun H locs hP hD hS => ?_)
                    have hP : va_P (dC, dI) vwCl [(rd, .inr (6, rF r a0 a1 a2 a3 a4 a5 a6 1)), (ba, .inl (cb, kb, .inl fb))] H := hP
                    have hD : va_D A [(rd, .inr (6, rF r a0 a1 a2 a3 a4 a5 a6 1)), (ba, .inl (cb, kb, .inl fb))] := hD
                    refine lv_iload hx hb dX6_readWord_130 (lv_at hl 1 rfl) ?_
                    refine lv_iconst (v := 1) hx hb dX6_readWord_132 (by decide) ?_
                    refine lv_isub hx hb dX6_readWord_133 ?_
                    refine lv_topi (fun y_43 ey_43 => ?_)
                    first | have ty_43 := i_sub (a := kk.toInt) (b := 1) rfl (by decide) ey_43 (by omega) (by omega) | skip
                    have hP9 := hP.sub (ws' := [(rd, .inr (6, rF r a0 a1 a2 a3 a4 a5 a6 1)), (ba, .inl (cb, kb, .inl fb))]) [0, 1] rfl
                    have hD9 := hD.sub (ws' := [(rd, .inr (6, rF r a0 a1 a2 a3 a4 a5 a6 1)), (ba, .inl (cb, kb, .inl fb))]) [0, 1] (by decide) rfl
                    have hK9 := hK.sub (tys' := [(cb, .int)]) [0] rfl
                    exact W.iret hx hb hr (fun t ht hW => ⟨⟨_, (), rfl, by omega, a0, a1, 1, (Or.inr ⟨rfl, Or.inl ⟨rfl, by omega⟩⟩), by rw [ht]; exact hP9, va_K.moved hW.alike hK9, hD9⟩, hS.F ht⟩) hS.2.2 dX6_readWord_134
                · have tk_40 := c_nlt (a := y_39.toInt) (b := 10) rfl (by decide) k_40
                  refine lv_goto (tgt := 107) hx hb dX6_readWord_90 (by decide) ?_
                  refine lv_aload_n hx hb dX6_readWord_107 rfl (lv_at hl 2 rfl) ?_
                  refine lv_iconst (v := 3) hx hb dX6_readWord_108 (by decide) ?_
                  refine lv_iload_n hx hb dX6_readWord_109 rfl (lv_at hl 4 rfl) ?_
                  have hPc := hP.sub (ws' := [(rd, .inr (6, rF r a0 a1 a2 a3 a4 a5 a6 a7))]) [0] rfl
                  have hKc := hK.sub (tys' := []) [] rfl
                  have hDc := hD.sub (ws' := [(rd, .inr (6, rF r a0 a1 a2 a3 a4 a5 a6 a7))]) [0] (by decide) rfl
                  have hFc := va_free (wc := [(rd, .inr (6, rF r a0 a1 a2 a3 a4 a5 a6 a7))]) hD hS hA [0] rfl
                  refine va_callv (va_runV (As := [.int 3, .int i1]) (rest := []) ⟨hx, hb, hml, hown, hts⟩ (s_fail l dC dI rd r a0 a1 a2 a3 a4 a5 a6 a7 H.size 3 i1) (cwV 2 hts mg_X6_readWord_X6_fail_71 rfl rfl rfl (by decide +kernel) ⟨Nat.le_of_ble_eq_true rfl, Nat.le_of_ble_eq_true rfl⟩) ⟨fun a U g mk q => by obtain ⟨q0, q1, qP, qK, qD⟩ := q; exact ⟨q0, q1, qP, va_K.moved (u := U) (U := U.calling g mk a) (Vm.Alike.refl U.vm) qK, qD⟩, va_recv hKc hPc (ci := 6) (q0 := 0) rfl rfl, fun U hU hW => ⟨rfl, by rw [hU], by rw [hU]; exact hPc, va_K.moved hW.alike hKc, hDc.weaken (fun _ _ _ _ => trivial)⟩⟩ rfl rfl hl.1 rfl (lv_room (Nat.le_of_ble_eq_true rfl)) dX6_readWord_110 ⟨Nat.le_of_ble_eq_true rfl, Nat.le_of_ble_eq_true rfl⟩) hS (fun q _ h => hFc q h) hFc (fun u t H1 locs ht hvm hw hB hz1 hk1 hS => ?_)
                  obtain ⟨hP1, hK1, hD1⟩ := hB
                  rw [ht] at hP1
                  obtain ⟨hP, hD⟩ := va_join (wr := [(ba, .inl (cb, kb, .inl fb))]) (w1 := [(rd, .inr (6, rF r 3 i1 a2 a3 a4 a5 a6 a7))]) hP hD [0] [1] rfl rfl (by decide) (by decide) hk1 hFc hP1 hD1
                  generalize H1 = H at hP hS ⊢
                  have hP : va_P (dC, dI) vwCl [(ba, .inl (cb, kb, .inl fb)), (rd, .inr (6, rF r 3 i1 a2 a3 a4 a5 a6 a7))] H := hP
                  have hD : va_D A [(ba, .inl (cb, kb, .inl fb)), (rd, .inr (6, rF r 3 i1 a2 a3 a4 a5 a6 a7))] := hD
                  refine lv_goto (tgt := 130) hx hb dX6_readWord_113 (by decide) ?_
                  refine lv_iload hx hb dX6_readWord_130 (lv_at hl 1 rfl) ?_
                  refine lv_iconst (v := 1) hx hb dX6_readWord_132 (by decide) ?_
                  refine lv_isub hx hb dX6_readWord_133 ?_
                  refine lv_topi (fun y_46 ey_46 => ?_)
                  first | have ty_46 := i_sub (a := kk.toInt) (b := 1) rfl (by decide) ey_46 (by omega) (by omega) | skip
                  have hP9 := hP.sub (ws' := [(rd, .inr (6, rF r 3 i1 a2 a3 a4 a5 a6 a7)), (ba, .inl (cb, kb, .inl fb))]) [1, 0] rfl
                  have hD9 := hD.sub (ws' := [(rd, .inr (6, rF r 3 i1 a2 a3 a4 a5 a6 a7)), (ba, .inl (cb, kb, .inl fb))]) [1, 0] (by decide) rfl
                  have hK9 := hK.sub (tys' := [(cb, .int)]) [0] rfl
                  exact W.iret hx hb hr (fun t ht hW => ⟨⟨_, (), rfl, by omega, 3, i1, a7, (Or.inl ⟨rfl, Or.inr rfl⟩), by rw [ht]; exact hP9, va_K.moved hW.alike hK9, hD9⟩, hS.F ht⟩) hS.2.2 dX6_readWord_134
            · have tk_29 := c_eq (a := r_28.toInt) (b := 0) rfl (by decide) k_29
              refine lv_aload_n hx hb dX6_readWord_62 rfl (lv_at hl 2 rfl) ?_
              refine lv_iconst (v := 2) hx hb dX6_readWord_63 (by decide) ?_
              refine lv_iload_n hx hb dX6_readWord_64 rfl (lv_at hl 4 rfl) ?_
              have hPc := hP.sub (ws' := [(rd, .inr (6, rF r a0 a1 a2 a3 a4 a5 a6 a7))]) [0] rfl
              have hKc := hK.sub (tys' := []) [] rfl
              have hDc := hD.sub (ws' := [(rd, .inr (6, rF r a0 a1 a2 a3 a4 a5 a6 a7))]) [0] (by decide) rfl
              have hFc := va_free (wc := [(rd, .inr (6, rF r a0 a1 a2 a3 a4 a5 a6 a7))]) hD hS hA [0] rfl
              refine va_callv (va_runV (As := [.int 2, .int i1]) (rest := []) ⟨hx, hb, hml, hown, hts⟩ (s_fail l dC dI rd r a0 a1 a2 a3 a4 a5 a6 a7 H.size 2 i1) (cwV 2 hts mg_X6_readWord_X6_fail_71 rfl rfl rfl (by decide +kernel) ⟨Nat.le_of_ble_eq_true rfl, Nat.le_of_ble_eq_true rfl⟩) ⟨fun a U g mk q => by obtain ⟨q0, q1, qP, qK, qD⟩ := q; exact ⟨q0, q1, qP, va_K.moved (u := U) (U := U.calling g mk a) (Vm.Alike.refl U.vm) qK, qD⟩, va_recv hKc hPc (ci := 6) (q0 := 0) rfl rfl, fun U hU hW => ⟨rfl, by rw [hU], by rw [hU]; exact hPc, va_K.moved hW.alike hKc, hDc.weaken (fun _ _ _ _ => trivial)⟩⟩ rfl rfl hl.1 rfl (lv_room (Nat.le_of_ble_eq_true rfl)) dX6_readWord_65 ⟨Nat.le_of_ble_eq_true rfl, Nat.le_of_ble_eq_true rfl⟩) hS (fun q _ h => hFc q h) hFc (fun u t H1 locs ht hvm hw hB hz1 hk1 hS => ?_)
              obtain ⟨hP1, hK1, hD1⟩ := hB
              rw [ht] at hP1
              obtain ⟨hP, hD⟩ := va_join (wr := [(ba, .inl (cb, kb, .inl fb))]) (w1 := [(rd, .inr (6, rF r 2 i1 a2 a3 a4 a5 a6 a7))]) hP hD [0] [1] rfl rfl (by decide) (by decide) hk1 hFc hP1 hD1
              generalize H1 = H at hP hS ⊢
              have hP : va_P (dC, dI) vwCl [(ba, .inl (cb, kb, .inl fb)), (rd, .inr (6, rF r 2 i1 a2 a3 a4 a5 a6 a7))] H := hP
              have hD : va_D A [(ba, .inl (cb, kb, .inl fb)), (rd, .inr (6, rF r 2 i1 a2 a3 a4 a5 a6 a7))] := hD
              refine lv_goto (tgt := 130) hx hb dX6_readWord_68 (by decide) ?_
              refine lv_iload hx hb dX6_readWord_130 (lv_at hl 1 rfl) ?_
              refine lv_iconst (v := 1) hx hb dX6_readWord_132 (by decide) ?_
              refine lv_isub hx hb dX6_readWord_133 ?_
              refine lv_topi (fun y_49 ey_49 => ?_)
              first | have ty_49 := i_sub (a := kk.toInt) (b := 1) rfl (by decide) ey_49 (by omega) (by omega) | skip
              have hP9 := hP.sub (ws' := [(rd, .inr (6, rF r 2 i1 a2 a3 a4 a5 a6 a7)), (ba, .inl (cb, kb, .inl fb))]) [1, 0] rfl
              have hD9 := hD.sub (ws' := [(rd, .inr (6, rF r 2 i1 a2 a3 a4 a5 a6 a7)), (ba, .inl (cb, kb, .inl fb))]) [1, 0] (by decide) rfl
              have hK9 := hK.sub (tys' := [(cb, .int)]) [0] rfl
              exact W.iret hx hb hr (fun t ht hW => ⟨⟨_, (), rfl, by omega, 2, i1, a7, (Or.inl ⟨rfl, Or.inl rfl⟩), by rw [ht]; exact hP9, va_K.moved hW.alike hK9, hD9⟩, hS.F ht⟩) hS.2.2 dX6_readWord_134
      · have tk_2 := c_nge (a := kk.toInt) (b := i2.toInt) rfl rfl k_2
        refine lv_aload_n hx hb dX6_readWord_11 rfl (lv_at hl 2 rfl) ?_
        refine lv_iload hx hb dX6_readWord_12 (lv_at hl 0 rfl) ?_
        refine va_iald hx hb hK hP 1 0 rfl rfl (i := kk) (vp_of (a := kk.toInt) rfl (by omega) (by omega)) dX6_readWord_14 ?_
        refine lv_topi (fun y_50 ey_50 => ?_)
        have rg_y_50 := i_rng y_50
        have hPc := hP.sub (ws' := []) [] rfl
        have hKc := hK.sub (tys' := []) [] rfl
        have hDc := hD.sub (ws' := []) [] (by decide) rfl
        have hFc := va_free (wc := []) hD hS hA [] rfl
        refine va_calli (va_runSN (As := [.int y_50]) (rest := []) ⟨hx, hb, hml, hown, hts⟩ (s_isSmallW l dC dI H.size y_50) ⟨va_cnB 1 hts mg_X6_readWord_X9_isSmall_53 rfl rfl rfl hN53 (hts (.initialized RX9) (List.mem_of_getElem? (i := 12) (by decide +kernel))) (by decide +kernel) ⟨Nat.le_of_ble_eq_true rfl, Nat.le_of_ble_eq_true rfl⟩, (hts (.static yX9_isSmall) (List.mem_of_getElem? (i := 13) (by decide +kernel))), trivial⟩ ⟨fun a U g mk q => by obtain ⟨q0, q1, qP, qK, qD⟩ := q; exact ⟨q0, q1, qP, va_K.moved (u := U) (U := U.calling g mk a) (Vm.Alike.refl U.vm) qK, qD⟩, fun U hU hW => ⟨rfl, by rw [hU], by rw [hU]; exact hPc, va_K.moved hW.alike hKc, hDc.weaken (fun _ _ _ _ => trivial)⟩⟩ rfl rfl hl.1 rfl (lv_room (Nat.le_of_ble_eq_true rfl)) dX6_readWord_15 ⟨Nat.le_of_ble_eq_true rfl, Nat.le_of_ble_eq_true rfl⟩) hS (fun q _ h => hFc q h) hFc (fun r_52 u t H1 locs ht hvm hw hB hz1 hk1 hS => ?_)
        have hr_52 := hw
        obtain ⟨hP, hD⟩ := va_join (wr := [(rd, .inr (6, rF r a0 a1 a2 a3 a4 a5 a6 a7)), (ba, .inl (cb, kb, .inl fb))]) (w1 := []) hP hD [] [0, 1] rfl rfl (by decide) (by decide) hk1 hFc (fun k q h => by simp at h) ⟨fun i j p q h => by simp at h, fun k q h => by simp at h⟩
        generalize H1 = H at hP hS ⊢
        have hP : va_P (dC, dI) vwCl [(rd, .inr (6, rF r a0 a1 a2 a3 a4 a5 a6 a7)), (ba, .inl (cb, kb, .inl fb))] H := hP
        have hD : va_D A [(rd, .inr (6, rF r a0 a1 a2 a3 a4 a5 a6 a7)), (ba, .inl (cb, kb, .inl fb))] := hD
        refine lv_if_eq (tgt := 27) hx hb dX6_readWord_18 (by decide) (fun k_53 => ?_) (fun k_53 => ?_)
        · have tk_53 := c_eq (a := r_52.toInt) (b := 0) rfl (by decide) k_53
          refine lv_aload_n hx hb dX6_readWord_27 rfl (lv_at hl 2 rfl) ?_
          refine lv_iload_n hx hb dX6_readWord_28 rfl (lv_at hl 3 rfl) ?_
          refine lv_iload hx hb dX6_readWord_29 (lv_at hl 0 rfl) ?_
          refine va_ldcS hx hb hown hR75 dX6_readWord_31 ?_
          have hPc := hP.sub (ws' := [(ba, .inl (cb, kb, .inl fb))]) [1] rfl
          have hKc := hK.sub (tys' := [(cb, .int)]) [0] rfl
          have hDc := hD.sub (ws' := [(ba, .inl (cb, kb, .inl fb))]) [1] (by decide) rfl
          have hFc := va_free (wc := [(ba, .inl (cb, kb, .inl fb))]) hD hS hA [1] rfl
          refine va_calli (va_runS (As := [.ref ba, .int i1, .int kk, .ref qd]) (rest := []) ⟨hx, hb, hml, hown, hts⟩ (s_isWord l dC dI ba kb qd 3 cb fb H.size i1 kk (by omega) (by omega) (by omega)) (va_cwS 4 hts mg_X6_readWord_X6_isWord_77 rfl rfl rfl (by decide +kernel) ⟨Nat.le_of_ble_eq_true rfl, Nat.le_of_ble_eq_true rfl⟩) ⟨fun a U g mk q => by obtain ⟨q0, q1, qP, qK, qD, qE0, qE1⟩ := q; exact ⟨q0, q1, qP, va_K.moved (u := U) (U := U.calling g mk a) (Vm.Alike.refl U.vm) qK, qD, sX.moved (u := U) (U := U.calling g mk a) (Vm.Alike.refl U.vm) qE0, sC.moved (u := U) (U := U.calling g mk a) (Vm.Alike.refl U.vm) qE1⟩, fun U hU hW => ⟨rfl, by rw [hU], by rw [hU]; exact hPc, va_K.moved hW.alike hKc, hDc.weaken (fun _ _ _ _ => trivial), sX.to hXd hS hFc hW hU, sC.to hC9 hS hFc hW hU⟩⟩ rfl rfl hl.1 rfl (lv_room (Nat.le_of_ble_eq_true rfl)) dX6_readWord_33 ⟨Nat.le_of_ble_eq_true rfl, Nat.le_of_ble_eq_true rfl⟩) hS (fun q _ h => hFc q h) hFc (fun r_55 u t H1 locs ht hvm hw hB hz1 hk1 hS => ?_)
          obtain ⟨hP1, hK1, hD1⟩ := hB
          rw [ht] at hP1
          have hr_55 := hw
          obtain ⟨hP, hD⟩ := va_join (wr := [(rd, .inr (6, rF r a0 a1 a2 a3 a4 a5 a6 a7))]) (w1 := [(ba, .inl (cb, kb, .inl fb))]) hP hD [1] [0] rfl rfl (by decide) (by decide) hk1 hFc hP1 hD1
          generalize H1 = H at hP hS ⊢
          have hP : va_P (dC, dI) vwCl [(rd, .inr (6, rF r a0 a1 a2 a3 a4 a5 a6 a7)), (ba, .inl (cb, kb, .inl fb))] H := hP
          have hD : va_D A [(rd, .inr (6, rF r a0 a1 a2 a3 a4 a5 a6 a7)), (ba, .inl (cb, kb, .inl fb))] := hD
          refine lv_istore (lv' := [(5, .int r_55), (4, .int kk), (0, .ref rd), (1, .ref ba), (2, .int i1), (3, .int i2)]) hx hb dX6_readWord_36 hl (by decide) rfl (fun ls hl => ?_)
          refine lv_aload_n hx hb dX6_readWord_38 rfl (lv_at hl 2 rfl) ?_
          refine va_get (D := (dC, dI)) (ci := 6) (v := .int a7) (C := RX6) (T := TX6) (N := 11) hx hb hts fin_X6_readWord_X6 hown hK hP 0 rfl rfl 10 (by decide) (hts (.fieldLink RX6 44 "PatternGate$Reader" "wanted" "I") (List.mem_of_getElem? (i := 4) (by decide +kernel))) (fun _ h9 => h9) rfl dX6_readWord_39 ?_
          refine lv_if_ne (tgt := 62) hx hb dX6_readWord_42 (by decide) (fun k_56 => ?_) (fun k_56 => ?_)
          · have tk_56 := c_ne (a := a7.toInt) (b := 0) rfl (by decide) k_56
            refine lv_aload_n hx hb dX6_readWord_62 rfl (lv_at hl 2 rfl) ?_
            refine lv_iconst (v := 2) hx hb dX6_readWord_63 (by decide) ?_
            refine lv_iload_n hx hb dX6_readWord_64 rfl (lv_at hl 4 rfl) ?_
            have hPc := hP.sub (ws' := [(rd, .inr (6, rF r a0 a1 a2 a3 a4 a5 a6 a7))]) [0] rfl
            have hKc := hK.sub (tys' := []) [] rfl
            have hDc := hD.sub (ws' := [(rd, .inr (6, rF r a0 a1 a2 a3 a4 a5 a6 a7))]) [0] (by decide) rfl
            have hFc := va_free (wc := [(rd, .inr (6, rF r a0 a1 a2 a3 a4 a5 a6 a7))]) hD hS hA [0] rfl
            refine va_callv (va_runV (As := [.int 2, .int i1]) (rest := []) ⟨hx, hb, hml, hown, hts⟩ (s_fail l dC dI rd r a0 a1 a2 a3 a4 a5 a6 a7 H.size 2 i1) (cwV 2 hts mg_X6_readWord_X6_fail_71 rfl rfl rfl (by decide +kernel) ⟨Nat.le_of_ble_eq_true rfl, Nat.le_of_ble_eq_true rfl⟩) ⟨fun a U g mk q => by obtain ⟨q0, q1, qP, qK, qD⟩ := q; exact ⟨q0, q1, qP, va_K.moved (u := U) (U := U.calling g mk a) (Vm.Alike.refl U.vm) qK, qD⟩, va_recv hKc hPc (ci := 6) (q0 := 0) rfl rfl, fun U hU hW => ⟨rfl, by rw [hU], by rw [hU]; exact hPc, va_K.moved hW.alike hKc, hDc.weaken (fun _ _ _ _ => trivial)⟩⟩ rfl rfl hl.1 rfl (lv_room (Nat.le_of_ble_eq_true rfl)) dX6_readWord_65 ⟨Nat.le_of_ble_eq_true rfl, Nat.le_of_ble_eq_true rfl⟩) hS (fun q _ h => hFc q h) hFc (fun u t H1 locs ht hvm hw hB hz1 hk1 hS => ?_)
            obtain ⟨hP1, hK1, hD1⟩ := hB
            rw [ht] at hP1
            obtain ⟨hP, hD⟩ := va_join (wr := [(ba, .inl (cb, kb, .inl fb))]) (w1 := [(rd, .inr (6, rF r 2 i1 a2 a3 a4 a5 a6 a7))]) hP hD [0] [1] rfl rfl (by decide) (by decide) hk1 hFc hP1 hD1
            generalize H1 = H at hP hS ⊢
            have hP : va_P (dC, dI) vwCl [(ba, .inl (cb, kb, .inl fb)), (rd, .inr (6, rF r 2 i1 a2 a3 a4 a5 a6 a7))] H := hP
            have hD : va_D A [(ba, .inl (cb, kb, .inl fb)), (rd, .inr (6, rF r 2 i1 a2 a3 a4 a5 a6 a7))] := hD
            refine lv_goto (tgt := 130) hx hb dX6_readWord_68 (by decide) ?_
            refine lv_iload hx hb dX6_readWord_130 (lv_at hl 1 rfl) ?_
            refine lv_iconst (v := 1) hx hb dX6_readWord_132 (by decide) ?_
            refine lv_isub hx hb dX6_readWord_133 ?_
            refine lv_topi (fun y_59 ey_59 => ?_)
            first | have ty_59 := i_sub (a := kk.toInt) (b := 1) rfl (by decide) ey_59 (by omega) (by omega) | skip
            have hP9 := hP.sub (ws' := [(rd, .inr (6, rF r 2 i1 a2 a3 a4 a5 a6 a7)), (ba, .inl (cb, kb, .inl fb))]) [1, 0] rfl
            have hD9 := hD.sub (ws' := [(rd, .inr (6, rF r 2 i1 a2 a3 a4 a5 a6 a7)), (ba, .inl (cb, kb, .inl fb))]) [1, 0] (by decide) rfl
            have hK9 := hK.sub (tys' := [(cb, .int)]) [0] rfl
            exact W.iret hx hb hr (fun t ht hW => ⟨⟨_, (), rfl, by omega, 2, i1, a7, (Or.inl ⟨rfl, Or.inl rfl⟩), by rw [ht]; exact hP9, va_K.moved hW.alike hK9, hD9⟩, hS.F ht⟩) hS.2.2 dX6_readWord_134
          · have tk_56 := c_eq (a := a7.toInt) (b := 0) rfl (by decide) k_56
            refine lv_iload hx hb dX6_readWord_45 (lv_at hl 0 rfl) ?_
            refine lv_if_ne (tgt := 71) hx hb dX6_readWord_47 (by decide) (fun k_60 => ?_) (fun k_60 => ?_)
            · have tk_60 := c_ne (a := r_55.toInt) (b := 0) rfl (by decide) k_60
              refine lv_iload hx hb dX6_readWord_71 (lv_at hl 0 rfl) ?_
              refine lv_if_eq (tgt := 93) hx hb dX6_readWord_73 (by decide) (fun k_61 => ?_) (fun k_61 => ?_)
              · have tk_61 := c_eq (a := r_55.toInt) (b := 0) rfl (by decide) k_61
                refine lv_aload_n hx hb dX6_readWord_93 rfl (lv_at hl 2 rfl) ?_
                refine va_get (D := (dC, dI)) (ci := 6) (v := .int a6) (C := RX6) (T := TX6) (N := 11) hx hb hts fin_X6_readWord_X6 hown hK hP 0 rfl rfl 9 (by decide) (hts (.fieldLink RX6 41 "PatternGate$Reader" "patternsAhead" "I") (List.mem_of_getElem? (i := 8) (by decide +kernel))) (fun _ h9 => h9) rfl dX6_readWord_94 ?_
                refine lv_aload_n hx hb dX6_readWord_97 rfl (lv_at hl 2 rfl) ?_
                refine va_get (D := (dC, dI)) (ci := 6) (v := .int a4) (C := RX6) (T := TX6) (N := 11) hx hb hts fin_X6_readWord_X6 hown hK hP 0 rfl rfl 4 (by decide) (hts (.fieldLink RX6 35 "PatternGate$Reader" "newPatterns" "I") (List.mem_of_getElem? (i := 9) (by decide +kernel))) (fun _ h9 => h9) rfl dX6_readWord_98 ?_
                refine lv_iadd hx hb dX6_readWord_101 ?_
                refine lv_topi (fun y_62 ey_62 => ?_)
                first | have ty_62 := i_add (a := a6.toInt) (b := a4.toInt) rfl rfl ey_62 (by omega) (by omega) | skip
                refine lv_bipush (v := 8) hx hb dX6_readWord_102 (by decide) ?_
                refine lv_icmp_lt (tgt := 116) hx hb dX6_readWord_104 (by decide) (fun k_63 => ?_) (fun k_63 => ?_)
                · have tk_63 := c_lt (a := y_62.toInt) (b := 8) rfl (by decide) k_63
                  refine lv_aload_n hx hb dX6_readWord_116 rfl (lv_at hl 2 rfl) ?_
                  refine lv_iload hx hb dX6_readWord_117 (lv_at hl 0 rfl) ?_
                  refine lv_if_eq (tgt := 126) hx hb dX6_readWord_119 (by decide) (fun k_64 => ?_) (fun k_64 => ?_)
                  · have tk_64 := c_eq (a := r_55.toInt) (b := 0) rfl (by decide) k_64
                    refine lv_iconst (v := 2) hx hb dX6_readWord_126 (by decide) ?_
                    refine va_put (D := (dC, dI)) (ci := 6) (v := .int 2) (ty := .int) (C := RX6) (T := TX6) (N := 11) hx hb hts fin_X6_readWord_X6 tyX6 tyX6_ok nmX6 hown hK hP hD hS 0 rfl rfl 10 (by decide) (hts (.fieldLink RX6 44 "PatternGate$Reader" "wanted" "I") (List.mem_of_getElem? (i := 4) (by decide +kernel))) (fun _ h9 => h9) rfl (by decide +kernel) rfl rfl (Nat.le_of_ble_eq_true rfl) dX6_readWord_127 (fun H locs hP hD hS => ?_)
                    have hP : va_P (dC, dI) vwCl [(rd, .inr (6, rF r a0 a1 a2 a3 a4 a5 a6 2)), (ba, .inl (cb, kb, .inl fb))] H := hP
                    have hD : va_D A [(rd, .inr (6, rF r a0 a1 a2 a3 a4 a5 a6 2)), (ba, .inl (cb, kb, .inl fb))] := hD
                    refine lv_iload hx hb dX6_readWord_130 (lv_at hl 1 rfl) ?_
                    refine lv_iconst (v := 1) hx hb dX6_readWord_132 (by decide) ?_
                    refine lv_isub hx hb dX6_readWord_133 ?_
                    refine lv_topi (fun y_65 ey_65 => ?_)
                    first | have ty_65 := i_sub (a := kk.toInt) (b := 1) rfl (by decide) ey_65 (by omega) (by omega) | skip
                    have hP9 := hP.sub (ws' := [(rd, .inr (6, rF r a0 a1 a2 a3 a4 a5 a6 2)), (ba, .inl (cb, kb, .inl fb))]) [0, 1] rfl
                    have hD9 := hD.sub (ws' := [(rd, .inr (6, rF r a0 a1 a2 a3 a4 a5 a6 2)), (ba, .inl (cb, kb, .inl fb))]) [0, 1] (by decide) rfl
                    have hK9 := hK.sub (tys' := [(cb, .int)]) [0] rfl
                    exact W.iret hx hb hr (fun t ht hW => ⟨⟨_, (), rfl, by omega, a0, a1, 2, (Or.inr ⟨rfl, Or.inr ⟨rfl, by omega⟩⟩), by rw [ht]; exact hP9, va_K.moved hW.alike hK9, hD9⟩, hS.F ht⟩) hS.2.2 dX6_readWord_134
                  · have tk_64 := c_ne (a := r_55.toInt) (b := 0) rfl (by decide) k_64
                    refine lv_iconst (v := 1) hx hb dX6_readWord_122 (by decide) ?_
                    refine lv_goto (tgt := 127) hx hb dX6_readWord_123 (by decide) ?_
                    refine va_put (D := (dC, dI)) (ci := 6) (v := .int 1) (ty := .int) (C := RX6) (T := TX6) (N := 11) hx hb hts fin_X6_readWord_X6 tyX6 tyX6_ok nmX6 hown hK hP hD hS 0 rfl rfl 10 (by decide) (hts (.fieldLink RX6 44 "PatternGate$Reader" "wanted" "I") (List.mem_of_getElem? (i := 4) (by decide +kernel))) (fun _ h9 => h9) rfl (by decide +kernel) rfl rfl (Nat.le_of_ble_eq_true rfl) dX6_readWord_127 (fun H locs hP hD hS => ?_)
                    have hP : va_P (dC, dI) vwCl [(rd, .inr (6, rF r a0 a1 a2 a3 a4 a5 a6 1)), (ba, .inl (cb, kb, .inl fb))] H := hP
                    have hD : va_D A [(rd, .inr (6, rF r a0 a1 a2 a3 a4 a5 a6 1)), (ba, .inl (cb, kb, .inl fb))] := hD
                    refine lv_iload hx hb dX6_readWord_130 (lv_at hl 1 rfl) ?_
                    refine lv_iconst (v := 1) hx hb dX6_readWord_132 (by decide) ?_
                    refine lv_isub hx hb dX6_readWord_133 ?_
                    refine lv_topi (fun y_66 ey_66 => ?_)
                    first | have ty_66 := i_sub (a := kk.toInt) (b := 1) rfl (by decide) ey_66 (by omega) (by omega) | skip
                    have hP9 := hP.sub (ws' := [(rd, .inr (6, rF r a0 a1 a2 a3 a4 a5 a6 1)), (ba, .inl (cb, kb, .inl fb))]) [0, 1] rfl
                    have hD9 := hD.sub (ws' := [(rd, .inr (6, rF r a0 a1 a2 a3 a4 a5 a6 1)), (ba, .inl (cb, kb, .inl fb))]) [0, 1] (by decide) rfl
                    have hK9 := hK.sub (tys' := [(cb, .int)]) [0] rfl
                    exact W.iret hx hb hr (fun t ht hW => ⟨⟨_, (), rfl, by omega, a0, a1, 1, (Or.inr ⟨rfl, Or.inl ⟨rfl, by omega⟩⟩), by rw [ht]; exact hP9, va_K.moved hW.alike hK9, hD9⟩, hS.F ht⟩) hS.2.2 dX6_readWord_134
                · have tk_63 := c_nlt (a := y_62.toInt) (b := 8) rfl (by decide) k_63
                  refine lv_aload_n hx hb dX6_readWord_107 rfl (lv_at hl 2 rfl) ?_
                  refine lv_iconst (v := 3) hx hb dX6_readWord_108 (by decide) ?_
                  refine lv_iload_n hx hb dX6_readWord_109 rfl (lv_at hl 4 rfl) ?_
                  have hPc := hP.sub (ws' := [(rd, .inr (6, rF r a0 a1 a2 a3 a4 a5 a6 a7))]) [0] rfl
                  have hKc := hK.sub (tys' := []) [] rfl
                  have hDc := hD.sub (ws' := [(rd, .inr (6, rF r a0 a1 a2 a3 a4 a5 a6 a7))]) [0] (by decide) rfl
                  have hFc := va_free (wc := [(rd, .inr (6, rF r a0 a1 a2 a3 a4 a5 a6 a7))]) hD hS hA [0] rfl
                  refine va_callv (va_runV (As := [.int 3, .int i1]) (rest := []) ⟨hx, hb, hml, hown, hts⟩ (s_fail l dC dI rd r a0 a1 a2 a3 a4 a5 a6 a7 H.size 3 i1) (cwV 2 hts mg_X6_readWord_X6_fail_71 rfl rfl rfl (by decide +kernel) ⟨Nat.le_of_ble_eq_true rfl, Nat.le_of_ble_eq_true rfl⟩) ⟨fun a U g mk q => by obtain ⟨q0, q1, qP, qK, qD⟩ := q; exact ⟨q0, q1, qP, va_K.moved (u := U) (U := U.calling g mk a) (Vm.Alike.refl U.vm) qK, qD⟩, va_recv hKc hPc (ci := 6) (q0 := 0) rfl rfl, fun U hU hW => ⟨rfl, by rw [hU], by rw [hU]; exact hPc, va_K.moved hW.alike hKc, hDc.weaken (fun _ _ _ _ => trivial)⟩⟩ rfl rfl hl.1 rfl (lv_room (Nat.le_of_ble_eq_true rfl)) dX6_readWord_110 ⟨Nat.le_of_ble_eq_true rfl, Nat.le_of_ble_eq_true rfl⟩) hS (fun q _ h => hFc q h) hFc (fun u t H1 locs ht hvm hw hB hz1 hk1 hS => ?_)
                  obtain ⟨hP1, hK1, hD1⟩ := hB
                  rw [ht] at hP1
                  obtain ⟨hP, hD⟩ := va_join (wr := [(ba, .inl (cb, kb, .inl fb))]) (w1 := [(rd, .inr (6, rF r 3 i1 a2 a3 a4 a5 a6 a7))]) hP hD [0] [1] rfl rfl (by decide) (by decide) hk1 hFc hP1 hD1
                  generalize H1 = H at hP hS ⊢
                  have hP : va_P (dC, dI) vwCl [(ba, .inl (cb, kb, .inl fb)), (rd, .inr (6, rF r 3 i1 a2 a3 a4 a5 a6 a7))] H := hP
                  have hD : va_D A [(ba, .inl (cb, kb, .inl fb)), (rd, .inr (6, rF r 3 i1 a2 a3 a4 a5 a6 a7))] := hD
                  refine lv_goto (tgt := 130) hx hb dX6_readWord_113 (by decide) ?_
                  refine lv_iload hx hb dX6_readWord_130 (lv_at hl 1 rfl) ?_
                  refine lv_iconst (v := 1) hx hb dX6_readWord_132 (by decide) ?_
                  refine lv_isub hx hb dX6_readWord_133 ?_
                  refine lv_topi (fun y_69 ey_69 => ?_)
                  first | have ty_69 := i_sub (a := kk.toInt) (b := 1) rfl (by decide) ey_69 (by omega) (by omega) | skip
                  have hP9 := hP.sub (ws' := [(rd, .inr (6, rF r 3 i1 a2 a3 a4 a5 a6 a7)), (ba, .inl (cb, kb, .inl fb))]) [1, 0] rfl
                  have hD9 := hD.sub (ws' := [(rd, .inr (6, rF r 3 i1 a2 a3 a4 a5 a6 a7)), (ba, .inl (cb, kb, .inl fb))]) [1, 0] (by decide) rfl
                  have hK9 := hK.sub (tys' := [(cb, .int)]) [0] rfl
                  exact W.iret hx hb hr (fun t ht hW => ⟨⟨_, (), rfl, by omega, 3, i1, a7, (Or.inl ⟨rfl, Or.inr rfl⟩), by rw [ht]; exact hP9, va_K.moved hW.alike hK9, hD9⟩, hS.F ht⟩) hS.2.2 dX6_readWord_134
              · have tk_61 := c_ne (a := r_55.toInt) (b := 0) rfl (by decide) k_61
                refine lv_aload_n hx hb dX6_readWord_76 rfl (lv_at hl 2 rfl) ?_
                refine va_get (D := (dC, dI)) (ci := 6) (v := .int a5) (C := RX6) (T := TX6) (N := 11) hx hb hts fin_X6_readWord_X6 hown hK hP 0 rfl rfl 8 (by decide) (hts (.fieldLink RX6 38 "PatternGate$Reader" "docsAhead" "I") (List.mem_of_getElem? (i := 10) (by decide +kernel))) (fun _ h9 => h9) rfl dX6_readWord_77 ?_
                refine lv_aload_n hx hb dX6_readWord_80 rfl (lv_at hl 2 rfl) ?_
                refine va_get (D := (dC, dI)) (ci := 6) (v := .int a3) (C := RX6) (T := TX6) (N := 11) hx hb hts fin_X6_readWord_X6 hown hK hP 0 rfl rfl 3 (by decide) (hts (.fieldLink RX6 32 "PatternGate$Reader" "newDocs" "I") (List.mem_of_getElem? (i := 11) (by decide +kernel))) (fun _ h9 => h9) rfl dX6_readWord_81 ?_
                refine lv_iadd hx hb dX6_readWord_84 ?_
                refine lv_topi (fun y_70 ey_70 => ?_)
                first | have ty_70 := i_add (a := a5.toInt) (b := a3.toInt) rfl rfl ey_70 (by omega) (by omega) | skip
                refine lv_bipush (v := 10) hx hb dX6_readWord_85 (by decide) ?_
                refine lv_icmp_lt (tgt := 116) hx hb dX6_readWord_87 (by decide) (fun k_71 => ?_) (fun k_71 => ?_)
                · have tk_71 := c_lt (a := y_70.toInt) (b := 10) rfl (by decide) k_71
                  refine lv_aload_n hx hb dX6_readWord_116 rfl (lv_at hl 2 rfl) ?_
                  refine lv_iload hx hb dX6_readWord_117 (lv_at hl 0 rfl) ?_
                  refine lv_if_eq (tgt := 126) hx hb dX6_readWord_119 (by decide) (fun k_72 => ?_) (fun k_72 => ?_)
                  · have tk_72 := c_eq (a := r_55.toInt) (b := 0) rfl (by decide) k_72
                    refine lv_iconst (v := 2) hx hb dX6_readWord_126 (by decide) ?_
                    refine va_put (D := (dC, dI)) (ci := 6) (v := .int 2) (ty := .int) (C := RX6) (T := TX6) (N := 11) hx hb hts fin_X6_readWord_X6 tyX6 tyX6_ok nmX6 hown hK hP hD hS 0 rfl rfl 10 (by decide) (hts (.fieldLink RX6 44 "PatternGate$Reader" "wanted" "I") (List.mem_of_getElem? (i := 4) (by decide +kernel))) (fun _ h9 => h9) rfl (by decide +kernel) rfl rfl (Nat.le_of_ble_eq_true rfl) dX6_readWord_127 (fun H locs hP hD hS => ?_)
                    have hP : va_P (dC, dI) vwCl [(rd, .inr (6, rF r a0 a1 a2 a3 a4 a5 a6 2)), (ba, .inl (cb, kb, .inl fb))] H := hP
                    have hD : va_D A [(rd, .inr (6, rF r a0 a1 a2 a3 a4 a5 a6 2)), (ba, .inl (cb, kb, .inl fb))] := hD
                    refine lv_iload hx hb dX6_readWord_130 (lv_at hl 1 rfl) ?_
                    refine lv_iconst (v := 1) hx hb dX6_readWord_132 (by decide) ?_
                    refine lv_isub hx hb dX6_readWord_133 ?_
                    refine lv_topi (fun y_73 ey_73 => ?_)
                    first | have ty_73 := i_sub (a := kk.toInt) (b := 1) rfl (by decide) ey_73 (by omega) (by omega) | skip
                    have hP9 := hP.sub (ws' := [(rd, .inr (6, rF r a0 a1 a2 a3 a4 a5 a6 2)), (ba, .inl (cb, kb, .inl fb))]) [0, 1] rfl
                    have hD9 := hD.sub (ws' := [(rd, .inr (6, rF r a0 a1 a2 a3 a4 a5 a6 2)), (ba, .inl (cb, kb, .inl fb))]) [0, 1] (by decide) rfl
                    have hK9 := hK.sub (tys' := [(cb, .int)]) [0] rfl
                    exact W.iret hx hb hr (fun t ht hW => ⟨⟨_, (), rfl, by omega, a0, a1, 2, (Or.inr ⟨rfl, Or.inr ⟨rfl, by omega⟩⟩), by rw [ht]; exact hP9, va_K.moved hW.alike hK9, hD9⟩, hS.F ht⟩) hS.2.2 dX6_readWord_134
                  · have tk_72 := c_ne (a := r_55.toInt) (b := 0) rfl (by decide) k_72
                    refine lv_iconst (v := 1) hx hb dX6_readWord_122 (by decide) ?_
                    refine lv_goto (tgt := 127) hx hb dX6_readWord_123 (by decide) ?_
                    refine va_put (D := (dC, dI)) (ci := 6) (v := .int 1) (ty := .int) (C := RX6) (T := TX6) (N := 11) hx hb hts fin_X6_readWord_X6 tyX6 tyX6_ok nmX6 hown hK hP hD hS 0 rfl rfl 10 (by decide) (hts (.fieldLink RX6 44 "PatternGate$Reader" "wanted" "I") (List.mem_of_getElem? (i := 4) (by decide +kernel))) (fun _ h9 => h9) rfl (by decide +kernel) rfl rfl (Nat.le_of_ble_eq_true rfl) dX6_readWord_127 (fun H locs hP hD hS => ?_)
                    have hP : va_P (dC, dI) vwCl [(rd, .inr (6, rF r a0 a1 a2 a3 a4 a5 a6 1)), (ba, .inl (cb, kb, .inl fb))] H := hP
                    have hD : va_D A [(rd, .inr (6, rF r a0 a1 a2 a3 a4 a5 a6 1)), (ba, .inl (cb, kb, .inl fb))] := hD
                    refine lv_iload hx hb dX6_readWord_130 (lv_at hl 1 rfl) ?_
                    refine lv_iconst (v := 1) hx hb dX6_readWord_132 (by decide) ?_
                    refine lv_isub hx hb dX6_readWord_133 ?_
                    refine lv_topi (fun y_74 ey_74 => ?_)
                    first | have ty_74 := i_sub (a := kk.toInt) (b := 1) rfl (by decide) ey_74 (by omega) (by omega) | skip
                    have hP9 := hP.sub (ws' := [(rd, .inr (6, rF r a0 a1 a2 a3 a4 a5 a6 1)), (ba, .inl (cb, kb, .inl fb))]) [0, 1] rfl
                    have hD9 := hD.sub (ws' := [(rd, .inr (6, rF r a0 a1 a2 a3 a4 a5 a6 1)), (ba, .inl (cb, kb, .inl fb))]) [0, 1] (by decide) rfl
                    have hK9 := hK.sub (tys' := [(cb, .int)]) [0] rfl
                    exact W.iret hx hb hr (fun t ht hW => ⟨⟨_, (), rfl, by omega, a0, a1, 1, (Or.inr ⟨rfl, Or.inl ⟨rfl, by omega⟩⟩), by rw [ht]; exact hP9, va_K.moved hW.alike hK9, hD9⟩, hS.F ht⟩) hS.2.2 dX6_readWord_134
                · have tk_71 := c_nlt (a := y_70.toInt) (b := 10) rfl (by decide) k_71
                  refine lv_goto (tgt := 107) hx hb dX6_readWord_90 (by decide) ?_
                  refine lv_aload_n hx hb dX6_readWord_107 rfl (lv_at hl 2 rfl) ?_
                  refine lv_iconst (v := 3) hx hb dX6_readWord_108 (by decide) ?_
                  refine lv_iload_n hx hb dX6_readWord_109 rfl (lv_at hl 4 rfl) ?_
                  have hPc := hP.sub (ws' := [(rd, .inr (6, rF r a0 a1 a2 a3 a4 a5 a6 a7))]) [0] rfl
                  have hKc := hK.sub (tys' := []) [] rfl
                  have hDc := hD.sub (ws' := [(rd, .inr (6, rF r a0 a1 a2 a3 a4 a5 a6 a7))]) [0] (by decide) rfl
                  have hFc := va_free (wc := [(rd, .inr (6, rF r a0 a1 a2 a3 a4 a5 a6 a7))]) hD hS hA [0] rfl
                  refine va_callv (va_runV (As := [.int 3, .int i1]) (rest := []) ⟨hx, hb, hml, hown, hts⟩ (s_fail l dC dI rd r a0 a1 a2 a3 a4 a5 a6 a7 H.size 3 i1) (cwV 2 hts mg_X6_readWord_X6_fail_71 rfl rfl rfl (by decide +kernel) ⟨Nat.le_of_ble_eq_true rfl, Nat.le_of_ble_eq_true rfl⟩) ⟨fun a U g mk q => by obtain ⟨q0, q1, qP, qK, qD⟩ := q; exact ⟨q0, q1, qP, va_K.moved (u := U) (U := U.calling g mk a) (Vm.Alike.refl U.vm) qK, qD⟩, va_recv hKc hPc (ci := 6) (q0 := 0) rfl rfl, fun U hU hW => ⟨rfl, by rw [hU], by rw [hU]; exact hPc, va_K.moved hW.alike hKc, hDc.weaken (fun _ _ _ _ => trivial)⟩⟩ rfl rfl hl.1 rfl (lv_room (Nat.le_of_ble_eq_true rfl)) dX6_readWord_110 ⟨Nat.le_of_ble_eq_true rfl, Nat.le_of_ble_eq_true rfl⟩) hS (fun q _ h => hFc q h) hFc (fun u t H1 locs ht hvm hw hB hz1 hk1 hS => ?_)
                  obtain ⟨hP1, hK1, hD1⟩ := hB
                  rw [ht] at hP1
                  obtain ⟨hP, hD⟩ := va_join (wr := [(ba, .inl (cb, kb, .inl fb))]) (w1 := [(rd, .inr (6, rF r 3 i1 a2 a3 a4 a5 a6 a7))]) hP hD [0] [1] rfl rfl (by decide) (by decide) hk1 hFc hP1 hD1
                  generalize H1 = H at hP hS ⊢
                  have hP : va_P (dC, dI) vwCl [(ba, .inl (cb, kb, .inl fb)), (rd, .inr (6, rF r 3 i1 a2 a3 a4 a5 a6 a7))] H := hP
                  have hD : va_D A [(ba, .inl (cb, kb, .inl fb)), (rd, .inr (6, rF r 3 i1 a2 a3 a4 a5 a6 a7))] := hD
                  refine lv_goto (tgt := 130) hx hb dX6_readWord_113 (by decide) ?_
                  refine lv_iload hx hb dX6_readWord_130 (lv_at hl 1 rfl) ?_
                  refine lv_iconst (v := 1) hx hb dX6_readWord_132 (by decide) ?_
                  refine lv_isub hx hb dX6_readWord_133 ?_
                  refine lv_topi (fun y_77 ey_77 => ?_)
                  first | have ty_77 := i_sub (a := kk.toInt) (b := 1) rfl (by decide) ey_77 (by omega) (by omega) | skip
                  have hP9 := hP.sub (ws' := [(rd, .inr (6, rF r 3 i1 a2 a3 a4 a5 a6 a7)), (ba, .inl (cb, kb, .inl fb))]) [1, 0] rfl
                  have hD9 := hD.sub (ws' := [(rd, .inr (6, rF r 3 i1 a2 a3 a4 a5 a6 a7)), (ba, .inl (cb, kb, .inl fb))]) [1, 0] (by decide) rfl
                  have hK9 := hK.sub (tys' := [(cb, .int)]) [0] rfl
                  exact W.iret hx hb hr (fun t ht hW => ⟨⟨_, (), rfl, by omega, 3, i1, a7, (Or.inl ⟨rfl, Or.inr rfl⟩), by rw [ht]; exact hP9, va_K.moved hW.alike hK9, hD9⟩, hS.F ht⟩) hS.2.2 dX6_readWord_134
            · have tk_60 := c_eq (a := r_55.toInt) (b := 0) rfl (by decide) k_60
              refine lv_aload_n hx hb dX6_readWord_50 rfl (lv_at hl 3 rfl) ?_
              refine lv_iload_n hx hb dX6_readWord_51 rfl (lv_at hl 4 rfl) ?_
              refine lv_iload hx hb dX6_readWord_52 (lv_at hl 1 rfl) ?_
              refine va_ldcS hx hb hown hR81 dX6_readWord_54 ?_
              have hPc := hP.sub (ws' := [(ba, .inl (cb, kb, .inl fb))]) [1] rfl
              have hKc := hK.sub (tys' := [(cb, .int)]) [0] rfl
              have hDc := hD.sub (ws' := [(ba, .inl (cb, kb, .inl fb))]) [1] (by decide) rfl
              have hFc := va_free (wc := [(ba, .inl (cb, kb, .inl fb))]) hD hS hA [1] rfl
              refine va_calli (va_runS (As := [.ref ba, .int i1, .int kk, .ref qp]) (rest := []) ⟨hx, hb, hml, hown, hts⟩ (s_isWord l dC dI ba kb qp 7 cb fb H.size i1 kk (by omega) (by omega) (by omega)) (va_cwS 4 hts mg_X6_readWord_X6_isWord_77 rfl rfl rfl (by decide +kernel) ⟨Nat.le_of_ble_eq_true rfl, Nat.le_of_ble_eq_true rfl⟩) ⟨fun a U g mk q => by obtain ⟨q0, q1, qP, qK, qD, qE0, qE1⟩ := q; exact ⟨q0, q1, qP, va_K.moved (u := U) (U := U.calling g mk a) (Vm.Alike.refl U.vm) qK, qD, sX.moved (u := U) (U := U.calling g mk a) (Vm.Alike.refl U.vm) qE0, sC.moved (u := U) (U := U.calling g mk a) (Vm.Alike.refl U.vm) qE1⟩, fun U hU hW => ⟨rfl, by rw [hU], by rw [hU]; exact hPc, va_K.moved hW.alike hKc, hDc.weaken (fun _ _ _ _ => trivial), sX.to hXp hS hFc hW hU, sC.to hC9 hS hFc hW hU⟩⟩ rfl rfl hl.1 rfl (lv_room (Nat.le_of_ble_eq_true rfl)) dX6_readWord_56 ⟨Nat.le_of_ble_eq_true rfl, Nat.le_of_ble_eq_true rfl⟩) hS (fun q _ h => hFc q h) hFc (fun r_79 u t H1 locs ht hvm hw hB hz1 hk1 hS => ?_)
              obtain ⟨hP1, hK1, hD1⟩ := hB
              rw [ht] at hP1
              have hr_79 := hw
              obtain ⟨hP, hD⟩ := va_join (wr := [(rd, .inr (6, rF r a0 a1 a2 a3 a4 a5 a6 a7))]) (w1 := [(ba, .inl (cb, kb, .inl fb))]) hP hD [1] [0] rfl rfl (by decide) (by decide) hk1 hFc hP1 hD1
              generalize H1 = H at hP hS ⊢
              have hP : va_P (dC, dI) vwCl [(rd, .inr (6, rF r a0 a1 a2 a3 a4 a5 a6 a7)), (ba, .inl (cb, kb, .inl fb))] H := hP
              have hD : va_D A [(rd, .inr (6, rF r a0 a1 a2 a3 a4 a5 a6 a7)), (ba, .inl (cb, kb, .inl fb))] := hD
              refine lv_if_ne (tgt := 71) hx hb dX6_readWord_59 (by decide) (fun k_80 => ?_) (fun k_80 => ?_)
              · have tk_80 := c_ne (a := r_79.toInt) (b := 0) rfl (by decide) k_80
                refine lv_iload hx hb dX6_readWord_71 (lv_at hl 0 rfl) ?_
                refine lv_if_eq (tgt := 93) hx hb dX6_readWord_73 (by decide) (fun k_81 => ?_) (fun k_81 => ?_)
                · have tk_81 := c_eq (a := r_55.toInt) (b := 0) rfl (by decide) k_81
                  refine lv_aload_n hx hb dX6_readWord_93 rfl (lv_at hl 2 rfl) ?_
                  refine va_get (D := (dC, dI)) (ci := 6) (v := .int a6) (C := RX6) (T := TX6) (N := 11) hx hb hts fin_X6_readWord_X6 hown hK hP 0 rfl rfl 9 (by decide) (hts (.fieldLink RX6 41 "PatternGate$Reader" "patternsAhead" "I") (List.mem_of_getElem? (i := 8) (by decide +kernel))) (fun _ h9 => h9) rfl dX6_readWord_94 ?_
                  refine lv_aload_n hx hb dX6_readWord_97 rfl (lv_at hl 2 rfl) ?_
                  refine va_get (D := (dC, dI)) (ci := 6) (v := .int a4) (C := RX6) (T := TX6) (N := 11) hx hb hts fin_X6_readWord_X6 hown hK hP 0 rfl rfl 4 (by decide) (hts (.fieldLink RX6 35 "PatternGate$Reader" "newPatterns" "I") (List.mem_of_getElem? (i := 9) (by decide +kernel))) (fun _ h9 => h9) rfl dX6_readWord_98 ?_
                  refine lv_iadd hx hb dX6_readWord_101 ?_
                  refine lv_topi (fun y_82 ey_82 => ?_)
                  first | have ty_82 := i_add (a := a6.toInt) (b := a4.toInt) rfl rfl ey_82 (by omega) (by omega) | skip
                  refine lv_bipush (v := 8) hx hb dX6_readWord_102 (by decide) ?_
                  refine lv_icmp_lt (tgt := 116) hx hb dX6_readWord_104 (by decide) (fun k_83 => ?_) (fun k_83 => ?_)
                  · have tk_83 := c_lt (a := y_82.toInt) (b := 8) rfl (by decide) k_83
                    refine lv_aload_n hx hb dX6_readWord_116 rfl (lv_at hl 2 rfl) ?_
                    refine lv_iload hx hb dX6_readWord_117 (lv_at hl 0 rfl) ?_
                    refine lv_if_eq (tgt := 126) hx hb dX6_readWord_119 (by decide) (fun k_84 => ?_) (fun k_84 => ?_)
                    · have tk_84 := c_eq (a := r_55.toInt) (b := 0) rfl (by decide) k_84
                      refine lv_iconst (v := 2) hx hb dX6_readWord_126 (by decide) ?_
                      refine va_put (D := (dC, dI)) (ci := 6) (v := .int 2) (ty := .int) (C := RX6) (T := TX6) (N := 11) hx hb hts fin_X6_readWord_X6 tyX6 tyX6_ok nmX6 hown hK hP hD hS 0 rfl rfl 10 (by decide) (hts (.fieldLink RX6 44 "PatternGate$Reader" "wanted" "I") (List.mem_of_getElem? (i := 4) (by decide +kernel))) (fun _ h9 => h9) rfl (by decide +kernel) rfl rfl (Nat.le_of_ble_eq_true rfl) dX6_readWord_127 (fun H locs hP hD hS => ?_)
                      have hP : va_P (dC, dI) vwCl [(rd, .inr (6, rF r a0 a1 a2 a3 a4 a5 a6 2)), (ba, .inl (cb, kb, .inl fb))] H := hP
                      have hD : va_D A [(rd, .inr (6, rF r a0 a1 a2 a3 a4 a5 a6 2)), (ba, .inl (cb, kb, .inl fb))] := hD
                      refine lv_iload hx hb dX6_readWord_130 (lv_at hl 1 rfl) ?_
                      refine lv_iconst (v := 1) hx hb dX6_readWord_132 (by decide) ?_
                      refine lv_isub hx hb dX6_readWord_133 ?_
                      refine lv_topi (fun y_85 ey_85 => ?_)
                      first | have ty_85 := i_sub (a := kk.toInt) (b := 1) rfl (by decide) ey_85 (by omega) (by omega) | skip
                      have hP9 := hP.sub (ws' := [(rd, .inr (6, rF r a0 a1 a2 a3 a4 a5 a6 2)), (ba, .inl (cb, kb, .inl fb))]) [0, 1] rfl
                      have hD9 := hD.sub (ws' := [(rd, .inr (6, rF r a0 a1 a2 a3 a4 a5 a6 2)), (ba, .inl (cb, kb, .inl fb))]) [0, 1] (by decide) rfl
                      have hK9 := hK.sub (tys' := [(cb, .int)]) [0] rfl
                      exact W.iret hx hb hr (fun t ht hW => ⟨⟨_, (), rfl, by omega, a0, a1, 2, (Or.inr ⟨rfl, Or.inr ⟨rfl, by omega⟩⟩), by rw [ht]; exact hP9, va_K.moved hW.alike hK9, hD9⟩, hS.F ht⟩) hS.2.2 dX6_readWord_134
                    · have tk_84 := c_ne (a := r_55.toInt) (b := 0) rfl (by decide) k_84
                      refine lv_iconst (v := 1) hx hb dX6_readWord_122 (by decide) ?_
                      refine lv_goto (tgt := 127) hx hb dX6_readWord_123 (by decide) ?_
                      refine va_put (D := (dC, dI)) (ci := 6) (v := .int 1) (ty := .int) (C := RX6) (T := TX6) (N := 11) hx hb hts fin_X6_readWord_X6 tyX6 tyX6_ok nmX6 hown hK hP hD hS 0 rfl rfl 10 (by decide) (hts (.fieldLink RX6 44 "PatternGate$Reader" "wanted" "I") (List.mem_of_getElem? (i := 4) (by decide +kernel))) (fun _ h9 => h9) rfl (by decide +kernel) rfl rfl (Nat.le_of_ble_eq_true rfl) dX6_readWord_127 (fun H locs hP hD hS => ?_)
                      have hP : va_P (dC, dI) vwCl [(rd, .inr (6, rF r a0 a1 a2 a3 a4 a5 a6 1)), (ba, .inl (cb, kb, .inl fb))] H := hP
                      have hD : va_D A [(rd, .inr (6, rF r a0 a1 a2 a3 a4 a5 a6 1)), (ba, .inl (cb, kb, .inl fb))] := hD
                      refine lv_iload hx hb dX6_readWord_130 (lv_at hl 1 rfl) ?_
                      refine lv_iconst (v := 1) hx hb dX6_readWord_132 (by decide) ?_
                      refine lv_isub hx hb dX6_readWord_133 ?_
                      refine lv_topi (fun y_86 ey_86 => ?_)
                      first | have ty_86 := i_sub (a := kk.toInt) (b := 1) rfl (by decide) ey_86 (by omega) (by omega) | skip
                      have hP9 := hP.sub (ws' := [(rd, .inr (6, rF r a0 a1 a2 a3 a4 a5 a6 1)), (ba, .inl (cb, kb, .inl fb))]) [0, 1] rfl
                      have hD9 := hD.sub (ws' := [(rd, .inr (6, rF r a0 a1 a2 a3 a4 a5 a6 1)), (ba, .inl (cb, kb, .inl fb))]) [0, 1] (by decide) rfl
                      have hK9 := hK.sub (tys' := [(cb, .int)]) [0] rfl
                      exact W.iret hx hb hr (fun t ht hW => ⟨⟨_, (), rfl, by omega, a0, a1, 1, (Or.inr ⟨rfl, Or.inl ⟨rfl, by omega⟩⟩), by rw [ht]; exact hP9, va_K.moved hW.alike hK9, hD9⟩, hS.F ht⟩) hS.2.2 dX6_readWord_134
                  · have tk_83 := c_nlt (a := y_82.toInt) (b := 8) rfl (by decide) k_83
                    refine lv_aload_n hx hb dX6_readWord_107 rfl (lv_at hl 2 rfl) ?_
                    refine lv_iconst (v := 3) hx hb dX6_readWord_108 (by decide) ?_
                    refine lv_iload_n hx hb dX6_readWord_109 rfl (lv_at hl 4 rfl) ?_
                    have hPc := hP.sub (ws' := [(rd, .inr (6, rF r a0 a1 a2 a3 a4 a5 a6 a7))]) [0] rfl
                    have hKc := hK.sub (tys' := []) [] rfl
                    have hDc := hD.sub (ws' := [(rd, .inr (6, rF r a0 a1 a2 a3 a4 a5 a6 a7))]) [0] (by decide) rfl
                    have hFc := va_free (wc := [(rd, .inr (6, rF r a0 a1 a2 a3 a4 a5 a6 a7))]) hD hS hA [0] rfl
                    refine va_callv (va_runV (As := [.int 3, .int i1]) (rest := []) ⟨hx, hb, hml, hown, hts⟩ (s_fail l dC dI rd r a0 a1 a2 a3 a4 a5 a6 a7 H.size 3 i1) (cwV 2 hts mg_X6_readWord_X6_fail_71 rfl rfl rfl (by decide +kernel) ⟨Nat.le_of_ble_eq_true rfl, Nat.le_of_ble_eq_true rfl⟩) ⟨fun a U g mk q => by obtain ⟨q0, q1, qP, qK, qD⟩ := q; exact ⟨q0, q1, qP, va_K.moved (u := U) (U := U.calling g mk a) (Vm.Alike.refl U.vm) qK, qD⟩, va_recv hKc hPc (ci := 6) (q0 := 0) rfl rfl, fun U hU hW => ⟨rfl, by rw [hU], by rw [hU]; exact hPc, va_K.moved hW.alike hKc, hDc.weaken (fun _ _ _ _ => trivial)⟩⟩ rfl rfl hl.1 rfl (lv_room (Nat.le_of_ble_eq_true rfl)) dX6_readWord_110 ⟨Nat.le_of_ble_eq_true rfl, Nat.le_of_ble_eq_true rfl⟩) hS (fun q _ h => hFc q h) hFc (fun u t H1 locs ht hvm hw hB hz1 hk1 hS => ?_)
                    obtain ⟨hP1, hK1, hD1⟩ := hB
                    rw [ht] at hP1
                    obtain ⟨hP, hD⟩ := va_join (wr := [(ba, .inl (cb, kb, .inl fb))]) (w1 := [(rd, .inr (6, rF r 3 i1 a2 a3 a4 a5 a6 a7))]) hP hD [0] [1] rfl rfl (by decide) (by decide) hk1 hFc hP1 hD1
                    generalize H1 = H at hP hS ⊢
                    have hP : va_P (dC, dI) vwCl [(ba, .inl (cb, kb, .inl fb)), (rd, .inr (6, rF r 3 i1 a2 a3 a4 a5 a6 a7))] H := hP
                    have hD : va_D A [(ba, .inl (cb, kb, .inl fb)), (rd, .inr (6, rF r 3 i1 a2 a3 a4 a5 a6 a7))] := hD
                    refine lv_goto (tgt := 130) hx hb dX6_readWord_113 (by decide) ?_
                    refine lv_iload hx hb dX6_readWord_130 (lv_at hl 1 rfl) ?_
                    refine lv_iconst (v := 1) hx hb dX6_readWord_132 (by decide) ?_
                    refine lv_isub hx hb dX6_readWord_133 ?_
                    refine lv_topi (fun y_89 ey_89 => ?_)
                    first | have ty_89 := i_sub (a := kk.toInt) (b := 1) rfl (by decide) ey_89 (by omega) (by omega) | skip
                    have hP9 := hP.sub (ws' := [(rd, .inr (6, rF r 3 i1 a2 a3 a4 a5 a6 a7)), (ba, .inl (cb, kb, .inl fb))]) [1, 0] rfl
                    have hD9 := hD.sub (ws' := [(rd, .inr (6, rF r 3 i1 a2 a3 a4 a5 a6 a7)), (ba, .inl (cb, kb, .inl fb))]) [1, 0] (by decide) rfl
                    have hK9 := hK.sub (tys' := [(cb, .int)]) [0] rfl
                    exact W.iret hx hb hr (fun t ht hW => ⟨⟨_, (), rfl, by omega, 3, i1, a7, (Or.inl ⟨rfl, Or.inr rfl⟩), by rw [ht]; exact hP9, va_K.moved hW.alike hK9, hD9⟩, hS.F ht⟩) hS.2.2 dX6_readWord_134
                · have tk_81 := c_ne (a := r_55.toInt) (b := 0) rfl (by decide) k_81
                  refine lv_aload_n hx hb dX6_readWord_76 rfl (lv_at hl 2 rfl) ?_
                  refine va_get (D := (dC, dI)) (ci := 6) (v := .int a5) (C := RX6) (T := TX6) (N := 11) hx hb hts fin_X6_readWord_X6 hown hK hP 0 rfl rfl 8 (by decide) (hts (.fieldLink RX6 38 "PatternGate$Reader" "docsAhead" "I") (List.mem_of_getElem? (i := 10) (by decide +kernel))) (fun _ h9 => h9) rfl dX6_readWord_77 ?_
                  refine lv_aload_n hx hb dX6_readWord_80 rfl (lv_at hl 2 rfl) ?_
                  refine va_get (D := (dC, dI)) (ci := 6) (v := .int a3) (C := RX6) (T := TX6) (N := 11) hx hb hts fin_X6_readWord_X6 hown hK hP 0 rfl rfl 3 (by decide) (hts (.fieldLink RX6 32 "PatternGate$Reader" "newDocs" "I") (List.mem_of_getElem? (i := 11) (by decide +kernel))) (fun _ h9 => h9) rfl dX6_readWord_81 ?_
                  refine lv_iadd hx hb dX6_readWord_84 ?_
                  refine lv_topi (fun y_90 ey_90 => ?_)
                  first | have ty_90 := i_add (a := a5.toInt) (b := a3.toInt) rfl rfl ey_90 (by omega) (by omega) | skip
                  refine lv_bipush (v := 10) hx hb dX6_readWord_85 (by decide) ?_
                  refine lv_icmp_lt (tgt := 116) hx hb dX6_readWord_87 (by decide) (fun k_91 => ?_) (fun k_91 => ?_)
                  · have tk_91 := c_lt (a := y_90.toInt) (b := 10) rfl (by decide) k_91
                    refine lv_aload_n hx hb dX6_readWord_116 rfl (lv_at hl 2 rfl) ?_
                    refine lv_iload hx hb dX6_readWord_117 (lv_at hl 0 rfl) ?_
                    refine lv_if_eq (tgt := 126) hx hb dX6_readWord_119 (by decide) (fun k_92 => ?_) (fun k_92 => ?_)
                    · have tk_92 := c_eq (a := r_55.toInt) (b := 0) rfl (by decide) k_92
                      refine lv_iconst (v := 2) hx hb dX6_readWord_126 (by decide) ?_
                      refine va_put (D := (dC, dI)) (ci := 6) (v := .int 2) (ty := .int) (C := RX6) (T := TX6) (N := 11) hx hb hts fin_X6_readWord_X6 tyX6 tyX6_ok nmX6 hown hK hP hD hS 0 rfl rfl 10 (by decide) (hts (.fieldLink RX6 44 "PatternGate$Reader" "wanted" "I") (List.mem_of_getElem? (i := 4) (by decide +kernel))) (fun _ h9 => h9) rfl (by decide +kernel) rfl rfl (Nat.le_of_ble_eq_true rfl) dX6_readWord_127 (fun H locs hP hD hS => ?_)
                      have hP : va_P (dC, dI) vwCl [(rd, .inr (6, rF r a0 a1 a2 a3 a4 a5 a6 2)), (ba, .inl (cb, kb, .inl fb))] H := hP
                      have hD : va_D A [(rd, .inr (6, rF r a0 a1 a2 a3 a4 a5 a6 2)), (ba, .inl (cb, kb, .inl fb))] := hD
                      refine lv_iload hx hb dX6_readWord_130 (lv_at hl 1 rfl) ?_
                      refine lv_iconst (v := 1) hx hb dX6_readWord_132 (by decide) ?_
                      refine lv_isub hx hb dX6_readWord_133 ?_
                      refine lv_topi (fun y_93 ey_93 => ?_)
                      first | have ty_93 := i_sub (a := kk.toInt) (b := 1) rfl (by decide) ey_93 (by omega) (by omega) | skip
                      have hP9 := hP.sub (ws' := [(rd, .inr (6, rF r a0 a1 a2 a3 a4 a5 a6 2)), (ba, .inl (cb, kb, .inl fb))]) [0, 1] rfl
                      have hD9 := hD.sub (ws' := [(rd, .inr (6, rF r a0 a1 a2 a3 a4 a5 a6 2)), (ba, .inl (cb, kb, .inl fb))]) [0, 1] (by decide) rfl
                      have hK9 := hK.sub (tys' := [(cb, .int)]) [0] rfl
                      exact W.iret hx hb hr (fun t ht hW => ⟨⟨_, (), rfl, by omega, a0, a1, 2, (Or.inr ⟨rfl, Or.inr ⟨rfl, by omega⟩⟩), by rw [ht]; exact hP9, va_K.moved hW.alike hK9, hD9⟩, hS.F ht⟩) hS.2.2 dX6_readWord_134
                    · have tk_92 := c_ne (a := r_55.toInt) (b := 0) rfl (by decide) k_92
                      refine lv_iconst (v := 1) hx hb dX6_readWord_122 (by decide) ?_
                      refine lv_goto (tgt := 127) hx hb dX6_readWord_123 (by decide) ?_
                      refine va_put (D := (dC, dI)) (ci := 6) (v := .int 1) (ty := .int) (C := RX6) (T := TX6) (N := 11) hx hb hts fin_X6_readWord_X6 tyX6 tyX6_ok nmX6 hown hK hP hD hS 0 rfl rfl 10 (by decide) (hts (.fieldLink RX6 44 "PatternGate$Reader" "wanted" "I") (List.mem_of_getElem? (i := 4) (by decide +kernel))) (fun _ h9 => h9) rfl (by decide +kernel) rfl rfl (Nat.le_of_ble_eq_true rfl) dX6_readWord_127 (fun H locs hP hD hS => ?_)
                      have hP : va_P (dC, dI) vwCl [(rd, .inr (6, rF r a0 a1 a2 a3 a4 a5 a6 1)), (ba, .inl (cb, kb, .inl fb))] H := hP
                      have hD : va_D A [(rd, .inr (6, rF r a0 a1 a2 a3 a4 a5 a6 1)), (ba, .inl (cb, kb, .inl fb))] := hD
                      refine lv_iload hx hb dX6_readWord_130 (lv_at hl 1 rfl) ?_
                      refine lv_iconst (v := 1) hx hb dX6_readWord_132 (by decide) ?_
                      refine lv_isub hx hb dX6_readWord_133 ?_
                      refine lv_topi (fun y_94 ey_94 => ?_)
                      first | have ty_94 := i_sub (a := kk.toInt) (b := 1) rfl (by decide) ey_94 (by omega) (by omega) | skip
                      have hP9 := hP.sub (ws' := [(rd, .inr (6, rF r a0 a1 a2 a3 a4 a5 a6 1)), (ba, .inl (cb, kb, .inl fb))]) [0, 1] rfl
                      have hD9 := hD.sub (ws' := [(rd, .inr (6, rF r a0 a1 a2 a3 a4 a5 a6 1)), (ba, .inl (cb, kb, .inl fb))]) [0, 1] (by decide) rfl
                      have hK9 := hK.sub (tys' := [(cb, .int)]) [0] rfl
                      exact W.iret hx hb hr (fun t ht hW => ⟨⟨_, (), rfl, by omega, a0, a1, 1, (Or.inr ⟨rfl, Or.inl ⟨rfl, by omega⟩⟩), by rw [ht]; exact hP9, va_K.moved hW.alike hK9, hD9⟩, hS.F ht⟩) hS.2.2 dX6_readWord_134
                  · have tk_91 := c_nlt (a := y_90.toInt) (b := 10) rfl (by decide) k_91
                    refine lv_goto (tgt := 107) hx hb dX6_readWord_90 (by decide) ?_
                    refine lv_aload_n hx hb dX6_readWord_107 rfl (lv_at hl 2 rfl) ?_
                    refine lv_iconst (v := 3) hx hb dX6_readWord_108 (by decide) ?_
                    refine lv_iload_n hx hb dX6_readWord_109 rfl (lv_at hl 4 rfl) ?_
                    have hPc := hP.sub (ws' := [(rd, .inr (6, rF r a0 a1 a2 a3 a4 a5 a6 a7))]) [0] rfl
                    have hKc := hK.sub (tys' := []) [] rfl
                    have hDc := hD.sub (ws' := [(rd, .inr (6, rF r a0 a1 a2 a3 a4 a5 a6 a7))]) [0] (by decide) rfl
                    have hFc := va_free (wc := [(rd, .inr (6, rF r a0 a1 a2 a3 a4 a5 a6 a7))]) hD hS hA [0] rfl
                    refine va_callv (va_runV (As := [.int 3, .int i1]) (rest := []) ⟨hx, hb, hml, hown, hts⟩ (s_fail l dC dI rd r a0 a1 a2 a3 a4 a5 a6 a7 H.size 3 i1) (cwV 2 hts mg_X6_readWord_X6_fail_71 rfl rfl rfl (by decide +kernel) ⟨Nat.le_of_ble_eq_true rfl, Nat.le_of_ble_eq_true rfl⟩) ⟨fun a U g mk q => by obtain ⟨q0, q1, qP, qK, qD⟩ := q; exact ⟨q0, q1, qP, va_K.moved (u := U) (U := U.calling g mk a) (Vm.Alike.refl U.vm) qK, qD⟩, va_recv hKc hPc (ci := 6) (q0 := 0) rfl rfl, fun U hU hW => ⟨rfl, by rw [hU], by rw [hU]; exact hPc, va_K.moved hW.alike hKc, hDc.weaken (fun _ _ _ _ => trivial)⟩⟩ rfl rfl hl.1 rfl (lv_room (Nat.le_of_ble_eq_true rfl)) dX6_readWord_110 ⟨Nat.le_of_ble_eq_true rfl, Nat.le_of_ble_eq_true rfl⟩) hS (fun q _ h => hFc q h) hFc (fun u t H1 locs ht hvm hw hB hz1 hk1 hS => ?_)
                    obtain ⟨hP1, hK1, hD1⟩ := hB
                    rw [ht] at hP1
                    obtain ⟨hP, hD⟩ := va_join (wr := [(ba, .inl (cb, kb, .inl fb))]) (w1 := [(rd, .inr (6, rF r 3 i1 a2 a3 a4 a5 a6 a7))]) hP hD [0] [1] rfl rfl (by decide) (by decide) hk1 hFc hP1 hD1
                    generalize H1 = H at hP hS ⊢
                    have hP : va_P (dC, dI) vwCl [(ba, .inl (cb, kb, .inl fb)), (rd, .inr (6, rF r 3 i1 a2 a3 a4 a5 a6 a7))] H := hP
                    have hD : va_D A [(ba, .inl (cb, kb, .inl fb)), (rd, .inr (6, rF r 3 i1 a2 a3 a4 a5 a6 a7))] := hD
                    refine lv_goto (tgt := 130) hx hb dX6_readWord_113 (by decide) ?_
                    refine lv_iload hx hb dX6_readWord_130 (lv_at hl 1 rfl) ?_
                    refine lv_iconst (v := 1) hx hb dX6_readWord_132 (by decide) ?_
                    refine lv_isub hx hb dX6_readWord_133 ?_
                    refine lv_topi (fun y_97 ey_97 => ?_)
                    first | have ty_97 := i_sub (a := kk.toInt) (b := 1) rfl (by decide) ey_97 (by omega) (by omega) | skip
                    have hP9 := hP.sub (ws' := [(rd, .inr (6, rF r 3 i1 a2 a3 a4 a5 a6 a7)), (ba, .inl (cb, kb, .inl fb))]) [1, 0] rfl
                    have hD9 := hD.sub (ws' := [(rd, .inr (6, rF r 3 i1 a2 a3 a4 a5 a6 a7)), (ba, .inl (cb, kb, .inl fb))]) [1, 0] (by decide) rfl
                    have hK9 := hK.sub (tys' := [(cb, .int)]) [0] rfl
                    exact W.iret hx hb hr (fun t ht hW => ⟨⟨_, (), rfl, by omega, 3, i1, a7, (Or.inl ⟨rfl, Or.inr rfl⟩), by rw [ht]; exact hP9, va_K.moved hW.alike hK9, hD9⟩, hS.F ht⟩) hS.2.2 dX6_readWord_134
              · have tk_80 := c_eq (a := r_79.toInt) (b := 0) rfl (by decide) k_80
                refine lv_aload_n hx hb dX6_readWord_62 rfl (lv_at hl 2 rfl) ?_
                refine lv_iconst (v := 2) hx hb dX6_readWord_63 (by decide) ?_
                refine lv_iload_n hx hb dX6_readWord_64 rfl (lv_at hl 4 rfl) ?_
                have hPc := hP.sub (ws' := [(rd, .inr (6, rF r a0 a1 a2 a3 a4 a5 a6 a7))]) [0] rfl
                have hKc := hK.sub (tys' := []) [] rfl
                have hDc := hD.sub (ws' := [(rd, .inr (6, rF r a0 a1 a2 a3 a4 a5 a6 a7))]) [0] (by decide) rfl
                have hFc := va_free (wc := [(rd, .inr (6, rF r a0 a1 a2 a3 a4 a5 a6 a7))]) hD hS hA [0] rfl
                refine va_callv (va_runV (As := [.int 2, .int i1]) (rest := []) ⟨hx, hb, hml, hown, hts⟩ (s_fail l dC dI rd r a0 a1 a2 a3 a4 a5 a6 a7 H.size 2 i1) (cwV 2 hts mg_X6_readWord_X6_fail_71 rfl rfl rfl (by decide +kernel) ⟨Nat.le_of_ble_eq_true rfl, Nat.le_of_ble_eq_true rfl⟩) ⟨fun a U g mk q => by obtain ⟨q0, q1, qP, qK, qD⟩ := q; exact ⟨q0, q1, qP, va_K.moved (u := U) (U := U.calling g mk a) (Vm.Alike.refl U.vm) qK, qD⟩, va_recv hKc hPc (ci := 6) (q0 := 0) rfl rfl, fun U hU hW => ⟨rfl, by rw [hU], by rw [hU]; exact hPc, va_K.moved hW.alike hKc, hDc.weaken (fun _ _ _ _ => trivial)⟩⟩ rfl rfl hl.1 rfl (lv_room (Nat.le_of_ble_eq_true rfl)) dX6_readWord_65 ⟨Nat.le_of_ble_eq_true rfl, Nat.le_of_ble_eq_true rfl⟩) hS (fun q _ h => hFc q h) hFc (fun u t H1 locs ht hvm hw hB hz1 hk1 hS => ?_)
                obtain ⟨hP1, hK1, hD1⟩ := hB
                rw [ht] at hP1
                obtain ⟨hP, hD⟩ := va_join (wr := [(ba, .inl (cb, kb, .inl fb))]) (w1 := [(rd, .inr (6, rF r 2 i1 a2 a3 a4 a5 a6 a7))]) hP hD [0] [1] rfl rfl (by decide) (by decide) hk1 hFc hP1 hD1
                generalize H1 = H at hP hS ⊢
                have hP : va_P (dC, dI) vwCl [(ba, .inl (cb, kb, .inl fb)), (rd, .inr (6, rF r 2 i1 a2 a3 a4 a5 a6 a7))] H := hP
                have hD : va_D A [(ba, .inl (cb, kb, .inl fb)), (rd, .inr (6, rF r 2 i1 a2 a3 a4 a5 a6 a7))] := hD
                refine lv_goto (tgt := 130) hx hb dX6_readWord_68 (by decide) ?_
                refine lv_iload hx hb dX6_readWord_130 (lv_at hl 1 rfl) ?_
                refine lv_iconst (v := 1) hx hb dX6_readWord_132 (by decide) ?_
                refine lv_isub hx hb dX6_readWord_133 ?_
                refine lv_topi (fun y_100 ey_100 => ?_)
                first | have ty_100 := i_sub (a := kk.toInt) (b := 1) rfl (by decide) ey_100 (by omega) (by omega) | skip
                have hP9 := hP.sub (ws' := [(rd, .inr (6, rF r 2 i1 a2 a3 a4 a5 a6 a7)), (ba, .inl (cb, kb, .inl fb))]) [1, 0] rfl
                have hD9 := hD.sub (ws' := [(rd, .inr (6, rF r 2 i1 a2 a3 a4 a5 a6 a7)), (ba, .inl (cb, kb, .inl fb))]) [1, 0] (by decide) rfl
                have hK9 := hK.sub (tys' := [(cb, .int)]) [0] rfl
                exact W.iret hx hb hr (fun t ht hW => ⟨⟨_, (), rfl, by omega, 2, i1, a7, (Or.inl ⟨rfl, Or.inl rfl⟩), by rw [ht]; exact hP9, va_K.moved hW.alike hK9, hD9⟩, hS.F ht⟩) hS.2.2 dX6_readWord_134
        · have tk_53 := c_ne (a := r_52.toInt) (b := 0) rfl (by decide) k_53
          obtain ⟨y_101, ey_101⟩ : ∃ y : Int32, y = kk + 1 := ⟨_, rfl⟩
          first | have ty_101 := i_add (a := kk.toInt) (b := 1) rfl (by decide) ey_101 (by omega) (by omega) | skip
          refine lv_iinc (v := y_101) (lv' := [(4, .int y_101), (0, .ref rd), (1, .ref ba), (2, .int i1), (3, .int i2)]) hx hb dX6_readWord_21 hl (k := 0) rfl (by rw [ey_101]; rfl) (by decide) rfl (fun ls hl => ?_)
          refine lv_goto (tgt := 5) hx hb dX6_readWord_24 (by decide) ?_
          exact ih5 y_101 (by first | omega | assumption | decide) (by omega) _ _ ls hP hD hS (lv_sub hl [0, 1, 2, 3, 4] rfl)
  exact loop5 _ y_1 (by first | omega | assumption | decide) (Nat.lt_succ_self _) _ _ ls hP hD hS (lv_sub hl [0, 1, 2, 3, 4] rfl)

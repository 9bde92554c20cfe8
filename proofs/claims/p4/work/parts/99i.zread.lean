theorem vI_upb {f g : Nat → Int32} {i v : Int32} {a : Int} (e : upd f i.toNatClampNeg (vp_nar .byte v) = g) (ha : i.toInt = a) (h0 : 0 ≤ a) : vI g a % 256 = v.toInt % 256 ∧ ∀ z : Int, 0 ≤ z → z ≠ a → vI g z = vI f z := by
  have h := vI_up (b := (vp_nar .byte v).toInt) e ha h0 rfl
  refine ⟨?_, h.2⟩
  rw [h.1, vp_nar_byte]
  have h1 : (v.toInt8.toInt32).toInt = v.toInt8.toInt := by simp
  have h2 : v.toInt8.toInt = v.toInt.bmod (2 ^ 8) := by simp
  rw [h1, h2]
  first | (rw [Int.bmod_def]; split <;> omega) | (unfold Int.bmod; simp only []; split <;> omega)
theorem cpb_step {f g g' : Nat → Int32} {k k' v : Int} (h : ∀ z : Int, 0 ≤ z → z < k → vI g z % 256 = vI f z % 256) (hu : vI g' k % 256 = v % 256 ∧ ∀ z : Int, 0 ≤ z → z ≠ k → vI g' z = vI g z) (hv : v = vI f k) (e : k' = k + 1) : ∀ z : Int, 0 ≤ z → z < k' → vI g' z % 256 = vI f z % 256 := fun z a b => by
  by_cases q : z = k
  · subst q; rw [hu.1, hv]
  · rw [hu.2 z a q]; exact h z a (by omega)
/-- a copy of a text is read as the text is -/
theorem rd_tape {f g : Nat → Int32} {n d p o : Int} (h : ∀ z : Int, 0 ≤ z → z < n → vI g z % 256 = vI f z % 256) (hn : 0 ≤ n) (hL : Ld (tx g n) (zTop 0 0 d p) (zOut o)) : Ld (tx f n) (zTop 0 0 d p) (zOut o) := by
  rcases Int.lt_or_eq_of_le hn with q | q
  · have e : tx g n = tx f n := by
      funext k
      unfold tx
      by_cases c : k < n
      · rw [if_pos c, if_pos c]
        by_cases c2 : 0 ≤ k
        · exact h k c2 c
        · have h0 := h 0 (by omega) q
          have e1 : ∀ u : Nat → Int32, vI u k = vI u 0 := fun u => by unfold vI; rw [show k.toNat = (0 : Int).toNat by omega]
          rw [e1, e1]; exact h0
      · rw [if_neg c, if_neg c]
    rw [← e]; exact hL
  · subst q
    have e1 : Ld (tx g 0) (zTop 0 0 d p) (zOut d) := mv_end (by unfold tx; rw [if_neg (by omega)])
    have e2 : Ld (tx f 0) (zTop 0 0 d p) (zOut d) := mv_end (by unfold tx; rw [if_neg (by omega)])
    rw [Ld.det hL e1]; exact e2
theorem rl_l {a : Int} {P Q : Prop} (h : a = 1 ∧ P ∨ a = 0 ∧ Q) (h1 : a ≠ 0) : P := by
  rcases h with h | h
  · exact h.2
  · exact absurd h.1 h1
theorem rl_r {a : Int} {P Q : Prop} (h : a = 1 ∧ P ∨ a = 0 ∧ Q) (h1 : a = 0) : Q := by
  rcases h with h | h
  · omega
  · exact h.2
theorem rl_next {t : Int → Int} {s a b : RSt} {r o : Int} {K K' : Prop} (h : Ld t s a ∧ K) (h2 : r = 1 ∧ (Ld t a b ∧ K') ∨ r = 0 ∧ Ld t a (zOut o)) : r = 1 ∧ (Ld t s b ∧ K') ∨ r = 0 ∧ Ld t s (zOut o) := by
  rcases h2 with ⟨e, q, k⟩ | ⟨e, q⟩
  · exact Or.inl ⟨e, h.1.tr q, k⟩
  · exact Or.inr ⟨e, h.1.tr q⟩
def mwX10_readsmq : List Cond := .code yX10_reads cX10_reads 4 (some .boolean) :: (([.fieldLink RX10 114 "PatternGateModel" "size" "I", .fieldLink RX10 107 "PatternGateModel" "taped" "I", .fieldLink RX10 117 "PatternGateModel" "faults" "I", .fieldLink RX10 21 "PatternGateModel" "faultPlace" "I", .fieldLink RX10 130 "PatternGateModel" "end" "I", .methodLink RX10 193 yX10_copies, .instanceMethod yX10_copies, .selects RX10 yX10_copies yX10_copies, .initialized RX10, .fieldLink RX10 8 "PatternGateModel" "all" "[I", .methodLink RX10 184 yX10_ahead, .instanceMethod yX10_ahead, .selects RX10 yX10_ahead yX10_ahead, .fieldLink RX10 25 "PatternGateModel" "faultKind" "I", .fieldLink RX10 120 "PatternGateModel" "token" "I", .methodLink RX10 197 yX10_aLine, .instanceMethod yX10_aLine, .selects RX10 yX10_aLine yX10_aLine, .fieldLink RX10 18 "PatternGateModel" "text" "[B", .fieldLink RX10 14 "PatternGateModel" "tape" "[B"] : List Cond) ++ (wsX100 ++ (mwX10_copiesm ++ (mwX10_aheadmq ++ (mwX10_aLinemq)))))
theorem fin_X10_readsmq_X10 : ∀ w ∈ wsX100, w ∈ mwX10_readsmq := fun w h => List.mem_cons_of_mem _ (List.mem_append_right _ (List.mem_append_left _ h))
set_option maxRecDepth 100000 in
theorem gd_mwX10_aLinemq : mwX10_aLinemq.all goodWord = true := by decide +kernel
set_option maxRecDepth 20000 in
theorem mg_X10_readsmq_X10_copies_193 : GoodIn mwX10_readsmq (wsV RX10 193 RX10 yX10_copies mwX10_copiesm) := gi_app (A := [.methodLink RX10 193 yX10_copies, .instanceMethod yX10_copies, .selects RX10 yX10_copies yX10_copies, .initialized RX10]) (goodIn_r _ [6, 7, 8, 9] (by decide +kernel) (by decide +kernel)) (gi_sub gd_mwX10_copiesm (fun w h => List.mem_cons_of_mem _ (List.mem_append_right _ (List.mem_append_right _ (List.mem_append_left _ h)))))
set_option maxRecDepth 20000 in
theorem mg_X10_readsmq_X10_ahead_184 : GoodIn mwX10_readsmq (wsV RX10 184 RX10 yX10_ahead mwX10_aheadmq) := gi_app (A := [.methodLink RX10 184 yX10_ahead, .instanceMethod yX10_ahead, .selects RX10 yX10_ahead yX10_ahead, .initialized RX10]) (goodIn_r _ [11, 12, 13, 9] (by decide +kernel) (by decide +kernel)) (gi_sub gd_mwX10_aheadmq (fun w h => List.mem_cons_of_mem _ (List.mem_append_right _ (List.mem_append_right _ (List.mem_append_right _ (List.mem_append_left _ h))))))
set_option maxRecDepth 20000 in
theorem mg_X10_readsmq_X10_aLine_197 : GoodIn mwX10_readsmq (wsV RX10 197 RX10 yX10_aLine mwX10_aLinemq) := gi_app (A := [.methodLink RX10 197 yX10_aLine, .instanceMethod yX10_aLine, .selects RX10 yX10_aLine yX10_aLine, .initialized RX10]) (goodIn_r _ [16, 17, 18, 9] (by decide +kernel) (by decide +kernel)) (gi_sub gd_mwX10_aLinemq (fun w h => List.mem_cons_of_mem _ (List.mem_append_right _ (List.mem_append_right _ (List.mem_append_right _ (List.mem_append_right _ (h)))))))
set_option maxHeartbeats 4000000 in
set_option maxRecDepth 100000 in
theorem m_reads_q (l : Launch) (dC : Nat → ClassId) (dI : Nat → Nat → Nat) (ad : Nat → Nat) (kc : Nat → ClassId) (x0 x1 x2 x3 x4 x5 x6 x7 x8 x9 x10 x11 x12 x13 x14 x15 x16 x17 x18 x19 x20 x21 : Int32) (f0 f1 f2 f3 f4 f5 f6 f7 f8 f9 f10 f11 f12 f13 f14 f15 f16 f17 f18 f19 f20 f21 : Nat → Int32) (fL : Nat → Nat → Int64) (fN : Nat → Nat → Int32) (fP : Nat → Nat → Nat) (fM : Nat → Nat → Int32) (fO : Nat → Nat → Int32) (sz : Nat) (i1 i2 : Int32) (q0 : mI x1.toInt x2.toInt x3.toInt f0 fP) (q1 : 0 ≤ i1.toInt ∧ i1.toInt ≤ 900) (q2 : i2.toInt = 1) : Met l yX10_reads mwX10_readsmq ({ frames := 23, cells := 0, slots := 0, locals := 1380 }) (va_Pc [.ref (ad 0), .int i1, .int i2] (fun U => U.heap.size = sz ∧ va_P (dC, dI) vwCl (mW ad kc x0 x1 x2 x3 x4 x5 x6 x7 x8 x9 x10 x11 x12 x13 x14 x15 x16 x17 x18 x19 x20 x21 f0 f1 f2 f3 f4 f5 f6 f7 f8 f9 f10 f11 f12 f13 f14 f15 f16 f17 f18 f19 f20 f21 fL fN fP fM fO) U.heap ∧ va_K (dC, dI) vwCl (mT kc) U ∧ va_D (fun _ => True) (mW ad kc x0 x1 x2 x3 x4 x5 x6 x7 x8 x9 x10 x11 x12 x13 x14 x15 x16 x17 x18 x19 x20 x21 f0 f1 f2 f3 f4 f5 f6 f7 f8 f9 f10 f11 f12 f13 f14 f15 f16 f17 f18 f19 f20 f21 fL fN fP fM fO) ∧ sW2 (va_A (mW ad kc x0 x1 x2 x3 x4 x5 x6 x7 x8 x9 x10 x11 x12 x13 x14 x15 x16 x17 x18 x19 x20 x21 f0 f1 f2 f3 f4 f5 f6 f7 f8 f9 f10 f11 f12 f13 f14 f15 f16 f17 f18 f19 f20 f21 fL fN fP fM fO) sz) U U.heap)) (va_Qi (fun (o9 u9 : Int32) => o9 = u9) (fun (o9 : Int32) t => ∃ (y3 y4 y5 y6 y7 y8 y9 y10 y11 : Int32) (g0 g2 : Nat → Int32), (OKd g0 0) ∧ (mC x1.toInt x2.toInt g0) ∧ (y3.toInt = 0) ∧ (o9.toInt = 0 ∨ o9.toInt = 1) ∧ (o9.toInt = 1 ∧ Ld (tx f1 i1.toInt) (zTop 0 0 0 0) (zOut (vI g0 0)) ∨ o9.toInt = 0 ∧ Ld (tx f1 i1.toInt) (zTop 0 0 0 0) (zOut (-1))) ∧ va_P (dC, dI) vwCl (mW ad kc x0 x1 x2 y3 y4 y5 y6 y7 y8 y9 y10 y11 x12 x13 x14 x15 x16 x17 x18 x19 x20 x21 g0 f1 g2 f3 f4 f5 f6 f7 f8 f9 f10 f11 f12 f13 f14 f15 f16 f17 f18 f19 f20 f21 fL fN fP fM fO) t.heap ∧ va_K (dC, dI) vwCl (mT kc) t ∧ va_D (va_A (mW ad kc x0 x1 x2 x3 x4 x5 x6 x7 x8 x9 x10 x11 x12 x13 x14 x15 x16 x17 x18 x19 x20 x21 f0 f1 f2 f3 f4 f5 f6 f7 f8 f9 f10 f11 f12 f13 f14 f15 f16 f17 f18 f19 f20 f21 fL fN fP fM fO) sz) (mW ad kc x0 x1 x2 y3 y4 y5 y6 y7 y8 y9 y10 y11 x12 x13 x14 x15 x16 x17 x18 x19 x20 x21 g0 f1 g2 f3 f4 f5 f6 f7 f8 f9 f10 f11 f12 f13 f14 f15 f16 f17 f18 f19 f20 f21 fL fN fP fM fO)) (va_A (mW ad kc x0 x1 x2 x3 x4 x5 x6 x7 x8 x9 x10 x11 x12 x13 x14 x15 x16 x17 x18 x19 x20 x21 f0 f1 f2 f3 f4 f5 f6 f7 f8 f9 f10 f11 f12 f13 f14 f15 f16 f17 f18 f19 f20 f21 fL fN fP fM fO) sz)) 0 0 (va_A (mW ad kc x0 x1 x2 x3 x4 x5 x6 x7 x8 x9 x10 x11 x12 x13 x14 x15 x16 x17 x18 x19 x20 x21 f0 f1 f2 f3 f4 f5 f6 f7 f8 f9 f10 f11 f12 f13 f14 f15 f16 f17 f18 f19 f20 f21 fL fN fP fM fO) sz) := by
  refine Met.ofW (cc := cX10_reads) (maxL := 4) (ret := (some .boolean)) (by decide +kernel) rfl ?_
  intro p e s m args below meth c s₁ B hml hv
  obtain ⟨rfl, hsz, hP, hK, hD0, hSW⟩ := hv
  have hx := B.exec
  have hb := B.bytes
  have hr := B.returns
  have hts := atoms_spec (ws := mwX10_readsmq) B.pre
  have hown : s.vm.findClass RX10 = some m.cls := findClass_of_methodNamed B.named
  have hlocks := B.notSynchronized
  subst hsz
  have hD := hD0.self (sz := s.heap.size)
  generalize hAe : va_A (mW ad kc x0 x1 x2 x3 x4 x5 x6 x7 x8 x9 x10 x11 x12 x13 x14 x15 x16 x17 x18 x19 x20 x21 f0 f1 f2 f3 f4 f5 f6 f7 f8 f9 f10 f11 f12 f13 f14 f15 f16 f17 f18 f19 f20 f21 fL fN fP fM fO) s.heap.size = A at hD hSW ⊢
  have hA : ∀ q : Nat, s.heap.size ≤ q → A q := fun q h => by rw [← hAe]; exact Or.inr h
  have hP : va_P (dC, dI) vwCl (mW ad kc x0 x1 x2 x3 x4 x5 x6 x7 x8 x9 x10 x11 x12 x13 x14 x15 x16 x17 x18 x19 x20 x21 f0 f1 f2 f3 f4 f5 f6 f7 f8 f9 f10 f11 f12 f13 f14 f15 f16 f17 f18 f19 f20 f21 fL fN fP fM fO) s.heap := hP
  have hD : va_D A (mW ad kc x0 x1 x2 x3 x4 x5 x6 x7 x8 x9 x10 x11 x12 x13 x14 x15 x16 x17 x18 x19 x20 x21 f0 f1 f2 f3 f4 f5 f6 f7 f8 f9 f10 f11 f12 f13 f14 f15 f16 f17 f18 f19 f20 f21 fL fN fP fM fO) := hD
  have hK : va_K (dC, dI) vwCl (mT kc) s := hK
  generalize hH : s.heap = H at hP ⊢
  have hS : va_S A s.heap H [] := by rw [← hH]; exact va_S.rf
  have hl := lv_entry ([.ref (ad 0), .int i1, .int i2]) (n := 4) (Nat.le_of_ble_eq_true rfl)
  rw [lg_entry_eq]
  generalize (lg_sl ([.ref (ad 0), .int i1, .int i2]) ++ List.replicate (4 - (lg_sl ([.ref (ad 0), .int i1, .int i2])).length) Slot.unset).toArray = ls at hl ⊢
  have hl : lv_has ls 4 [(0, .ref (ad 0)), (1, .int i1), (2, .int i2)] := hl
  have rg_i1 := i_rng i1
  have rg_i2 := i_rng i2
  have hd := q0.d
  have hpi := q0.p
  have hq1 := q0.1
  have hq2 := q0.2.1
  have hq3 := q0.2.2.1
  have hd10 := hd.n0
  have hp8 := hd.P0
  refine lv_aload_n hx hb dX10_reads_0 rfl (lv_at hl 0 rfl) ?_
  refine lv_iload_n hx hb dX10_reads_1 rfl (lv_at hl 1 rfl) ?_
  refine va_put (D := (dC, dI)) (ci := 10) (v := .int i1) (ty := .int) (C := RX10) (T := TX10) (N := 48) hx hb hts fin_X10_readsmq_X10 tyX10 tyX10_ok nmX10 hown hK hP hD hS 0 rfl rfl 7 (by decide) (hts (.fieldLink RX10 114 "PatternGateModel" "size" "I") (List.mem_of_getElem? (i := 1) (by decide +kernel))) (fun _ h9 => h9) rfl (by decide +kernel) rfl rfl (Nat.le_of_ble_eq_true rfl) dX10_reads_2 (fun H locs hP hD hS => ?_)
  have hP : va_P (dC, dI) vwCl (mW ad kc x0 x1 x2 x3 i1 x5 x6 x7 x8 x9 x10 x11 x12 x13 x14 x15 x16 x17 x18 x19 x20 x21 f0 f1 f2 f3 f4 f5 f6 f7 f8 f9 f10 f11 f12 f13 f14 f15 f16 f17 f18 f19 f20 f21 fL fN fP fM fO) H := hP
  have hD : va_D A (mW ad kc x0 x1 x2 x3 i1 x5 x6 x7 x8 x9 x10 x11 x12 x13 x14 x15 x16 x17 x18 x19 x20 x21 f0 f1 f2 f3 f4 f5 f6 f7 f8 f9 f10 f11 f12 f13 f14 f15 f16 f17 f18 f19 f20 f21 fL fN fP fM fO) := hD
  refine lv_iconst (v := 0) hx hb dX10_reads_5 (by decide) ?_
  refine lv_istore_n (lv' := [(3, .int 0), (0, .ref (ad 0)), (1, .int i1), (2, .int i2)]) hx hb dX10_reads_6 rfl hl (by decide) rfl (fun ls hl => ?_)
  have loop7 : ∀ (lm7 : Nat) (kk : Int32) (gt : Nat → Int32), (0 ≤ kk.toInt ∧ kk.toInt ≤ i1.toInt) → (∀ z : Int, 0 ≤ z → z < kk.toInt → vI gt z % 256 = vI f1 z % 256) → ((i1.toInt - kk.toInt).toNat) < lm7 → ∀ (H : Heap) (locs : List Loc) (ls : Array Slot), va_P (dC, dI) vwCl (mW ad kc x0 x1 x2 x3 i1 x5 x6 x7 x8 x9 x10 x11 x12 x13 x14 x15 x16 x17 x18 x19 x20 x21 f0 f1 gt f3 f4 f5 f6 f7 f8 f9 f10 f11 f12 f13 f14 f15 f16 f17 f18 f19 f20 f21 fL fN fP fM fO) H → va_D A (mW ad kc x0 x1 x2 x3 i1 x5 x6 x7 x8 x9 x10 x11 x12 x13 x14 x15 x16 x17 x18 x19 x20 x21 f0 f1 gt f3 f4 f5 f6 f7 f8 f9 f10 f11 f12 f13 f14 f15 f16 f17 f18 f19 f20 f21 fL fN fP fM fO) → va_S A s.heap H locs → lv_has ls 4 [(3, .int kk), (0, .ref (ad 0)), (1, .int i1), (2, .int i2)] → W p l e (headSpec mwX10_readsmq ({ frames := 23, cells := 0, slots := 0, locals := 1380 })).room s m ([.ref (ad 0), .int i1, .int i2]).toArray below meth c H locs 0 0 (MQ below (va_Qi (fun (o9 u9 : Int32) => o9 = u9) (fun (o9 : Int32) t => ∃ (y3 y4 y5 y6 y7 y8 y9 y10 y11 : Int32) (g0 g2 : Nat → Int32), (OKd g0 0) ∧ (mC x1.toInt x2.toInt g0) ∧ (y3.toInt = 0) ∧ (o9.toInt = 0 ∨ o9.toInt = 1) ∧ (o9.toInt = 1 ∧ Ld (tx f1 i1.toInt) (zTop 0 0 0 0) (zOut (vI g0 0)) ∨ o9.toInt = 0 ∧ Ld (tx f1 i1.toInt) (zTop 0 0 0 0) (zOut (-1))) ∧ va_P (dC, dI) vwCl (mW ad kc x0 x1 x2 y3 y4 y5 y6 y7 y8 y9 y10 y11 x12 x13 x14 x15 x16 x17 x18 x19 x20 x21 g0 f1 g2 f3 f4 f5 f6 f7 f8 f9 f10 f11 f12 f13 f14 f15 f16 f17 f18 f19 f20 f21 fL fN fP fM fO) t.heap ∧ va_K (dC, dI) vwCl (mT kc) t ∧ va_D A (mW ad kc x0 x1 x2 y3 y4 y5 y6 y7 y8 y9 y10 y11 x12 x13 x14 x15 x16 x17 x18 x19 x20 x21 g0 f1 g2 f3 f4 f5 f6 f7 f8 f9 f10 f11 f12 f13 f14 f15 f16 f17 f18 f19 f20 f21 fL fN fP fM fO)) A) ([.ref (ad 0), .int i1, .int i2]).toArray s 0 0 A) (F0 m 7 ls []) := by
    intro lm7
    induction lm7 with
    | zero => intro kk gt v7_0 v7_1 hm7; exact absurd hm7 (Nat.not_lt_zero _)
    | succ lm7 ih7 =>
      intro kk gt v7_0 v7_1 hm7 H locs ls hP hD hS hl
      have rg_kk := i_rng kk
      refine lv_iload_n hx hb dX10_reads_7 rfl (lv_at hl 0 rfl) ?_
      refine lv_iload_n hx hb dX10_reads_8 rfl (lv_at hl 2 rfl) ?_
      refine lv_icmp_ge (tgt := 30) hx hb dX10_reads_9 (by decide) (fun k_1 => ?_) (fun k_1 => ?_)
      · have tk_1 := c_ge (a := kk.toInt) (b := i1.toInt) rfl rfl k_1
        refine lv_aload_n hx hb dX10_reads_30 rfl (lv_at hl 1 rfl) ?_
        refine lv_iconst (v := 0) hx hb dX10_reads_31 (by decide) ?_
        refine va_put (D := (dC, dI)) (ci := 10) (v := .int 0) (ty := .int) (C := RX10) (T := TX10) (N := 48) hx hb hts fin_X10_readsmq_X10 tyX10 tyX10_ok nmX10 hown hK hP hD hS 0 rfl rfl 6 (by decide) (hts (.fieldLink RX10 107 "PatternGateModel" "taped" "I") (List.mem_of_getElem? (i := 2) (by decide +kernel))) (fun _ h9 => h9) rfl (by decide +kernel) rfl rfl (Nat.le_of_ble_eq_true rfl) dX10_reads_32 (fun H locs hP hD hS => ?_)
        have hP : va_P (dC, dI) vwCl (mW ad kc x0 x1 x2 0 i1 x5 x6 x7 x8 x9 x10 x11 x12 x13 x14 x15 x16 x17 x18 x19 x20 x21 f0 f1 gt f3 f4 f5 f6 f7 f8 f9 f10 f11 f12 f13 f14 f15 f16 f17 f18 f19 f20 f21 fL fN fP fM fO) H := hP
        have hD : va_D A (mW ad kc x0 x1 x2 0 i1 x5 x6 x7 x8 x9 x10 x11 x12 x13 x14 x15 x16 x17 x18 x19 x20 x21 f0 f1 gt f3 f4 f5 f6 f7 f8 f9 f10 f11 f12 f13 f14 f15 f16 f17 f18 f19 f20 f21 fL fN fP fM fO) := hD
        have lit_1 : (0 : Int32).toInt = 0 := by decide
        refine lv_aload_n hx hb dX10_reads_35 rfl (lv_at hl 1 rfl) ?_
        refine lv_iconst (v := 0) hx hb dX10_reads_36 (by decide) ?_
        refine va_put (D := (dC, dI)) (ci := 10) (v := .int 0) (ty := .int) (C := RX10) (T := TX10) (N := 48) hx hb hts fin_X10_readsmq_X10 tyX10 tyX10_ok nmX10 hown hK hP hD hS 0 rfl rfl 11 (by decide) (hts (.fieldLink RX10 117 "PatternGateModel" "faults" "I") (List.mem_of_getElem? (i := 3) (by decide +kernel))) (fun _ h9 => h9) rfl (by decide +kernel) rfl rfl (Nat.le_of_ble_eq_true rfl) dX10_reads_37 (fun H locs hP hD hS => ?_)
        have hP : va_P (dC, dI) vwCl (mW ad kc x0 x1 x2 0 i1 x5 x6 x7 0 x9 x10 x11 x12 x13 x14 x15 x16 x17 x18 x19 x20 x21 f0 f1 gt f3 f4 f5 f6 f7 f8 f9 f10 f11 f12 f13 f14 f15 f16 f17 f18 f19 f20 f21 fL fN fP fM fO) H := hP
        have hD : va_D A (mW ad kc x0 x1 x2 0 i1 x5 x6 x7 0 x9 x10 x11 x12 x13 x14 x15 x16 x17 x18 x19 x20 x21 f0 f1 gt f3 f4 f5 f6 f7 f8 f9 f10 f11 f12 f13 f14 f15 f16 f17 f18 f19 f20 f21 fL fN fP fM fO) := hD
        have lit_2 : (0 : Int32).toInt = 0 := by decide
        refine lv_aload_n hx hb dX10_reads_40 rfl (lv_at hl 1 rfl) ?_
        refine lv_iconst (v := (-1)) hx hb dX10_reads_41 (by decide) ?_
        refine va_put (D := (dC, dI)) (ci := 10) (v := .int (-1)) (ty := .int) (C := RX10) (T := TX10) (N := 48) hx hb hts fin_X10_readsmq_X10 tyX10 tyX10_ok nmX10 hown hK hP hD hS 0 rfl rfl 12 (by decide) (hts (.fieldLink RX10 21 "PatternGateModel" "faultPlace" "I") (List.mem_of_getElem? (i := 4) (by decide +kernel))) (fun _ h9 => h9) rfl (by decide +kernel) rfl rfl (Nat.le_of_ble_eq_true rfl) dX10_reads_42 (fun H locs hP hD hS => ?_)
        have hP : va_P (dC, dI) vwCl (mW ad kc x0 x1 x2 0 i1 x5 x6 x7 0 (-1) x10 x11 x12 x13 x14 x15 x16 x17 x18 x19 x20 x21 f0 f1 gt f3 f4 f5 f6 f7 f8 f9 f10 f11 f12 f13 f14 f15 f16 f17 f18 f19 f20 f21 fL fN fP fM fO) H := hP
        have hD : va_D A (mW ad kc x0 x1 x2 0 i1 x5 x6 x7 0 (-1) x10 x11 x12 x13 x14 x15 x16 x17 x18 x19 x20 x21 f0 f1 gt f3 f4 f5 f6 f7 f8 f9 f10 f11 f12 f13 f14 f15 f16 f17 f18 f19 f20 f21 fL fN fP fM fO) := hD
        have lit_3 : ((-1) : Int32).toInt = (-1) := by decide
        refine lv_aload_n hx hb dX10_reads_45 rfl (lv_at hl 1 rfl) ?_
        refine lv_iconst (v := 0) hx hb dX10_reads_46 (by decide) ?_
        refine va_put (D := (dC, dI)) (ci := 10) (v := .int 0) (ty := .int) (C := RX10) (T := TX10) (N := 48) hx hb hts fin_X10_readsmq_X10 tyX10 tyX10_ok nmX10 hown hK hP hD hS 0 rfl rfl 10 (by decide) (hts (.fieldLink RX10 130 "PatternGateModel" "end" "I") (List.mem_of_getElem? (i := 5) (by decide +kernel))) (fun _ h9 => h9) rfl (by decide +kernel) rfl rfl (Nat.le_of_ble_eq_true rfl) dX10_reads_47 (fun H locs hP hD hS => ?_)
        have hP : va_P (dC, dI) vwCl (mW ad kc x0 x1 x2 0 i1 x5 x6 0 0 (-1) x10 x11 x12 x13 x14 x15 x16 x17 x18 x19 x20 x21 f0 f1 gt f3 f4 f5 f6 f7 f8 f9 f10 f11 f12 f13 f14 f15 f16 f17 f18 f19 f20 f21 fL fN fP fM fO) H := hP
        have hD : va_D A (mW ad kc x0 x1 x2 0 i1 x5 x6 0 0 (-1) x10 x11 x12 x13 x14 x15 x16 x17 x18 x19 x20 x21 f0 f1 gt f3 f4 f5 f6 f7 f8 f9 f10 f11 f12 f13 f14 f15 f16 f17 f18 f19 f20 f21 fL fN fP fM fO) := hD
        have lit_4 : (0 : Int32).toInt = 0 := by decide
        refine lv_aload_n hx hb dX10_reads_50 rfl (lv_at hl 1 rfl) ?_
        refine lv_iconst (v := 0) hx hb dX10_reads_51 (by decide) ?_
        refine lv_sipush (v := 7820) hx hb dX10_reads_52 (by decide) ?_
        have lit_5 : (0 : Int32).toInt = 0 := by decide
        have lit_6 : (7820 : Int32).toInt = 7820 := by decide
        have hFc := m_free hD hS hA
        refine va_callv (va_runV (As := [.int 0, .int 7820]) (rest := []) ⟨hx, hb, hml, hown, hts⟩ (m_copies l dC dI ad kc x0 x1 x2 0 i1 x5 x6 0 0 (-1) x10 x11 x12 x13 x14 x15 x16 x17 x18 x19 x20 x21 f0 f1 gt f3 f4 f5 f6 f7 f8 f9 f10 f11 f12 f13 f14 f15 f16 f17 f18 f19 f20 f21 fL fN fP fM fO H.size 0 7820 (by first | omega | assumption | decide | (have l0 := Int32.toInt_zero; omega)) (by first | omega | assumption | decide | (have l0 := Int32.toInt_zero; omega)) (by first | omega | assumption | decide | (have l0 := Int32.toInt_zero; omega)) (by first | omega | assumption | decide | (have l0 := Int32.toInt_zero; omega)) (by first | omega | assumption | decide | (have l0 := Int32.toInt_zero; omega))) (cwV 2 hts mg_X10_readsmq_X10_copies_193 rfl rfl rfl (by decide +kernel) ⟨Nat.le_of_ble_eq_true rfl, Nat.le_of_ble_eq_true rfl⟩) ⟨fun a U g mk q => by obtain ⟨q0, q1, qP, qK, qD⟩ := q; exact ⟨q0, q1, qP, va_K.moved (u := U) (U := U.calling g mk a) (Vm.Alike.refl U.vm) qK, qD⟩, va_recv hK hP (ci := 10) (q0 := 0) rfl rfl, fun U hU hW => ⟨rfl, by rw [hU], by rw [hU]; exact hP, va_K.moved hW.alike hK, hD.weaken (fun _ _ _ _ => trivial)⟩⟩ rfl rfl hl.1 rfl (lv_room (Nat.le_of_ble_eq_true rfl)) dX10_reads_55 ⟨Nat.le_of_ble_eq_true rfl, Nat.le_of_ble_eq_true rfl⟩) hS (fun q _ h => hFc q h) hFc (fun u t H1 locs ht hvm hw hB hz1 hk1 hS => ?_)
        obtain ⟨f_9, hr_8_0, hP, hK1, hD1⟩ := hB
        rw [ht] at hP
        have hD := hD1.weaken (fun k q _ h => hFc q.1 h)
        clear hz1 hk1 hFc hD1 hK1 hvm
        generalize H1 = H at hP hS ⊢
        have hP : va_P (dC, dI) vwCl (mW ad kc x0 x1 x2 0 i1 x5 x6 0 0 (-1) x10 x11 x12 x13 x14 x15 x16 x17 x18 x19 x20 x21 f_9 f1 gt f3 f4 f5 f6 f7 f8 f9 f10 f11 f12 f13 f14 f15 f16 f17 f18 f19 f20 f21 fL fN fP fM fO) H := hP
        have hD : va_D A (mW ad kc x0 x1 x2 0 i1 x5 x6 0 0 (-1) x10 x11 x12 x13 x14 x15 x16 x17 x18 x19 x20 x21 f_9 f1 gt f3 f4 f5 f6 f7 f8 f9 f10 f11 f12 f13 f14 f15 f16 f17 f18 f19 f20 f21 fL fN fP fM fO) := hD
        have hc9 : CP f0 f_9 0 7820 := by have h9 := hr_8_0; rw [(show (0 : Int32).toInt = 0 by decide), (show (7820 : Int32).toInt = 7820 by decide)] at h9; exact h9
        have hA9 := q0.aside hc9
        have hd9 := hA9.1
        have hm9 := hA9.2
        have hsm : ∀ z : Int, 0 ≤ z → z < 7820 → vI f_9 z = vI f0 z := fun z h1 h2 => by rw [hc9 z h1, if_neg (by omega)]
        refine lv_iload_n hx hb dX10_reads_58 rfl (lv_at hl 3 rfl) ?_
        refine lv_if_eq (tgt := 78) hx hb dX10_reads_59 (by decide) (fun k_10 => absurd k_10 (fun e9 => by rw [e9] at q2; exact absurd q2 (by decide))) (fun k_10 => ?_)
        have tk_10 := c_ne (a := i2.toInt) (b := 0) rfl (by decide) k_10
        refine lv_aload_n hx hb dX10_reads_62 rfl (lv_at hl 1 rfl) ?_
        refine va_get (D := (dC, dI)) (ci := 10) (v := .ref (ad 1)) (C := RX10) (T := TX10) (N := 48) hx hb hts fin_X10_readsmq_X10 hown hK hP 0 rfl rfl 0 (by decide) (hts (.fieldLink RX10 8 "PatternGateModel" "all" "[I") (List.mem_of_getElem? (i := 10) (by decide +kernel))) (fun _ h9 => h9) rfl dX10_reads_63 ?_
        refine lv_iconst (v := 0) hx hb dX10_reads_66 (by decide) ?_
        refine lv_iconst (v := 0) hx hb dX10_reads_67 (by decide) ?_
        refine va_iast hx hb hK hP hD hS 1 0 rfl rfl (i := 0) (by unfold vp_in; decide +kernel) dX10_reads_68 (fun H locs hP hD hS => ?_)
        generalize hf_f_11 : upd f_9 _ _ = f_11 at hP hD
        have uf_11 := vI_up (a := 0) (b := 0) hf_f_11 (by first | omega | decide) (by omega) (by decide)
        have hP : va_P (dC, dI) vwCl (mW ad kc x0 x1 x2 0 i1 x5 x6 0 0 (-1) x10 x11 x12 x13 x14 x15 x16 x17 x18 x19 x20 x21 f_11 f1 gt f3 f4 f5 f6 f7 f8 f9 f10 f11 f12 f13 f14 f15 f16 f17 f18 f19 f20 f21 fL fN fP fM fO) H := hP
        have hD : va_D A (mW ad kc x0 x1 x2 0 i1 x5 x6 0 0 (-1) x10 x11 x12 x13 x14 x15 x16 x17 x18 x19 x20 x21 f_11 f1 gt f3 f4 f5 f6 f7 f8 f9 f10 f11 f12 f13 f14 f15 f16 f17 f18 f19 f20 f21 fL fN fP fM fO) := hD
        refine lv_aload_n hx hb dX10_reads_69 rfl (lv_at hl 1 rfl) ?_
        refine va_get (D := (dC, dI)) (ci := 10) (v := .ref (ad 1)) (C := RX10) (T := TX10) (N := 48) hx hb hts fin_X10_readsmq_X10 hown hK hP 0 rfl rfl 0 (by decide) (hts (.fieldLink RX10 8 "PatternGateModel" "all" "[I") (List.mem_of_getElem? (i := 10) (by decide +kernel))) (fun _ h9 => h9) rfl dX10_reads_70 ?_
        refine lv_sipush (v := 611) hx hb dX10_reads_73 (by decide) ?_
        refine lv_iconst (v := 0) hx hb dX10_reads_76 (by decide) ?_
        refine va_iast hx hb hK hP hD hS 1 0 rfl rfl (i := 611) (by unfold vp_in; decide +kernel) dX10_reads_77 (fun H locs hP hD hS => ?_)
        generalize hf_f_12 : upd f_11 _ _ = f_12 at hP hD
        have uf_12 := vI_up (a := 611) (b := 0) hf_f_12 (by first | omega | decide) (by omega) (by decide)
        have hP : va_P (dC, dI) vwCl (mW ad kc x0 x1 x2 0 i1 x5 x6 0 0 (-1) x10 x11 x12 x13 x14 x15 x16 x17 x18 x19 x20 x21 f_12 f1 gt f3 f4 f5 f6 f7 f8 f9 f10 f11 f12 f13 f14 f15 f16 f17 f18 f19 f20 f21 fL fN fP fM fO) H := hP
        have hD : va_D A (mW ad kc x0 x1 x2 0 i1 x5 x6 0 0 (-1) x10 x11 x12 x13 x14 x15 x16 x17 x18 x19 x20 x21 f_12 f1 gt f3 f4 f5 f6 f7 f8 f9 f10 f11 f12 f13 f14 f15 f16 f17 f18 f19 f20 f21 fL fN fP fM fO) := hD
        have hdA := hd9.anew (show U1 _ _ 0 0 from uf_11) (show U1 _ _ 611 0 from uf_12)
        have hmA := hm9.far (fun z hz => (uf_12.2 z (by omega) (by omega)).trans (uf_11.2 z (by omega) (by omega)))
        have hz0 : vI f_12 0 = 0 := (uf_12.2 0 (by omega) (by omega)).trans uf_11.1
        have hz6 : vI f_12 611 = 0 := uf_12.1
        refine lv_aload_n hx hb dX10_reads_78 rfl (lv_at hl 1 rfl) ?_
        have hFc := m_free hD hS hA
        refine va_callv (va_runV (As := []) (rest := []) ⟨hx, hb, hml, hown, hts⟩ (m_ahead_q l dC dI ad kc x0 x1 x2 0 i1 x5 x6 0 0 (-1) x10 x11 x12 x13 x14 x15 x16 x17 x18 x19 x20 x21 f_12 f1 gt f3 f4 f5 f6 f7 f8 f9 f10 f11 f12 f13 f14 f15 f16 f17 f18 f19 f20 f21 fL fN fP fM fO H.size (by first | omega | assumption | decide | (have l0 := Int32.toInt_zero; omega)) (by first | omega | assumption | decide | (have l0 := Int32.toInt_zero; omega)) (by first | omega | assumption | decide | (have l0 := Int32.toInt_zero; omega))) (cwV 0 hts mg_X10_readsmq_X10_ahead_184 rfl rfl rfl (by decide +kernel) ⟨Nat.le_of_ble_eq_true rfl, Nat.le_of_ble_eq_true rfl⟩) ⟨fun a U g mk q => by obtain ⟨q0, q1, qP, qK, qD⟩ := q; exact ⟨q0, q1, qP, va_K.moved (u := U) (U := U.calling g mk a) (Vm.Alike.refl U.vm) qK, qD⟩, va_recv hK hP (ci := 10) (q0 := 0) rfl rfl, fun U hU hW => ⟨rfl, by rw [hU], by rw [hU]; exact hP, va_K.moved hW.alike hK, hD.weaken (fun _ _ _ _ => trivial)⟩⟩ rfl rfl hl.1 rfl (lv_room (Nat.le_of_ble_eq_true rfl)) dX10_reads_79 ⟨Nat.le_of_ble_eq_true rfl, Nat.le_of_ble_eq_true rfl⟩) hS (fun q _ h => hFc q h) hFc (fun u t H1 locs ht hvm hw hB hz1 hk1 hS => ?_)
        obtain ⟨x_14, x_15, x_16, hr_13_0, hr_13_1, hr_13_2, hr_13_3, hr_13_4, hr_13_5, hr_13_6, hP, hK1, hD1⟩ := hB
        rw [ht] at hP
        have hD := hD1.weaken (fun k q _ h => hFc q.1 h)
        clear hz1 hk1 hFc hD1 hK1 hvm
        generalize H1 = H at hP hS ⊢
        have rg_x_14 := i_rng x_14
        have rg_x_15 := i_rng x_15
        have rg_x_16 := i_rng x_16
        have hP : va_P (dC, dI) vwCl (mW ad kc x0 x1 x2 0 i1 x_14 x_15 x_16 0 (-1) x10 x11 x12 x13 x14 x15 x16 x17 x18 x19 x20 x21 f_12 f1 gt f3 f4 f5 f6 f7 f8 f9 f10 f11 f12 f13 f14 f15 f16 f17 f18 f19 f20 f21 fL fN fP fM fO) H := hP
        have hD : va_D A (mW ad kc x0 x1 x2 0 i1 x_14 x_15 x_16 0 (-1) x10 x11 x12 x13 x14 x15 x16 x17 x18 x19 x20 x21 f_12 f1 gt f3 f4 f5 f6 f7 f8 f9 f10 f11 f12 f13 f14 f15 f16 f17 f18 f19 f20 f21 fL fN fP fM fO) := hD
        refine lv_iconst (v := 1) hx hb dX10_reads_82 (by decide) ?_
        refine lv_istore_n (lv' := [(3, .int 1), (0, .ref (ad 0)), (1, .int i1), (2, .int i2)]) hx hb dX10_reads_83 rfl hl (by decide) rfl (fun ls hl => ?_)
        have loop84 : ∀ (lm84 : Nat) (go to be en fa fp sp : Int32) (ga : Nat → Int32), (go.toInt = 0 ∨ go.toInt = 1) → (OKd ga 0) → (mC x1.toInt x2.toInt ga) → (0 ≤ be.toInt ∧ be.toInt ≤ en.toInt) → (en.toInt ≤ i1.toInt) → (go.toInt = 1 ∧ (Ld (tx gt i1.toInt) (zTop 0 0 0 0) (zTop be.toInt 0 (vI ga 0) (vI ga 611)) ∧ tK (tx gt i1.toInt) be.toInt en.toInt to.toInt) ∨ go.toInt = 0 ∧ Ld (tx gt i1.toInt) (zTop 0 0 0 0) (zOut (-1))) → (go.toInt = 1 ∧ fa.toInt = 0 ∨ go.toInt = 0 ∧ 0 < fa.toInt) → ((if go.toInt = 0 then 0 else (i1.toInt + 1 - en.toInt)).toNat) < lm84 → ∀ (H : Heap) (locs : List Loc) (ls : Array Slot), va_P (dC, dI) vwCl (mW ad kc x0 x1 x2 0 i1 to be en fa fp x10 sp x12 x13 x14 x15 x16 x17 x18 x19 x20 x21 ga f1 gt f3 f4 f5 f6 f7 f8 f9 f10 f11 f12 f13 f14 f15 f16 f17 f18 f19 f20 f21 fL fN fP fM fO) H → va_D A (mW ad kc x0 x1 x2 0 i1 to be en fa fp x10 sp x12 x13 x14 x15 x16 x17 x18 x19 x20 x21 ga f1 gt f3 f4 f5 f6 f7 f8 f9 f10 f11 f12 f13 f14 f15 f16 f17 f18 f19 f20 f21 fL fN fP fM fO) → va_S A s.heap H locs → lv_has ls 4 [(3, .int go), (0, .ref (ad 0)), (1, .int i1), (2, .int i2)] → W p l e (headSpec mwX10_readsmq ({ frames := 23, cells := 0, slots := 0, locals := 1380 })).room s m ([.ref (ad 0), .int i1, .int i2]).toArray below meth c H locs 0 0 (MQ below (va_Qi (fun (o9 u9 : Int32) => o9 = u9) (fun (o9 : Int32) t => ∃ (y3 y4 y5 y6 y7 y8 y9 y10 y11 : Int32) (g0 g2 : Nat → Int32), (OKd g0 0) ∧ (mC x1.toInt x2.toInt g0) ∧ (y3.toInt = 0) ∧ (o9.toInt = 0 ∨ o9.toInt = 1) ∧ (o9.toInt = 1 ∧ Ld (tx f1 i1.toInt) (zTop 0 0 0 0) (zOut (vI g0 0)) ∨ o9.toInt = 0 ∧ Ld (tx f1 i1.toInt) (zTop 0 0 0 0) (zOut (-1))) ∧ va_P (dC, dI) vwCl (mW ad kc x0 x1 x2 y3 y4 y5 y6 y7 y8 y9 y10 y11 x12 x13 x14 x15 x16 x17 x18 x19 x20 x21 g0 f1 g2 f3 f4 f5 f6 f7 f8 f9 f10 f11 f12 f13 f14 f15 f16 f17 f18 f19 f20 f21 fL fN fP fM fO) t.heap ∧ va_K (dC, dI) vwCl (mT kc) t ∧ va_D A (mW ad kc x0 x1 x2 y3 y4 y5 y6 y7 y8 y9 y10 y11 x12 x13 x14 x15 x16 x17 x18 x19 x20 x21 g0 f1 g2 f3 f4 f5 f6 f7 f8 f9 f10 f11 f12 f13 f14 f15 f16 f17 f18 f19 f20 f21 fL fN fP fM fO)) A) ([.ref (ad 0), .int i1, .int i2]).toArray s 0 0 A) (F0 m 84 ls []) := by
          intro lm84
          induction lm84 with
          | zero => intro go to be en fa fp sp ga v84_0 v84_1 v84_2 v84_3 v84_4 v84_5 v84_6 hm84; exact absurd hm84 (Nat.not_lt_zero _)
          | succ lm84 ih84 =>
            intro go to be en fa fp sp ga v84_0 v84_1 v84_2 v84_3 v84_4 v84_5 v84_6 hm84 H locs ls hP hD hS hl
            have rg_go := i_rng go
            have rg_to := i_rng to
            have rg_be := i_rng be
            have rg_en := i_rng en
            have rg_fa := i_rng fa
            have rg_fp := i_rng fp
            have rg_sp := i_rng sp
            refine lv_iload_n hx hb dX10_reads_84 rfl (lv_at hl 0 rfl) ?_
            refine lv_if_eq (tgt := 103) hx hb dX10_reads_85 (by decide) (fun k_17 => ?_) (fun k_17 => ?_)
            · have tk_17 := c_eq (a := go.toInt) (b := 0) rfl (by decide) k_17
              have hBad := rl_r v84_5 (by omega)
              refine lv_aload_n hx hb dX10_reads_103 rfl (lv_at hl 1 rfl) ?_
              refine lv_aload_n hx hb dX10_reads_104 rfl (lv_at hl 1 rfl) ?_
              refine va_get (D := (dC, dI)) (ci := 10) (v := .int fa) (C := RX10) (T := TX10) (N := 48) hx hb hts fin_X10_readsmq_X10 hown hK hP 0 rfl rfl 11 (by decide) (hts (.fieldLink RX10 117 "PatternGateModel" "faults" "I") (List.mem_of_getElem? (i := 3) (by decide +kernel))) (fun _ h9 => h9) rfl dX10_reads_105 ?_
              refine va_put (D := (dC, dI)) (ci := 10) (v := .int fa) (ty := .int) (C := RX10) (T := TX10) (N := 48) hx hb hts fin_X10_readsmq_X10 tyX10 tyX10_ok nmX10 hown hK hP hD hS 0 rfl rfl 13 (by decide) (hts (.fieldLink RX10 25 "PatternGateModel" "faultKind" "I") (List.mem_of_getElem? (i := 14) (by decide +kernel))) (fun _ h9 => h9) rfl (by decide +kernel) rfl rfl (Nat.le_of_ble_eq_true rfl) dX10_reads_108 (fun H locs hP hD hS => ?_)
              have hP : va_P (dC, dI) vwCl (mW ad kc x0 x1 x2 0 i1 to be en fa fp fa sp x12 x13 x14 x15 x16 x17 x18 x19 x20 x21 ga f1 gt f3 f4 f5 f6 f7 f8 f9 f10 f11 f12 f13 f14 f15 f16 f17 f18 f19 f20 f21 fL fN fP fM fO) H := hP
              have hD : va_D A (mW ad kc x0 x1 x2 0 i1 to be en fa fp fa sp x12 x13 x14 x15 x16 x17 x18 x19 x20 x21 ga f1 gt f3 f4 f5 f6 f7 f8 f9 f10 f11 f12 f13 f14 f15 f16 f17 f18 f19 f20 f21 fL fN fP fM fO) := hD
              refine lv_aload_n hx hb dX10_reads_111 rfl (lv_at hl 1 rfl) ?_
              refine va_get (D := (dC, dI)) (ci := 10) (v := .int fa) (C := RX10) (T := TX10) (N := 48) hx hb hts fin_X10_readsmq_X10 hown hK hP 0 rfl rfl 11 (by decide) (hts (.fieldLink RX10 117 "PatternGateModel" "faults" "I") (List.mem_of_getElem? (i := 3) (by decide +kernel))) (fun _ h9 => h9) rfl dX10_reads_112 ?_
              refine lv_if_le (tgt := 126) hx hb dX10_reads_115 (by decide) (fun k_18 => ?_) (fun k_18 => ?_)
              · have tk_18 := c_le (a := fa.toInt) (b := 0) rfl (by decide) k_18
                refine lv_aload_n hx hb dX10_reads_126 rfl (lv_at hl 1 rfl) ?_
                refine va_get (D := (dC, dI)) (ci := 10) (v := .int fa) (C := RX10) (T := TX10) (N := 48) hx hb hts fin_X10_readsmq_X10 hown hK hP 0 rfl rfl 11 (by decide) (hts (.fieldLink RX10 117 "PatternGateModel" "faults" "I") (List.mem_of_getElem? (i := 3) (by decide +kernel))) (fun _ h9 => h9) rfl dX10_reads_127 ?_
                refine lv_if_ne (tgt := 137) hx hb dX10_reads_130 (by decide) (fun k_19 => ?_) (fun k_19 => ?_)
                · have tk_19 := c_ne (a := fa.toInt) (b := 0) rfl (by decide) k_19
                  refine lv_iconst (v := 0) hx hb dX10_reads_137 (by decide) ?_
                  have lit_19 : (0 : Int32).toInt = 0 := by decide
                  have lit_20 : (0 : Int32).toInt = 0 := by decide
                  exact W.zret hx hb hr (z_nar (by first | assumption | decide | exact z_of (by omega))) (fun t ht hW => ⟨⟨_, _, rfl, rfl, 0, i1, to, be, en, fa, fp, fa, sp, ga, gt, v84_1, v84_2, (by first | omega | assumption | rfl | decide), (by first | omega | assumption | rfl | decide), (False.elim (by omega)), by rw [ht]; exact hP, va_K.moved hW.alike hK, hD⟩, hS.F ht⟩) hS.2.2 dX10_reads_138
                · have tk_19 := c_eq (a := fa.toInt) (b := 0) rfl (by decide) k_19
                  refine lv_iconst (v := 1) hx hb dX10_reads_133 (by decide) ?_
                  refine lv_goto (tgt := 138) hx hb dX10_reads_134 (by decide) ?_
                  have lit_21 : (1 : Int32).toInt = 1 := by decide
                  have lit_22 : (0 : Int32).toInt = 0 := by decide
                  exact W.zret hx hb hr (z_nar (by first | assumption | decide | exact z_of (by omega))) (fun t ht hW => ⟨⟨_, _, rfl, rfl, 0, i1, to, be, en, fa, fp, fa, sp, ga, gt, v84_1, v84_2, (by first | omega | assumption | rfl | decide), (by first | omega | assumption | rfl | decide), (False.elim (by omega)), by rw [ht]; exact hP, va_K.moved hW.alike hK, hD⟩, hS.F ht⟩) hS.2.2 dX10_reads_138
              · have tk_18 := c_nle (a := fa.toInt) (b := 0) rfl (by decide) k_18
                refine lv_aload_n hx hb dX10_reads_118 rfl (lv_at hl 1 rfl) ?_
                refine lv_sipush (v := 7820) hx hb dX10_reads_119 (by decide) ?_
                refine lv_iconst (v := 0) hx hb dX10_reads_122 (by decide) ?_
                have lit_23 : (7820 : Int32).toInt = 7820 := by decide
                have lit_24 : (0 : Int32).toInt = 0 := by decide
                have hFc := m_free hD hS hA
                refine va_callv (va_runV (As := [.int 7820, .int 0]) (rest := []) ⟨hx, hb, hml, hown, hts⟩ (m_copies l dC dI ad kc x0 x1 x2 0 i1 to be en fa fp fa sp x12 x13 x14 x15 x16 x17 x18 x19 x20 x21 ga f1 gt f3 f4 f5 f6 f7 f8 f9 f10 f11 f12 f13 f14 f15 f16 f17 f18 f19 f20 f21 fL fN fP fM fO H.size 7820 0 (by first | omega | assumption | decide | (have l0 := Int32.toInt_zero; omega)) (by first | omega | assumption | decide | (have l0 := Int32.toInt_zero; omega)) (by first | omega | assumption | decide | (have l0 := Int32.toInt_zero; omega)) (by first | omega | assumption | decide | (have l0 := Int32.toInt_zero; omega)) (by first | omega | assumption | decide | (have l0 := Int32.toInt_zero; omega))) (cwV 2 hts mg_X10_readsmq_X10_copies_193 rfl rfl rfl (by decide +kernel) ⟨Nat.le_of_ble_eq_true rfl, Nat.le_of_ble_eq_true rfl⟩) ⟨fun a U g mk q => by obtain ⟨q0, q1, qP, qK, qD⟩ := q; exact ⟨q0, q1, qP, va_K.moved (u := U) (U := U.calling g mk a) (Vm.Alike.refl U.vm) qK, qD⟩, va_recv hK hP (ci := 10) (q0 := 0) rfl rfl, fun U hU hW => ⟨rfl, by rw [hU], by rw [hU]; exact hP, va_K.moved hW.alike hK, hD.weaken (fun _ _ _ _ => trivial)⟩⟩ rfl rfl hl.1 rfl (lv_room (Nat.le_of_ble_eq_true rfl)) dX10_reads_123 ⟨Nat.le_of_ble_eq_true rfl, Nat.le_of_ble_eq_true rfl⟩) hS (fun q _ h => hFc q h) hFc (fun u t H1 locs ht hvm hw hB hz1 hk1 hS => ?_)
                obtain ⟨f_27, hr_26_0, hP, hK1, hD1⟩ := hB
                rw [ht] at hP
                have hD := hD1.weaken (fun k q _ h => hFc q.1 h)
                clear hz1 hk1 hFc hD1 hK1 hvm
                generalize H1 = H at hP hS ⊢
                have hP : va_P (dC, dI) vwCl (mW ad kc x0 x1 x2 0 i1 to be en fa fp fa sp x12 x13 x14 x15 x16 x17 x18 x19 x20 x21 f_27 f1 gt f3 f4 f5 f6 f7 f8 f9 f10 f11 f12 f13 f14 f15 f16 f17 f18 f19 f20 f21 fL fN fP fM fO) H := hP
                have hD : va_D A (mW ad kc x0 x1 x2 0 i1 to be en fa fp fa sp x12 x13 x14 x15 x16 x17 x18 x19 x20 x21 f_27 f1 gt f3 f4 f5 f6 f7 f8 f9 f10 f11 f12 f13 f14 f15 f16 f17 f18 f19 f20 f21 fL fN fP fM fO) := hD
                have hc8 : CP ga f_27 7820 0 := by have h9 := hr_26_0; rw [(show (7820 : Int32).toInt = 7820 by decide), (show (0 : Int32).toInt = 0 by decide)] at h9; exact h9
                have hdZ := hc8.there (by omega) v84_2.1
                have hmZ : mC x1.toInt x2.toInt f_27 := ⟨hc8.else_ (by omega) (by omega) v84_2.1, fun j a1 a2 => hc8.else_ (by omega) (by omega) (v84_2.2.1 j a1 a2), fun j a1 a2 => hc8.else_ (by omega) (by omega) (v84_2.2.2 j a1 a2)⟩
                refine lv_aload_n hx hb dX10_reads_126 rfl (lv_at hl 1 rfl) ?_
                refine va_get (D := (dC, dI)) (ci := 10) (v := .int fa) (C := RX10) (T := TX10) (N := 48) hx hb hts fin_X10_readsmq_X10 hown hK hP 0 rfl rfl 11 (by decide) (hts (.fieldLink RX10 117 "PatternGateModel" "faults" "I") (List.mem_of_getElem? (i := 3) (by decide +kernel))) (fun _ h9 => h9) rfl dX10_reads_127 ?_
                refine lv_if_ne (tgt := 137) hx hb dX10_reads_130 (by decide) (fun k_28 => ?_) (fun k_28 => ?_)
                · have tk_28 := c_ne (a := fa.toInt) (b := 0) rfl (by decide) k_28
                  refine lv_iconst (v := 0) hx hb dX10_reads_137 (by decide) ?_
                  have lit_28 : (0 : Int32).toInt = 0 := by decide
                  have lit_29 : (0 : Int32).toInt = 0 := by decide
                  exact W.zret hx hb hr (z_nar (by first | assumption | decide | exact z_of (by omega))) (fun t ht hW => ⟨⟨_, _, rfl, rfl, 0, i1, to, be, en, fa, fp, fa, sp, f_27, gt, hdZ, hmZ, (by first | omega | assumption | rfl | decide), (by first | omega | assumption | rfl | decide), (Or.inr ⟨by decide, rd_tape (show ∀ z : Int, 0 ≤ z → z < i1.toInt → vI gt z % 256 = vI f1 z % 256 from fun z a b => v7_1 z a (by omega)) (by omega) hBad⟩), by rw [ht]; exact hP, va_K.moved hW.alike hK, hD⟩, hS.F ht⟩) hS.2.2 dX10_reads_138
                · have tk_28 := c_eq (a := fa.toInt) (b := 0) rfl (by decide) k_28
                  refine lv_iconst (v := 1) hx hb dX10_reads_133 (by decide) ?_
                  refine lv_goto (tgt := 138) hx hb dX10_reads_134 (by decide) ?_
                  have lit_30 : (1 : Int32).toInt = 1 := by decide
                  have lit_31 : (0 : Int32).toInt = 0 := by decide
                  exact W.zret hx hb hr (z_nar (by first | assumption | decide | exact z_of (by omega))) (fun t ht hW => ⟨⟨_, _, rfl, rfl, 0, i1, to, be, en, fa, fp, fa, sp, f_27, gt, hdZ, hmZ, (by first | omega | assumption | rfl | decide), (by first | omega | assumption | rfl | decide), (False.elim (by omega)), by rw [ht]; exact hP, va_K.moved hW.alike hK, hD⟩, hS.F ht⟩) hS.2.2 dX10_reads_138
            · have tk_17 := c_ne (a := go.toInt) (b := 0) rfl (by decide) k_17
              refine lv_aload_n hx hb dX10_reads_88 rfl (lv_at hl 1 rfl) ?_
              refine va_get (D := (dC, dI)) (ci := 10) (v := .int to) (C := RX10) (T := TX10) (N := 48) hx hb hts fin_X10_readsmq_X10 hown hK hP 0 rfl rfl 8 (by decide) (hts (.fieldLink RX10 120 "PatternGateModel" "token" "I") (List.mem_of_getElem? (i := 15) (by decide +kernel))) (fun _ h9 => h9) rfl dX10_reads_89 ?_
              refine lv_if_eq (tgt := 103) hx hb dX10_reads_92 (by decide) (fun k_33 => ?_) (fun k_33 => ?_)
              · have tk_33 := c_eq (a := to.toInt) (b := 0) rfl (by decide) k_33
                have hGd := rl_l v84_5 (by omega)
                have hOut := hGd.1.tr (mv_end (tK_z hGd.2 (by omega)))
                refine lv_aload_n hx hb dX10_reads_103 rfl (lv_at hl 1 rfl) ?_
                refine lv_aload_n hx hb dX10_reads_104 rfl (lv_at hl 1 rfl) ?_
                refine va_get (D := (dC, dI)) (ci := 10) (v := .int fa) (C := RX10) (T := TX10) (N := 48) hx hb hts fin_X10_readsmq_X10 hown hK hP 0 rfl rfl 11 (by decide) (hts (.fieldLink RX10 117 "PatternGateModel" "faults" "I") (List.mem_of_getElem? (i := 3) (by decide +kernel))) (fun _ h9 => h9) rfl dX10_reads_105 ?_
                refine va_put (D := (dC, dI)) (ci := 10) (v := .int fa) (ty := .int) (C := RX10) (T := TX10) (N := 48) hx hb hts fin_X10_readsmq_X10 tyX10 tyX10_ok nmX10 hown hK hP hD hS 0 rfl rfl 13 (by decide) (hts (.fieldLink RX10 25 "PatternGateModel" "faultKind" "I") (List.mem_of_getElem? (i := 14) (by decide +kernel))) (fun _ h9 => h9) rfl (by decide +kernel) rfl rfl (Nat.le_of_ble_eq_true rfl) dX10_reads_108 (fun H locs hP hD hS => ?_)
                have hP : va_P (dC, dI) vwCl (mW ad kc x0 x1 x2 0 i1 to be en fa fp fa sp x12 x13 x14 x15 x16 x17 x18 x19 x20 x21 ga f1 gt f3 f4 f5 f6 f7 f8 f9 f10 f11 f12 f13 f14 f15 f16 f17 f18 f19 f20 f21 fL fN fP fM fO) H := hP
                have hD : va_D A (mW ad kc x0 x1 x2 0 i1 to be en fa fp fa sp x12 x13 x14 x15 x16 x17 x18 x19 x20 x21 ga f1 gt f3 f4 f5 f6 f7 f8 f9 f10 f11 f12 f13 f14 f15 f16 f17 f18 f19 f20 f21 fL fN fP fM fO) := hD
                refine lv_aload_n hx hb dX10_reads_111 rfl (lv_at hl 1 rfl) ?_
                refine va_get (D := (dC, dI)) (ci := 10) (v := .int fa) (C := RX10) (T := TX10) (N := 48) hx hb hts fin_X10_readsmq_X10 hown hK hP 0 rfl rfl 11 (by decide) (hts (.fieldLink RX10 117 "PatternGateModel" "faults" "I") (List.mem_of_getElem? (i := 3) (by decide +kernel))) (fun _ h9 => h9) rfl dX10_reads_112 ?_
                refine lv_if_le (tgt := 126) hx hb dX10_reads_115 (by decide) (fun k_34 => ?_) (fun k_34 => ?_)
                · have tk_34 := c_le (a := fa.toInt) (b := 0) rfl (by decide) k_34
                  refine lv_aload_n hx hb dX10_reads_126 rfl (lv_at hl 1 rfl) ?_
                  refine va_get (D := (dC, dI)) (ci := 10) (v := .int fa) (C := RX10) (T := TX10) (N := 48) hx hb hts fin_X10_readsmq_X10 hown hK hP 0 rfl rfl 11 (by decide) (hts (.fieldLink RX10 117 "PatternGateModel" "faults" "I") (List.mem_of_getElem? (i := 3) (by decide +kernel))) (fun _ h9 => h9) rfl dX10_reads_127 ?_
                  refine lv_if_ne (tgt := 137) hx hb dX10_reads_130 (by decide) (fun k_35 => ?_) (fun k_35 => ?_)
                  · have tk_35 := c_ne (a := fa.toInt) (b := 0) rfl (by decide) k_35
                    refine lv_iconst (v := 0) hx hb dX10_reads_137 (by decide) ?_
                    have lit_35 : (0 : Int32).toInt = 0 := by decide
                    have lit_36 : (0 : Int32).toInt = 0 := by decide
                    exact W.zret hx hb hr (z_nar (by first | assumption | decide | exact z_of (by omega))) (fun t ht hW => ⟨⟨_, _, rfl, rfl, 0, i1, to, be, en, fa, fp, fa, sp, ga, gt, v84_1, v84_2, (by first | omega | assumption | rfl | decide), (by first | omega | assumption | rfl | decide), (False.elim (by omega)), by rw [ht]; exact hP, va_K.moved hW.alike hK, hD⟩, hS.F ht⟩) hS.2.2 dX10_reads_138
                  · have tk_35 := c_eq (a := fa.toInt) (b := 0) rfl (by decide) k_35
                    refine lv_iconst (v := 1) hx hb dX10_reads_133 (by decide) ?_
                    refine lv_goto (tgt := 138) hx hb dX10_reads_134 (by decide) ?_
                    have lit_37 : (1 : Int32).toInt = 1 := by decide
                    have lit_38 : (0 : Int32).toInt = 0 := by decide
                    exact W.zret hx hb hr (z_nar (by first | assumption | decide | exact z_of (by omega))) (fun t ht hW => ⟨⟨_, _, rfl, rfl, 0, i1, to, be, en, fa, fp, fa, sp, ga, gt, v84_1, v84_2, (by first | omega | assumption | rfl | decide), (by first | omega | assumption | rfl | decide), (Or.inl ⟨by decide, rd_tape (show ∀ z : Int, 0 ≤ z → z < i1.toInt → vI gt z % 256 = vI f1 z % 256 from fun z a b => v7_1 z a (by omega)) (by omega) hOut⟩), by rw [ht]; exact hP, va_K.moved hW.alike hK, hD⟩, hS.F ht⟩) hS.2.2 dX10_reads_138
                · have tk_34 := c_nle (a := fa.toInt) (b := 0) rfl (by decide) k_34
                  refine lv_aload_n hx hb dX10_reads_118 rfl (lv_at hl 1 rfl) ?_
                  refine lv_sipush (v := 7820) hx hb dX10_reads_119 (by decide) ?_
                  refine lv_iconst (v := 0) hx hb dX10_reads_122 (by decide) ?_
                  have lit_39 : (7820 : Int32).toInt = 7820 := by decide
                  have lit_40 : (0 : Int32).toInt = 0 := by decide
                  have hFc := m_free hD hS hA
                  refine va_callv (va_runV (As := [.int 7820, .int 0]) (rest := []) ⟨hx, hb, hml, hown, hts⟩ (m_copies l dC dI ad kc x0 x1 x2 0 i1 to be en fa fp fa sp x12 x13 x14 x15 x16 x17 x18 x19 x20 x21 ga f1 gt f3 f4 f5 f6 f7 f8 f9 f10 f11 f12 f13 f14 f15 f16 f17 f18 f19 f20 f21 fL fN fP fM fO H.size 7820 0 (by first | omega | assumption | decide | (have l0 := Int32.toInt_zero; omega)) (by first | omega | assumption | decide | (have l0 := Int32.toInt_zero; omega)) (by first | omega | assumption | decide | (have l0 := Int32.toInt_zero; omega)) (by first | omega | assumption | decide | (have l0 := Int32.toInt_zero; omega)) (by first | omega | assumption | decide | (have l0 := Int32.toInt_zero; omega))) (cwV 2 hts mg_X10_readsmq_X10_copies_193 rfl rfl rfl (by decide +kernel) ⟨Nat.le_of_ble_eq_true rfl, Nat.le_of_ble_eq_true rfl⟩) ⟨fun a U g mk q => by obtain ⟨q0, q1, qP, qK, qD⟩ := q; exact ⟨q0, q1, qP, va_K.moved (u := U) (U := U.calling g mk a) (Vm.Alike.refl U.vm) qK, qD⟩, va_recv hK hP (ci := 10) (q0 := 0) rfl rfl, fun U hU hW => ⟨rfl, by rw [hU], by rw [hU]; exact hP, va_K.moved hW.alike hK, hD.weaken (fun _ _ _ _ => trivial)⟩⟩ rfl rfl hl.1 rfl (lv_room (Nat.le_of_ble_eq_true rfl)) dX10_reads_123 ⟨Nat.le_of_ble_eq_true rfl, Nat.le_of_ble_eq_true rfl⟩) hS (fun q _ h => hFc q h) hFc (fun u t H1 locs ht hvm hw hB hz1 hk1 hS => ?_)
                  obtain ⟨f_43, hr_42_0, hP, hK1, hD1⟩ := hB
                  rw [ht] at hP
                  have hD := hD1.weaken (fun k q _ h => hFc q.1 h)
                  clear hz1 hk1 hFc hD1 hK1 hvm
                  generalize H1 = H at hP hS ⊢
                  have hP : va_P (dC, dI) vwCl (mW ad kc x0 x1 x2 0 i1 to be en fa fp fa sp x12 x13 x14 x15 x16 x17 x18 x19 x20 x21 f_43 f1 gt f3 f4 f5 f6 f7 f8 f9 f10 f11 f12 f13 f14 f15 f16 f17 f18 f19 f20 f21 fL fN fP fM fO) H := hP
                  have hD : va_D A (mW ad kc x0 x1 x2 0 i1 to be en fa fp fa sp x12 x13 x14 x15 x16 x17 x18 x19 x20 x21 f_43 f1 gt f3 f4 f5 f6 f7 f8 f9 f10 f11 f12 f13 f14 f15 f16 f17 f18 f19 f20 f21 fL fN fP fM fO) := hD
                  have hc8 : CP ga f_43 7820 0 := by have h9 := hr_42_0; rw [(show (7820 : Int32).toInt = 7820 by decide), (show (0 : Int32).toInt = 0 by decide)] at h9; exact h9
                  have hdZ := hc8.there (by omega) v84_2.1
                  have hmZ : mC x1.toInt x2.toInt f_43 := ⟨hc8.else_ (by omega) (by omega) v84_2.1, fun j a1 a2 => hc8.else_ (by omega) (by omega) (v84_2.2.1 j a1 a2), fun j a1 a2 => hc8.else_ (by omega) (by omega) (v84_2.2.2 j a1 a2)⟩
                  refine lv_aload_n hx hb dX10_reads_126 rfl (lv_at hl 1 rfl) ?_
                  refine va_get (D := (dC, dI)) (ci := 10) (v := .int fa) (C := RX10) (T := TX10) (N := 48) hx hb hts fin_X10_readsmq_X10 hown hK hP 0 rfl rfl 11 (by decide) (hts (.fieldLink RX10 117 "PatternGateModel" "faults" "I") (List.mem_of_getElem? (i := 3) (by decide +kernel))) (fun _ h9 => h9) rfl dX10_reads_127 ?_
                  refine lv_if_ne (tgt := 137) hx hb dX10_reads_130 (by decide) (fun k_44 => ?_) (fun k_44 => ?_)
                  · have tk_44 := c_ne (a := fa.toInt) (b := 0) rfl (by decide) k_44
                    refine lv_iconst (v := 0) hx hb dX10_reads_137 (by decide) ?_
                    have lit_44 : (0 : Int32).toInt = 0 := by decide
                    have lit_45 : (0 : Int32).toInt = 0 := by decide
                    exact W.zret hx hb hr (z_nar (by first | assumption | decide | exact z_of (by omega))) (fun t ht hW => ⟨⟨_, _, rfl, rfl, 0, i1, to, be, en, fa, fp, fa, sp, f_43, gt, hdZ, hmZ, (by first | omega | assumption | rfl | decide), (by first | omega | assumption | rfl | decide), (False.elim (by omega)), by rw [ht]; exact hP, va_K.moved hW.alike hK, hD⟩, hS.F ht⟩) hS.2.2 dX10_reads_138
                  · have tk_44 := c_eq (a := fa.toInt) (b := 0) rfl (by decide) k_44
                    refine lv_iconst (v := 1) hx hb dX10_reads_133 (by decide) ?_
                    refine lv_goto (tgt := 138) hx hb dX10_reads_134 (by decide) ?_
                    have lit_46 : (1 : Int32).toInt = 1 := by decide
                    have lit_47 : (0 : Int32).toInt = 0 := by decide
                    exact W.zret hx hb hr (z_nar (by first | assumption | decide | exact z_of (by omega))) (fun t ht hW => ⟨⟨_, _, rfl, rfl, 0, i1, to, be, en, fa, fp, fa, sp, f_43, gt, hdZ, hmZ, (by first | omega | assumption | rfl | decide), (by first | omega | assumption | rfl | decide), (False.elim (by omega)), by rw [ht]; exact hP, va_K.moved hW.alike hK, hD⟩, hS.F ht⟩) hS.2.2 dX10_reads_138
              · have tk_33 := c_ne (a := to.toInt) (b := 0) rfl (by decide) k_33
                refine lv_aload_n hx hb dX10_reads_95 rfl (lv_at hl 1 rfl) ?_
                have hFc := m_free hD hS hA
                refine va_calli (va_runV (As := []) (rest := []) ⟨hx, hb, hml, hown, hts⟩ (m_aLine_q l dC dI ad kc x0 x1 x2 0 i1 to be en fa fp x10 sp x12 x13 x14 x15 x16 x17 x18 x19 x20 x21 ga f1 gt f3 f4 f5 f6 f7 f8 f9 f10 f11 f12 f13 f14 f15 f16 f17 f18 f19 f20 f21 fL fN fP fM fO H.size (by first | omega | assumption | decide | (have l0 := Int32.toInt_zero; omega)) (by first | omega | assumption | decide | (have l0 := Int32.toInt_zero; omega)) (by first | omega | assumption | decide | (have l0 := Int32.toInt_zero; omega)) (rl_l v84_5 (by omega)).2 (by first | omega | assumption | decide | (have l0 := Int32.toInt_zero; omega)) (by first | omega | assumption | decide | (have l0 := Int32.toInt_zero; omega))) (cwV 0 hts mg_X10_readsmq_X10_aLine_197 rfl rfl rfl (by decide +kernel) ⟨Nat.le_of_ble_eq_true rfl, Nat.le_of_ble_eq_true rfl⟩) ⟨fun a U g mk q => by obtain ⟨q0, q1, qP, qK, qD, qE0⟩ := q; exact ⟨q0, q1, qP, va_K.moved (u := U) (U := U.calling g mk a) (Vm.Alike.refl U.vm) qK, qD, sW2.call qE0⟩, va_recv hK hP (ci := 10) (q0 := 0) rfl rfl, fun U hU hW => ⟨rfl, by rw [hU], by rw [hU]; exact hP, va_K.moved hW.alike hK, hD.weaken (fun _ _ _ _ => trivial), sW2.to hSW hS hFc hW hU⟩⟩ rfl rfl hl.1 rfl (lv_room (Nat.le_of_ble_eq_true rfl)) dX10_reads_96 ⟨Nat.le_of_ble_eq_true rfl, Nat.le_of_ble_eq_true rfl⟩) hS (fun q _ h => hFc q h) hFc (fun r_49 u t H1 locs ht hvm hw hB hz1 hk1 hS => ?_)
                subst hw
                obtain ⟨x_50, x_51, x_52, x_53, x_54, x_55, f_56, hr_49_0, hr_49_1, hr_49_2, hr_49_3, hr_49_4, hr_49_5, hr_49_6, hr_49_7, hP, hK1, hD1⟩ := hB
                rw [ht] at hP
                have hD := hD1.weaken (fun k q _ h => hFc q.1 h)
                clear hz1 hk1 hFc hD1 hK1 hvm
                generalize H1 = H at hP hS ⊢
                have rg_x_50 := i_rng x_50
                have rg_x_51 := i_rng x_51
                have rg_x_52 := i_rng x_52
                have rg_x_53 := i_rng x_53
                have rg_x_54 := i_rng x_54
                have rg_x_55 := i_rng x_55
                have rg_r_49 := i_rng r_49
                have hP : va_P (dC, dI) vwCl (mW ad kc x0 x1 x2 0 i1 x_50 x_51 x_52 x_53 x_54 x10 x_55 x12 x13 x14 x15 x16 x17 x18 x19 x20 x21 f_56 f1 gt f3 f4 f5 f6 f7 f8 f9 f10 f11 f12 f13 f14 f15 f16 f17 f18 f19 f20 f21 fL fN fP fM fO) H := hP
                have hD : va_D A (mW ad kc x0 x1 x2 0 i1 x_50 x_51 x_52 x_53 x_54 x10 x_55 x12 x13 x14 x15 x16 x17 x18 x19 x20 x21 f_56 f1 gt f3 f4 f5 f6 f7 f8 f9 f10 f11 f12 f13 f14 f15 f16 f17 f18 f19 f20 f21 fL fN fP fM fO) := hD
                refine lv_istore_n (lv' := [(3, .int r_49), (0, .ref (ad 0)), (1, .int i1), (2, .int i2)]) hx hb dX10_reads_99 rfl hl (by decide) rfl (fun ls hl => ?_)
                refine lv_goto (tgt := 84) hx hb dX10_reads_100 (by decide) ?_
                exact ih84 r_49 x_50 x_51 x_52 x_53 x_54 x_55 f_56 (by first | omega | assumption | decide) hr_49_0 (v84_2.far hr_49_1) (by first | omega | assumption | decide) (by first | omega | assumption | decide) (rl_next (rl_l v84_5 (by omega)) hr_49_6) (by first | omega | assumption | decide) (by omega) _ _ ls hP hD hS (lv_sub hl [0, 1, 2, 3] rfl)
        have lit_56 : (1 : Int32).toInt = 1 := by decide
        have lit_57 : (0 : Int32).toInt = 0 := by decide
        have lit_58 : ((-1) : Int32).toInt = (-1) := by decide
        exact loop84 _ 1 x_14 x_15 x_16 0 (-1) x11 f_12 (by first | omega | assumption | decide) hdA hmA (by first | omega | assumption | decide) (by first | omega | assumption | decide) (Or.inl ⟨by decide, by have h9 := hr_13_5 0 0 0; rw [show (0 : Int32).toInt = 0 by decide] at h9; rw [hz0, hz6]; exact h9, hr_13_6⟩) (by first | omega | assumption | decide) (Nat.lt_succ_self _) _ _ ls hP hD hS (lv_sub hl [0, 1, 2, 3] rfl)
      · have tk_1 := c_nge (a := kk.toInt) (b := i1.toInt) rfl rfl k_1
        refine lv_aload_n hx hb dX10_reads_12 rfl (lv_at hl 1 rfl) ?_
        refine va_get (D := (dC, dI)) (ci := 10) (v := .ref (ad 3)) (C := RX10) (T := TX10) (N := 48) hx hb hts fin_X10_readsmq_X10 hown hK hP 0 rfl rfl 5 (by decide) (hts (.fieldLink RX10 18 "PatternGateModel" "text" "[B") (List.mem_of_getElem? (i := 19) (by decide +kernel))) (fun _ h9 => h9) rfl dX10_reads_13 ?_
        refine lv_iload_n hx hb dX10_reads_16 rfl (lv_at hl 0 rfl) ?_
        refine lv_aload_n hx hb dX10_reads_17 rfl (lv_at hl 1 rfl) ?_
        refine va_get (D := (dC, dI)) (ci := 10) (v := .ref (ad 2)) (C := RX10) (T := TX10) (N := 48) hx hb hts fin_X10_readsmq_X10 hown hK hP 0 rfl rfl 4 (by decide) (hts (.fieldLink RX10 14 "PatternGateModel" "tape" "[B") (List.mem_of_getElem? (i := 20) (by decide +kernel))) (fun _ h9 => h9) rfl dX10_reads_18 ?_
        refine lv_iload_n hx hb dX10_reads_21 rfl (lv_at hl 0 rfl) ?_
        refine va_bald hx hb hK hP 2 1 rfl rfl (i := kk) (vp_of (a := kk.toInt) rfl (by omega) (by omega)) dX10_reads_22 ?_
        refine lv_topi (fun y_60 ey_60 => ?_)
        have rg_y_60 := i_rng y_60
        have wy_60 := vI_lda (f := f1) (i := kk) (a := kk.toInt) ey_60 rfl
        refine va_bast hx hb hK hP hD hS 3 2 rfl rfl (i := kk) (vp_of (a := kk.toInt) rfl (by omega) (by omega)) dX10_reads_23 (fun H locs hP hD hS => ?_)
        generalize hf_f_61 : upd gt _ _ = f_61 at hP hD
        have uf_61 := vI_upb (a := kk.toInt) hf_f_61 (by first | omega | decide) (by omega)
        have hP : va_P (dC, dI) vwCl (mW ad kc x0 x1 x2 x3 i1 x5 x6 x7 x8 x9 x10 x11 x12 x13 x14 x15 x16 x17 x18 x19 x20 x21 f0 f1 f_61 f3 f4 f5 f6 f7 f8 f9 f10 f11 f12 f13 f14 f15 f16 f17 f18 f19 f20 f21 fL fN fP fM fO) H := hP
        have hD : va_D A (mW ad kc x0 x1 x2 x3 i1 x5 x6 x7 x8 x9 x10 x11 x12 x13 x14 x15 x16 x17 x18 x19 x20 x21 f0 f1 f_61 f3 f4 f5 f6 f7 f8 f9 f10 f11 f12 f13 f14 f15 f16 f17 f18 f19 f20 f21 fL fN fP fM fO) := hD
        obtain ⟨y_62, ey_62⟩ : ∃ y : Int32, y = kk + 1 := ⟨_, rfl⟩
        first | have ty_62 := i_add (a := kk.toInt) (b := 1) rfl (by decide) ey_62 (by omega) (by omega) | skip
        refine lv_iinc (v := y_62) (lv' := [(3, .int y_62), (0, .ref (ad 0)), (1, .int i1), (2, .int i2)]) hx hb dX10_reads_24 hl (k := 0) rfl (by rw [ey_62]; rfl) (by decide) rfl (fun ls hl => ?_)
        refine lv_goto (tgt := 7) hx hb dX10_reads_27 (by decide) ?_
        exact ih7 y_62 f_61 (by first | omega | assumption | decide) (cpb_step v7_1 uf_61 (show y_60.toInt = vI f1 kk.toInt from wy_60) (show y_62.toInt = kk.toInt + 1 by omega)) (by omega) _ _ ls hP hD hS (lv_sub hl [0, 1, 2, 3] rfl)
  have lit_62 : (0 : Int32).toInt = 0 := by decide
  exact loop7 _ 0 f2 (by first | omega | assumption | decide) (fun z a b => by have z0 := Int32.toInt_zero; omega) (Nat.lt_succ_self _) _ _ ls hP hD hS (lv_sub hl [0, 1, 2, 3] rfl)
def mwX10_actedmq : List Cond := .code yX10_acted cX10_acted 2 none :: (([.fieldLink RX10 439 "PatternGateModel" "acts" "I", .methodLink RX10 193 yX10_copies, .instanceMethod yX10_copies, .selects RX10 yX10_copies yX10_copies, .initialized RX10] : List Cond) ++ (wsX100 ++ (mwX10_copiesm)))
theorem fin_X10_actedmq_X10 : ∀ w ∈ wsX100, w ∈ mwX10_actedmq := fun w h => List.mem_cons_of_mem _ (List.mem_append_right _ (List.mem_append_left _ h))
set_option maxRecDepth 20000 in
theorem mg_X10_actedmq_X10_copies_193 : GoodIn mwX10_actedmq (wsV RX10 193 RX10 yX10_copies mwX10_copiesm) := gi_app (A := [.methodLink RX10 193 yX10_copies, .instanceMethod yX10_copies, .selects RX10 yX10_copies yX10_copies, .initialized RX10]) (goodIn_r _ [2, 3, 4, 5] (by decide +kernel) (by decide +kernel)) (gi_sub gd_mwX10_copiesm (fun w h => List.mem_cons_of_mem _ (List.mem_append_right _ (List.mem_append_right _ (h)))))
set_option maxHeartbeats 4000000 in
set_option maxRecDepth 100000 in
theorem m_acted_q (l : Launch) (dC : Nat → ClassId) (dI : Nat → Nat → Nat) (ad : Nat → Nat) (kc : Nat → ClassId) (x0 x1 x2 x3 x4 x5 x6 x7 x8 x9 x10 x11 x12 x13 x14 x15 x16 x17 x18 x19 x20 x21 : Int32) (f0 f1 f2 f3 f4 f5 f6 f7 f8 f9 f10 f11 f12 f13 f14 f15 f16 f17 f18 f19 f20 f21 : Nat → Int32) (fL : Nat → Nat → Int64) (fN : Nat → Nat → Int32) (fP : Nat → Nat → Nat) (fM : Nat → Nat → Int32) (fO : Nat → Nat → Int32) (sz : Nat) (q0 : 0 ≤ x1.toInt ∧ x1.toInt ≤ 8) (q1 : 0 ≤ x2.toInt ∧ x2.toInt ≤ 3) (q2 : OKd f0 0) (q3 : mC x1.toInt x2.toInt f0) : Met l yX10_acted mwX10_actedmq ({ frames := 1, cells := 0, slots := 0, locals := 60 }) (va_Pc [.ref (ad 0)] (fun U => U.heap.size = sz ∧ va_P (dC, dI) vwCl (mW ad kc x0 x1 x2 x3 x4 x5 x6 x7 x8 x9 x10 x11 x12 x13 x14 x15 x16 x17 x18 x19 x20 x21 f0 f1 f2 f3 f4 f5 f6 f7 f8 f9 f10 f11 f12 f13 f14 f15 f16 f17 f18 f19 f20 f21 fL fN fP fM fO) U.heap ∧ va_K (dC, dI) vwCl (mT kc) U ∧ va_D (fun _ => True) (mW ad kc x0 x1 x2 x3 x4 x5 x6 x7 x8 x9 x10 x11 x12 x13 x14 x15 x16 x17 x18 x19 x20 x21 f0 f1 f2 f3 f4 f5 f6 f7 f8 f9 f10 f11 f12 f13 f14 f15 f16 f17 f18 f19 f20 f21 fL fN fP fM fO))) (va_Qv (fun (_ : Unit) => True) (fun _ t => ∃ (y1 : Int32) (g0 : Nat → Int32), (OKd g0 0) ∧ (mC y1.toInt x2.toInt g0) ∧ (1 ≤ y1.toInt ∧ y1.toInt ≤ 8) ∧ (vI g0 0 = vI f0 0) ∧ va_P (dC, dI) vwCl (mW ad kc x0 y1 x2 x3 x4 x5 x6 x7 x8 x9 x10 x11 x12 x13 x14 x15 x16 x17 x18 x19 x20 x21 g0 f1 f2 f3 f4 f5 f6 f7 f8 f9 f10 f11 f12 f13 f14 f15 f16 f17 f18 f19 f20 f21 fL fN fP fM fO) t.heap ∧ va_K (dC, dI) vwCl (mT kc) t ∧ va_D (va_A (mW ad kc x0 x1 x2 x3 x4 x5 x6 x7 x8 x9 x10 x11 x12 x13 x14 x15 x16 x17 x18 x19 x20 x21 f0 f1 f2 f3 f4 f5 f6 f7 f8 f9 f10 f11 f12 f13 f14 f15 f16 f17 f18 f19 f20 f21 fL fN fP fM fO) sz) (mW ad kc x0 y1 x2 x3 x4 x5 x6 x7 x8 x9 x10 x11 x12 x13 x14 x15 x16 x17 x18 x19 x20 x21 g0 f1 f2 f3 f4 f5 f6 f7 f8 f9 f10 f11 f12 f13 f14 f15 f16 f17 f18 f19 f20 f21 fL fN fP fM fO)) (va_A (mW ad kc x0 x1 x2 x3 x4 x5 x6 x7 x8 x9 x10 x11 x12 x13 x14 x15 x16 x17 x18 x19 x20 x21 f0 f1 f2 f3 f4 f5 f6 f7 f8 f9 f10 f11 f12 f13 f14 f15 f16 f17 f18 f19 f20 f21 fL fN fP fM fO) sz)) 0 0 (va_A (mW ad kc x0 x1 x2 x3 x4 x5 x6 x7 x8 x9 x10 x11 x12 x13 x14 x15 x16 x17 x18 x19 x20 x21 f0 f1 f2 f3 f4 f5 f6 f7 f8 f9 f10 f11 f12 f13 f14 f15 f16 f17 f18 f19 f20 f21 fL fN fP fM fO) sz) := by
  refine Met.ofW (cc := cX10_acted) (maxL := 2) (ret := none) (by decide +kernel) rfl ?_
  intro p e s m args below meth c s₁ B hml hv
  obtain ⟨rfl, hsz, hP, hK, hD0⟩ := hv
  have hx := B.exec
  have hb := B.bytes
  have hr := B.returns
  have hts := atoms_spec (ws := mwX10_actedmq) B.pre
  have hown : s.vm.findClass RX10 = some m.cls := findClass_of_methodNamed B.named
  have hlocks := B.notSynchronized
  subst hsz
  have hD := hD0.self (sz := s.heap.size)
  generalize hAe : va_A (mW ad kc x0 x1 x2 x3 x4 x5 x6 x7 x8 x9 x10 x11 x12 x13 x14 x15 x16 x17 x18 x19 x20 x21 f0 f1 f2 f3 f4 f5 f6 f7 f8 f9 f10 f11 f12 f13 f14 f15 f16 f17 f18 f19 f20 f21 fL fN fP fM fO) s.heap.size = A at hD ⊢
  have hA : ∀ q : Nat, s.heap.size ≤ q → A q := fun q h => by rw [← hAe]; exact Or.inr h
  have hP : va_P (dC, dI) vwCl (mW ad kc x0 x1 x2 x3 x4 x5 x6 x7 x8 x9 x10 x11 x12 x13 x14 x15 x16 x17 x18 x19 x20 x21 f0 f1 f2 f3 f4 f5 f6 f7 f8 f9 f10 f11 f12 f13 f14 f15 f16 f17 f18 f19 f20 f21 fL fN fP fM fO) s.heap := hP
  have hD : va_D A (mW ad kc x0 x1 x2 x3 x4 x5 x6 x7 x8 x9 x10 x11 x12 x13 x14 x15 x16 x17 x18 x19 x20 x21 f0 f1 f2 f3 f4 f5 f6 f7 f8 f9 f10 f11 f12 f13 f14 f15 f16 f17 f18 f19 f20 f21 fL fN fP fM fO) := hD
  have hK : va_K (dC, dI) vwCl (mT kc) s := hK
  generalize hH : s.heap = H at hP ⊢
  have hS : va_S A s.heap H [] := by rw [← hH]; exact va_S.rf
  have hl := lv_entry ([.ref (ad 0)]) (n := 2) (Nat.le_of_ble_eq_true rfl)
  rw [lg_entry_eq]
  generalize (lg_sl ([.ref (ad 0)]) ++ List.replicate (2 - (lg_sl ([.ref (ad 0)])).length) Slot.unset).toArray = ls at hl ⊢
  have hl : lv_has ls 2 [(0, .ref (ad 0))] := hl
  refine lv_aload_n hx hb dX10_acted_0 rfl (lv_at hl 0 rfl) ?_
  refine va_get (D := (dC, dI)) (ci := 10) (v := .int x1) (C := RX10) (T := TX10) (N := 48) hx hb hts fin_X10_actedmq_X10 hown hK hP 0 rfl rfl 2 (by decide) (hts (.fieldLink RX10 439 "PatternGateModel" "acts" "I") (List.mem_of_getElem? (i := 1) (by decide +kernel))) (fun _ h9 => h9) rfl dX10_acted_1 ?_
  refine lv_bipush (v := 8) hx hb dX10_acted_4 (by decide) ?_
  refine lv_icmp_ne (tgt := 57) hx hb dX10_acted_6 (by decide) (fun k_1 => ?_) (fun k_1 => ?_)
  · have tk_1 := c_ne (a := x1.toInt) (b := 8) rfl (by decide) k_1
    refine lv_aload_n hx hb dX10_acted_57 rfl (lv_at hl 0 rfl) ?_
    refine lv_sipush (v := 7820) hx hb dX10_acted_58 (by decide) ?_
    refine lv_sipush (v := 15640) hx hb dX10_acted_61 (by decide) ?_
    refine lv_sipush (v := 7820) hx hb dX10_acted_64 (by decide) ?_
    refine lv_aload_n hx hb dX10_acted_67 rfl (lv_at hl 0 rfl) ?_
    refine va_get (D := (dC, dI)) (ci := 10) (v := .int x1) (C := RX10) (T := TX10) (N := 48) hx hb hts fin_X10_actedmq_X10 hown hK hP 0 rfl rfl 2 (by decide) (hts (.fieldLink RX10 439 "PatternGateModel" "acts" "I") (List.mem_of_getElem? (i := 1) (by decide +kernel))) (fun _ h9 => h9) rfl dX10_acted_68 ?_
    refine lv_imul hx hb dX10_acted_71 ?_
    refine lv_topi (fun y_2 ey_2 => ?_)
    first | have ty_2 := i_mul (a := 7820) (b := x1.toInt) (by decide) rfl ey_2 (by omega) (by omega) | skip
    refine lv_iadd hx hb dX10_acted_72 ?_
    refine lv_topi (fun y_3 ey_3 => ?_)
    first | have ty_3 := i_add (a := 15640) (b := y_2.toInt) (by decide) rfl ey_3 (by omega) (by omega) | skip
    have lit_3 : (7820 : Int32).toInt = 7820 := by decide
    have hFc := m_free hD hS hA
    refine va_callv (va_runV (As := [.int 7820, .int y_3]) (rest := []) ⟨hx, hb, hml, hown, hts⟩ (m_copies l dC dI ad kc x0 x1 x2 x3 x4 x5 x6 x7 x8 x9 x10 x11 x12 x13 x14 x15 x16 x17 x18 x19 x20 x21 f0 f1 f2 f3 f4 f5 f6 f7 f8 f9 f10 f11 f12 f13 f14 f15 f16 f17 f18 f19 f20 f21 fL fN fP fM fO H.size 7820 y_3 (by first | omega | assumption | decide | (have l0 := Int32.toInt_zero; omega)) (by first | omega | assumption | decide | (have l0 := Int32.toInt_zero; omega)) (by first | omega | assumption | decide | (have l0 := Int32.toInt_zero; omega)) (by first | omega | assumption | decide | (have l0 := Int32.toInt_zero; omega)) (by first | omega | assumption | decide | (have l0 := Int32.toInt_zero; omega))) (cwV 2 hts mg_X10_actedmq_X10_copies_193 rfl rfl rfl (by decide +kernel) ⟨Nat.le_of_ble_eq_true rfl, Nat.le_of_ble_eq_true rfl⟩) ⟨fun a U g mk q => by obtain ⟨q0, q1, qP, qK, qD⟩ := q; exact ⟨q0, q1, qP, va_K.moved (u := U) (U := U.calling g mk a) (Vm.Alike.refl U.vm) qK, qD⟩, va_recv hK hP (ci := 10) (q0 := 0) rfl rfl, fun U hU hW => ⟨rfl, by rw [hU], by rw [hU]; exact hP, va_K.moved hW.alike hK, hD.weaken (fun _ _ _ _ => trivial)⟩⟩ rfl rfl hl.1 rfl (lv_room (Nat.le_of_ble_eq_true rfl)) dX10_acted_73 ⟨Nat.le_of_ble_eq_true rfl, Nat.le_of_ble_eq_true rfl⟩) hS (fun q _ h => hFc q h) hFc (fun u t H1 locs ht hvm hw hB hz1 hk1 hS => ?_)
    obtain ⟨f_6, hr_5_0, hP, hK1, hD1⟩ := hB
    rw [ht] at hP
    have hD := hD1.weaken (fun k q _ h => hFc q.1 h)
    clear hz1 hk1 hFc hD1 hK1 hvm
    generalize H1 = H at hP hS ⊢
    have hP : va_P (dC, dI) vwCl (mW ad kc x0 x1 x2 x3 x4 x5 x6 x7 x8 x9 x10 x11 x12 x13 x14 x15 x16 x17 x18 x19 x20 x21 f_6 f1 f2 f3 f4 f5 f6 f7 f8 f9 f10 f11 f12 f13 f14 f15 f16 f17 f18 f19 f20 f21 fL fN fP fM fO) H := hP
    have hD : va_D A (mW ad kc x0 x1 x2 x3 x4 x5 x6 x7 x8 x9 x10 x11 x12 x13 x14 x15 x16 x17 x18 x19 x20 x21 f_6 f1 f2 f3 f4 f5 f6 f7 f8 f9 f10 f11 f12 f13 f14 f15 f16 f17 f18 f19 f20 f21 fL fN fP fM fO) := hD
    have hc8 : CP f0 f_6 7820 (15640 + 7820 * x1.toInt) := by have h9 := hr_5_0; rw [(show (7820 : Int32).toInt = 7820 by decide), show y_3.toInt = 15640 + 7820 * x1.toInt by omega] at h9; exact h9
    refine lv_aload_n hx hb dX10_acted_76 rfl (lv_at hl 0 rfl) ?_
    refine lv_dup hx hb dX10_acted_77 rfl ?_
    refine va_get (D := (dC, dI)) (ci := 10) (v := .int x1) (C := RX10) (T := TX10) (N := 48) hx hb hts fin_X10_actedmq_X10 hown hK hP 0 rfl rfl 2 (by decide) (hts (.fieldLink RX10 439 "PatternGateModel" "acts" "I") (List.mem_of_getElem? (i := 1) (by decide +kernel))) (fun _ h9 => h9) rfl dX10_acted_78 ?_
    refine lv_iconst (v := 1) hx hb dX10_acted_81 (by decide) ?_
    refine lv_iadd hx hb dX10_acted_82 ?_
    refine lv_topi (fun y_7 ey_7 => ?_)
    first | have ty_7 := i_add (a := x1.toInt) (b := 1) rfl (by decide) ey_7 (by omega) (by omega) | skip
    refine va_put (D := (dC, dI)) (ci := 10) (v := .int y_7) (ty := .int) (C := RX10) (T := TX10) (N := 48) hx hb hts fin_X10_actedmq_X10 tyX10 tyX10_ok nmX10 hown hK hP hD hS 0 rfl rfl 2 (by decide) (hts (.fieldLink RX10 439 "PatternGateModel" "acts" "I") (List.mem_of_getElem? (i := 1) (by decide +kernel))) (fun _ h9 => h9) rfl (by decide +kernel) rfl rfl (Nat.le_of_ble_eq_true rfl) dX10_acted_83 (fun H locs hP hD hS => ?_)
    have hP : va_P (dC, dI) vwCl (mW ad kc x0 y_7 x2 x3 x4 x5 x6 x7 x8 x9 x10 x11 x12 x13 x14 x15 x16 x17 x18 x19 x20 x21 f_6 f1 f2 f3 f4 f5 f6 f7 f8 f9 f10 f11 f12 f13 f14 f15 f16 f17 f18 f19 f20 f21 fL fN fP fM fO) H := hP
    have hD : va_D A (mW ad kc x0 y_7 x2 x3 x4 x5 x6 x7 x8 x9 x10 x11 x12 x13 x14 x15 x16 x17 x18 x19 x20 x21 f_6 f1 f2 f3 f4 f5 f6 f7 f8 f9 f10 f11 f12 f13 f14 f15 f16 f17 f18 f19 f20 f21 fL fN fP fM fO) := hD
    exact W.vret hx hb hr (fun t ht hW => ⟨⟨(), rfl, trivial, y_7, f_6, (hc8.else_ (by omega) (by omega) q2), (by rw [show y_7.toInt = x1.toInt + 1 by omega]; exact q3.add hc8 (by omega) (by omega)), (by first | omega | assumption | rfl | decide), (by rw [hc8 0 (by omega), if_neg (by omega)]), by rw [ht]; exact hP, va_K.moved hW.alike hK, hD⟩, hS.F ht⟩) hS.2.2 dX10_acted_86
  · have tk_1 := c_eq (a := x1.toInt) (b := 8) rfl (by decide) k_1
    refine lv_iconst (v := 1) hx hb dX10_acted_9 (by decide) ?_
    refine lv_istore_n (lv' := [(1, .int 1), (0, .ref (ad 0))]) hx hb dX10_acted_10 rfl hl (by decide) rfl (fun ls hl => ?_)
    have loop11 : ∀ (lm11 : Nat) (kk : Int32) (ga : Nat → Int32), (1 ≤ kk.toInt ∧ kk.toInt ≤ 8) → (OKd ga 0) → (mC 8 x2.toInt ga) → (vI ga 0 = vI f0 0) → ((8 - kk.toInt).toNat) < lm11 → ∀ (H : Heap) (locs : List Loc) (ls : Array Slot), va_P (dC, dI) vwCl (mW ad kc x0 x1 x2 x3 x4 x5 x6 x7 x8 x9 x10 x11 x12 x13 x14 x15 x16 x17 x18 x19 x20 x21 ga f1 f2 f3 f4 f5 f6 f7 f8 f9 f10 f11 f12 f13 f14 f15 f16 f17 f18 f19 f20 f21 fL fN fP fM fO) H → va_D A (mW ad kc x0 x1 x2 x3 x4 x5 x6 x7 x8 x9 x10 x11 x12 x13 x14 x15 x16 x17 x18 x19 x20 x21 ga f1 f2 f3 f4 f5 f6 f7 f8 f9 f10 f11 f12 f13 f14 f15 f16 f17 f18 f19 f20 f21 fL fN fP fM fO) → va_S A s.heap H locs → lv_has ls 2 [(1, .int kk), (0, .ref (ad 0))] → W p l e (headSpec mwX10_actedmq ({ frames := 1, cells := 0, slots := 0, locals := 60 })).room s m ([.ref (ad 0)]).toArray below meth c H locs 0 0 (MQ below (va_Qv (fun (_ : Unit) => True) (fun _ t => ∃ (y1 : Int32) (g0 : Nat → Int32), (OKd g0 0) ∧ (mC y1.toInt x2.toInt g0) ∧ (1 ≤ y1.toInt ∧ y1.toInt ≤ 8) ∧ (vI g0 0 = vI f0 0) ∧ va_P (dC, dI) vwCl (mW ad kc x0 y1 x2 x3 x4 x5 x6 x7 x8 x9 x10 x11 x12 x13 x14 x15 x16 x17 x18 x19 x20 x21 g0 f1 f2 f3 f4 f5 f6 f7 f8 f9 f10 f11 f12 f13 f14 f15 f16 f17 f18 f19 f20 f21 fL fN fP fM fO) t.heap ∧ va_K (dC, dI) vwCl (mT kc) t ∧ va_D A (mW ad kc x0 y1 x2 x3 x4 x5 x6 x7 x8 x9 x10 x11 x12 x13 x14 x15 x16 x17 x18 x19 x20 x21 g0 f1 f2 f3 f4 f5 f6 f7 f8 f9 f10 f11 f12 f13 f14 f15 f16 f17 f18 f19 f20 f21 fL fN fP fM fO)) A) ([.ref (ad 0)]).toArray s 0 0 A) (F0 m 11 ls []) := by
      intro lm11
      induction lm11 with
      | zero => intro kk ga v11_0 v11_1 v11_2 v11_3 hm11; exact absurd hm11 (Nat.not_lt_zero _)
      | succ lm11 ih11 =>
        intro kk ga v11_0 v11_1 v11_2 v11_3 hm11 H locs ls hP hD hS hl
        have rg_kk := i_rng kk
        refine lv_iload_n hx hb dX10_acted_11 rfl (lv_at hl 0 rfl) ?_
        refine lv_bipush (v := 8) hx hb dX10_acted_12 (by decide) ?_
        refine lv_icmp_ge (tgt := 47) hx hb dX10_acted_14 (by decide) (fun k_8 => ?_) (fun k_8 => ?_)
        · have tk_8 := c_ge (a := kk.toInt) (b := 8) rfl (by decide) k_8
          refine lv_aload_n hx hb dX10_acted_47 rfl (lv_at hl 1 rfl) ?_
          refine lv_dup hx hb dX10_acted_48 rfl ?_
          refine va_get (D := (dC, dI)) (ci := 10) (v := .int x1) (C := RX10) (T := TX10) (N := 48) hx hb hts fin_X10_actedmq_X10 hown hK hP 0 rfl rfl 2 (by decide) (hts (.fieldLink RX10 439 "PatternGateModel" "acts" "I") (List.mem_of_getElem? (i := 1) (by decide +kernel))) (fun _ h9 => h9) rfl dX10_acted_49 ?_
          refine lv_iconst (v := 1) hx hb dX10_acted_52 (by decide) ?_
          refine lv_isub hx hb dX10_acted_53 ?_
          refine lv_topi (fun y_9 ey_9 => ?_)
          first | have ty_9 := i_sub (a := x1.toInt) (b := 1) rfl (by decide) ey_9 (by omega) (by omega) | skip
          refine va_put (D := (dC, dI)) (ci := 10) (v := .int y_9) (ty := .int) (C := RX10) (T := TX10) (N := 48) hx hb hts fin_X10_actedmq_X10 tyX10 tyX10_ok nmX10 hown hK hP hD hS 0 rfl rfl 2 (by decide) (hts (.fieldLink RX10 439 "PatternGateModel" "acts" "I") (List.mem_of_getElem? (i := 1) (by decide +kernel))) (fun _ h9 => h9) rfl (by decide +kernel) rfl rfl (Nat.le_of_ble_eq_true rfl) dX10_acted_54 (fun H locs hP hD hS => ?_)
          have hP : va_P (dC, dI) vwCl (mW ad kc x0 y_9 x2 x3 x4 x5 x6 x7 x8 x9 x10 x11 x12 x13 x14 x15 x16 x17 x18 x19 x20 x21 ga f1 f2 f3 f4 f5 f6 f7 f8 f9 f10 f11 f12 f13 f14 f15 f16 f17 f18 f19 f20 f21 fL fN fP fM fO) H := hP
          have hD : va_D A (mW ad kc x0 y_9 x2 x3 x4 x5 x6 x7 x8 x9 x10 x11 x12 x13 x14 x15 x16 x17 x18 x19 x20 x21 ga f1 f2 f3 f4 f5 f6 f7 f8 f9 f10 f11 f12 f13 f14 f15 f16 f17 f18 f19 f20 f21 fL fN fP fM fO) := hD
          refine lv_aload_n hx hb dX10_acted_57 rfl (lv_at hl 1 rfl) ?_
          refine lv_sipush (v := 7820) hx hb dX10_acted_58 (by decide) ?_
          refine lv_sipush (v := 15640) hx hb dX10_acted_61 (by decide) ?_
          refine lv_sipush (v := 7820) hx hb dX10_acted_64 (by decide) ?_
          refine lv_aload_n hx hb dX10_acted_67 rfl (lv_at hl 1 rfl) ?_
          refine va_get (D := (dC, dI)) (ci := 10) (v := .int y_9) (C := RX10) (T := TX10) (N := 48) hx hb hts fin_X10_actedmq_X10 hown hK hP 0 rfl rfl 2 (by decide) (hts (.fieldLink RX10 439 "PatternGateModel" "acts" "I") (List.mem_of_getElem? (i := 1) (by decide +kernel))) (fun _ h9 => h9) rfl dX10_acted_68 ?_
          refine lv_imul hx hb dX10_acted_71 ?_
          refine lv_topi (fun y_10 ey_10 => ?_)
          first | have ty_10 := i_mul (a := 7820) (b := y_9.toInt) (by decide) rfl ey_10 (by omega) (by omega) | skip
          refine lv_iadd hx hb dX10_acted_72 ?_
          refine lv_topi (fun y_11 ey_11 => ?_)
          first | have ty_11 := i_add (a := 15640) (b := y_10.toInt) (by decide) rfl ey_11 (by omega) (by omega) | skip
          have lit_11 : (7820 : Int32).toInt = 7820 := by decide
          have hFc := m_free hD hS hA
          refine va_callv (va_runV (As := [.int 7820, .int y_11]) (rest := []) ⟨hx, hb, hml, hown, hts⟩ (m_copies l dC dI ad kc x0 y_9 x2 x3 x4 x5 x6 x7 x8 x9 x10 x11 x12 x13 x14 x15 x16 x17 x18 x19 x20 x21 ga f1 f2 f3 f4 f5 f6 f7 f8 f9 f10 f11 f12 f13 f14 f15 f16 f17 f18 f19 f20 f21 fL fN fP fM fO H.size 7820 y_11 (by first | omega | assumption | decide | (have l0 := Int32.toInt_zero; omega)) (by first | omega | assumption | decide | (have l0 := Int32.toInt_zero; omega)) (by first | omega | assumption | decide | (have l0 := Int32.toInt_zero; omega)) (by first | omega | assumption | decide | (have l0 := Int32.toInt_zero; omega)) (by first | omega | assumption | decide | (have l0 := Int32.toInt_zero; omega))) (cwV 2 hts mg_X10_actedmq_X10_copies_193 rfl rfl rfl (by decide +kernel) ⟨Nat.le_of_ble_eq_true rfl, Nat.le_of_ble_eq_true rfl⟩) ⟨fun a U g mk q => by obtain ⟨q0, q1, qP, qK, qD⟩ := q; exact ⟨q0, q1, qP, va_K.moved (u := U) (U := U.calling g mk a) (Vm.Alike.refl U.vm) qK, qD⟩, va_recv hK hP (ci := 10) (q0 := 0) rfl rfl, fun U hU hW => ⟨rfl, by rw [hU], by rw [hU]; exact hP, va_K.moved hW.alike hK, hD.weaken (fun _ _ _ _ => trivial)⟩⟩ rfl rfl hl.1 rfl (lv_room (Nat.le_of_ble_eq_true rfl)) dX10_acted_73 ⟨Nat.le_of_ble_eq_true rfl, Nat.le_of_ble_eq_true rfl⟩) hS (fun q _ h => hFc q h) hFc (fun u t H1 locs ht hvm hw hB hz1 hk1 hS => ?_)
          obtain ⟨f_14, hr_13_0, hP, hK1, hD1⟩ := hB
          rw [ht] at hP
          have hD := hD1.weaken (fun k q _ h => hFc q.1 h)
          clear hz1 hk1 hFc hD1 hK1 hvm
          generalize H1 = H at hP hS ⊢
          have hP : va_P (dC, dI) vwCl (mW ad kc x0 y_9 x2 x3 x4 x5 x6 x7 x8 x9 x10 x11 x12 x13 x14 x15 x16 x17 x18 x19 x20 x21 f_14 f1 f2 f3 f4 f5 f6 f7 f8 f9 f10 f11 f12 f13 f14 f15 f16 f17 f18 f19 f20 f21 fL fN fP fM fO) H := hP
          have hD : va_D A (mW ad kc x0 y_9 x2 x3 x4 x5 x6 x7 x8 x9 x10 x11 x12 x13 x14 x15 x16 x17 x18 x19 x20 x21 f_14 f1 f2 f3 f4 f5 f6 f7 f8 f9 f10 f11 f12 f13 f14 f15 f16 f17 f18 f19 f20 f21 fL fN fP fM fO) := hD
          have hc8 : CP ga f_14 7820 (15640 + 7820 * y_9.toInt) := by have h9 := hr_13_0; rw [(show (7820 : Int32).toInt = 7820 by decide), show y_11.toInt = 15640 + 7820 * y_9.toInt by omega] at h9; exact h9
          refine lv_aload_n hx hb dX10_acted_76 rfl (lv_at hl 1 rfl) ?_
          refine lv_dup hx hb dX10_acted_77 rfl ?_
          refine va_get (D := (dC, dI)) (ci := 10) (v := .int y_9) (C := RX10) (T := TX10) (N := 48) hx hb hts fin_X10_actedmq_X10 hown hK hP 0 rfl rfl 2 (by decide) (hts (.fieldLink RX10 439 "PatternGateModel" "acts" "I") (List.mem_of_getElem? (i := 1) (by decide +kernel))) (fun _ h9 => h9) rfl dX10_acted_78 ?_
          refine lv_iconst (v := 1) hx hb dX10_acted_81 (by decide) ?_
          refine lv_iadd hx hb dX10_acted_82 ?_
          refine lv_topi (fun y_15 ey_15 => ?_)
          first | have ty_15 := i_add (a := y_9.toInt) (b := 1) rfl (by decide) ey_15 (by omega) (by omega) | skip
          refine va_put (D := (dC, dI)) (ci := 10) (v := .int y_15) (ty := .int) (C := RX10) (T := TX10) (N := 48) hx hb hts fin_X10_actedmq_X10 tyX10 tyX10_ok nmX10 hown hK hP hD hS 0 rfl rfl 2 (by decide) (hts (.fieldLink RX10 439 "PatternGateModel" "acts" "I") (List.mem_of_getElem? (i := 1) (by decide +kernel))) (fun _ h9 => h9) rfl (by decide +kernel) rfl rfl (Nat.le_of_ble_eq_true rfl) dX10_acted_83 (fun H locs hP hD hS => ?_)
          have hP : va_P (dC, dI) vwCl (mW ad kc x0 y_15 x2 x3 x4 x5 x6 x7 x8 x9 x10 x11 x12 x13 x14 x15 x16 x17 x18 x19 x20 x21 f_14 f1 f2 f3 f4 f5 f6 f7 f8 f9 f10 f11 f12 f13 f14 f15 f16 f17 f18 f19 f20 f21 fL fN fP fM fO) H := hP
          have hD : va_D A (mW ad kc x0 y_15 x2 x3 x4 x5 x6 x7 x8 x9 x10 x11 x12 x13 x14 x15 x16 x17 x18 x19 x20 x21 f_14 f1 f2 f3 f4 f5 f6 f7 f8 f9 f10 f11 f12 f13 f14 f15 f16 f17 f18 f19 f20 f21 fL fN fP fM fO) := hD
          exact W.vret hx hb hr (fun t ht hW => ⟨⟨(), rfl, trivial, y_15, f_14, (hc8.else_ (by omega) (by omega) v11_1), (by rw [show y_15.toInt = y_9.toInt + 1 by omega]; exact (v11_2.less (show y_9.toInt ≤ 8 by omega)).add hc8 (by omega) (by omega)), (by first | omega | assumption | rfl | decide), (by rw [hc8 0 (by omega), if_neg (by omega)]; exact v11_3), by rw [ht]; exact hP, va_K.moved hW.alike hK, hD⟩, hS.F ht⟩) hS.2.2 dX10_acted_86
        · have tk_8 := c_nge (a := kk.toInt) (b := 8) rfl (by decide) k_8
          refine lv_aload_n hx hb dX10_acted_17 rfl (lv_at hl 1 rfl) ?_
          refine lv_sipush (v := 15640) hx hb dX10_acted_18 (by decide) ?_
          refine lv_sipush (v := 7820) hx hb dX10_acted_21 (by decide) ?_
          refine lv_iload_n hx hb dX10_acted_24 rfl (lv_at hl 0 rfl) ?_
          refine lv_imul hx hb dX10_acted_25 ?_
          refine lv_topi (fun y_16 ey_16 => ?_)
          first | have ty_16 := i_mul (a := 7820) (b := kk.toInt) (by decide) rfl ey_16 (by omega) (by omega) | skip
          refine lv_iadd hx hb dX10_acted_26 ?_
          refine lv_topi (fun y_17 ey_17 => ?_)
          first | have ty_17 := i_add (a := 15640) (b := y_16.toInt) (by decide) rfl ey_17 (by omega) (by omega) | skip
          refine lv_sipush (v := 15640) hx hb dX10_acted_27 (by decide) ?_
          refine lv_sipush (v := 7820) hx hb dX10_acted_30 (by decide) ?_
          refine lv_iload_n hx hb dX10_acted_33 rfl (lv_at hl 0 rfl) ?_
          refine lv_iconst (v := 1) hx hb dX10_acted_34 (by decide) ?_
          refine lv_isub hx hb dX10_acted_35 ?_
          refine lv_topi (fun y_18 ey_18 => ?_)
          first | have ty_18 := i_sub (a := kk.toInt) (b := 1) rfl (by decide) ey_18 (by omega) (by omega) | skip
          refine lv_imul hx hb dX10_acted_36 ?_
          refine lv_topi (fun y_19 ey_19 => ?_)
          first | have ty_19 := i_mul (a := 7820) (b := y_18.toInt) (by decide) rfl ey_19 (by omega) (by omega) | skip
          refine lv_iadd hx hb dX10_acted_37 ?_
          refine lv_topi (fun y_20 ey_20 => ?_)
          first | have ty_20 := i_add (a := 15640) (b := y_19.toInt) (by decide) rfl ey_20 (by omega) (by omega) | skip
          have hFc := m_free hD hS hA
          refine va_callv (va_runV (As := [.int y_17, .int y_20]) (rest := []) ⟨hx, hb, hml, hown, hts⟩ (m_copies l dC dI ad kc x0 x1 x2 x3 x4 x5 x6 x7 x8 x9 x10 x11 x12 x13 x14 x15 x16 x17 x18 x19 x20 x21 ga f1 f2 f3 f4 f5 f6 f7 f8 f9 f10 f11 f12 f13 f14 f15 f16 f17 f18 f19 f20 f21 fL fN fP fM fO H.size y_17 y_20 (by first | omega | assumption | decide | (have l0 := Int32.toInt_zero; omega)) (by first | omega | assumption | decide | (have l0 := Int32.toInt_zero; omega)) (by first | omega | assumption | decide | (have l0 := Int32.toInt_zero; omega)) (by first | omega | assumption | decide | (have l0 := Int32.toInt_zero; omega)) (by first | omega | assumption | decide | (have l0 := Int32.toInt_zero; omega))) (cwV 2 hts mg_X10_actedmq_X10_copies_193 rfl rfl rfl (by decide +kernel) ⟨Nat.le_of_ble_eq_true rfl, Nat.le_of_ble_eq_true rfl⟩) ⟨fun a U g mk q => by obtain ⟨q0, q1, qP, qK, qD⟩ := q; exact ⟨q0, q1, qP, va_K.moved (u := U) (U := U.calling g mk a) (Vm.Alike.refl U.vm) qK, qD⟩, va_recv hK hP (ci := 10) (q0 := 0) rfl rfl, fun U hU hW => ⟨rfl, by rw [hU], by rw [hU]; exact hP, va_K.moved hW.alike hK, hD.weaken (fun _ _ _ _ => trivial)⟩⟩ rfl rfl hl.1 rfl (lv_room (Nat.le_of_ble_eq_true rfl)) dX10_acted_38 ⟨Nat.le_of_ble_eq_true rfl, Nat.le_of_ble_eq_true rfl⟩) hS (fun q _ h => hFc q h) hFc (fun u t H1 locs ht hvm hw hB hz1 hk1 hS => ?_)
          obtain ⟨f_22, hr_21_0, hP, hK1, hD1⟩ := hB
          rw [ht] at hP
          have hD := hD1.weaken (fun k q _ h => hFc q.1 h)
          clear hz1 hk1 hFc hD1 hK1 hvm
          generalize H1 = H at hP hS ⊢
          have hP : va_P (dC, dI) vwCl (mW ad kc x0 x1 x2 x3 x4 x5 x6 x7 x8 x9 x10 x11 x12 x13 x14 x15 x16 x17 x18 x19 x20 x21 f_22 f1 f2 f3 f4 f5 f6 f7 f8 f9 f10 f11 f12 f13 f14 f15 f16 f17 f18 f19 f20 f21 fL fN fP fM fO) H := hP
          have hD : va_D A (mW ad kc x0 x1 x2 x3 x4 x5 x6 x7 x8 x9 x10 x11 x12 x13 x14 x15 x16 x17 x18 x19 x20 x21 f_22 f1 f2 f3 f4 f5 f6 f7 f8 f9 f10 f11 f12 f13 f14 f15 f16 f17 f18 f19 f20 f21 fL fN fP fM fO) := hD
          have hc9 : CP ga f_22 (15640 + 7820 * kk.toInt) (15640 + 7820 * (kk.toInt - 1)) := by have h9 := hr_21_0; rw [show y_17.toInt = 15640 + 7820 * kk.toInt by omega, show y_20.toInt = 15640 + 7820 * (kk.toInt - 1) by omega] at h9; exact h9
          obtain ⟨y_23, ey_23⟩ : ∃ y : Int32, y = kk + 1 := ⟨_, rfl⟩
          first | have ty_23 := i_add (a := kk.toInt) (b := 1) rfl (by decide) ey_23 (by omega) (by omega) | skip
          refine lv_iinc (v := y_23) (lv' := [(1, .int y_23), (0, .ref (ad 0))]) hx hb dX10_acted_41 hl (k := 0) rfl (by rw [ey_23]; rfl) (by decide) rfl (fun ls hl => ?_)
          refine lv_goto (tgt := 11) hx hb dX10_acted_44 (by decide) ?_
          exact ih11 y_23 f_22 (by first | omega | assumption | decide) (hc9.else_ (by omega) (by omega) v11_1) (v11_2.shift hc9 (by omega) (by omega) (by omega)) (by rw [hc9 0 (by omega), if_neg (by omega)]; exact v11_3) (by omega) _ _ ls hP hD hS (lv_sub hl [0, 1] rfl)
    have lit_23 : (1 : Int32).toInt = 1 := by decide
    exact loop11 _ 1 f0 (by first | omega | assumption | decide) q2 (by have h9 := q3; rw [show x1.toInt = 8 by omega] at h9; exact h9) rfl (Nat.lt_succ_self _) _ _ ls hP hD hS (lv_sub hl [0, 1] rfl)
def mwX10_loadmq : List Cond := .code yX10_load cX10_load 2 (some .int) :: (([.fieldLink RX10 107 "PatternGateModel" "taped" "I", .methodLink RX10 200 yX10_isFrom, .static yX10_isFrom, .initialized RX10, .methodLink RX10 207 yX10_reads, .instanceMethod yX10_reads, .selects RX10 yX10_reads yX10_reads, .methodLink RX10 211 yX10_acted, .instanceMethod yX10_acted, .selects RX10 yX10_acted yX10_acted, .fieldLink RX10 8 "PatternGateModel" "all" "[I", .methodLink RX10 214 yX10_gives, .instanceMethod yX10_gives, .selects RX10 yX10_gives yX10_gives, .methodLink RX10 204 yX10_refuse, .instanceMethod yX10_refuse, .selects RX10 yX10_refuse yX10_refuse] : List Cond) ++ (wsX100 ++ (mwX10_isFromm ++ (mwX10_readsmq ++ (mwX10_actedmq ++ (mwX10_givesm ++ (mwX10_refusem)))))))
theorem fin_X10_loadmq_X10 : ∀ w ∈ wsX100, w ∈ mwX10_loadmq := fun w h => List.mem_cons_of_mem _ (List.mem_append_right _ (List.mem_append_left _ h))
set_option maxRecDepth 100000 in
theorem gd_mwX10_readsmq : mwX10_readsmq.all goodWord = true := by decide +kernel
set_option maxRecDepth 100000 in
theorem gd_mwX10_actedmq : mwX10_actedmq.all goodWord = true := by decide +kernel
set_option maxRecDepth 20000 in
theorem mg_X10_loadmq_X10_isFrom_200 : GoodIn mwX10_loadmq (va_wsS RX10 200 yX10_isFrom mwX10_isFromm) := gi_app (A := [.methodLink RX10 200 yX10_isFrom, .static yX10_isFrom, .initialized RX10]) (goodIn_r _ [2, 3, 4] (by decide +kernel) (by decide +kernel)) (gi_sub gd_mwX10_isFromm (fun w h => List.mem_cons_of_mem _ (List.mem_append_right _ (List.mem_append_right _ (List.mem_append_left _ h)))))
set_option maxRecDepth 20000 in
theorem mg_X10_loadmq_X10_reads_207 : GoodIn mwX10_loadmq (wsV RX10 207 RX10 yX10_reads mwX10_readsmq) := gi_app (A := [.methodLink RX10 207 yX10_reads, .instanceMethod yX10_reads, .selects RX10 yX10_reads yX10_reads, .initialized RX10]) (goodIn_r _ [5, 6, 7, 4] (by decide +kernel) (by decide +kernel)) (gi_sub gd_mwX10_readsmq (fun w h => List.mem_cons_of_mem _ (List.mem_append_right _ (List.mem_append_right _ (List.mem_append_right _ (List.mem_append_left _ h))))))
set_option maxRecDepth 20000 in
theorem mg_X10_loadmq_X10_acted_211 : GoodIn mwX10_loadmq (wsV RX10 211 RX10 yX10_acted mwX10_actedmq) := gi_app (A := [.methodLink RX10 211 yX10_acted, .instanceMethod yX10_acted, .selects RX10 yX10_acted yX10_acted, .initialized RX10]) (goodIn_r _ [8, 9, 10, 4] (by decide +kernel) (by decide +kernel)) (gi_sub gd_mwX10_actedmq (fun w h => List.mem_cons_of_mem _ (List.mem_append_right _ (List.mem_append_right _ (List.mem_append_right _ (List.mem_append_right _ (List.mem_append_left _ h)))))))
set_option maxRecDepth 20000 in
theorem mg_X10_loadmq_X10_gives_214 : GoodIn mwX10_loadmq (wsV RX10 214 RX10 yX10_gives mwX10_givesm) := gi_app (A := [.methodLink RX10 214 yX10_gives, .instanceMethod yX10_gives, .selects RX10 yX10_gives yX10_gives, .initialized RX10]) (goodIn_r _ [12, 13, 14, 4] (by decide +kernel) (by decide +kernel)) (gi_sub gd_mwX10_givesm (fun w h => List.mem_cons_of_mem _ (List.mem_append_right _ (List.mem_append_right _ (List.mem_append_right _ (List.mem_append_right _ (List.mem_append_right _ (List.mem_append_left _ h))))))))
set_option maxRecDepth 20000 in
theorem mg_X10_loadmq_X10_refuse_204 : GoodIn mwX10_loadmq (wsV RX10 204 RX10 yX10_refuse mwX10_refusem) := gi_app (A := [.methodLink RX10 204 yX10_refuse, .instanceMethod yX10_refuse, .selects RX10 yX10_refuse yX10_refuse, .initialized RX10]) (goodIn_r _ [15, 16, 17, 4] (by decide +kernel) (by decide +kernel)) (gi_sub gd_mwX10_refusem (fun w h => List.mem_cons_of_mem _ (List.mem_append_right _ (List.mem_append_right _ (List.mem_append_right _ (List.mem_append_right _ (List.mem_append_right _ (List.mem_append_right _ (h)))))))))
set_option maxHeartbeats 4000000 in
set_option maxRecDepth 100000 in
theorem m_load_q (l : Launch) (dC : Nat → ClassId) (dI : Nat → Nat → Nat) (ad : Nat → Nat) (kc : Nat → ClassId) (x0 x1 x2 x3 x4 x5 x6 x7 x8 x9 x10 x11 x12 x13 x14 x15 x16 x17 x18 x19 x20 x21 : Int32) (f0 f1 f2 f3 f4 f5 f6 f7 f8 f9 f10 f11 f12 f13 f14 f15 f16 f17 f18 f19 f20 f21 : Nat → Int32) (fL : Nat → Nat → Int64) (fN : Nat → Nat → Int32) (fP : Nat → Nat → Nat) (fM : Nat → Nat → Int32) (fO : Nat → Nat → Int32) (sz : Nat) (i1 : Int32) (q0 : mI x1.toInt x2.toInt x3.toInt f0 fP) : Met l yX10_load mwX10_loadmq ({ frames := 24, cells := 0, slots := 0, locals := 1440 }) (va_Pc [.ref (ad 0), .int i1] (fun U => U.heap.size = sz ∧ va_P (dC, dI) vwCl (mW ad kc x0 x1 x2 x3 x4 x5 x6 x7 x8 x9 x10 x11 x12 x13 x14 x15 x16 x17 x18 x19 x20 x21 f0 f1 f2 f3 f4 f5 f6 f7 f8 f9 f10 f11 f12 f13 f14 f15 f16 f17 f18 f19 f20 f21 fL fN fP fM fO) U.heap ∧ va_K (dC, dI) vwCl (mT kc) U ∧ va_D (fun _ => True) (mW ad kc x0 x1 x2 x3 x4 x5 x6 x7 x8 x9 x10 x11 x12 x13 x14 x15 x16 x17 x18 x19 x20 x21 f0 f1 f2 f3 f4 f5 f6 f7 f8 f9 f10 f11 f12 f13 f14 f15 f16 f17 f18 f19 f20 f21 fL fN fP fM fO) ∧ sW2 (va_A (mW ad kc x0 x1 x2 x3 x4 x5 x6 x7 x8 x9 x10 x11 x12 x13 x14 x15 x16 x17 x18 x19 x20 x21 f0 f1 f2 f3 f4 f5 f6 f7 f8 f9 f10 f11 f12 f13 f14 f15 f16 f17 f18 f19 f20 f21 fL fN fP fM fO) sz) U U.heap)) (va_Qi (fun (o9 u9 : Int32) => o9 = u9) (fun (o9 : Int32) t => ∃ (y0 y1 y3 y4 y5 y6 y7 y8 y9 y10 y11 : Int32) (g0 g2 : Nat → Int32), (mI y1.toInt x2.toInt y3.toInt g0 fP) ∧ ((0 ≤ i1.toInt ∧ i1.toInt ≤ x3.toInt ∧ y3.toInt = 0) ∨ ((i1.toInt < 0 ∨ x3.toInt < i1.toInt) ∧ y3.toInt = x3.toInt)) ∧ ((0 ≤ i1.toInt ∧ i1.toInt ≤ x3.toInt → Ld (tx f1 i1.toInt) (zTop 0 0 0 0) (zOut o9.toInt)) ∧ ((i1.toInt < 0 ∨ x3.toInt < i1.toInt) → o9.toInt = -1)) ∧ va_P (dC, dI) vwCl (mW ad kc y0 y1 x2 y3 y4 y5 y6 y7 y8 y9 y10 y11 x12 x13 x14 x15 x16 x17 x18 x19 x20 x21 g0 f1 g2 f3 f4 f5 f6 f7 f8 f9 f10 f11 f12 f13 f14 f15 f16 f17 f18 f19 f20 f21 fL fN fP fM fO) t.heap ∧ va_K (dC, dI) vwCl (mT kc) t ∧ va_D (va_A (mW ad kc x0 x1 x2 x3 x4 x5 x6 x7 x8 x9 x10 x11 x12 x13 x14 x15 x16 x17 x18 x19 x20 x21 f0 f1 f2 f3 f4 f5 f6 f7 f8 f9 f10 f11 f12 f13 f14 f15 f16 f17 f18 f19 f20 f21 fL fN fP fM fO) sz) (mW ad kc y0 y1 x2 y3 y4 y5 y6 y7 y8 y9 y10 y11 x12 x13 x14 x15 x16 x17 x18 x19 x20 x21 g0 f1 g2 f3 f4 f5 f6 f7 f8 f9 f10 f11 f12 f13 f14 f15 f16 f17 f18 f19 f20 f21 fL fN fP fM fO)) (va_A (mW ad kc x0 x1 x2 x3 x4 x5 x6 x7 x8 x9 x10 x11 x12 x13 x14 x15 x16 x17 x18 x19 x20 x21 f0 f1 f2 f3 f4 f5 f6 f7 f8 f9 f10 f11 f12 f13 f14 f15 f16 f17 f18 f19 f20 f21 fL fN fP fM fO) sz)) 0 0 (va_A (mW ad kc x0 x1 x2 x3 x4 x5 x6 x7 x8 x9 x10 x11 x12 x13 x14 x15 x16 x17 x18 x19 x20 x21 f0 f1 f2 f3 f4 f5 f6 f7 f8 f9 f10 f11 f12 f13 f14 f15 f16 f17 f18 f19 f20 f21 fL fN fP fM fO) sz) := by
  refine Met.ofW (cc := cX10_load) (maxL := 2) (ret := (some .int)) (by decide +kernel) rfl ?_
  intro p e s m args below meth c s₁ B hml hv
  obtain ⟨rfl, hsz, hP, hK, hD0, hSW⟩ := hv
  have hx := B.exec
  have hb := B.bytes
  have hr := B.returns
  have hts := atoms_spec (ws := mwX10_loadmq) B.pre
  have hown : s.vm.findClass RX10 = some m.cls := findClass_of_methodNamed B.named
  have hlocks := B.notSynchronized
  subst hsz
  have hD := hD0.self (sz := s.heap.size)
  generalize hAe : va_A (mW ad kc x0 x1 x2 x3 x4 x5 x6 x7 x8 x9 x10 x11 x12 x13 x14 x15 x16 x17 x18 x19 x20 x21 f0 f1 f2 f3 f4 f5 f6 f7 f8 f9 f10 f11 f12 f13 f14 f15 f16 f17 f18 f19 f20 f21 fL fN fP fM fO) s.heap.size = A at hD hSW ⊢
  have hA : ∀ q : Nat, s.heap.size ≤ q → A q := fun q h => by rw [← hAe]; exact Or.inr h
  have hP : va_P (dC, dI) vwCl (mW ad kc x0 x1 x2 x3 x4 x5 x6 x7 x8 x9 x10 x11 x12 x13 x14 x15 x16 x17 x18 x19 x20 x21 f0 f1 f2 f3 f4 f5 f6 f7 f8 f9 f10 f11 f12 f13 f14 f15 f16 f17 f18 f19 f20 f21 fL fN fP fM fO) s.heap := hP
  have hD : va_D A (mW ad kc x0 x1 x2 x3 x4 x5 x6 x7 x8 x9 x10 x11 x12 x13 x14 x15 x16 x17 x18 x19 x20 x21 f0 f1 f2 f3 f4 f5 f6 f7 f8 f9 f10 f11 f12 f13 f14 f15 f16 f17 f18 f19 f20 f21 fL fN fP fM fO) := hD
  have hK : va_K (dC, dI) vwCl (mT kc) s := hK
  generalize hH : s.heap = H at hP ⊢
  have hS : va_S A s.heap H [] := by rw [← hH]; exact va_S.rf
  have hl := lv_entry ([.ref (ad 0), .int i1]) (n := 2) (Nat.le_of_ble_eq_true rfl)
  rw [lg_entry_eq]
  generalize (lg_sl ([.ref (ad 0), .int i1]) ++ List.replicate (2 - (lg_sl ([.ref (ad 0), .int i1])).length) Slot.unset).toArray = ls at hl ⊢
  have hl : lv_has ls 2 [(0, .ref (ad 0)), (1, .int i1)] := hl
  have rg_i1 := i_rng i1
  have hd := q0.d
  have hpi := q0.p
  have hq1 := q0.1
  have hq2 := q0.2.1
  have hq3 := q0.2.2.1
  have hd10 := hd.n0
  have hp8 := hd.P0
  refine lv_iload_n hx hb dX10_load_0 rfl (lv_at hl 1 rfl) ?_
  refine lv_iconst (v := 0) hx hb dX10_load_1 (by decide) ?_
  refine lv_aload_n hx hb dX10_load_2 rfl (lv_at hl 0 rfl) ?_
  refine va_get (D := (dC, dI)) (ci := 10) (v := .int x3) (C := RX10) (T := TX10) (N := 48) hx hb hts fin_X10_loadmq_X10 hown hK hP 0 rfl rfl 6 (by decide) (hts (.fieldLink RX10 107 "PatternGateModel" "taped" "I") (List.mem_of_getElem? (i := 1) (by decide +kernel))) (fun _ h9 => h9) rfl dX10_load_3 ?_
  have lit_0 : (0 : Int32).toInt = 0 := by decide
  refine vp_callSi (W.runS (As := [.int i1, .int 0, .int x3]) (rest := []) ⟨hx, hb, hml, hown, hts⟩ (m_isFrom l dC dI  i1 0 x3 ) (va_cwS 3 hts mg_X10_loadmq_X10_isFrom_200 rfl rfl rfl (by decide +kernel) ⟨Nat.le_of_ble_eq_true rfl, Nat.le_of_ble_eq_true rfl⟩) ⟨fun a U g mk q => ⟨q.1, trivial⟩, fun U hU hW => ⟨rfl, trivial⟩⟩ rfl rfl hl.1 rfl (lv_room (Nat.le_of_ble_eq_true rfl)) dX10_load_6 ⟨Nat.le_of_ble_eq_true rfl, Nat.le_of_ble_eq_true rfl⟩) (fun r_2 hr_2 => ?_)
  have rg_r_2 := i_rng r_2
  refine lv_if_ne (tgt := 18) hx hb dX10_load_9 (by decide) (fun k_3 => ?_) (fun k_3 => ?_)
  · have tk_3 := c_ne (a := r_2.toInt) (b := 0) rfl (by decide) k_3
    refine lv_aload_n hx hb dX10_load_18 rfl (lv_at hl 0 rfl) ?_
    refine lv_iload_n hx hb dX10_load_19 rfl (lv_at hl 1 rfl) ?_
    refine lv_iconst (v := 1) hx hb dX10_load_20 (by decide) ?_
    have lit_3 : (1 : Int32).toInt = 1 := by decide
    have hFc := m_free hD hS hA
    refine va_calli (va_runV (As := [.int i1, .int 1]) (rest := []) ⟨hx, hb, hml, hown, hts⟩ (m_reads_q l dC dI ad kc x0 x1 x2 x3 x4 x5 x6 x7 x8 x9 x10 x11 x12 x13 x14 x15 x16 x17 x18 x19 x20 x21 f0 f1 f2 f3 f4 f5 f6 f7 f8 f9 f10 f11 f12 f13 f14 f15 f16 f17 f18 f19 f20 f21 fL fN fP fM fO H.size i1 1 (by first | omega | assumption | decide | (have l0 := Int32.toInt_zero; omega)) (by first | omega | assumption | decide | (have l0 := Int32.toInt_zero; omega)) (by first | omega | assumption | decide | (have l0 := Int32.toInt_zero; omega))) (cwV 2 hts mg_X10_loadmq_X10_reads_207 rfl rfl rfl (by decide +kernel) ⟨Nat.le_of_ble_eq_true rfl, Nat.le_of_ble_eq_true rfl⟩) ⟨fun a U g mk q => by obtain ⟨q0, q1, qP, qK, qD, qE0⟩ := q; exact ⟨q0, q1, qP, va_K.moved (u := U) (U := U.calling g mk a) (Vm.Alike.refl U.vm) qK, qD, sW2.call qE0⟩, va_recv hK hP (ci := 10) (q0 := 0) rfl rfl, fun U hU hW => ⟨rfl, by rw [hU], by rw [hU]; exact hP, va_K.moved hW.alike hK, hD.weaken (fun _ _ _ _ => trivial), sW2.to hSW hS hFc hW hU⟩⟩ rfl rfl hl.1 rfl (lv_room (Nat.le_of_ble_eq_true rfl)) dX10_load_21 ⟨Nat.le_of_ble_eq_true rfl, Nat.le_of_ble_eq_true rfl⟩) hS (fun q _ h => hFc q h) hFc (fun r_5 u t H1 locs ht hvm hw hB hz1 hk1 hS => ?_)
    subst hw
    obtain ⟨x_6, x_7, x_8, x_9, x_10, x_11, x_12, x_13, x_14, f_15, f_16, hr_5_0, hr_5_1, hr_5_2, hr_5_3, hr_5_4, hP, hK1, hD1⟩ := hB
    rw [ht] at hP
    have hD := hD1.weaken (fun k q _ h => hFc q.1 h)
    clear hz1 hk1 hFc hD1 hK1 hvm
    generalize H1 = H at hP hS ⊢
    have rg_x_6 := i_rng x_6
    have rg_x_7 := i_rng x_7
    have rg_x_8 := i_rng x_8
    have rg_x_9 := i_rng x_9
    have rg_x_10 := i_rng x_10
    have rg_x_11 := i_rng x_11
    have rg_x_12 := i_rng x_12
    have rg_x_13 := i_rng x_13
    have rg_x_14 := i_rng x_14
    have rg_r_5 := i_rng r_5
    have hP : va_P (dC, dI) vwCl (mW ad kc x0 x1 x2 x_6 x_7 x_8 x_9 x_10 x_11 x_12 x_13 x_14 x12 x13 x14 x15 x16 x17 x18 x19 x20 x21 f_15 f1 f_16 f3 f4 f5 f6 f7 f8 f9 f10 f11 f12 f13 f14 f15 f16 f17 f18 f19 f20 f21 fL fN fP fM fO) H := hP
    have hD : va_D A (mW ad kc x0 x1 x2 x_6 x_7 x_8 x_9 x_10 x_11 x_12 x_13 x_14 x12 x13 x14 x15 x16 x17 x18 x19 x20 x21 f_15 f1 f_16 f3 f4 f5 f6 f7 f8 f9 f10 f11 f12 f13 f14 f15 f16 f17 f18 f19 f20 f21 fL fN fP fM fO) := hD
    have hdR := hr_5_0
    have hmR := hr_5_1
    refine lv_if_ne (tgt := 34) hx hb dX10_load_24 (by decide) (fun k_17 => ?_) (fun k_17 => ?_)
    · have tk_17 := c_ne (a := r_5.toInt) (b := 0) rfl (by decide) k_17
      refine lv_aload_n hx hb dX10_load_34 rfl (lv_at hl 0 rfl) ?_
      have hFc := m_free hD hS hA
      refine va_callv (va_runV (As := []) (rest := []) ⟨hx, hb, hml, hown, hts⟩ (m_acted_q l dC dI ad kc x0 x1 x2 x_6 x_7 x_8 x_9 x_10 x_11 x_12 x_13 x_14 x12 x13 x14 x15 x16 x17 x18 x19 x20 x21 f_15 f1 f_16 f3 f4 f5 f6 f7 f8 f9 f10 f11 f12 f13 f14 f15 f16 f17 f18 f19 f20 f21 fL fN fP fM fO H.size (by first | omega | assumption | decide | (have l0 := Int32.toInt_zero; omega)) (by first | omega | assumption | decide | (have l0 := Int32.toInt_zero; omega)) (by first | omega | assumption | decide | (have l0 := Int32.toInt_zero; omega)) (by first | omega | assumption | decide | (have l0 := Int32.toInt_zero; omega))) (cwV 0 hts mg_X10_loadmq_X10_acted_211 rfl rfl rfl (by decide +kernel) ⟨Nat.le_of_ble_eq_true rfl, Nat.le_of_ble_eq_true rfl⟩) ⟨fun a U g mk q => by obtain ⟨q0, q1, qP, qK, qD⟩ := q; exact ⟨q0, q1, qP, va_K.moved (u := U) (U := U.calling g mk a) (Vm.Alike.refl U.vm) qK, qD⟩, va_recv hK hP (ci := 10) (q0 := 0) rfl rfl, fun U hU hW => ⟨rfl, by rw [hU], by rw [hU]; exact hP, va_K.moved hW.alike hK, hD.weaken (fun _ _ _ _ => trivial)⟩⟩ rfl rfl hl.1 rfl (lv_room (Nat.le_of_ble_eq_true rfl)) dX10_load_35 ⟨Nat.le_of_ble_eq_true rfl, Nat.le_of_ble_eq_true rfl⟩) hS (fun q _ h => hFc q h) hFc (fun u t H1 locs ht hvm hw hB hz1 hk1 hS => ?_)
      obtain ⟨x_19, f_20, hr_18_0, hr_18_1, hr_18_2, hr_18_3, hP, hK1, hD1⟩ := hB
      rw [ht] at hP
      have hD := hD1.weaken (fun k q _ h => hFc q.1 h)
      clear hz1 hk1 hFc hD1 hK1 hvm
      generalize H1 = H at hP hS ⊢
      have rg_x_19 := i_rng x_19
      have hP : va_P (dC, dI) vwCl (mW ad kc x0 x_19 x2 x_6 x_7 x_8 x_9 x_10 x_11 x_12 x_13 x_14 x12 x13 x14 x15 x16 x17 x18 x19 x20 x21 f_20 f1 f_16 f3 f4 f5 f6 f7 f8 f9 f10 f11 f12 f13 f14 f15 f16 f17 f18 f19 f20 f21 fL fN fP fM fO) H := hP
      have hD : va_D A (mW ad kc x0 x_19 x2 x_6 x_7 x_8 x_9 x_10 x_11 x_12 x_13 x_14 x12 x13 x14 x15 x16 x17 x18 x19 x20 x21 f_20 f1 f_16 f3 f4 f5 f6 f7 f8 f9 f10 f11 f12 f13 f14 f15 f16 f17 f18 f19 f20 f21 fL fN fP fM fO) := hD
      refine lv_aload_n hx hb dX10_load_38 rfl (lv_at hl 0 rfl) ?_
      refine lv_aload_n hx hb dX10_load_39 rfl (lv_at hl 0 rfl) ?_
      refine va_get (D := (dC, dI)) (ci := 10) (v := .ref (ad 1)) (C := RX10) (T := TX10) (N := 48) hx hb hts fin_X10_loadmq_X10 hown hK hP 0 rfl rfl 0 (by decide) (hts (.fieldLink RX10 8 "PatternGateModel" "all" "[I") (List.mem_of_getElem? (i := 11) (by decide +kernel))) (fun _ h9 => h9) rfl dX10_load_40 ?_
      refine lv_iconst (v := 0) hx hb dX10_load_43 (by decide) ?_
      refine va_iald hx hb hK hP 1 0 rfl rfl (i := 0) (by unfold vp_in; decide +kernel) dX10_load_44 ?_
      refine lv_topi (fun y_21 ey_21 => ?_)
      have rg_y_21 := i_rng y_21
      have vy_21 := vI_lda (f := f_20) (i := 0) (a := 0) ey_21 (by first | omega | decide)
      have rg_y_21 := i_rng y_21
      have hFc := m_free hD hS hA
      refine va_calli (va_runV (As := [.int y_21]) (rest := []) ⟨hx, hb, hml, hown, hts⟩ (m_gives l dC dI ad kc x0 x_19 x2 x_6 x_7 x_8 x_9 x_10 x_11 x_12 x_13 x_14 x12 x13 x14 x15 x16 x17 x18 x19 x20 x21 f_20 f1 f_16 f3 f4 f5 f6 f7 f8 f9 f10 f11 f12 f13 f14 f15 f16 f17 f18 f19 f20 f21 fL fN fP fM fO H.size y_21 ) (cwV 1 hts mg_X10_loadmq_X10_gives_214 rfl rfl rfl (by decide +kernel) ⟨Nat.le_of_ble_eq_true rfl, Nat.le_of_ble_eq_true rfl⟩) ⟨fun a U g mk q => by obtain ⟨q0, q1, qP, qK, qD⟩ := q; exact ⟨q0, q1, qP, va_K.moved (u := U) (U := U.calling g mk a) (Vm.Alike.refl U.vm) qK, qD⟩, va_recv hK hP (ci := 10) (q0 := 0) rfl rfl, fun U hU hW => ⟨rfl, by rw [hU], by rw [hU]; exact hP, va_K.moved hW.alike hK, hD.weaken (fun _ _ _ _ => trivial)⟩⟩ rfl rfl hl.1 rfl (lv_room (Nat.le_of_ble_eq_true rfl)) dX10_load_45 ⟨Nat.le_of_ble_eq_true rfl, Nat.le_of_ble_eq_true rfl⟩) hS (fun q _ h => hFc q h) hFc (fun r_22 u t H1 locs ht hvm hw hB hz1 hk1 hS => ?_)
      subst hw
      obtain ⟨hr_22_0, hP, hK1, hD1⟩ := hB
      rw [ht] at hP
      have hD := hD1.weaken (fun k q _ h => hFc q.1 h)
      clear hz1 hk1 hFc hD1 hK1 hvm
      generalize H1 = H at hP hS ⊢
      have rg_r_22 := i_rng r_22
      have hP : va_P (dC, dI) vwCl (mW ad kc 0 x_19 x2 x_6 x_7 x_8 x_9 x_10 x_11 x_12 x_13 x_14 x12 x13 x14 x15 x16 x17 x18 x19 x20 x21 f_20 f1 f_16 f3 f4 f5 f6 f7 f8 f9 f10 f11 f12 f13 f14 f15 f16 f17 f18 f19 f20 f21 fL fN fP fM fO) H := hP
      have hD : va_D A (mW ad kc 0 x_19 x2 x_6 x_7 x_8 x_9 x_10 x_11 x_12 x_13 x_14 x12 x13 x14 x15 x16 x17 x18 x19 x20 x21 f_20 f1 f_16 f3 f4 f5 f6 f7 f8 f9 f10 f11 f12 f13 f14 f15 f16 f17 f18 f19 f20 f21 fL fN fP fM fO) := hD
      have lit_22 : (0 : Int32).toInt = 0 := by decide
      exact W.iret hx hb hr (fun t ht hW => ⟨⟨_, _, rfl, rfl, 0, x_19, x_6, x_7, x_8, x_9, x_10, x_11, x_12, x_13, x_14, f_20, f_16, (mC.mI hr_18_1 hr_18_0 (by have h9 := hr_18_2; omega) hq2 (by omega) hpi), (by first | omega | assumption | rfl | decide), ⟨fun _ => by rw [hr_22_0, vy_21, hr_18_3]; exact rl_l hr_5_4 (by omega), fun h9 => by omega⟩, by rw [ht]; exact hP, va_K.moved hW.alike hK, hD⟩, hS.F ht⟩) hS.2.2 dX10_load_48
    · have tk_17 := c_eq (a := r_5.toInt) (b := 0) rfl (by decide) k_17
      refine lv_aload_n hx hb dX10_load_27 rfl (lv_at hl 0 rfl) ?_
      refine lv_bipush (v := 9) hx hb dX10_load_28 (by decide) ?_
      have lit_23 : (9 : Int32).toInt = 9 := by decide
      have hFc := m_free hD hS hA
      refine va_calli (va_runV (As := [.int 9]) (rest := []) ⟨hx, hb, hml, hown, hts⟩ (m_refuse l dC dI ad kc x0 x1 x2 x_6 x_7 x_8 x_9 x_10 x_11 x_12 x_13 x_14 x12 x13 x14 x15 x16 x17 x18 x19 x20 x21 f_15 f1 f_16 f3 f4 f5 f6 f7 f8 f9 f10 f11 f12 f13 f14 f15 f16 f17 f18 f19 f20 f21 fL fN fP fM fO H.size 9 ) (cwV 1 hts mg_X10_loadmq_X10_refuse_204 rfl rfl rfl (by decide +kernel) ⟨Nat.le_of_ble_eq_true rfl, Nat.le_of_ble_eq_true rfl⟩) ⟨fun a U g mk q => by obtain ⟨q0, q1, qP, qK, qD⟩ := q; exact ⟨q0, q1, qP, va_K.moved (u := U) (U := U.calling g mk a) (Vm.Alike.refl U.vm) qK, qD⟩, va_recv hK hP (ci := 10) (q0 := 0) rfl rfl, fun U hU hW => ⟨rfl, by rw [hU], by rw [hU]; exact hP, va_K.moved hW.alike hK, hD.weaken (fun _ _ _ _ => trivial)⟩⟩ rfl rfl hl.1 rfl (lv_room (Nat.le_of_ble_eq_true rfl)) dX10_load_30 ⟨Nat.le_of_ble_eq_true rfl, Nat.le_of_ble_eq_true rfl⟩) hS (fun q _ h => hFc q h) hFc (fun r_25 u t H1 locs ht hvm hw hB hz1 hk1 hS => ?_)
      subst hw
      obtain ⟨hr_25_0, hP, hK1, hD1⟩ := hB
      rw [ht] at hP
      have hD := hD1.weaken (fun k q _ h => hFc q.1 h)
      clear hz1 hk1 hFc hD1 hK1 hvm
      generalize H1 = H at hP hS ⊢
      have rg_r_25 := i_rng r_25
      have hP : va_P (dC, dI) vwCl (mW ad kc 9 x1 x2 x_6 x_7 x_8 x_9 x_10 x_11 x_12 x_13 x_14 x12 x13 x14 x15 x16 x17 x18 x19 x20 x21 f_15 f1 f_16 f3 f4 f5 f6 f7 f8 f9 f10 f11 f12 f13 f14 f15 f16 f17 f18 f19 f20 f21 fL fN fP fM fO) H := hP
      have hD : va_D A (mW ad kc 9 x1 x2 x_6 x_7 x_8 x_9 x_10 x_11 x_12 x_13 x_14 x12 x13 x14 x15 x16 x17 x18 x19 x20 x21 f_15 f1 f_16 f3 f4 f5 f6 f7 f8 f9 f10 f11 f12 f13 f14 f15 f16 f17 f18 f19 f20 f21 fL fN fP fM fO) := hD
      have lit_25 : (9 : Int32).toInt = 9 := by decide
      exact W.iret hx hb hr (fun t ht hW => ⟨⟨_, _, rfl, rfl, 9, x1, x_6, x_7, x_8, x_9, x_10, x_11, x_12, x_13, x_14, f_15, f_16, (mC.mI hmR hdR hq1 hq2 (by omega) hpi), (by first | omega | assumption | rfl | decide), ⟨fun _ => by rw [hr_25_0, show ((-1) : Int32).toInt = -1 by decide]; exact rl_r hr_5_4 (by omega), fun h9 => by omega⟩, by rw [ht]; exact hP, va_K.moved hW.alike hK, hD⟩, hS.F ht⟩) hS.2.2 dX10_load_33
  · have tk_3 := c_eq (a := r_2.toInt) (b := 0) rfl (by decide) k_3
    refine lv_aload_n hx hb dX10_load_12 rfl (lv_at hl 0 rfl) ?_
    refine lv_iconst (v := 1) hx hb dX10_load_13 (by decide) ?_
    have lit_26 : (1 : Int32).toInt = 1 := by decide
    have hFc := m_free hD hS hA
    refine va_calli (va_runV (As := [.int 1]) (rest := []) ⟨hx, hb, hml, hown, hts⟩ (m_refuse l dC dI ad kc x0 x1 x2 x3 x4 x5 x6 x7 x8 x9 x10 x11 x12 x13 x14 x15 x16 x17 x18 x19 x20 x21 f0 f1 f2 f3 f4 f5 f6 f7 f8 f9 f10 f11 f12 f13 f14 f15 f16 f17 f18 f19 f20 f21 fL fN fP fM fO H.size 1 ) (cwV 1 hts mg_X10_loadmq_X10_refuse_204 rfl rfl rfl (by decide +kernel) ⟨Nat.le_of_ble_eq_true rfl, Nat.le_of_ble_eq_true rfl⟩) ⟨fun a U g mk q => by obtain ⟨q0, q1, qP, qK, qD⟩ := q; exact ⟨q0, q1, qP, va_K.moved (u := U) (U := U.calling g mk a) (Vm.Alike.refl U.vm) qK, qD⟩, va_recv hK hP (ci := 10) (q0 := 0) rfl rfl, fun U hU hW => ⟨rfl, by rw [hU], by rw [hU]; exact hP, va_K.moved hW.alike hK, hD.weaken (fun _ _ _ _ => trivial)⟩⟩ rfl rfl hl.1 rfl (lv_room (Nat.le_of_ble_eq_true rfl)) dX10_load_14 ⟨Nat.le_of_ble_eq_true rfl, Nat.le_of_ble_eq_true rfl⟩) hS (fun q _ h => hFc q h) hFc (fun r_28 u t H1 locs ht hvm hw hB hz1 hk1 hS => ?_)
    subst hw
    obtain ⟨hr_28_0, hP, hK1, hD1⟩ := hB
    rw [ht] at hP
    have hD := hD1.weaken (fun k q _ h => hFc q.1 h)
    clear hz1 hk1 hFc hD1 hK1 hvm
    generalize H1 = H at hP hS ⊢
    have rg_r_28 := i_rng r_28
    have hP : va_P (dC, dI) vwCl (mW ad kc 1 x1 x2 x3 x4 x5 x6 x7 x8 x9 x10 x11 x12 x13 x14 x15 x16 x17 x18 x19 x20 x21 f0 f1 f2 f3 f4 f5 f6 f7 f8 f9 f10 f11 f12 f13 f14 f15 f16 f17 f18 f19 f20 f21 fL fN fP fM fO) H := hP
    have hD : va_D A (mW ad kc 1 x1 x2 x3 x4 x5 x6 x7 x8 x9 x10 x11 x12 x13 x14 x15 x16 x17 x18 x19 x20 x21 f0 f1 f2 f3 f4 f5 f6 f7 f8 f9 f10 f11 f12 f13 f14 f15 f16 f17 f18 f19 f20 f21 fL fN fP fM fO) := hD
    have lit_28 : (1 : Int32).toInt = 1 := by decide
    exact W.iret hx hb hr (fun t ht hW => ⟨⟨_, _, rfl, rfl, 1, x1, x3, x4, x5, x6, x7, x8, x9, x10, x11, f0, f2, q0, (by first | omega | assumption | rfl | decide), ⟨fun h9 => by omega, fun _ => by rw [hr_28_0]; decide⟩, by rw [ht]; exact hP, va_K.moved hW.alike hK, hD⟩, hS.F ht⟩) hS.2.2 dX10_load_17

/-- a byte of the tape, -1 behind the end -/
def tc (f : Nat → Int32) (n k : Int) : Int := if k < n then vI f k else -1
theorem tc_ld {f : Nat → Int32} {i y : Int32} {n : Int} (e : y = f i.toNatClampNeg) (h : i.toInt < n) : tc f n i.toInt = y.toInt := by
  unfold tc
  rw [if_pos h, e]
  rfl
theorem tc_pos {f : Nat → Int32} {n k : Int} (h : ∀ z : Int, 0 ≤ z → 0 ≤ vI f z) (h0 : 0 ≤ k) (h1 : k < n) : 0 ≤ tc f n k := by
  unfold tc
  rw [if_pos h1]
  exact h k h0
theorem tc_end {f : Nat → Int32} {n k : Int} (h : n ≤ k) : tc f n k = -1 := by
  unfold tc
  rw [if_neg (by omega)]
theorem mv_px {t : Int → Int} {k sp op st d p : Int} (h : ¬ isAt (t k)) (hx : st = 0 ∨ ¬ (t k = 34 ∧ op = 0) ∧ t k ≠ 124 ∧ ¬ (t k = 41 ∧ 0 < op) ∧ ¬ ((t k = 42 ∨ t k = 43 ∨ t k = 63) ∧ st = 1)) : Ld t (zPt k sp op st d p) (zOut (-1)) := by
  by_cases q : st = 0
  · subst q; exact mv_p0 h
  · have hx := hx.resolve_left q
    exact mv_pf h hx.1 hx.2.1 hx.2.2.1 hx.2.2.2
def dQ (t : Int → Int) (f e y : Int) : Prop := (y = 0 → ∀ d p, Ld t (zDc f f d p) (zTop (e + 1) 3 (d + 1) p)) ∧ (y ≠ 0 → ∀ d p, Ld t (zDc f f d p) (zOut (-1)))
def dS (t : Int → Int) (f e y : Int) : Prop := (y = 0 → ∀ sp op d p, Ld t (zSt f f sp op d p) (zPt (e + 1) sp op 1 d p)) ∧ (y ≠ 0 → ∀ sp op d p, Ld t (zSt f f sp op d p) (zOut (-1)))
def dP (t : Int → Int) (f e y : Int) : Prop := (y = 0 → ∀ d p, Ld t (zPt f 0 0 0 d p) (zTop (e + 1) 3 d (p + 1))) ∧ (y ≠ 0 → ∀ d p, Ld t (zPt f 0 0 0 d p) (zOut (-1)))
section DQ
variable {t : Int → Int} {f k k' e y : Int}
theorem dQ_next (hI : ∀ d p, Ld t (zDc f f d p) (zDc k f d p)) (hs : isSm (t k)) (h6 : k - f < 60) (ek : k' = k + 1) : ∀ d p, Ld t (zDc f f d p) (zDc k' f d p) := fun d p => by subst ek; exact (hI d p).tr (mv_dn hs h6)
theorem dQ_e (hI : ∀ d p, Ld t (zDc f f d p) (zDc k f d p)) (h : t k = 34) (hf : f < k) (hy : y = 0) : dQ t f k y := ⟨fun _ d p => (hI d p).tr (mv_dq h hf), fun q => absurd hy q⟩
theorem dQ_f (hI : ∀ d p, Ld t (zDc f f d p) (zDc k f d p)) (h1 : ¬ (t k = 34 ∧ f < k)) (h2 : ¬ (isSm (t k) ∧ k - f < 60)) (hy : y ≠ 0) : dQ t f e y := ⟨fun q => absurd q hy, fun _ d p => (hI d p).tr (mv_df h1 h2)⟩
theorem dS_next {m : Int32} {n : Nat} (hI : ∀ sp op d p, Ld t (zSt f f sp op d p) (zSt k f sp op d p)) (hm : mk26 t m f k) (hs : isSm (t k)) (hn : (n : Int) = t k - 97) (hb : bt m n = false) (ek : k' = k + 1) : ∀ sp op d p, Ld t (zSt f f sp op d p) (zSt k' f sp op d p) := seR_next hI hm hs hn hb ek
theorem dS_e (hI : ∀ sp op d p, Ld t (zSt f f sp op d p) (zSt k f sp op d p)) (h : t k = 93) (hf : f < k) (hy : y = 0) : dS t f k y := ⟨fun _ sp op d p => (hI sp op d p).tr (mv_se h hf), fun q => absurd hy q⟩
theorem dS_two {m : Int32} {n : Nat} (hI : ∀ sp op d p, Ld t (zSt f f sp op d p) (zSt k f sp op d p)) (hm : mk26 t m f k) (hs : isSm (t k)) (hn : (n : Int) = t k - 97) (hb : bt m n = true) (hy : y ≠ 0) : dS t f e y := ⟨fun q => absurd q hy, fun _ sp op d p => (hI sp op d p).tr (mv_sf (fun q => by unfold isSm at hs; omega) (fun q => q.2 ((mk_seen hm hs hn).mp hb)))⟩
theorem dS_bad (hI : ∀ sp op d p, Ld t (zSt f f sp op d p) (zSt k f sp op d p)) (hs : ¬ isSm (t k)) (hb : t k ≠ 93 ∨ k = f) (hy : y ≠ 0) : dS t f e y := ⟨fun q => absurd q hy, fun _ sp op d p => (hI sp op d p).tr (mv_sf (fun q => by omega) (fun q => hs q.1))⟩
theorem dP_next {sp op st sp' op' st' : Int} (hI : ∀ d p, Ld t (zPt f 0 0 0 d p) (zPt k sp op st d p)) (h : ∀ d p, Ld t (zPt k sp op st d p) (zPt k' sp' op' st' d p)) : ∀ d p, Ld t (zPt f 0 0 0 d p) (zPt k' sp' op' st' d p) := fun d p => (hI d p).tr (h d p)
theorem dP_e {sp op st : Int} (hI : ∀ d p, Ld t (zPt f 0 0 0 d p) (zPt k sp op st d p)) (h : t k = 34) (hs : st ≠ 0) (ho : op = 0) (hy : y = 0) : dP t f k y := ⟨fun _ d p => by subst ho; exact (hI d p).tr (mv_pq h hs), fun q => absurd hy q⟩
theorem dP_f {sp op st : Int} (hI : ∀ d p, Ld t (zPt f 0 0 0 d p) (zPt k sp op st d p)) (h : ∀ d p, Ld t (zPt k sp op st d p) (zOut (-1))) (hy : y ≠ 0) : dP t f e y := ⟨fun q => absurd q hy, fun _ d p => (hI d p).tr (h d p)⟩
end DQ
def mwX9_isSmallwq : List Cond := .code yX9_isSmall cX9_isSmall 1 (some .boolean) :: (([] : List Cond))
set_option maxHeartbeats 4000000 in
set_option maxRecDepth 100000 in
/-- isSmall, for a nest mate: which -/
theorem s_isSmallW_q (l : Launch) (dC : Nat → ClassId) (dI : Nat → Nat → Nat) (sz : Nat) (i : Int32) : Met l yX9_isSmall mwX9_isSmallwq ({ frames := 0, cells := 0, slots := 0, locals := 0 }) (va_Pc [.int i] (fun U => U.heap.size = sz ∧ va_P (dC, dI) vwCl ([]) U.heap ∧ va_K (dC, dI) vwCl ([]) U ∧ va_D (fun _ => True) ([]))) (va_Qi (fun (o9 : Int32) (_ : Unit) => o9.toInt = 1 ∧ (97 ≤ i.toInt ∧ i.toInt ≤ 122) ∨ o9.toInt = 0 ∧ (i.toInt < 97 ∨ 122 < i.toInt)) (fun _ _ => True) (va_A ([]) sz)) 0 0 (va_A ([]) sz) := by
  refine Met.ofW (cc := cX9_isSmall) (maxL := 1) (ret := (some .boolean)) (by decide +kernel) rfl ?_
  intro p e s m args below meth c s₁ B hml hv
  obtain ⟨rfl, hsz, hP, hK, hD0⟩ := hv
  have hx := B.exec
  have hb := B.bytes
  have hr := B.returns
  have hts := atoms_spec (ws := mwX9_isSmallwq) B.pre
  have hown : s.vm.findClass RX9 = some m.cls := findClass_of_methodNamed B.named
  have hlocks := B.notSynchronized
  subst hsz
  have hD := hD0.self (sz := s.heap.size)
  generalize hAe : va_A ([]) s.heap.size = A at hD ⊢
  have hA : ∀ q : Nat, s.heap.size ≤ q → A q := fun q h => by rw [← hAe]; exact Or.inr h
  have hP : va_P (dC, dI) vwCl [] s.heap := hP
  have hD : va_D A [] := hD
  have hK : va_K (dC, dI) vwCl [] s := hK
  generalize hH : s.heap = H at hP ⊢
  have hS : va_S A s.heap H [] := by rw [← hH]; exact va_S.rf
  have hl := lv_entry ([.int i]) (n := 1) (Nat.le_of_ble_eq_true rfl)
  rw [lg_entry_eq]
  generalize (lg_sl ([.int i]) ++ List.replicate (1 - (lg_sl ([.int i])).length) Slot.unset).toArray = ls at hl ⊢
  have hl : lv_has ls 1 [(0, .int i)] := hl
  have rg_i := i_rng i
  refine lv_iload_n hx hb dX9_isSmall_0 rfl (lv_at hl 0 rfl) ?_
  refine lv_bipush (v := 97) hx hb dX9_isSmall_1 (by decide) ?_
  refine lv_icmp_lt (tgt := 16) hx hb dX9_isSmall_3 (by decide) (fun k_1 => ?_) (fun k_1 => ?_)
  · have tk_1 := c_lt (a := i.toInt) (b := 97) rfl (by decide) k_1
    refine lv_iconst (v := 0) hx hb dX9_isSmall_16 (by decide) ?_
    exact W.zret hx hb hr rfl (fun t ht hW => ⟨⟨_, (), rfl, (Or.inr ⟨by decide, by omega⟩), trivial⟩, hS.F ht⟩) hS.2.2 dX9_isSmall_17
  · have tk_1 := c_nlt (a := i.toInt) (b := 97) rfl (by decide) k_1
    refine lv_iload_n hx hb dX9_isSmall_6 rfl (lv_at hl 0 rfl) ?_
    refine lv_bipush (v := 122) hx hb dX9_isSmall_7 (by decide) ?_
    refine lv_icmp_gt (tgt := 16) hx hb dX9_isSmall_9 (by decide) (fun k_2 => ?_) (fun k_2 => ?_)
    · have tk_2 := c_gt (a := i.toInt) (b := 122) rfl (by decide) k_2
      refine lv_iconst (v := 0) hx hb dX9_isSmall_16 (by decide) ?_
      exact W.zret hx hb hr rfl (fun t ht hW => ⟨⟨_, (), rfl, (Or.inr ⟨by decide, by omega⟩), trivial⟩, hS.F ht⟩) hS.2.2 dX9_isSmall_17
    · have tk_2 := c_ngt (a := i.toInt) (b := 122) rfl (by decide) k_2
      refine lv_iconst (v := 1) hx hb dX9_isSmall_12 (by decide) ?_
      refine lv_goto (tgt := 17) hx hb dX9_isSmall_13 (by decide) ?_
      exact W.zret hx hb hr rfl (fun t ht hW => ⟨⟨_, (), rfl, (Or.inl ⟨by decide, by omega⟩), trivial⟩, hS.F ht⟩) hS.2.2 dX9_isSmall_17
def mwX6_isSignq : List Cond := .code yX6_isSign cX6_isSign 1 (some .boolean) :: (([] : List Cond))
set_option maxHeartbeats 4000000 in
set_option maxRecDepth 100000 in
/-- isSign: which -/
theorem s_isSign_q (l : Launch) (dC : Nat → ClassId) (dI : Nat → Nat → Nat) (i0 : Int32) : Met l yX6_isSign mwX6_isSignq ({ frames := 0, cells := 0, slots := 0, locals := 0 }) (va_Pc [.int i0] (fun _ => True)) (vp_Si (fun o => o.toInt = 1 ∧ (i0.toInt = 42 ∨ i0.toInt = 43 ∨ i0.toInt = 63) ∨ o.toInt = 0 ∧ ¬ (i0.toInt = 42 ∨ i0.toInt = 43 ∨ i0.toInt = 63))) 0 0 (fun _ => False) := by
  refine Met.ofW (cc := cX6_isSign) (maxL := 1) (ret := (some .boolean)) (by decide +kernel) rfl ?_
  intro p e s m args below meth c s₁ B hml hv
  obtain ⟨rfl, -⟩ := hv
  have hx := B.exec
  have hb := B.bytes
  have hr := B.returns
  have hts := atoms_spec (ws := mwX6_isSignq) B.pre
  have hown : s.vm.findClass RX6 = some m.cls := findClass_of_methodNamed B.named
  have hlocks := B.notSynchronized
  have hl := lv_entry ([.int i0]) (n := 1) (Nat.le_of_ble_eq_true rfl)
  rw [lg_entry_eq]
  generalize (lg_sl ([.int i0]) ++ List.replicate (1 - (lg_sl ([.int i0])).length) Slot.unset).toArray = ls at hl ⊢
  have hl : lv_has ls 1 [(0, .int i0)] := hl
  have rg_i0 := i_rng i0
  refine lv_iload_n hx hb dX6_isSign_0 rfl (lv_at hl 0 rfl) ?_
  refine lv_bipush (v := 42) hx hb dX6_isSign_1 (by decide) ?_
  refine lv_icmp_eq (tgt := 18) hx hb dX6_isSign_3 (by decide) (fun k_1 => ?_) (fun k_1 => ?_)
  · have tk_1 := c_eq (a := i0.toInt) (b := 42) rfl (by decide) k_1
    refine lv_iconst (v := 1) hx hb dX6_isSign_18 (by decide) ?_
    refine lv_goto (tgt := 23) hx hb dX6_isSign_19 (by decide) ?_
    exact W.zret hx hb hr rfl (fun t ht hW => ⟨_, rfl, (Or.inl ⟨by decide, by omega⟩), ht⟩) t_nil dX6_isSign_23
  · have tk_1 := c_ne (a := i0.toInt) (b := 42) rfl (by decide) k_1
    refine lv_iload_n hx hb dX6_isSign_6 rfl (lv_at hl 0 rfl) ?_
    refine lv_bipush (v := 43) hx hb dX6_isSign_7 (by decide) ?_
    refine lv_icmp_eq (tgt := 18) hx hb dX6_isSign_9 (by decide) (fun k_2 => ?_) (fun k_2 => ?_)
    · have tk_2 := c_eq (a := i0.toInt) (b := 43) rfl (by decide) k_2
      refine lv_iconst (v := 1) hx hb dX6_isSign_18 (by decide) ?_
      refine lv_goto (tgt := 23) hx hb dX6_isSign_19 (by decide) ?_
      exact W.zret hx hb hr rfl (fun t ht hW => ⟨_, rfl, (Or.inl ⟨by decide, by omega⟩), ht⟩) t_nil dX6_isSign_23
    · have tk_2 := c_ne (a := i0.toInt) (b := 43) rfl (by decide) k_2
      refine lv_iload_n hx hb dX6_isSign_12 rfl (lv_at hl 0 rfl) ?_
      refine lv_bipush (v := 63) hx hb dX6_isSign_13 (by decide) ?_
      refine lv_icmp_ne (tgt := 22) hx hb dX6_isSign_15 (by decide) (fun k_3 => ?_) (fun k_3 => ?_)
      · have tk_3 := c_ne (a := i0.toInt) (b := 63) rfl (by decide) k_3
        refine lv_iconst (v := 0) hx hb dX6_isSign_22 (by decide) ?_
        exact W.zret hx hb hr rfl (fun t ht hW => ⟨_, rfl, (Or.inr ⟨by decide, by omega⟩), ht⟩) t_nil dX6_isSign_23
      · have tk_3 := c_eq (a := i0.toInt) (b := 63) rfl (by decide) k_3
        refine lv_iconst (v := 1) hx hb dX6_isSign_18 (by decide) ?_
        refine lv_goto (tgt := 23) hx hb dX6_isSign_19 (by decide) ?_
        exact W.zret hx hb hr rfl (fun t ht hW => ⟨_, rfl, (Or.inl ⟨by decide, by omega⟩), ht⟩) t_nil dX6_isSign_23
def mwX6_endOfDocq : List Cond := .code yX6_endOfDoc cX6_endOfDoc 5 (some .int) :: (([.methodLink RX6 71 yX6_fail, .instanceMethod yX6_fail, .selects RX6 yX6_fail yX6_fail, .initialized RX6, .initialized RX9, .static yX9_isSmall] : List Cond) ++ (mwX6_fail ++ (mwX9_isSmallwq)))
set_option maxRecDepth 100000 in
theorem gd_mwX9_isSmallwq : mwX9_isSmallwq.all goodWord = true := by decide +kernel
set_option maxRecDepth 20000 in
theorem mg_X6_endOfDocq_X6_fail_71 : GoodIn mwX6_endOfDocq (wsV RX6 71 RX6 yX6_fail mwX6_fail) := gi_app (A := [.methodLink RX6 71 yX6_fail, .instanceMethod yX6_fail, .selects RX6 yX6_fail yX6_fail, .initialized RX6]) (goodIn_r _ [1, 2, 3, 4] (by decide +kernel) (by decide +kernel)) (gi_sub gd_mwX6_fail (fun w h => List.mem_cons_of_mem _ (List.mem_append_right _ (List.mem_append_left _ h))))
set_option maxRecDepth 20000 in
theorem mg_X6_endOfDocq_X9_isSmall_53 : GoodIn mwX6_endOfDocq mwX9_isSmallwq := gi_sub gd_mwX9_isSmallwq (fun w h => List.mem_cons_of_mem _ (List.mem_append_right _ (List.mem_append_right _ (h))))
set_option maxHeartbeats 4000000 in
set_option maxRecDepth 100000 in
/-- Reader.endOfDoc: what it reads -/
theorem s_endOfDoc_q (l : Launch) (dC : Nat → ClassId) (dI : Nat → Nat → Nat) (rd : Nat) (r : Nat → Nat) (a0 a1 a2 a3 a4 a5 a6 a7 : Int32) (ta nb : Nat) (cT : ClassId) (ft : Nat → Int32) (sz : Nat) (i8 i9 : Int32) (hn : nb ≤ 1000) (h1 : 0 ≤ i8.toInt) (h2 : i9.toInt ≤ nb) (h3 : i8.toInt ≤ i9.toInt) (h0 : a0.toInt = 0) : Met l yX6_endOfDoc mwX6_endOfDocq ({ frames := 1, cells := 0, slots := 0, locals := 60 }) (va_Pc [.ref rd, .ref ta, .int i8, .int i9] (fun U => U.heap.size = sz ∧ va_P (dC, dI) vwCl ([(rd, .inr (6, rF r a0 a1 a2 a3 a4 a5 a6 a7)), (ta, .inl (cT, nb, .inl ft))]) U.heap ∧ va_K (dC, dI) vwCl ([(cT, .int)]) U ∧ va_D (fun _ => True) ([(rd, .inr (6, rF r a0 a1 a2 a3 a4 a5 a6 a7)), (ta, .inl (cT, nb, .inl ft))]) ∧ va_Nw (.methodLinkNest RX6 53 yX9_isSmall "PatternGate") U)) (va_Qi (fun (o9 : Int32) (u : Int32) => o9 = u ∧ i8.toInt ≤ o9.toInt ∧ o9.toInt ≤ i9.toInt ∧ o9.toInt - i8.toInt ≤ 60) (fun u t => ∃ y0 y1 : Int32, dQ (tc ft i9.toInt) i8.toInt u.toInt y0.toInt ∧ va_P (dC, dI) vwCl [(rd, .inr (6, rF r y0 y1 a2 a3 a4 a5 a6 a7)), (ta, .inl (cT, nb, .inl ft))] t.heap ∧ va_K (dC, dI) vwCl [(cT, .int)] t ∧ va_D (va_A ([(rd, .inr (6, rF r a0 a1 a2 a3 a4 a5 a6 a7)), (ta, .inl (cT, nb, .inl ft))]) sz) [(rd, .inr (6, rF r y0 y1 a2 a3 a4 a5 a6 a7)), (ta, .inl (cT, nb, .inl ft))]) (va_A ([(rd, .inr (6, rF r a0 a1 a2 a3 a4 a5 a6 a7)), (ta, .inl (cT, nb, .inl ft))]) sz)) 0 0 (va_A ([(rd, .inr (6, rF r a0 a1 a2 a3 a4 a5 a6 a7)), (ta, .inl (cT, nb, .inl ft))]) sz) := by
  refine Met.ofW (cc := cX6_endOfDoc) (maxL := 5) (ret := (some .int)) (by decide +kernel) rfl ?_
  intro p e s m args below meth c s₁ B hml hv
  obtain ⟨rfl, hsz, hP, hK, hD0, hN53⟩ := hv
  have hx := B.exec
  have hb := B.bytes
  have hr := B.returns
  have hts := atoms_spec (ws := mwX6_endOfDocq) B.pre
  have hown : s.vm.findClass RX6 = some m.cls := findClass_of_methodNamed B.named
  have hlocks := B.notSynchronized
  subst hsz
  have hD := hD0.self (sz := s.heap.size)
  generalize hAe : va_A ([(rd, .inr (6, rF r a0 a1 a2 a3 a4 a5 a6 a7)), (ta, .inl (cT, nb, .inl ft))]) s.heap.size = A at hD ⊢
  have hA : ∀ q : Nat, s.heap.size ≤ q → A q := fun q h => by rw [← hAe]; exact Or.inr h
  have hP : va_P (dC, dI) vwCl [(rd, .inr (6, rF r a0 a1 a2 a3 a4 a5 a6 a7)), (ta, .inl (cT, nb, .inl ft))] s.heap := hP
  have hD : va_D A [(rd, .inr (6, rF r a0 a1 a2 a3 a4 a5 a6 a7)), (ta, .inl (cT, nb, .inl ft))] := hD
  have hK : va_K (dC, dI) vwCl [(cT, .int)] s := hK
  generalize hH : s.heap = H at hP ⊢
  have hS : va_S A s.heap H [] := by rw [← hH]; exact va_S.rf
  have hl := lv_entry ([.ref rd, .ref ta, .int i8, .int i9]) (n := 5) (Nat.le_of_ble_eq_true rfl)
  rw [lg_entry_eq]
  generalize (lg_sl ([.ref rd, .ref ta, .int i8, .int i9]) ++ List.replicate (5 - (lg_sl ([.ref rd, .ref ta, .int i8, .int i9])).length) Slot.unset).toArray = ls at hl ⊢
  have hl : lv_has ls 5 [(0, .ref rd), (1, .ref ta), (2, .int i8), (3, .int i9)] := hl
  have rg_i8 := i_rng i8
  have rg_i9 := i_rng i9
  refine lv_iload_n hx hb dX6_endOfDoc_0 rfl (lv_at hl 2 rfl) ?_
  refine lv_istore (lv' := [(4, .int i8), (0, .ref rd), (1, .ref ta), (2, .int i8), (3, .int i9)]) hx hb dX6_endOfDoc_1 hl (by decide) rfl (fun ls hl => ?_)
  have loop3 : ∀ (lm3 : Nat) (ax : Int32), (i8.toInt ≤ ax.toInt ∧ ax.toInt ≤ i9.toInt ∧ ax.toInt - i8.toInt ≤ 60) → (∀ d p, Ld (tc ft i9.toInt) (zDc i8.toInt i8.toInt d p) (zDc ax.toInt i8.toInt d p)) → ((i9.toInt - ax.toInt).toNat) < lm3 → ∀ (H : Heap) (locs : List Loc) (ls : Array Slot), va_P (dC, dI) vwCl [(rd, .inr (6, rF r a0 a1 a2 a3 a4 a5 a6 a7)), (ta, .inl (cT, nb, .inl ft))] H → va_D A [(rd, .inr (6, rF r a0 a1 a2 a3 a4 a5 a6 a7)), (ta, .inl (cT, nb, .inl ft))] → va_S A s.heap H locs → lv_has ls 5 [(4, .int ax), (0, .ref rd), (1, .ref ta), (2, .int i8), (3, .int i9)] → W p l e (headSpec mwX6_endOfDocq ({ frames := 1, cells := 0, slots := 0, locals := 60 })).room s m ([.ref rd, .ref ta, .int i8, .int i9]).toArray below meth c H locs 0 0 (MQ below (va_Qi (fun (o9 : Int32) (u : Int32) => o9 = u ∧ i8.toInt ≤ o9.toInt ∧ o9.toInt ≤ i9.toInt ∧ o9.toInt - i8.toInt ≤ 60) (fun u t => ∃ y0 y1 : Int32, dQ (tc ft i9.toInt) i8.toInt u.toInt y0.toInt ∧ va_P (dC, dI) vwCl [(rd, .inr (6, rF r y0 y1 a2 a3 a4 a5 a6 a7)), (ta, .inl (cT, nb, .inl ft))] t.heap ∧ va_K (dC, dI) vwCl [(cT, .int)] t ∧ va_D A [(rd, .inr (6, rF r y0 y1 a2 a3 a4 a5 a6 a7)), (ta, .inl (cT, nb, .inl ft))]) A) ([.ref rd, .ref ta, .int i8, .int i9]).toArray s 0 0 A) (F0 m 3 ls []) := by
    intro lm3
    induction lm3 with
    | zero => intro ax v3_0 v3_1 hm3; exact absurd hm3 (Nat.not_lt_zero _)
    | succ lm3 ih3 =>
      intro ax v3_0 v3_1 hm3 H locs ls hP hD hS hl
      have rg_ax := i_rng ax
      refine lv_iload hx hb dX6_endOfDoc_3 (lv_at hl 0 rfl) ?_
      refine lv_iload_n hx hb dX6_endOfDoc_5 rfl (lv_at hl 4 rfl) ?_
      refine lv_icmp_ge (tgt := 72) hx hb dX6_endOfDoc_6 (by decide) (fun k_1 => ?_) (fun k_1 => ?_)
      · have tk_1 := c_ge (a := ax.toInt) (b := i9.toInt) rfl rfl k_1
        refine lv_aload_n hx hb dX6_endOfDoc_72 rfl (lv_at hl 1 rfl) ?_
        refine lv_iconst (v := 1) hx hb dX6_endOfDoc_73 (by decide) ?_
        refine lv_iload_n hx hb dX6_endOfDoc_74 rfl (lv_at hl 4 rfl) ?_
        have hPc := hP.sub (ws' := [(rd, .inr (6, rF r a0 a1 a2 a3 a4 a5 a6 a7))]) [0] rfl
        have hKc := hK.sub (tys' := []) [] rfl
        have hDc := hD.sub (ws' := [(rd, .inr (6, rF r a0 a1 a2 a3 a4 a5 a6 a7))]) [0] (by decide) rfl
        have hFc := va_free (wc := [(rd, .inr (6, rF r a0 a1 a2 a3 a4 a5 a6 a7))]) hD hS hA [0] rfl
        refine va_callv (va_runV (As := [.int 1, .int i9]) (rest := []) ⟨hx, hb, hml, hown, hts⟩ (s_fail l dC dI rd r a0 a1 a2 a3 a4 a5 a6 a7 H.size 1 i9) (cwV 2 hts mg_X6_endOfDocq_X6_fail_71 rfl rfl rfl (by decide +kernel) ⟨Nat.le_of_ble_eq_true rfl, Nat.le_of_ble_eq_true rfl⟩) ⟨fun a U g mk q => by obtain ⟨q0, q1, qP, qK, qD⟩ := q; exact ⟨q0, q1, qP, va_K.moved (u := U) (U := U.calling g mk a) (Vm.Alike.refl U.vm) qK, qD⟩, va_recv hKc hPc (ci := 6) (q0 := 0) rfl rfl, fun U hU hW => ⟨rfl, by rw [hU], by rw [hU]; exact hPc, va_K.moved hW.alike hKc, hDc.weaken (fun _ _ _ _ => trivial)⟩⟩ rfl rfl hl.1 rfl (lv_room (Nat.le_of_ble_eq_true rfl)) dX6_endOfDoc_75 ⟨Nat.le_of_ble_eq_true rfl, Nat.le_of_ble_eq_true rfl⟩) hS (fun q _ h => hFc q h) hFc (fun u t H1 locs ht hvm hw hB hz1 hk1 hS => ?_)
        obtain ⟨hP1, hK1, hD1⟩ := hB
        rw [ht] at hP1
        obtain ⟨hP, hD⟩ := va_join (wr := [(ta, .inl (cT, nb, .inl ft))]) (w1 := [(rd, .inr (6, rF r 1 i9 a2 a3 a4 a5 a6 a7))]) hP hD [0] [1] rfl rfl (by decide) (by decide) hk1 hFc hP1 hD1
        generalize H1 = H at hP hS ⊢
        have hP : va_P (dC, dI) vwCl [(ta, .inl (cT, nb, .inl ft)), (rd, .inr (6, rF r 1 i9 a2 a3 a4 a5 a6 a7))] H := hP
        have hD : va_D A [(ta, .inl (cT, nb, .inl ft)), (rd, .inr (6, rF r 1 i9 a2 a3 a4 a5 a6 a7))] := hD
        refine lv_iload_n hx hb dX6_endOfDoc_78 rfl (lv_at hl 4 rfl) ?_
        have hP9 := hP.sub (ws' := [(rd, .inr (6, rF r 1 i9 a2 a3 a4 a5 a6 a7)), (ta, .inl (cT, nb, .inl ft))]) [1, 0] rfl
        have hD9 := hD.sub (ws' := [(rd, .inr (6, rF r 1 i9 a2 a3 a4 a5 a6 a7)), (ta, .inl (cT, nb, .inl ft))]) [1, 0] (by decide) rfl
        have hK9 := hK.sub (tys' := [(cT, .int)]) [0] rfl
        exact W.iret hx hb hr (fun t ht hW => ⟨⟨_, i9, rfl, ⟨rfl, by omega⟩, 1, i9, (dQ_f v3_1 (by rw [tc_end (by omega)]; omega) (by rw [tc_end (by omega)]; unfold isSm; omega) (by decide)), by rw [ht]; exact hP9, va_K.moved hW.alike hK9, hD9⟩, hS.F ht⟩) hS.2.2 dX6_endOfDoc_79
      · have tk_1 := c_nge (a := ax.toInt) (b := i9.toInt) rfl rfl k_1
        refine lv_aload_n hx hb dX6_endOfDoc_9 rfl (lv_at hl 2 rfl) ?_
        refine lv_iload hx hb dX6_endOfDoc_10 (lv_at hl 0 rfl) ?_
        refine va_iald hx hb hK hP 1 0 rfl rfl (i := ax) (vp_of (a := ax.toInt) rfl (by omega) (by omega)) dX6_endOfDoc_12 ?_
        refine lv_topi (fun y_4 ey_4 => ?_)
        have rg_y_4 := i_rng y_4
        have wy_4 := tc_ld (n := i9.toInt) ey_4 (by omega)
        have rg_y_4 := i_rng y_4
        refine lv_bipush (v := 34) hx hb dX6_endOfDoc_13 (by decide) ?_
        refine lv_icmp_ne (tgt := 27) hx hb dX6_endOfDoc_15 (by decide) (fun k_5 => ?_) (fun k_5 => ?_)
        · have tk_5 := c_ne (a := y_4.toInt) (b := 34) rfl (by decide) k_5
          refine lv_aload_n hx hb dX6_endOfDoc_27 rfl (lv_at hl 2 rfl) ?_
          refine lv_iload hx hb dX6_endOfDoc_28 (lv_at hl 0 rfl) ?_
          refine va_iald hx hb hK hP 1 0 rfl rfl (i := ax) (vp_of (a := ax.toInt) rfl (by omega) (by omega)) dX6_endOfDoc_30 ?_
          refine lv_topi (fun y_6 ey_6 => ?_)
          have rg_y_6 := i_rng y_6
          have wy_6 := tc_ld (n := i9.toInt) ey_6 (by omega)
          have rg_y_6 := i_rng y_6
          have hPc := hP.sub (ws' := []) [] rfl
          have hKc := hK.sub (tys' := []) [] rfl
          have hDc := hD.sub (ws' := []) [] (by decide) rfl
          have hFc := va_free (wc := []) hD hS hA [] rfl
          refine va_calli (va_runSN (As := [.int y_6]) (rest := []) ⟨hx, hb, hml, hown, hts⟩ (s_isSmallW_q l dC dI H.size y_6) ⟨va_cnB 1 hts mg_X6_endOfDocq_X9_isSmall_53 rfl rfl rfl hN53 (hts (.initialized RX9) (List.mem_of_getElem? (i := 5) (by decide +kernel))) (by decide +kernel) ⟨Nat.le_of_ble_eq_true rfl, Nat.le_of_ble_eq_true rfl⟩, (hts (.static yX9_isSmall) (List.mem_of_getElem? (i := 6) (by decide +kernel))), trivial⟩ ⟨fun a U g mk q => by obtain ⟨q0, q1, qP, qK, qD⟩ := q; exact ⟨q0, q1, qP, va_K.moved (u := U) (U := U.calling g mk a) (Vm.Alike.refl U.vm) qK, qD⟩, fun U hU hW => ⟨rfl, by rw [hU], by rw [hU]; exact hPc, va_K.moved hW.alike hKc, hDc.weaken (fun _ _ _ _ => trivial)⟩⟩ rfl rfl hl.1 rfl (lv_room (Nat.le_of_ble_eq_true rfl)) dX6_endOfDoc_31 ⟨Nat.le_of_ble_eq_true rfl, Nat.le_of_ble_eq_true rfl⟩) hS (fun q _ h => hFc q h) hFc (fun r_8 u t H1 locs ht hvm hw hB hz1 hk1 hS => ?_)
          have hr_8 := hw
          obtain ⟨hP, hD⟩ := va_join (wr := [(rd, .inr (6, rF r a0 a1 a2 a3 a4 a5 a6 a7)), (ta, .inl (cT, nb, .inl ft))]) (w1 := []) hP hD [] [0, 1] rfl rfl (by decide) (by decide) hk1 hFc (fun k q h => by simp at h) ⟨fun i j p q h => by simp at h, fun k q h => by simp at h⟩
          generalize H1 = H at hP hS ⊢
          have hP : va_P (dC, dI) vwCl [(rd, .inr (6, rF r a0 a1 a2 a3 a4 a5 a6 a7)), (ta, .inl (cT, nb, .inl ft))] H := hP
          have hD : va_D A [(rd, .inr (6, rF r a0 a1 a2 a3 a4 a5 a6 a7)), (ta, .inl (cT, nb, .inl ft))] := hD
          refine lv_if_ne (tgt := 47) hx hb dX6_endOfDoc_34 (by decide) (fun k_9 => ?_) (fun k_9 => ?_)
          · have tk_9 := c_ne (a := r_8.toInt) (b := 0) rfl (by decide) k_9
            refine lv_iload hx hb dX6_endOfDoc_47 (lv_at hl 0 rfl) ?_
            refine lv_iload_n hx hb dX6_endOfDoc_49 rfl (lv_at hl 3 rfl) ?_
            refine lv_isub hx hb dX6_endOfDoc_50 ?_
            refine lv_topi (fun y_10 ey_10 => ?_)
            first | have ty_10 := i_sub (a := ax.toInt) (b := i8.toInt) rfl rfl ey_10 (by omega) (by omega) | skip
            refine lv_bipush (v := 60) hx hb dX6_endOfDoc_51 (by decide) ?_
            refine lv_icmp_lt (tgt := 66) hx hb dX6_endOfDoc_53 (by decide) (fun k_11 => ?_) (fun k_11 => ?_)
            · have tk_11 := c_lt (a := y_10.toInt) (b := 60) rfl (by decide) k_11
              obtain ⟨y_12, ey_12⟩ : ∃ y : Int32, y = ax + 1 := ⟨_, rfl⟩
              first | have ty_12 := i_add (a := ax.toInt) (b := 1) rfl (by decide) ey_12 (by omega) (by omega) | skip
              refine lv_iinc (v := y_12) (lv' := [(4, .int y_12), (0, .ref rd), (1, .ref ta), (2, .int i8), (3, .int i9)]) hx hb dX6_endOfDoc_66 hl (k := 0) rfl (by rw [ey_12]; rfl) (by decide) rfl (fun ls hl => ?_)
              refine lv_goto (tgt := 3) hx hb dX6_endOfDoc_69 (by decide) ?_
              exact ih3 y_12 (by first | omega | assumption | decide) (dQ_next v3_1 (by unfold isSm; omega) (by omega) (show y_12.toInt = ax.toInt + 1 by omega)) (by omega) _ _ ls hP hD hS (lv_sub hl [0, 1, 2, 3, 4] rfl)
            · have tk_11 := c_nlt (a := y_10.toInt) (b := 60) rfl (by decide) k_11
              refine lv_aload_n hx hb dX6_endOfDoc_56 rfl (lv_at hl 1 rfl) ?_
              refine lv_iconst (v := 4) hx hb dX6_endOfDoc_57 (by decide) ?_
              refine lv_iload hx hb dX6_endOfDoc_58 (lv_at hl 0 rfl) ?_
              have hPc := hP.sub (ws' := [(rd, .inr (6, rF r a0 a1 a2 a3 a4 a5 a6 a7))]) [0] rfl
              have hKc := hK.sub (tys' := []) [] rfl
              have hDc := hD.sub (ws' := [(rd, .inr (6, rF r a0 a1 a2 a3 a4 a5 a6 a7))]) [0] (by decide) rfl
              have hFc := va_free (wc := [(rd, .inr (6, rF r a0 a1 a2 a3 a4 a5 a6 a7))]) hD hS hA [0] rfl
              refine va_callv (va_runV (As := [.int 4, .int ax]) (rest := []) ⟨hx, hb, hml, hown, hts⟩ (s_fail l dC dI rd r a0 a1 a2 a3 a4 a5 a6 a7 H.size 4 ax) (cwV 2 hts mg_X6_endOfDocq_X6_fail_71 rfl rfl rfl (by decide +kernel) ⟨Nat.le_of_ble_eq_true rfl, Nat.le_of_ble_eq_true rfl⟩) ⟨fun a U g mk q => by obtain ⟨q0, q1, qP, qK, qD⟩ := q; exact ⟨q0, q1, qP, va_K.moved (u := U) (U := U.calling g mk a) (Vm.Alike.refl U.vm) qK, qD⟩, va_recv hKc hPc (ci := 6) (q0 := 0) rfl rfl, fun U hU hW => ⟨rfl, by rw [hU], by rw [hU]; exact hPc, va_K.moved hW.alike hKc, hDc.weaken (fun _ _ _ _ => trivial)⟩⟩ rfl rfl hl.1 rfl (lv_room (Nat.le_of_ble_eq_true rfl)) dX6_endOfDoc_60 ⟨Nat.le_of_ble_eq_true rfl, Nat.le_of_ble_eq_true rfl⟩) hS (fun q _ h => hFc q h) hFc (fun u t H1 locs ht hvm hw hB hz1 hk1 hS => ?_)
              obtain ⟨hP1, hK1, hD1⟩ := hB
              rw [ht] at hP1
              obtain ⟨hP, hD⟩ := va_join (wr := [(ta, .inl (cT, nb, .inl ft))]) (w1 := [(rd, .inr (6, rF r 4 ax a2 a3 a4 a5 a6 a7))]) hP hD [0] [1] rfl rfl (by decide) (by decide) hk1 hFc hP1 hD1
              generalize H1 = H at hP hS ⊢
              have hP : va_P (dC, dI) vwCl [(ta, .inl (cT, nb, .inl ft)), (rd, .inr (6, rF r 4 ax a2 a3 a4 a5 a6 a7))] H := hP
              have hD : va_D A [(ta, .inl (cT, nb, .inl ft)), (rd, .inr (6, rF r 4 ax a2 a3 a4 a5 a6 a7))] := hD
              refine lv_iload hx hb dX6_endOfDoc_63 (lv_at hl 0 rfl) ?_
              have hP9 := hP.sub (ws' := [(rd, .inr (6, rF r 4 ax a2 a3 a4 a5 a6 a7)), (ta, .inl (cT, nb, .inl ft))]) [1, 0] rfl
              have hD9 := hD.sub (ws' := [(rd, .inr (6, rF r 4 ax a2 a3 a4 a5 a6 a7)), (ta, .inl (cT, nb, .inl ft))]) [1, 0] (by decide) rfl
              have hK9 := hK.sub (tys' := [(cT, .int)]) [0] rfl
              exact W.iret hx hb hr (fun t ht hW => ⟨⟨_, ax, rfl, ⟨rfl, by omega⟩, 4, ax, (dQ_f v3_1 (by omega) (by unfold isSm; omega) (by decide)), by rw [ht]; exact hP9, va_K.moved hW.alike hK9, hD9⟩, hS.F ht⟩) hS.2.2 dX6_endOfDoc_65
          · have tk_9 := c_eq (a := r_8.toInt) (b := 0) rfl (by decide) k_9
            refine lv_aload_n hx hb dX6_endOfDoc_37 rfl (lv_at hl 1 rfl) ?_
            refine lv_iconst (v := 1) hx hb dX6_endOfDoc_38 (by decide) ?_
            refine lv_iload hx hb dX6_endOfDoc_39 (lv_at hl 0 rfl) ?_
            have hPc := hP.sub (ws' := [(rd, .inr (6, rF r a0 a1 a2 a3 a4 a5 a6 a7))]) [0] rfl
            have hKc := hK.sub (tys' := []) [] rfl
            have hDc := hD.sub (ws' := [(rd, .inr (6, rF r a0 a1 a2 a3 a4 a5 a6 a7))]) [0] (by decide) rfl
            have hFc := va_free (wc := [(rd, .inr (6, rF r a0 a1 a2 a3 a4 a5 a6 a7))]) hD hS hA [0] rfl
            refine va_callv (va_runV (As := [.int 1, .int ax]) (rest := []) ⟨hx, hb, hml, hown, hts⟩ (s_fail l dC dI rd r a0 a1 a2 a3 a4 a5 a6 a7 H.size 1 ax) (cwV 2 hts mg_X6_endOfDocq_X6_fail_71 rfl rfl rfl (by decide +kernel) ⟨Nat.le_of_ble_eq_true rfl, Nat.le_of_ble_eq_true rfl⟩) ⟨fun a U g mk q => by obtain ⟨q0, q1, qP, qK, qD⟩ := q; exact ⟨q0, q1, qP, va_K.moved (u := U) (U := U.calling g mk a) (Vm.Alike.refl U.vm) qK, qD⟩, va_recv hKc hPc (ci := 6) (q0 := 0) rfl rfl, fun U hU hW => ⟨rfl, by rw [hU], by rw [hU]; exact hPc, va_K.moved hW.alike hKc, hDc.weaken (fun _ _ _ _ => trivial)⟩⟩ rfl rfl hl.1 rfl (lv_room (Nat.le_of_ble_eq_true rfl)) dX6_endOfDoc_41 ⟨Nat.le_of_ble_eq_true rfl, Nat.le_of_ble_eq_true rfl⟩) hS (fun q _ h => hFc q h) hFc (fun u t H1 locs ht hvm hw hB hz1 hk1 hS => ?_)
            obtain ⟨hP1, hK1, hD1⟩ := hB
            rw [ht] at hP1
            obtain ⟨hP, hD⟩ := va_join (wr := [(ta, .inl (cT, nb, .inl ft))]) (w1 := [(rd, .inr (6, rF r 1 ax a2 a3 a4 a5 a6 a7))]) hP hD [0] [1] rfl rfl (by decide) (by decide) hk1 hFc hP1 hD1
            generalize H1 = H at hP hS ⊢
            have hP : va_P (dC, dI) vwCl [(ta, .inl (cT, nb, .inl ft)), (rd, .inr (6, rF r 1 ax a2 a3 a4 a5 a6 a7))] H := hP
            have hD : va_D A [(ta, .inl (cT, nb, .inl ft)), (rd, .inr (6, rF r 1 ax a2 a3 a4 a5 a6 a7))] := hD
            refine lv_iload hx hb dX6_endOfDoc_44 (lv_at hl 0 rfl) ?_
            have hP9 := hP.sub (ws' := [(rd, .inr (6, rF r 1 ax a2 a3 a4 a5 a6 a7)), (ta, .inl (cT, nb, .inl ft))]) [1, 0] rfl
            have hD9 := hD.sub (ws' := [(rd, .inr (6, rF r 1 ax a2 a3 a4 a5 a6 a7)), (ta, .inl (cT, nb, .inl ft))]) [1, 0] (by decide) rfl
            have hK9 := hK.sub (tys' := [(cT, .int)]) [0] rfl
            exact W.iret hx hb hr (fun t ht hW => ⟨⟨_, ax, rfl, ⟨rfl, by omega⟩, 1, ax, (dQ_f v3_1 (by omega) (by unfold isSm; omega) (by decide)), by rw [ht]; exact hP9, va_K.moved hW.alike hK9, hD9⟩, hS.F ht⟩) hS.2.2 dX6_endOfDoc_46
        · have tk_5 := c_eq (a := y_4.toInt) (b := 34) rfl (by decide) k_5
          refine lv_iload hx hb dX6_endOfDoc_18 (lv_at hl 0 rfl) ?_
          refine lv_iload_n hx hb dX6_endOfDoc_20 rfl (lv_at hl 3 rfl) ?_
          refine lv_icmp_le (tgt := 27) hx hb dX6_endOfDoc_21 (by decide) (fun k_17 => ?_) (fun k_17 => ?_)
          · have tk_17 := c_le (a := ax.toInt) (b := i8.toInt) rfl rfl k_17
            refine lv_aload_n hx hb dX6_endOfDoc_27 rfl (lv_at hl 2 rfl) ?_
            refine lv_iload hx hb dX6_endOfDoc_28 (lv_at hl 0 rfl) ?_
            refine va_iald hx hb hK hP 1 0 rfl rfl (i := ax) (vp_of (a := ax.toInt) rfl (by omega) (by omega)) dX6_endOfDoc_30 ?_
            refine lv_topi (fun y_18 ey_18 => ?_)
            have rg_y_18 := i_rng y_18
            have wy_18 := tc_ld (n := i9.toInt) ey_18 (by omega)
            have rg_y_18 := i_rng y_18
            have hPc := hP.sub (ws' := []) [] rfl
            have hKc := hK.sub (tys' := []) [] rfl
            have hDc := hD.sub (ws' := []) [] (by decide) rfl
            have hFc := va_free (wc := []) hD hS hA [] rfl
            refine va_calli (va_runSN (As := [.int y_18]) (rest := []) ⟨hx, hb, hml, hown, hts⟩ (s_isSmallW_q l dC dI H.size y_18) ⟨va_cnB 1 hts mg_X6_endOfDocq_X9_isSmall_53 rfl rfl rfl hN53 (hts (.initialized RX9) (List.mem_of_getElem? (i := 5) (by decide +kernel))) (by decide +kernel) ⟨Nat.le_of_ble_eq_true rfl, Nat.le_of_ble_eq_true rfl⟩, (hts (.static yX9_isSmall) (List.mem_of_getElem? (i := 6) (by decide +kernel))), trivial⟩ ⟨fun a U g mk q => by obtain ⟨q0, q1, qP, qK, qD⟩ := q; exact ⟨q0, q1, qP, va_K.moved (u := U) (U := U.calling g mk a) (Vm.Alike.refl U.vm) qK, qD⟩, fun U hU hW => ⟨rfl, by rw [hU], by rw [hU]; exact hPc, va_K.moved hW.alike hKc, hDc.weaken (fun _ _ _ _ => trivial)⟩⟩ rfl rfl hl.1 rfl (lv_room (Nat.le_of_ble_eq_true rfl)) dX6_endOfDoc_31 ⟨Nat.le_of_ble_eq_true rfl, Nat.le_of_ble_eq_true rfl⟩) hS (fun q _ h => hFc q h) hFc (fun r_20 u t H1 locs ht hvm hw hB hz1 hk1 hS => ?_)
            have hr_20 := hw
            obtain ⟨hP, hD⟩ := va_join (wr := [(rd, .inr (6, rF r a0 a1 a2 a3 a4 a5 a6 a7)), (ta, .inl (cT, nb, .inl ft))]) (w1 := []) hP hD [] [0, 1] rfl rfl (by decide) (by decide) hk1 hFc (fun k q h => by simp at h) ⟨fun i j p q h => by simp at h, fun k q h => by simp at h⟩
            generalize H1 = H at hP hS ⊢
            have hP : va_P (dC, dI) vwCl [(rd, .inr (6, rF r a0 a1 a2 a3 a4 a5 a6 a7)), (ta, .inl (cT, nb, .inl ft))] H := hP
            have hD : va_D A [(rd, .inr (6, rF r a0 a1 a2 a3 a4 a5 a6 a7)), (ta, .inl (cT, nb, .inl ft))] := hD
            refine lv_if_ne (tgt := 47) hx hb dX6_endOfDoc_34 (by decide) (fun k_21 => ?_) (fun k_21 => ?_)
            · have tk_21 := c_ne (a := r_20.toInt) (b := 0) rfl (by decide) k_21
              refine lv_iload hx hb dX6_endOfDoc_47 (lv_at hl 0 rfl) ?_
              refine lv_iload_n hx hb dX6_endOfDoc_49 rfl (lv_at hl 3 rfl) ?_
              refine lv_isub hx hb dX6_endOfDoc_50 ?_
              refine lv_topi (fun y_22 ey_22 => ?_)
              first | have ty_22 := i_sub (a := ax.toInt) (b := i8.toInt) rfl rfl ey_22 (by omega) (by omega) | skip
              refine lv_bipush (v := 60) hx hb dX6_endOfDoc_51 (by decide) ?_
              refine lv_icmp_lt (tgt := 66) hx hb dX6_endOfDoc_53 (by decide) (fun k_23 => ?_) (fun k_23 => ?_)
              · have tk_23 := c_lt (a := y_22.toInt) (b := 60) rfl (by decide) k_23
                obtain ⟨y_24, ey_24⟩ : ∃ y : Int32, y = ax + 1 := ⟨_, rfl⟩
                first | have ty_24 := i_add (a := ax.toInt) (b := 1) rfl (by decide) ey_24 (by omega) (by omega) | skip
                refine lv_iinc (v := y_24) (lv' := [(4, .int y_24), (0, .ref rd), (1, .ref ta), (2, .int i8), (3, .int i9)]) hx hb dX6_endOfDoc_66 hl (k := 0) rfl (by rw [ey_24]; rfl) (by decide) rfl (fun ls hl => ?_)
                refine lv_goto (tgt := 3) hx hb dX6_endOfDoc_69 (by decide) ?_
                exact ih3 y_24 (by first | omega | assumption | decide) (dQ_next v3_1 (by unfold isSm; omega) (by omega) (show y_24.toInt = ax.toInt + 1 by omega)) (by omega) _ _ ls hP hD hS (lv_sub hl [0, 1, 2, 3, 4] rfl)
              · have tk_23 := c_nlt (a := y_22.toInt) (b := 60) rfl (by decide) k_23
                refine lv_aload_n hx hb dX6_endOfDoc_56 rfl (lv_at hl 1 rfl) ?_
                refine lv_iconst (v := 4) hx hb dX6_endOfDoc_57 (by decide) ?_
                refine lv_iload hx hb dX6_endOfDoc_58 (lv_at hl 0 rfl) ?_
                have hPc := hP.sub (ws' := [(rd, .inr (6, rF r a0 a1 a2 a3 a4 a5 a6 a7))]) [0] rfl
                have hKc := hK.sub (tys' := []) [] rfl
                have hDc := hD.sub (ws' := [(rd, .inr (6, rF r a0 a1 a2 a3 a4 a5 a6 a7))]) [0] (by decide) rfl
                have hFc := va_free (wc := [(rd, .inr (6, rF r a0 a1 a2 a3 a4 a5 a6 a7))]) hD hS hA [0] rfl
                refine va_callv (va_runV (As := [.int 4, .int ax]) (rest := []) ⟨hx, hb, hml, hown, hts⟩ (s_fail l dC dI rd r a0 a1 a2 a3 a4 a5 a6 a7 H.size 4 ax) (cwV 2 hts mg_X6_endOfDocq_X6_fail_71 rfl rfl rfl (by decide +kernel) ⟨Nat.le_of_ble_eq_true rfl, Nat.le_of_ble_eq_true rfl⟩) ⟨fun a U g mk q => by obtain ⟨q0, q1, qP, qK, qD⟩ := q; exact ⟨q0, q1, qP, va_K.moved (u := U) (U := U.calling g mk a) (Vm.Alike.refl U.vm) qK, qD⟩, va_recv hKc hPc (ci := 6) (q0 := 0) rfl rfl, fun U hU hW => ⟨rfl, by rw [hU], by rw [hU]; exact hPc, va_K.moved hW.alike hKc, hDc.weaken (fun _ _ _ _ => trivial)⟩⟩ rfl rfl hl.1 rfl (lv_room (Nat.le_of_ble_eq_true rfl)) dX6_endOfDoc_60 ⟨Nat.le_of_ble_eq_true rfl, Nat.le_of_ble_eq_true rfl⟩) hS (fun q _ h => hFc q h) hFc (fun u t H1 locs ht hvm hw hB hz1 hk1 hS => ?_)
                obtain ⟨hP1, hK1, hD1⟩ := hB
                rw [ht] at hP1
                obtain ⟨hP, hD⟩ := va_join (wr := [(ta, .inl (cT, nb, .inl ft))]) (w1 := [(rd, .inr (6, rF r 4 ax a2 a3 a4 a5 a6 a7))]) hP hD [0] [1] rfl rfl (by decide) (by decide) hk1 hFc hP1 hD1
                generalize H1 = H at hP hS ⊢
                have hP : va_P (dC, dI) vwCl [(ta, .inl (cT, nb, .inl ft)), (rd, .inr (6, rF r 4 ax a2 a3 a4 a5 a6 a7))] H := hP
                have hD : va_D A [(ta, .inl (cT, nb, .inl ft)), (rd, .inr (6, rF r 4 ax a2 a3 a4 a5 a6 a7))] := hD
                refine lv_iload hx hb dX6_endOfDoc_63 (lv_at hl 0 rfl) ?_
                have hP9 := hP.sub (ws' := [(rd, .inr (6, rF r 4 ax a2 a3 a4 a5 a6 a7)), (ta, .inl (cT, nb, .inl ft))]) [1, 0] rfl
                have hD9 := hD.sub (ws' := [(rd, .inr (6, rF r 4 ax a2 a3 a4 a5 a6 a7)), (ta, .inl (cT, nb, .inl ft))]) [1, 0] (by decide) rfl
                have hK9 := hK.sub (tys' := [(cT, .int)]) [0] rfl
                exact W.iret hx hb hr (fun t ht hW => ⟨⟨_, ax, rfl, ⟨rfl, by omega⟩, 4, ax, (dQ_f v3_1 (by omega) (by unfold isSm; omega) (by decide)), by rw [ht]; exact hP9, va_K.moved hW.alike hK9, hD9⟩, hS.F ht⟩) hS.2.2 dX6_endOfDoc_65
            · have tk_21 := c_eq (a := r_20.toInt) (b := 0) rfl (by decide) k_21
              refine lv_aload_n hx hb dX6_endOfDoc_37 rfl (lv_at hl 1 rfl) ?_
              refine lv_iconst (v := 1) hx hb dX6_endOfDoc_38 (by decide) ?_
              refine lv_iload hx hb dX6_endOfDoc_39 (lv_at hl 0 rfl) ?_
              have hPc := hP.sub (ws' := [(rd, .inr (6, rF r a0 a1 a2 a3 a4 a5 a6 a7))]) [0] rfl
              have hKc := hK.sub (tys' := []) [] rfl
              have hDc := hD.sub (ws' := [(rd, .inr (6, rF r a0 a1 a2 a3 a4 a5 a6 a7))]) [0] (by decide) rfl
              have hFc := va_free (wc := [(rd, .inr (6, rF r a0 a1 a2 a3 a4 a5 a6 a7))]) hD hS hA [0] rfl
              refine va_callv (va_runV (As := [.int 1, .int ax]) (rest := []) ⟨hx, hb, hml, hown, hts⟩ (s_fail l dC dI rd r a0 a1 a2 a3 a4 a5 a6 a7 H.size 1 ax) (cwV 2 hts mg_X6_endOfDocq_X6_fail_71 rfl rfl rfl (by decide +kernel) ⟨Nat.le_of_ble_eq_true rfl, Nat.le_of_ble_eq_true rfl⟩) ⟨fun a U g mk q => by obtain ⟨q0, q1, qP, qK, qD⟩ := q; exact ⟨q0, q1, qP, va_K.moved (u := U) (U := U.calling g mk a) (Vm.Alike.refl U.vm) qK, qD⟩, va_recv hKc hPc (ci := 6) (q0 := 0) rfl rfl, fun U hU hW => ⟨rfl, by rw [hU], by rw [hU]; exact hPc, va_K.moved hW.alike hKc, hDc.weaken (fun _ _ _ _ => trivial)⟩⟩ rfl rfl hl.1 rfl (lv_room (Nat.le_of_ble_eq_true rfl)) dX6_endOfDoc_41 ⟨Nat.le_of_ble_eq_true rfl, Nat.le_of_ble_eq_true rfl⟩) hS (fun q _ h => hFc q h) hFc (fun u t H1 locs ht hvm hw hB hz1 hk1 hS => ?_)
              obtain ⟨hP1, hK1, hD1⟩ := hB
              rw [ht] at hP1
              obtain ⟨hP, hD⟩ := va_join (wr := [(ta, .inl (cT, nb, .inl ft))]) (w1 := [(rd, .inr (6, rF r 1 ax a2 a3 a4 a5 a6 a7))]) hP hD [0] [1] rfl rfl (by decide) (by decide) hk1 hFc hP1 hD1
              generalize H1 = H at hP hS ⊢
              have hP : va_P (dC, dI) vwCl [(ta, .inl (cT, nb, .inl ft)), (rd, .inr (6, rF r 1 ax a2 a3 a4 a5 a6 a7))] H := hP
              have hD : va_D A [(ta, .inl (cT, nb, .inl ft)), (rd, .inr (6, rF r 1 ax a2 a3 a4 a5 a6 a7))] := hD
              refine lv_iload hx hb dX6_endOfDoc_44 (lv_at hl 0 rfl) ?_
              have hP9 := hP.sub (ws' := [(rd, .inr (6, rF r 1 ax a2 a3 a4 a5 a6 a7)), (ta, .inl (cT, nb, .inl ft))]) [1, 0] rfl
              have hD9 := hD.sub (ws' := [(rd, .inr (6, rF r 1 ax a2 a3 a4 a5 a6 a7)), (ta, .inl (cT, nb, .inl ft))]) [1, 0] (by decide) rfl
              have hK9 := hK.sub (tys' := [(cT, .int)]) [0] rfl
              exact W.iret hx hb hr (fun t ht hW => ⟨⟨_, ax, rfl, ⟨rfl, by omega⟩, 1, ax, (dQ_f v3_1 (by omega) (by unfold isSm; omega) (by decide)), by rw [ht]; exact hP9, va_K.moved hW.alike hK9, hD9⟩, hS.F ht⟩) hS.2.2 dX6_endOfDoc_46
          · have tk_17 := c_nle (a := ax.toInt) (b := i8.toInt) rfl rfl k_17
            refine lv_iload hx hb dX6_endOfDoc_24 (lv_at hl 0 rfl) ?_
            have hP9 := hP.sub (ws' := [(rd, .inr (6, rF r a0 a1 a2 a3 a4 a5 a6 a7)), (ta, .inl (cT, nb, .inl ft))]) [0, 1] rfl
            have hD9 := hD.sub (ws' := [(rd, .inr (6, rF r a0 a1 a2 a3 a4 a5 a6 a7)), (ta, .inl (cT, nb, .inl ft))]) [0, 1] (by decide) rfl
            have hK9 := hK.sub (tys' := [(cT, .int)]) [0] rfl
            exact W.iret hx hb hr (fun t ht hW => ⟨⟨_, ax, rfl, ⟨rfl, by omega⟩, a0, a1, (dQ_e v3_1 (by omega) (by omega) (by omega)), by rw [ht]; exact hP9, va_K.moved hW.alike hK9, hD9⟩, hS.F ht⟩) hS.2.2 dX6_endOfDoc_26
  exact loop3 _ i8 (by first | omega | assumption | decide) (fun _ _ => Ld.rf) (Nat.lt_succ_self _) _ _ ls hP hD hS (lv_sub hl [0, 1, 2, 3, 4] rfl)
theorem bt_and0 {n : Nat} (hn : n < 32) {l y m z : Int32} (hl : l.toInt = (n : Int)) (e : y = 1 <<< (l &&& 31)) (e2 : z = m &&& y) (h : z.toInt = 0) : bt m n = false := (bit_and hn hl e).mp (e2.symm.trans (Int32.toInt_inj.mp (h.trans (by decide))))
theorem bt_and1 {n : Nat} (hn : n < 32) {l y m z : Int32} (hl : l.toInt = (n : Int)) (e : y = 1 <<< (l &&& 31)) (e2 : z = m &&& y) (h : z.toInt ≠ 0) : bt m n = true := by
  rcases hb : bt m n with _ | _
  · exact absurd ((congrArg Int32.toInt (e2.trans ((bit_and hn hl e).mpr hb))).trans (by decide)) h
  · rfl
def mwX6_endOfSetq : List Cond := .code yX6_endOfSet cX6_endOfSet 7 (some .int) :: (([.methodLink RX6 71 yX6_fail, .instanceMethod yX6_fail, .selects RX6 yX6_fail yX6_fail, .initialized RX6, .initialized RX9, .static yX9_isSmall] : List Cond) ++ (mwX6_fail ++ (mwX9_isSmallwq)))
set_option maxRecDepth 20000 in
theorem mg_X6_endOfSetq_X6_fail_71 : GoodIn mwX6_endOfSetq (wsV RX6 71 RX6 yX6_fail mwX6_fail) := gi_app (A := [.methodLink RX6 71 yX6_fail, .instanceMethod yX6_fail, .selects RX6 yX6_fail yX6_fail, .initialized RX6]) (goodIn_r _ [1, 2, 3, 4] (by decide +kernel) (by decide +kernel)) (gi_sub gd_mwX6_fail (fun w h => List.mem_cons_of_mem _ (List.mem_append_right _ (List.mem_append_left _ h))))
set_option maxRecDepth 20000 in
theorem mg_X6_endOfSetq_X9_isSmall_53 : GoodIn mwX6_endOfSetq mwX9_isSmallwq := gi_sub gd_mwX9_isSmallwq (fun w h => List.mem_cons_of_mem _ (List.mem_append_right _ (List.mem_append_right _ (h))))
set_option maxHeartbeats 4000000 in
set_option maxRecDepth 100000 in
/-- Reader.endOfSet: what it reads -/
theorem s_endOfSet_q (l : Launch) (dC : Nat → ClassId) (dI : Nat → Nat → Nat) (rd : Nat) (r : Nat → Nat) (a0 a1 a2 a3 a4 a5 a6 a7 : Int32) (ta nb : Nat) (cT : ClassId) (ft : Nat → Int32) (sz : Nat) (i8 i9 : Int32) (hn : nb ≤ 1000) (h1 : 0 ≤ i8.toInt) (h2 : i9.toInt ≤ nb) (h3 : i8.toInt ≤ i9.toInt) (h0 : a0.toInt = 0) : Met l yX6_endOfSet mwX6_endOfSetq ({ frames := 1, cells := 0, slots := 0, locals := 60 }) (va_Pc [.ref rd, .ref ta, .int i8, .int i9] (fun U => U.heap.size = sz ∧ va_P (dC, dI) vwCl ([(rd, .inr (6, rF r a0 a1 a2 a3 a4 a5 a6 a7)), (ta, .inl (cT, nb, .inl ft))]) U.heap ∧ va_K (dC, dI) vwCl ([(cT, .int)]) U ∧ va_D (fun _ => True) ([(rd, .inr (6, rF r a0 a1 a2 a3 a4 a5 a6 a7)), (ta, .inl (cT, nb, .inl ft))]) ∧ va_Nw (.methodLinkNest RX6 53 yX9_isSmall "PatternGate") U)) (va_Qi (fun (o9 : Int32) (u : Int32) => o9 = u ∧ i8.toInt ≤ o9.toInt ∧ o9.toInt ≤ i9.toInt) (fun u t => ∃ y0 y1 : Int32, (dS (tc ft i9.toInt) i8.toInt u.toInt y0.toInt ∧ (y0.toInt = 0 → u.toInt < i9.toInt)) ∧ va_P (dC, dI) vwCl [(rd, .inr (6, rF r y0 y1 a2 a3 a4 a5 a6 a7)), (ta, .inl (cT, nb, .inl ft))] t.heap ∧ va_K (dC, dI) vwCl [(cT, .int)] t ∧ va_D (va_A ([(rd, .inr (6, rF r a0 a1 a2 a3 a4 a5 a6 a7)), (ta, .inl (cT, nb, .inl ft))]) sz) [(rd, .inr (6, rF r y0 y1 a2 a3 a4 a5 a6 a7)), (ta, .inl (cT, nb, .inl ft))]) (va_A ([(rd, .inr (6, rF r a0 a1 a2 a3 a4 a5 a6 a7)), (ta, .inl (cT, nb, .inl ft))]) sz)) 0 0 (va_A ([(rd, .inr (6, rF r a0 a1 a2 a3 a4 a5 a6 a7)), (ta, .inl (cT, nb, .inl ft))]) sz) := by
  refine Met.ofW (cc := cX6_endOfSet) (maxL := 7) (ret := (some .int)) (by decide +kernel) rfl ?_
  intro p e s m args below meth c s₁ B hml hv
  obtain ⟨rfl, hsz, hP, hK, hD0, hN53⟩ := hv
  have hx := B.exec
  have hb := B.bytes
  have hr := B.returns
  have hts := atoms_spec (ws := mwX6_endOfSetq) B.pre
  have hown : s.vm.findClass RX6 = some m.cls := findClass_of_methodNamed B.named
  have hlocks := B.notSynchronized
  subst hsz
  have hD := hD0.self (sz := s.heap.size)
  generalize hAe : va_A ([(rd, .inr (6, rF r a0 a1 a2 a3 a4 a5 a6 a7)), (ta, .inl (cT, nb, .inl ft))]) s.heap.size = A at hD ⊢
  have hA : ∀ q : Nat, s.heap.size ≤ q → A q := fun q h => by rw [← hAe]; exact Or.inr h
  have hP : va_P (dC, dI) vwCl [(rd, .inr (6, rF r a0 a1 a2 a3 a4 a5 a6 a7)), (ta, .inl (cT, nb, .inl ft))] s.heap := hP
  have hD : va_D A [(rd, .inr (6, rF r a0 a1 a2 a3 a4 a5 a6 a7)), (ta, .inl (cT, nb, .inl ft))] := hD
  have hK : va_K (dC, dI) vwCl [(cT, .int)] s := hK
  generalize hH : s.heap = H at hP ⊢
  have hS : va_S A s.heap H [] := by rw [← hH]; exact va_S.rf
  have hl := lv_entry ([.ref rd, .ref ta, .int i8, .int i9]) (n := 7) (Nat.le_of_ble_eq_true rfl)
  rw [lg_entry_eq]
  generalize (lg_sl ([.ref rd, .ref ta, .int i8, .int i9]) ++ List.replicate (7 - (lg_sl ([.ref rd, .ref ta, .int i8, .int i9])).length) Slot.unset).toArray = ls at hl ⊢
  have hl : lv_has ls 7 [(0, .ref rd), (1, .ref ta), (2, .int i8), (3, .int i9)] := hl
  have rg_i8 := i_rng i8
  have rg_i9 := i_rng i9
  refine lv_iconst (v := 0) hx hb dX6_endOfSet_0 (by decide) ?_
  refine lv_istore (lv' := [(4, .int 0), (0, .ref rd), (1, .ref ta), (2, .int i8), (3, .int i9)]) hx hb dX6_endOfSet_1 hl (by decide) rfl (fun ls hl => ?_)
  refine lv_iload_n hx hb dX6_endOfSet_3 rfl (lv_at hl 3 rfl) ?_
  refine lv_istore (lv' := [(5, .int i8), (4, .int 0), (0, .ref rd), (1, .ref ta), (2, .int i8), (3, .int i9)]) hx hb dX6_endOfSet_4 hl (by decide) rfl (fun ls hl => ?_)
  have loop6 : ∀ (lm6 : Nat) (le ax : Int32), (i8.toInt ≤ ax.toInt ∧ ax.toInt ≤ i9.toInt) → (∀ sp op d p, Ld (tc ft i9.toInt) (zSt i8.toInt i8.toInt sp op d p) (zSt ax.toInt i8.toInt sp op d p)) → (mk26 (tc ft i9.toInt) le i8.toInt ax.toInt) → (∀ j, i8.toInt ≤ j → j < ax.toInt → isSm ((tc ft i9.toInt) j)) → ((i9.toInt - ax.toInt).toNat) < lm6 → ∀ (H : Heap) (locs : List Loc) (ls : Array Slot), va_P (dC, dI) vwCl [(rd, .inr (6, rF r a0 a1 a2 a3 a4 a5 a6 a7)), (ta, .inl (cT, nb, .inl ft))] H → va_D A [(rd, .inr (6, rF r a0 a1 a2 a3 a4 a5 a6 a7)), (ta, .inl (cT, nb, .inl ft))] → va_S A s.heap H locs → lv_has ls 7 [(5, .int ax), (4, .int le), (0, .ref rd), (1, .ref ta), (2, .int i8), (3, .int i9)] → W p l e (headSpec mwX6_endOfSetq ({ frames := 1, cells := 0, slots := 0, locals := 60 })).room s m ([.ref rd, .ref ta, .int i8, .int i9]).toArray below meth c H locs 0 0 (MQ below (va_Qi (fun (o9 : Int32) (u : Int32) => o9 = u ∧ i8.toInt ≤ o9.toInt ∧ o9.toInt ≤ i9.toInt) (fun u t => ∃ y0 y1 : Int32, (dS (tc ft i9.toInt) i8.toInt u.toInt y0.toInt ∧ (y0.toInt = 0 → u.toInt < i9.toInt)) ∧ va_P (dC, dI) vwCl [(rd, .inr (6, rF r y0 y1 a2 a3 a4 a5 a6 a7)), (ta, .inl (cT, nb, .inl ft))] t.heap ∧ va_K (dC, dI) vwCl [(cT, .int)] t ∧ va_D A [(rd, .inr (6, rF r y0 y1 a2 a3 a4 a5 a6 a7)), (ta, .inl (cT, nb, .inl ft))]) A) ([.ref rd, .ref ta, .int i8, .int i9]).toArray s 0 0 A) (F0 m 6 ls []) := by
    intro lm6
    induction lm6 with
    | zero => intro le ax v6_0 v6_1 v6_2 v6_3 hm6; exact absurd hm6 (Nat.not_lt_zero _)
    | succ lm6 ih6 =>
      intro le ax v6_0 v6_1 v6_2 v6_3 hm6 H locs ls hP hD hS hl
      have rg_le := i_rng le
      have rg_ax := i_rng ax
      refine lv_iload hx hb dX6_endOfSet_6 (lv_at hl 0 rfl) ?_
      refine lv_iload_n hx hb dX6_endOfSet_8 rfl (lv_at hl 5 rfl) ?_
      refine lv_icmp_ge (tgt := 91) hx hb dX6_endOfSet_9 (by decide) (fun k_1 => ?_) (fun k_1 => ?_)
      · have tk_1 := c_ge (a := ax.toInt) (b := i9.toInt) rfl rfl k_1
        refine lv_aload_n hx hb dX6_endOfSet_91 rfl (lv_at hl 2 rfl) ?_
        refine lv_iconst (v := 1) hx hb dX6_endOfSet_92 (by decide) ?_
        refine lv_iload_n hx hb dX6_endOfSet_93 rfl (lv_at hl 5 rfl) ?_
        have hPc := hP.sub (ws' := [(rd, .inr (6, rF r a0 a1 a2 a3 a4 a5 a6 a7))]) [0] rfl
        have hKc := hK.sub (tys' := []) [] rfl
        have hDc := hD.sub (ws' := [(rd, .inr (6, rF r a0 a1 a2 a3 a4 a5 a6 a7))]) [0] (by decide) rfl
        have hFc := va_free (wc := [(rd, .inr (6, rF r a0 a1 a2 a3 a4 a5 a6 a7))]) hD hS hA [0] rfl
        refine va_callv (va_runV (As := [.int 1, .int i9]) (rest := []) ⟨hx, hb, hml, hown, hts⟩ (s_fail l dC dI rd r a0 a1 a2 a3 a4 a5 a6 a7 H.size 1 i9) (cwV 2 hts mg_X6_endOfSetq_X6_fail_71 rfl rfl rfl (by decide +kernel) ⟨Nat.le_of_ble_eq_true rfl, Nat.le_of_ble_eq_true rfl⟩) ⟨fun a U g mk q => by obtain ⟨q0, q1, qP, qK, qD⟩ := q; exact ⟨q0, q1, qP, va_K.moved (u := U) (U := U.calling g mk a) (Vm.Alike.refl U.vm) qK, qD⟩, va_recv hKc hPc (ci := 6) (q0 := 0) rfl rfl, fun U hU hW => ⟨rfl, by rw [hU], by rw [hU]; exact hPc, va_K.moved hW.alike hKc, hDc.weaken (fun _ _ _ _ => trivial)⟩⟩ rfl rfl hl.1 rfl (lv_room (Nat.le_of_ble_eq_true rfl)) dX6_endOfSet_94 ⟨Nat.le_of_ble_eq_true rfl, Nat.le_of_ble_eq_true rfl⟩) hS (fun q _ h => hFc q h) hFc (fun u t H1 locs ht hvm hw hB hz1 hk1 hS => ?_)
        obtain ⟨hP1, hK1, hD1⟩ := hB
        rw [ht] at hP1
        obtain ⟨hP, hD⟩ := va_join (wr := [(ta, .inl (cT, nb, .inl ft))]) (w1 := [(rd, .inr (6, rF r 1 i9 a2 a3 a4 a5 a6 a7))]) hP hD [0] [1] rfl rfl (by decide) (by decide) hk1 hFc hP1 hD1
        generalize H1 = H at hP hS ⊢
        have hP : va_P (dC, dI) vwCl [(ta, .inl (cT, nb, .inl ft)), (rd, .inr (6, rF r 1 i9 a2 a3 a4 a5 a6 a7))] H := hP
        have hD : va_D A [(ta, .inl (cT, nb, .inl ft)), (rd, .inr (6, rF r 1 i9 a2 a3 a4 a5 a6 a7))] := hD
        refine lv_iload_n hx hb dX6_endOfSet_97 rfl (lv_at hl 5 rfl) ?_
        have hP9 := hP.sub (ws' := [(rd, .inr (6, rF r 1 i9 a2 a3 a4 a5 a6 a7)), (ta, .inl (cT, nb, .inl ft))]) [1, 0] rfl
        have hD9 := hD.sub (ws' := [(rd, .inr (6, rF r 1 i9 a2 a3 a4 a5 a6 a7)), (ta, .inl (cT, nb, .inl ft))]) [1, 0] (by decide) rfl
        have hK9 := hK.sub (tys' := [(cT, .int)]) [0] rfl
        exact W.iret hx hb hr (fun t ht hW => ⟨⟨_, i9, rfl, ⟨rfl, by omega⟩, 1, i9, ⟨(dS_bad v6_1 (by rw [tc_end (by omega)]; unfold isSm; omega) (Or.inl (by rw [tc_end (by omega)]; omega)) (by decide)), fun h9 => absurd h9 (by decide)⟩, by rw [ht]; exact hP9, va_K.moved hW.alike hK9, hD9⟩, hS.F ht⟩) hS.2.2 dX6_endOfSet_98
      · have tk_1 := c_nge (a := ax.toInt) (b := i9.toInt) rfl rfl k_1
        refine lv_aload_n hx hb dX6_endOfSet_12 rfl (lv_at hl 3 rfl) ?_
        refine lv_iload hx hb dX6_endOfSet_13 (lv_at hl 0 rfl) ?_
        refine va_iald hx hb hK hP 1 0 rfl rfl (i := ax) (vp_of (a := ax.toInt) rfl (by omega) (by omega)) dX6_endOfSet_15 ?_
        refine lv_topi (fun y_4 ey_4 => ?_)
        have rg_y_4 := i_rng y_4
        have wy_4 := tc_ld (n := i9.toInt) ey_4 (by omega)
        have rg_y_4 := i_rng y_4
        refine lv_bipush (v := 93) hx hb dX6_endOfSet_16 (by decide) ?_
        refine lv_icmp_ne (tgt := 29) hx hb dX6_endOfSet_18 (by decide) (fun k_5 => ?_) (fun k_5 => ?_)
        · have tk_5 := c_ne (a := y_4.toInt) (b := 93) rfl (by decide) k_5
          refine lv_aload_n hx hb dX6_endOfSet_29 rfl (lv_at hl 3 rfl) ?_
          refine lv_iload hx hb dX6_endOfSet_30 (lv_at hl 0 rfl) ?_
          refine va_iald hx hb hK hP 1 0 rfl rfl (i := ax) (vp_of (a := ax.toInt) rfl (by omega) (by omega)) dX6_endOfSet_32 ?_
          refine lv_topi (fun y_6 ey_6 => ?_)
          have rg_y_6 := i_rng y_6
          have wy_6 := tc_ld (n := i9.toInt) ey_6 (by omega)
          have rg_y_6 := i_rng y_6
          have hPc := hP.sub (ws' := []) [] rfl
          have hKc := hK.sub (tys' := []) [] rfl
          have hDc := hD.sub (ws' := []) [] (by decide) rfl
          have hFc := va_free (wc := []) hD hS hA [] rfl
          refine va_calli (va_runSN (As := [.int y_6]) (rest := []) ⟨hx, hb, hml, hown, hts⟩ (s_isSmallW_q l dC dI H.size y_6) ⟨va_cnB 1 hts mg_X6_endOfSetq_X9_isSmall_53 rfl rfl rfl hN53 (hts (.initialized RX9) (List.mem_of_getElem? (i := 5) (by decide +kernel))) (by decide +kernel) ⟨Nat.le_of_ble_eq_true rfl, Nat.le_of_ble_eq_true rfl⟩, (hts (.static yX9_isSmall) (List.mem_of_getElem? (i := 6) (by decide +kernel))), trivial⟩ ⟨fun a U g mk q => by obtain ⟨q0, q1, qP, qK, qD⟩ := q; exact ⟨q0, q1, qP, va_K.moved (u := U) (U := U.calling g mk a) (Vm.Alike.refl U.vm) qK, qD⟩, fun U hU hW => ⟨rfl, by rw [hU], by rw [hU]; exact hPc, va_K.moved hW.alike hKc, hDc.weaken (fun _ _ _ _ => trivial)⟩⟩ rfl rfl hl.1 rfl (lv_room (Nat.le_of_ble_eq_true rfl)) dX6_endOfSet_33 ⟨Nat.le_of_ble_eq_true rfl, Nat.le_of_ble_eq_true rfl⟩) hS (fun q _ h => hFc q h) hFc (fun r_8 u t H1 locs ht hvm hw hB hz1 hk1 hS => ?_)
          have hr_8 := hw
          obtain ⟨hP, hD⟩ := va_join (wr := [(rd, .inr (6, rF r a0 a1 a2 a3 a4 a5 a6 a7)), (ta, .inl (cT, nb, .inl ft))]) (w1 := []) hP hD [] [0, 1] rfl rfl (by decide) (by decide) hk1 hFc (fun k q h => by simp at h) ⟨fun i j p q h => by simp at h, fun k q h => by simp at h⟩
          generalize H1 = H at hP hS ⊢
          have hP : va_P (dC, dI) vwCl [(rd, .inr (6, rF r a0 a1 a2 a3 a4 a5 a6 a7)), (ta, .inl (cT, nb, .inl ft))] H := hP
          have hD : va_D A [(rd, .inr (6, rF r a0 a1 a2 a3 a4 a5 a6 a7)), (ta, .inl (cT, nb, .inl ft))] := hD
          refine lv_if_ne (tgt := 49) hx hb dX6_endOfSet_36 (by decide) (fun k_9 => ?_) (fun k_9 => ?_)
          · have tk_9 := c_ne (a := r_8.toInt) (b := 0) rfl (by decide) k_9
            refine lv_iconst (v := 1) hx hb dX6_endOfSet_49 (by decide) ?_
            refine lv_aload_n hx hb dX6_endOfSet_50 rfl (lv_at hl 3 rfl) ?_
            refine lv_iload hx hb dX6_endOfSet_51 (lv_at hl 0 rfl) ?_
            refine va_iald hx hb hK hP 1 0 rfl rfl (i := ax) (vp_of (a := ax.toInt) rfl (by omega) (by omega)) dX6_endOfSet_53 ?_
            refine lv_topi (fun y_10 ey_10 => ?_)
            have rg_y_10 := i_rng y_10
            have wy_10 := tc_ld (n := i9.toInt) ey_10 (by omega)
            have rg_y_10 := i_rng y_10
            refine lv_bipush (v := 97) hx hb dX6_endOfSet_54 (by decide) ?_
            refine lv_isub hx hb dX6_endOfSet_56 ?_
            refine lv_topi (fun y_11 ey_11 => ?_)
            first | have ty_11 := i_sub (a := y_10.toInt) (b := 97) rfl (by decide) ey_11 (by omega) (by omega) | skip
            refine lv_ishl hx hb dX6_endOfSet_57 ?_
            refine lv_topi (fun y_12 ey_12 => ?_)
            have rg_y_12 := i_rng y_12
            refine lv_istore (lv' := [(6, .int y_12), (5, .int ax), (4, .int le), (0, .ref rd), (1, .ref ta), (2, .int i8), (3, .int i9)]) hx hb dX6_endOfSet_58 hl (by decide) rfl (fun ls hl => ?_)
            refine lv_iload hx hb dX6_endOfSet_60 (lv_at hl 2 rfl) ?_
            refine lv_iload hx hb dX6_endOfSet_62 (lv_at hl 0 rfl) ?_
            refine lv_iand hx hb dX6_endOfSet_64 ?_
            refine lv_topi (fun y_13 ey_13 => ?_)
            have rg_y_13 := i_rng y_13
            refine lv_if_eq (tgt := 78) hx hb dX6_endOfSet_65 (by decide) (fun k_14 => ?_) (fun k_14 => ?_)
            · have tk_14 := c_eq (a := y_13.toInt) (b := 0) rfl (by decide) k_14
              have hbt := bt_and0 (n := y_11.toInt.toNat) (by omega) (by omega) ey_12 ey_13 tk_14
              refine lv_iload hx hb dX6_endOfSet_78 (lv_at hl 2 rfl) ?_
              refine lv_iload hx hb dX6_endOfSet_80 (lv_at hl 0 rfl) ?_
              refine lv_ior hx hb dX6_endOfSet_82 ?_
              refine lv_topi (fun y_15 ey_15 => ?_)
              have rg_y_15 := i_rng y_15
              refine lv_istore (lv' := [(4, .int y_15), (6, .int y_12), (5, .int ax), (0, .ref rd), (1, .ref ta), (2, .int i8), (3, .int i9)]) hx hb dX6_endOfSet_83 hl (by decide) rfl (fun ls hl => ?_)
              obtain ⟨y_16, ey_16⟩ : ∃ y : Int32, y = ax + 1 := ⟨_, rfl⟩
              first | have ty_16 := i_add (a := ax.toInt) (b := 1) rfl (by decide) ey_16 (by omega) (by omega) | skip
              refine lv_iinc (v := y_16) (lv' := [(5, .int y_16), (4, .int y_15), (6, .int y_12), (0, .ref rd), (1, .ref ta), (2, .int i8), (3, .int i9)]) hx hb dX6_endOfSet_85 hl (k := 2) rfl (by rw [ey_16]; rfl) (by decide) rfl (fun ls hl => ?_)
              refine lv_goto (tgt := 6) hx hb dX6_endOfSet_88 (by decide) ?_
              exact ih6 y_15 y_16 (by first | omega | assumption | decide) (dS_next (n := y_11.toInt.toNat) v6_1 v6_2 (by unfold isSm; omega) (by omega) hbt (show y_16.toInt = ax.toInt + 1 by omega)) (mk_next (l := y_11) v6_2 (by omega) (by unfold isSm; omega) (by omega) ey_12 ey_15 (show y_16.toInt = ax.toInt + 1 by omega)) (by rw [show y_16.toInt = ax.toInt + 1 by omega]; exact sm_step v6_3 (by unfold isSm; omega)) (by omega) _ _ ls hP hD hS (lv_sub hl [0, 1, 3, 4, 5, 6] rfl)
            · have tk_14 := c_ne (a := y_13.toInt) (b := 0) rfl (by decide) k_14
              have hbt := bt_and1 (n := y_11.toInt.toNat) (by omega) (by omega) ey_12 ey_13 tk_14
              refine lv_aload_n hx hb dX6_endOfSet_68 rfl (lv_at hl 3 rfl) ?_
              refine lv_iconst (v := 4) hx hb dX6_endOfSet_69 (by decide) ?_
              refine lv_iload hx hb dX6_endOfSet_70 (lv_at hl 1 rfl) ?_
              have hPc := hP.sub (ws' := [(rd, .inr (6, rF r a0 a1 a2 a3 a4 a5 a6 a7))]) [0] rfl
              have hKc := hK.sub (tys' := []) [] rfl
              have hDc := hD.sub (ws' := [(rd, .inr (6, rF r a0 a1 a2 a3 a4 a5 a6 a7))]) [0] (by decide) rfl
              have hFc := va_free (wc := [(rd, .inr (6, rF r a0 a1 a2 a3 a4 a5 a6 a7))]) hD hS hA [0] rfl
              refine va_callv (va_runV (As := [.int 4, .int ax]) (rest := []) ⟨hx, hb, hml, hown, hts⟩ (s_fail l dC dI rd r a0 a1 a2 a3 a4 a5 a6 a7 H.size 4 ax) (cwV 2 hts mg_X6_endOfSetq_X6_fail_71 rfl rfl rfl (by decide +kernel) ⟨Nat.le_of_ble_eq_true rfl, Nat.le_of_ble_eq_true rfl⟩) ⟨fun a U g mk q => by obtain ⟨q0, q1, qP, qK, qD⟩ := q; exact ⟨q0, q1, qP, va_K.moved (u := U) (U := U.calling g mk a) (Vm.Alike.refl U.vm) qK, qD⟩, va_recv hKc hPc (ci := 6) (q0 := 0) rfl rfl, fun U hU hW => ⟨rfl, by rw [hU], by rw [hU]; exact hPc, va_K.moved hW.alike hKc, hDc.weaken (fun _ _ _ _ => trivial)⟩⟩ rfl rfl hl.1 rfl (lv_room (Nat.le_of_ble_eq_true rfl)) dX6_endOfSet_72 ⟨Nat.le_of_ble_eq_true rfl, Nat.le_of_ble_eq_true rfl⟩) hS (fun q _ h => hFc q h) hFc (fun u t H1 locs ht hvm hw hB hz1 hk1 hS => ?_)
              obtain ⟨hP1, hK1, hD1⟩ := hB
              rw [ht] at hP1
              obtain ⟨hP, hD⟩ := va_join (wr := [(ta, .inl (cT, nb, .inl ft))]) (w1 := [(rd, .inr (6, rF r 4 ax a2 a3 a4 a5 a6 a7))]) hP hD [0] [1] rfl rfl (by decide) (by decide) hk1 hFc hP1 hD1
              generalize H1 = H at hP hS ⊢
              have hP : va_P (dC, dI) vwCl [(ta, .inl (cT, nb, .inl ft)), (rd, .inr (6, rF r 4 ax a2 a3 a4 a5 a6 a7))] H := hP
              have hD : va_D A [(ta, .inl (cT, nb, .inl ft)), (rd, .inr (6, rF r 4 ax a2 a3 a4 a5 a6 a7))] := hD
              refine lv_iload hx hb dX6_endOfSet_75 (lv_at hl 1 rfl) ?_
              have hP9 := hP.sub (ws' := [(rd, .inr (6, rF r 4 ax a2 a3 a4 a5 a6 a7)), (ta, .inl (cT, nb, .inl ft))]) [1, 0] rfl
              have hD9 := hD.sub (ws' := [(rd, .inr (6, rF r 4 ax a2 a3 a4 a5 a6 a7)), (ta, .inl (cT, nb, .inl ft))]) [1, 0] (by decide) rfl
              have hK9 := hK.sub (tys' := [(cT, .int)]) [0] rfl
              exact W.iret hx hb hr (fun t ht hW => ⟨⟨_, ax, rfl, ⟨rfl, by omega⟩, 4, ax, ⟨(dS_two (n := y_11.toInt.toNat) v6_1 v6_2 (by unfold isSm; omega) (by omega) hbt (by decide)), fun h9 => absurd h9 (by decide)⟩, by rw [ht]; exact hP9, va_K.moved hW.alike hK9, hD9⟩, hS.F ht⟩) hS.2.2 dX6_endOfSet_77
          · have tk_9 := c_eq (a := r_8.toInt) (b := 0) rfl (by decide) k_9
            refine lv_aload_n hx hb dX6_endOfSet_39 rfl (lv_at hl 2 rfl) ?_
            refine lv_iconst (v := 1) hx hb dX6_endOfSet_40 (by decide) ?_
            refine lv_iload hx hb dX6_endOfSet_41 (lv_at hl 0 rfl) ?_
            have hPc := hP.sub (ws' := [(rd, .inr (6, rF r a0 a1 a2 a3 a4 a5 a6 a7))]) [0] rfl
            have hKc := hK.sub (tys' := []) [] rfl
            have hDc := hD.sub (ws' := [(rd, .inr (6, rF r a0 a1 a2 a3 a4 a5 a6 a7))]) [0] (by decide) rfl
            have hFc := va_free (wc := [(rd, .inr (6, rF r a0 a1 a2 a3 a4 a5 a6 a7))]) hD hS hA [0] rfl
            refine va_callv (va_runV (As := [.int 1, .int ax]) (rest := []) ⟨hx, hb, hml, hown, hts⟩ (s_fail l dC dI rd r a0 a1 a2 a3 a4 a5 a6 a7 H.size 1 ax) (cwV 2 hts mg_X6_endOfSetq_X6_fail_71 rfl rfl rfl (by decide +kernel) ⟨Nat.le_of_ble_eq_true rfl, Nat.le_of_ble_eq_true rfl⟩) ⟨fun a U g mk q => by obtain ⟨q0, q1, qP, qK, qD⟩ := q; exact ⟨q0, q1, qP, va_K.moved (u := U) (U := U.calling g mk a) (Vm.Alike.refl U.vm) qK, qD⟩, va_recv hKc hPc (ci := 6) (q0 := 0) rfl rfl, fun U hU hW => ⟨rfl, by rw [hU], by rw [hU]; exact hPc, va_K.moved hW.alike hKc, hDc.weaken (fun _ _ _ _ => trivial)⟩⟩ rfl rfl hl.1 rfl (lv_room (Nat.le_of_ble_eq_true rfl)) dX6_endOfSet_43 ⟨Nat.le_of_ble_eq_true rfl, Nat.le_of_ble_eq_true rfl⟩) hS (fun q _ h => hFc q h) hFc (fun u t H1 locs ht hvm hw hB hz1 hk1 hS => ?_)
            obtain ⟨hP1, hK1, hD1⟩ := hB
            rw [ht] at hP1
            obtain ⟨hP, hD⟩ := va_join (wr := [(ta, .inl (cT, nb, .inl ft))]) (w1 := [(rd, .inr (6, rF r 1 ax a2 a3 a4 a5 a6 a7))]) hP hD [0] [1] rfl rfl (by decide) (by decide) hk1 hFc hP1 hD1
            generalize H1 = H at hP hS ⊢
            have hP : va_P (dC, dI) vwCl [(ta, .inl (cT, nb, .inl ft)), (rd, .inr (6, rF r 1 ax a2 a3 a4 a5 a6 a7))] H := hP
            have hD : va_D A [(ta, .inl (cT, nb, .inl ft)), (rd, .inr (6, rF r 1 ax a2 a3 a4 a5 a6 a7))] := hD
            refine lv_iload hx hb dX6_endOfSet_46 (lv_at hl 0 rfl) ?_
            have hP9 := hP.sub (ws' := [(rd, .inr (6, rF r 1 ax a2 a3 a4 a5 a6 a7)), (ta, .inl (cT, nb, .inl ft))]) [1, 0] rfl
            have hD9 := hD.sub (ws' := [(rd, .inr (6, rF r 1 ax a2 a3 a4 a5 a6 a7)), (ta, .inl (cT, nb, .inl ft))]) [1, 0] (by decide) rfl
            have hK9 := hK.sub (tys' := [(cT, .int)]) [0] rfl
            exact W.iret hx hb hr (fun t ht hW => ⟨⟨_, ax, rfl, ⟨rfl, by omega⟩, 1, ax, ⟨(dS_bad v6_1 (by unfold isSm; omega) (by omega) (by decide)), fun h9 => absurd h9 (by decide)⟩, by rw [ht]; exact hP9, va_K.moved hW.alike hK9, hD9⟩, hS.F ht⟩) hS.2.2 dX6_endOfSet_48
        · have tk_5 := c_eq (a := y_4.toInt) (b := 93) rfl (by decide) k_5
          refine lv_iload hx hb dX6_endOfSet_21 (lv_at hl 1 rfl) ?_
          refine lv_if_eq (tgt := 29) hx hb dX6_endOfSet_23 (by decide) (fun k_21 => ?_) (fun k_21 => ?_)
          · have tk_21 := c_eq (a := le.toInt) (b := 0) rfl (by decide) k_21
            have hz9 := seR_z v6_2 v6_3 (by omega) tk_21
            refine lv_aload_n hx hb dX6_endOfSet_29 rfl (lv_at hl 3 rfl) ?_
            refine lv_iload hx hb dX6_endOfSet_30 (lv_at hl 0 rfl) ?_
            refine va_iald hx hb hK hP 1 0 rfl rfl (i := ax) (vp_of (a := ax.toInt) rfl (by omega) (by omega)) dX6_endOfSet_32 ?_
            refine lv_topi (fun y_22 ey_22 => ?_)
            have rg_y_22 := i_rng y_22
            have wy_22 := tc_ld (n := i9.toInt) ey_22 (by omega)
            have rg_y_22 := i_rng y_22
            have hPc := hP.sub (ws' := []) [] rfl
            have hKc := hK.sub (tys' := []) [] rfl
            have hDc := hD.sub (ws' := []) [] (by decide) rfl
            have hFc := va_free (wc := []) hD hS hA [] rfl
            refine va_calli (va_runSN (As := [.int y_22]) (rest := []) ⟨hx, hb, hml, hown, hts⟩ (s_isSmallW_q l dC dI H.size y_22) ⟨va_cnB 1 hts mg_X6_endOfSetq_X9_isSmall_53 rfl rfl rfl hN53 (hts (.initialized RX9) (List.mem_of_getElem? (i := 5) (by decide +kernel))) (by decide +kernel) ⟨Nat.le_of_ble_eq_true rfl, Nat.le_of_ble_eq_true rfl⟩, (hts (.static yX9_isSmall) (List.mem_of_getElem? (i := 6) (by decide +kernel))), trivial⟩ ⟨fun a U g mk q => by obtain ⟨q0, q1, qP, qK, qD⟩ := q; exact ⟨q0, q1, qP, va_K.moved (u := U) (U := U.calling g mk a) (Vm.Alike.refl U.vm) qK, qD⟩, fun U hU hW => ⟨rfl, by rw [hU], by rw [hU]; exact hPc, va_K.moved hW.alike hKc, hDc.weaken (fun _ _ _ _ => trivial)⟩⟩ rfl rfl hl.1 rfl (lv_room (Nat.le_of_ble_eq_true rfl)) dX6_endOfSet_33 ⟨Nat.le_of_ble_eq_true rfl, Nat.le_of_ble_eq_true rfl⟩) hS (fun q _ h => hFc q h) hFc (fun r_24 u t H1 locs ht hvm hw hB hz1 hk1 hS => ?_)
            have hr_24 := hw
            obtain ⟨hP, hD⟩ := va_join (wr := [(rd, .inr (6, rF r a0 a1 a2 a3 a4 a5 a6 a7)), (ta, .inl (cT, nb, .inl ft))]) (w1 := []) hP hD [] [0, 1] rfl rfl (by decide) (by decide) hk1 hFc (fun k q h => by simp at h) ⟨fun i j p q h => by simp at h, fun k q h => by simp at h⟩
            generalize H1 = H at hP hS ⊢
            have hP : va_P (dC, dI) vwCl [(rd, .inr (6, rF r a0 a1 a2 a3 a4 a5 a6 a7)), (ta, .inl (cT, nb, .inl ft))] H := hP
            have hD : va_D A [(rd, .inr (6, rF r a0 a1 a2 a3 a4 a5 a6 a7)), (ta, .inl (cT, nb, .inl ft))] := hD
            refine lv_if_ne (tgt := 49) hx hb dX6_endOfSet_36 (by decide) (fun k_25 => ?_) (fun k_25 => ?_)
            · have tk_25 := c_ne (a := r_24.toInt) (b := 0) rfl (by decide) k_25
              refine lv_iconst (v := 1) hx hb dX6_endOfSet_49 (by decide) ?_
              refine lv_aload_n hx hb dX6_endOfSet_50 rfl (lv_at hl 3 rfl) ?_
              refine lv_iload hx hb dX6_endOfSet_51 (lv_at hl 0 rfl) ?_
              refine va_iald hx hb hK hP 1 0 rfl rfl (i := ax) (vp_of (a := ax.toInt) rfl (by omega) (by omega)) dX6_endOfSet_53 ?_
              refine lv_topi (fun y_26 ey_26 => ?_)
              have rg_y_26 := i_rng y_26
              have wy_26 := tc_ld (n := i9.toInt) ey_26 (by omega)
              have rg_y_26 := i_rng y_26
              refine lv_bipush (v := 97) hx hb dX6_endOfSet_54 (by decide) ?_
              refine lv_isub hx hb dX6_endOfSet_56 ?_
              refine lv_topi (fun y_27 ey_27 => ?_)
              first | have ty_27 := i_sub (a := y_26.toInt) (b := 97) rfl (by decide) ey_27 (by omega) (by omega) | skip
              refine lv_ishl hx hb dX6_endOfSet_57 ?_
              refine lv_topi (fun y_28 ey_28 => ?_)
              have rg_y_28 := i_rng y_28
              refine lv_istore (lv' := [(6, .int y_28), (5, .int ax), (4, .int le), (0, .ref rd), (1, .ref ta), (2, .int i8), (3, .int i9)]) hx hb dX6_endOfSet_58 hl (by decide) rfl (fun ls hl => ?_)
              refine lv_iload hx hb dX6_endOfSet_60 (lv_at hl 2 rfl) ?_
              refine lv_iload hx hb dX6_endOfSet_62 (lv_at hl 0 rfl) ?_
              refine lv_iand hx hb dX6_endOfSet_64 ?_
              refine lv_topi (fun y_29 ey_29 => ?_)
              have rg_y_29 := i_rng y_29
              refine lv_if_eq (tgt := 78) hx hb dX6_endOfSet_65 (by decide) (fun k_30 => ?_) (fun k_30 => ?_)
              · have tk_30 := c_eq (a := y_29.toInt) (b := 0) rfl (by decide) k_30
                have hbt := bt_and0 (n := y_27.toInt.toNat) (by omega) (by omega) ey_28 ey_29 tk_30
                refine lv_iload hx hb dX6_endOfSet_78 (lv_at hl 2 rfl) ?_
                refine lv_iload hx hb dX6_endOfSet_80 (lv_at hl 0 rfl) ?_
                refine lv_ior hx hb dX6_endOfSet_82 ?_
                refine lv_topi (fun y_31 ey_31 => ?_)
                have rg_y_31 := i_rng y_31
                refine lv_istore (lv' := [(4, .int y_31), (6, .int y_28), (5, .int ax), (0, .ref rd), (1, .ref ta), (2, .int i8), (3, .int i9)]) hx hb dX6_endOfSet_83 hl (by decide) rfl (fun ls hl => ?_)
                obtain ⟨y_32, ey_32⟩ : ∃ y : Int32, y = ax + 1 := ⟨_, rfl⟩
                first | have ty_32 := i_add (a := ax.toInt) (b := 1) rfl (by decide) ey_32 (by omega) (by omega) | skip
                refine lv_iinc (v := y_32) (lv' := [(5, .int y_32), (4, .int y_31), (6, .int y_28), (0, .ref rd), (1, .ref ta), (2, .int i8), (3, .int i9)]) hx hb dX6_endOfSet_85 hl (k := 2) rfl (by rw [ey_32]; rfl) (by decide) rfl (fun ls hl => ?_)
                refine lv_goto (tgt := 6) hx hb dX6_endOfSet_88 (by decide) ?_
                exact ih6 y_31 y_32 (by first | omega | assumption | decide) (dS_next (n := y_27.toInt.toNat) v6_1 v6_2 (by unfold isSm; omega) (by omega) hbt (show y_32.toInt = ax.toInt + 1 by omega)) (mk_next (l := y_27) v6_2 (by omega) (by unfold isSm; omega) (by omega) ey_28 ey_31 (show y_32.toInt = ax.toInt + 1 by omega)) (by rw [show y_32.toInt = ax.toInt + 1 by omega]; exact sm_step v6_3 (by unfold isSm; omega)) (by omega) _ _ ls hP hD hS (lv_sub hl [0, 1, 3, 4, 5, 6] rfl)
              · have tk_30 := c_ne (a := y_29.toInt) (b := 0) rfl (by decide) k_30
                have hbt := bt_and1 (n := y_27.toInt.toNat) (by omega) (by omega) ey_28 ey_29 tk_30
                refine lv_aload_n hx hb dX6_endOfSet_68 rfl (lv_at hl 3 rfl) ?_
                refine lv_iconst (v := 4) hx hb dX6_endOfSet_69 (by decide) ?_
                refine lv_iload hx hb dX6_endOfSet_70 (lv_at hl 1 rfl) ?_
                have hPc := hP.sub (ws' := [(rd, .inr (6, rF r a0 a1 a2 a3 a4 a5 a6 a7))]) [0] rfl
                have hKc := hK.sub (tys' := []) [] rfl
                have hDc := hD.sub (ws' := [(rd, .inr (6, rF r a0 a1 a2 a3 a4 a5 a6 a7))]) [0] (by decide) rfl
                have hFc := va_free (wc := [(rd, .inr (6, rF r a0 a1 a2 a3 a4 a5 a6 a7))]) hD hS hA [0] rfl
                refine va_callv (va_runV (As := [.int 4, .int ax]) (rest := []) ⟨hx, hb, hml, hown, hts⟩ (s_fail l dC dI rd r a0 a1 a2 a3 a4 a5 a6 a7 H.size 4 ax) (cwV 2 hts mg_X6_endOfSetq_X6_fail_71 rfl rfl rfl (by decide +kernel) ⟨Nat.le_of_ble_eq_true rfl, Nat.le_of_ble_eq_true rfl⟩) ⟨fun a U g mk q => by obtain ⟨q0, q1, qP, qK, qD⟩ := q; exact ⟨q0, q1, qP, va_K.moved (u := U) (U := U.calling g mk a) (Vm.Alike.refl U.vm) qK, qD⟩, va_recv hKc hPc (ci := 6) (q0 := 0) rfl rfl, fun U hU hW => ⟨rfl, by rw [hU], by rw [hU]; exact hPc, va_K.moved hW.alike hKc, hDc.weaken (fun _ _ _ _ => trivial)⟩⟩ rfl rfl hl.1 rfl (lv_room (Nat.le_of_ble_eq_true rfl)) dX6_endOfSet_72 ⟨Nat.le_of_ble_eq_true rfl, Nat.le_of_ble_eq_true rfl⟩) hS (fun q _ h => hFc q h) hFc (fun u t H1 locs ht hvm hw hB hz1 hk1 hS => ?_)
                obtain ⟨hP1, hK1, hD1⟩ := hB
                rw [ht] at hP1
                obtain ⟨hP, hD⟩ := va_join (wr := [(ta, .inl (cT, nb, .inl ft))]) (w1 := [(rd, .inr (6, rF r 4 ax a2 a3 a4 a5 a6 a7))]) hP hD [0] [1] rfl rfl (by decide) (by decide) hk1 hFc hP1 hD1
                generalize H1 = H at hP hS ⊢
                have hP : va_P (dC, dI) vwCl [(ta, .inl (cT, nb, .inl ft)), (rd, .inr (6, rF r 4 ax a2 a3 a4 a5 a6 a7))] H := hP
                have hD : va_D A [(ta, .inl (cT, nb, .inl ft)), (rd, .inr (6, rF r 4 ax a2 a3 a4 a5 a6 a7))] := hD
                refine lv_iload hx hb dX6_endOfSet_75 (lv_at hl 1 rfl) ?_
                have hP9 := hP.sub (ws' := [(rd, .inr (6, rF r 4 ax a2 a3 a4 a5 a6 a7)), (ta, .inl (cT, nb, .inl ft))]) [1, 0] rfl
                have hD9 := hD.sub (ws' := [(rd, .inr (6, rF r 4 ax a2 a3 a4 a5 a6 a7)), (ta, .inl (cT, nb, .inl ft))]) [1, 0] (by decide) rfl
                have hK9 := hK.sub (tys' := [(cT, .int)]) [0] rfl
                exact W.iret hx hb hr (fun t ht hW => ⟨⟨_, ax, rfl, ⟨rfl, by omega⟩, 4, ax, ⟨(dS_two (n := y_27.toInt.toNat) v6_1 v6_2 (by unfold isSm; omega) (by omega) hbt (by decide)), fun h9 => absurd h9 (by decide)⟩, by rw [ht]; exact hP9, va_K.moved hW.alike hK9, hD9⟩, hS.F ht⟩) hS.2.2 dX6_endOfSet_77
            · have tk_25 := c_eq (a := r_24.toInt) (b := 0) rfl (by decide) k_25
              refine lv_aload_n hx hb dX6_endOfSet_39 rfl (lv_at hl 2 rfl) ?_
              refine lv_iconst (v := 1) hx hb dX6_endOfSet_40 (by decide) ?_
              refine lv_iload hx hb dX6_endOfSet_41 (lv_at hl 0 rfl) ?_
              have hPc := hP.sub (ws' := [(rd, .inr (6, rF r a0 a1 a2 a3 a4 a5 a6 a7))]) [0] rfl
              have hKc := hK.sub (tys' := []) [] rfl
              have hDc := hD.sub (ws' := [(rd, .inr (6, rF r a0 a1 a2 a3 a4 a5 a6 a7))]) [0] (by decide) rfl
              have hFc := va_free (wc := [(rd, .inr (6, rF r a0 a1 a2 a3 a4 a5 a6 a7))]) hD hS hA [0] rfl
              refine va_callv (va_runV (As := [.int 1, .int ax]) (rest := []) ⟨hx, hb, hml, hown, hts⟩ (s_fail l dC dI rd r a0 a1 a2 a3 a4 a5 a6 a7 H.size 1 ax) (cwV 2 hts mg_X6_endOfSetq_X6_fail_71 rfl rfl rfl (by decide +kernel) ⟨Nat.le_of_ble_eq_true rfl, Nat.le_of_ble_eq_true rfl⟩) ⟨fun a U g mk q => by obtain ⟨q0, q1, qP, qK, qD⟩ := q; exact ⟨q0, q1, qP, va_K.moved (u := U) (U := U.calling g mk a) (Vm.Alike.refl U.vm) qK, qD⟩, va_recv hKc hPc (ci := 6) (q0 := 0) rfl rfl, fun U hU hW => ⟨rfl, by rw [hU], by rw [hU]; exact hPc, va_K.moved hW.alike hKc, hDc.weaken (fun _ _ _ _ => trivial)⟩⟩ rfl rfl hl.1 rfl (lv_room (Nat.le_of_ble_eq_true rfl)) dX6_endOfSet_43 ⟨Nat.le_of_ble_eq_true rfl, Nat.le_of_ble_eq_true rfl⟩) hS (fun q _ h => hFc q h) hFc (fun u t H1 locs ht hvm hw hB hz1 hk1 hS => ?_)
              obtain ⟨hP1, hK1, hD1⟩ := hB
              rw [ht] at hP1
              obtain ⟨hP, hD⟩ := va_join (wr := [(ta, .inl (cT, nb, .inl ft))]) (w1 := [(rd, .inr (6, rF r 1 ax a2 a3 a4 a5 a6 a7))]) hP hD [0] [1] rfl rfl (by decide) (by decide) hk1 hFc hP1 hD1
              generalize H1 = H at hP hS ⊢
              have hP : va_P (dC, dI) vwCl [(ta, .inl (cT, nb, .inl ft)), (rd, .inr (6, rF r 1 ax a2 a3 a4 a5 a6 a7))] H := hP
              have hD : va_D A [(ta, .inl (cT, nb, .inl ft)), (rd, .inr (6, rF r 1 ax a2 a3 a4 a5 a6 a7))] := hD
              refine lv_iload hx hb dX6_endOfSet_46 (lv_at hl 0 rfl) ?_
              have hP9 := hP.sub (ws' := [(rd, .inr (6, rF r 1 ax a2 a3 a4 a5 a6 a7)), (ta, .inl (cT, nb, .inl ft))]) [1, 0] rfl
              have hD9 := hD.sub (ws' := [(rd, .inr (6, rF r 1 ax a2 a3 a4 a5 a6 a7)), (ta, .inl (cT, nb, .inl ft))]) [1, 0] (by decide) rfl
              have hK9 := hK.sub (tys' := [(cT, .int)]) [0] rfl
              exact W.iret hx hb hr (fun t ht hW => ⟨⟨_, ax, rfl, ⟨rfl, by omega⟩, 1, ax, ⟨(dS_bad v6_1 (by unfold isSm; omega) (by omega) (by decide)), fun h9 => absurd h9 (by decide)⟩, by rw [ht]; exact hP9, va_K.moved hW.alike hK9, hD9⟩, hS.F ht⟩) hS.2.2 dX6_endOfSet_48
          · have tk_21 := c_ne (a := le.toInt) (b := 0) rfl (by decide) k_21
            have hz9 := seR_nz v6_2 (by omega) tk_21
            refine lv_iload hx hb dX6_endOfSet_26 (lv_at hl 0 rfl) ?_
            have hP9 := hP.sub (ws' := [(rd, .inr (6, rF r a0 a1 a2 a3 a4 a5 a6 a7)), (ta, .inl (cT, nb, .inl ft))]) [0, 1] rfl
            have hD9 := hD.sub (ws' := [(rd, .inr (6, rF r a0 a1 a2 a3 a4 a5 a6 a7)), (ta, .inl (cT, nb, .inl ft))]) [0, 1] (by decide) rfl
            have hK9 := hK.sub (tys' := [(cT, .int)]) [0] rfl
            exact W.iret hx hb hr (fun t ht hW => ⟨⟨_, ax, rfl, ⟨rfl, by omega⟩, a0, a1, ⟨(dS_e v6_1 (by omega) (by omega) (by omega)), fun _ => by omega⟩, by rw [ht]; exact hP9, va_K.moved hW.alike hK9, hD9⟩, hS.F ht⟩) hS.2.2 dX6_endOfSet_28
  have lit_36 : (0 : Int32).toInt = 0 := by decide
  exact loop6 _ 0 i8 (by first | omega | assumption | decide) (fun _ _ _ _ => Ld.rf) mk_0 (fun j a b => by omega) (Nat.lt_succ_self _) _ _ ls hP hD hS (lv_sub hl [0, 1, 2, 3, 4, 5] rfl)

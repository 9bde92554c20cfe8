theorem q_any {D : va_G} {cl : List vw_C} {W9 : va_W} {H : Heap} {tys : List (ClassId × FieldType)} {s : State} {ci y : Nat} {r : vw_C} {vs : List Value} (hQ : va_P D cl W9 H) (hK : va_K D cl tys s) (hc : cl[ci]? = some r) (hm : (y, .inr (ci, vs)) ∈ W9) : va_Any r.1 s H y := by
  obtain ⟨k, hk⟩ := List.getElem?_of_mem hm
  obtain ⟨r', hr', cellV, g1, g2, g3, -⟩ := hQ k _ hk
  have hcls := (hK.1 ci r hc).2
  obtain ⟨kC, hkC, -⟩ := hcls.2
  refine ⟨cellV, g1, by rw [g3]; rfl, ⟨kC, by rw [g2]; exact hkC⟩, fun comp hc2 => ?_⟩
  have e : comp = D.1 ci := Option.some.inj (hc2.symm.trans hcls.1)
  subst e
  rw [g2]
  exact va_assign hcls
/-- the marked Books -/
def gM (f : Nat → Option Nat) (B9 : Nat → Prop) (n : Int) : Prop := ∀ i : Nat, (i : Int) < n → ∃ a, f i = some a ∧ B9 a
theorem gM.mark {f g : Nat → Option Nat} {B9 : Nat → Prop} {n k : Int} {i : Int32} {b : Nat} (h : gM f B9 n) (hb : B9 b) (e : va_up f i.toNatClampNeg (some b) = g) (hi : i.toInt = n) (hk : k = n + 1) : gM g B9 k := fun j hj => by
  have s4 : i.toNatClampNeg = i.toInt.toNat := rfl
  rw [← e, s4]
  unfold va_up
  by_cases hk : j = i.toInt.toNat
  · rw [if_pos hk]; exact ⟨b, rfl, hb⟩
  · rw [if_neg hk]; exact h j (by omega)
theorem gM.mono {f : Nat → Option Nat} {B9 B' : Nat → Prop} {n k : Int} (h : gM f B9 n) (hB : ∀ b, B9 b → B' b) (hk : k ≤ n) : gM f B' k := fun j hj => by
  obtain ⟨a, h1, h2⟩ := h j (by omega)
  exact ⟨a, h1, hB a h2⟩
theorem dX9_mark_0 : decode cX9_mark 0 = .ok (.aload_n 0, 1) := by decide +kernel
theorem dX9_mark_1 : decode cX9_mark 1 = .ok (.getfield 120, 3) := by decide +kernel
theorem dX9_mark_4 : decode cX9_mark 4 = .ok (.iconst 3, 1) := by decide +kernel
theorem dX9_mark_5 : decode cX9_mark 5 = .ok (.if_icmp .lt 9, 3) := by decide +kernel
theorem dX9_mark_8 : decode cX9_mark 8 = .ok (.aload_n 0, 1) := by decide +kernel
theorem dX9_mark_9 : decode cX9_mark 9 = .ok (.iconst 3, 1) := by decide +kernel
theorem dX9_mark_10 : decode cX9_mark 10 = .ok (.invokevirtual 80, 3) := by decide +kernel
theorem dX9_mark_13 : decode cX9_mark 13 = .ok (.ireturn, 1) := by decide +kernel
theorem dX9_mark_14 : decode cX9_mark 14 = .ok (.aload_n 0, 1) := by decide +kernel
theorem dX9_mark_15 : decode cX9_mark 15 = .ok (.getfield 33, 3) := by decide +kernel
theorem dX9_mark_18 : decode cX9_mark 18 = .ok (.aload_n 0, 1) := by decide +kernel
theorem dX9_mark_19 : decode cX9_mark 19 = .ok (.getfield 120, 3) := by decide +kernel
theorem dX9_mark_22 : decode cX9_mark 22 = .ok (.aload_n 0, 1) := by decide +kernel
theorem dX9_mark_23 : decode cX9_mark 23 = .ok (.getfield 29, 3) := by decide +kernel
theorem dX9_mark_26 : decode cX9_mark 26 = .ok (.aastore, 1) := by decide +kernel
theorem dX9_mark_27 : decode cX9_mark 27 = .ok (.aload_n 0, 1) := by decide +kernel
theorem dX9_mark_28 : decode cX9_mark 28 = .ok (.getfield 37, 3) := by decide +kernel
theorem dX9_mark_31 : decode cX9_mark 31 = .ok (.aload_n 0, 1) := by decide +kernel
theorem dX9_mark_32 : decode cX9_mark 32 = .ok (.getfield 120, 3) := by decide +kernel
theorem dX9_mark_35 : decode cX9_mark 35 = .ok (.aload_n 0, 1) := by decide +kernel
theorem dX9_mark_36 : decode cX9_mark 36 = .ok (.getfield 117, 3) := by decide +kernel
theorem dX9_mark_39 : decode cX9_mark 39 = .ok (.iastore, 1) := by decide +kernel
theorem dX9_mark_40 : decode cX9_mark 40 = .ok (.aload_n 0, 1) := by decide +kernel
theorem dX9_mark_41 : decode cX9_mark 41 = .ok (.dup, 1) := by decide +kernel
theorem dX9_mark_42 : decode cX9_mark 42 = .ok (.getfield 120, 3) := by decide +kernel
theorem dX9_mark_45 : decode cX9_mark 45 = .ok (.iconst 1, 1) := by decide +kernel
theorem dX9_mark_46 : decode cX9_mark 46 = .ok (.iadd, 1) := by decide +kernel
theorem dX9_mark_47 : decode cX9_mark 47 = .ok (.putfield 120, 3) := by decide +kernel
theorem dX9_mark_50 : decode cX9_mark 50 = .ok (.aload_n 0, 1) := by decide +kernel
theorem dX9_mark_51 : decode cX9_mark 51 = .ok (.aload_n 0, 1) := by decide +kernel
theorem dX9_mark_52 : decode cX9_mark 52 = .ok (.getfield 120, 3) := by decide +kernel
theorem dX9_mark_55 : decode cX9_mark 55 = .ok (.invokevirtual 100, 3) := by decide +kernel
theorem dX9_mark_58 : decode cX9_mark 58 = .ok (.ireturn, 1) := by decide +kernel
def mwX9_mark : List Cond := .code yX9_mark cX9_mark 1 (some .int) :: (([.fieldLink RX9 120 "PatternGate" "marks" "I", .fieldLink RX9 33 "PatternGate" "markedBooks" "[LPatternGate$Book;", .fieldLink RX9 29 "PatternGate" "book" "LPatternGate$Book;", .fieldLink RX9 37 "PatternGate" "markedUndoable" "[I", .fieldLink RX9 117 "PatternGate" "undoable" "I", .methodLink RX9 100 yX9_answer, .instanceMethod yX9_answer, .selects RX9 yX9_answer yX9_answer, .initialized RX9, .methodLink RX9 80 yX9_refuse, .instanceMethod yX9_refuse, .selects RX9 yX9_refuse yX9_refuse] : List Cond) ++ (wsX90 ++ (mwX9_answer ++ (mwX9_refuse))))
theorem fin_X9_mark_X9 : ∀ w ∈ wsX90, w ∈ mwX9_mark := fun w h => List.mem_cons_of_mem _ (List.mem_append_right _ (List.mem_append_left _ h))
set_option maxRecDepth 20000 in
theorem mg_X9_mark_X9_answer_100 : GoodIn mwX9_mark (wsV RX9 100 RX9 yX9_answer mwX9_answer) := gi_app (A := [.methodLink RX9 100 yX9_answer, .instanceMethod yX9_answer, .selects RX9 yX9_answer yX9_answer, .initialized RX9]) (goodIn_r _ [6, 7, 8, 9] (by decide +kernel) (by decide +kernel)) (gi_sub gd_mwX9_answer (fun w h => List.mem_cons_of_mem _ (List.mem_append_right _ (List.mem_append_right _ (List.mem_append_left _ h)))))
set_option maxRecDepth 20000 in
theorem mg_X9_mark_X9_refuse_80 : GoodIn mwX9_mark (wsV RX9 80 RX9 yX9_refuse mwX9_refuse) := gi_app (A := [.methodLink RX9 80 yX9_refuse, .instanceMethod yX9_refuse, .selects RX9 yX9_refuse yX9_refuse, .initialized RX9]) (goodIn_r _ [10, 11, 12, 9] (by decide +kernel) (by decide +kernel)) (gi_sub gd_mwX9_refuse (fun w h => List.mem_cons_of_mem _ (List.mem_append_right _ (List.mem_append_right _ (List.mem_append_right _ (h))))))
set_option maxHeartbeats 4000000 in
set_option maxRecDepth 100000 in
/-- gate: mark -/
theorem s_g_mark (l : Launch) (dC : Nat → ClassId) (dI : Nat → Nat → Nat) (W9 : va_W) (T9 : List (ClassId × FieldType)) (B9 : Nat → Prop) (gt tp bk mb mu rd cm wk pp so ty : Nat) (st9 td fk fpl un mk : Int32) (cmb cmu : ClassId) (fmb : Nat → Option Nat) (fmu : Nat → Int32) (sz : Nat) (hB9 : gB W9 T9 B9) (hbk : B9 bk) (hM : gM fmb B9 mk.toInt) (hmk : 0 ≤ mk.toInt ∧ mk.toInt ≤ 3) : Met l yX9_mark mwX9_mark ({ frames := 1, cells := 0, slots := 0, locals := 60 }) (va_Pc [.ref gt] (fun U => U.heap.size = sz ∧ va_P (dC, dI) vwCl ([(gt, .inr (9, [.int st9, .ref tp, .int td, .int fk, .int fpl, .ref bk, .int un, .ref mb, .ref mu, .int mk, .ref rd, .ref cm, .ref wk, .ref pp, .ref so, .ref ty])), (mb, .inl (cmb, 3, .inr (.inr (.inr (.inr fmb))))), (mu, .inl (cmu, 3, .inl fmu))]) U.heap ∧ va_K (dC, dI) vwCl ([(cmb, .object "PatternGate$Book"), (cmu, .int)]) U ∧ va_D (fun _ => True) ([(gt, .inr (9, [.int st9, .ref tp, .int td, .int fk, .int fpl, .ref bk, .int un, .ref mb, .ref mu, .int mk, .ref rd, .ref cm, .ref wk, .ref pp, .ref so, .ref ty])), (mb, .inl (cmb, 3, .inr (.inr (.inr (.inr fmb))))), (mu, .inl (cmu, 3, .inl fmu))]) ∧ va_P (dC, dI) vwCl W9 U.heap ∧ va_K (dC, dI) vwCl T9 U ∧ (∀ q ∈ W9, ¬ va_A ([(gt, .inr (9, [.int st9, .ref tp, .int td, .int fk, .int fpl, .ref bk, .int un, .ref mb, .ref mu, .int mk, .ref rd, .ref cm, .ref wk, .ref pp, .ref so, .ref ty])), (mb, .inl (cmb, 3, .inr (.inr (.inr (.inr fmb))))), (mu, .inl (cmu, 3, .inl fmu))]) sz q.1))) (va_Qi (fun (o9 : Int32) (u : Int32) => mk.toInt = 3 ∧ o9.toInt = -1 ∧ u.toInt = 3 ∨ mk.toInt < 3 ∧ o9.toInt = mk.toInt + 1 ∧ u.toInt = mk.toInt + 1) (fun u t => ∃ (y0 : Int32) (f8 : Nat → Option Nat) (f9 : Nat → Int32), gM f8 B9 u.toInt ∧ va_P (dC, dI) vwCl [(gt, .inr (9, [.int y0, .ref tp, .int td, .int fk, .int fpl, .ref bk, .int un, .ref mb, .ref mu, .int u, .ref rd, .ref cm, .ref wk, .ref pp, .ref so, .ref ty])), (mb, .inl (cmb, 3, .inr (.inr (.inr (.inr f8))))), (mu, .inl (cmu, 3, .inl f9))] t.heap ∧ va_K (dC, dI) vwCl [(cmb, .object "PatternGate$Book"), (cmu, .int)] t ∧ va_D (va_A ([(gt, .inr (9, [.int st9, .ref tp, .int td, .int fk, .int fpl, .ref bk, .int un, .ref mb, .ref mu, .int mk, .ref rd, .ref cm, .ref wk, .ref pp, .ref so, .ref ty])), (mb, .inl (cmb, 3, .inr (.inr (.inr (.inr fmb))))), (mu, .inl (cmu, 3, .inl fmu))]) sz) [(gt, .inr (9, [.int y0, .ref tp, .int td, .int fk, .int fpl, .ref bk, .int un, .ref mb, .ref mu, .int u, .ref rd, .ref cm, .ref wk, .ref pp, .ref so, .ref ty])), (mb, .inl (cmb, 3, .inr (.inr (.inr (.inr f8))))), (mu, .inl (cmu, 3, .inl f9))]) (va_A ([(gt, .inr (9, [.int st9, .ref tp, .int td, .int fk, .int fpl, .ref bk, .int un, .ref mb, .ref mu, .int mk, .ref rd, .ref cm, .ref wk, .ref pp, .ref so, .ref ty])), (mb, .inl (cmb, 3, .inr (.inr (.inr (.inr fmb))))), (mu, .inl (cmu, 3, .inl fmu))]) sz)) 0 0 (va_A ([(gt, .inr (9, [.int st9, .ref tp, .int td, .int fk, .int fpl, .ref bk, .int un, .ref mb, .ref mu, .int mk, .ref rd, .ref cm, .ref wk, .ref pp, .ref so, .ref ty])), (mb, .inl (cmb, 3, .inr (.inr (.inr (.inr fmb))))), (mu, .inl (cmu, 3, .inl fmu))]) sz) := by
  refine Met.ofW (cc := cX9_mark) (maxL := 1) (ret := (some .int)) (by decide +kernel) rfl ?_
  intro p e s m args below meth c s₁ B hml hv
  obtain ⟨rfl, hsz, hP, hK, hD0, hQ0, hKQ, hQA⟩ := hv
  have hx := B.exec
  have hb := B.bytes
  have hr := B.returns
  have hts := atoms_spec (ws := mwX9_mark) B.pre
  have hown : s.vm.findClass RX9 = some m.cls := findClass_of_methodNamed B.named
  have hlocks := B.notSynchronized
  subst hsz
  have hD := hD0.self (sz := s.heap.size)
  generalize hAe : va_A ([(gt, .inr (9, [.int st9, .ref tp, .int td, .int fk, .int fpl, .ref bk, .int un, .ref mb, .ref mu, .int mk, .ref rd, .ref cm, .ref wk, .ref pp, .ref so, .ref ty])), (mb, .inl (cmb, 3, .inr (.inr (.inr (.inr fmb))))), (mu, .inl (cmu, 3, .inl fmu))]) s.heap.size = A at hD hQA ⊢
  have hA : ∀ q : Nat, s.heap.size ≤ q → A q := fun q h => by rw [← hAe]; exact Or.inr h
  have hP : va_P (dC, dI) vwCl [(gt, .inr (9, [.int st9, .ref tp, .int td, .int fk, .int fpl, .ref bk, .int un, .ref mb, .ref mu, .int mk, .ref rd, .ref cm, .ref wk, .ref pp, .ref so, .ref ty])), (mb, .inl (cmb, 3, .inr (.inr (.inr (.inr fmb))))), (mu, .inl (cmu, 3, .inl fmu))] s.heap := hP
  have hD : va_D A [(gt, .inr (9, [.int st9, .ref tp, .int td, .int fk, .int fpl, .ref bk, .int un, .ref mb, .ref mu, .int mk, .ref rd, .ref cm, .ref wk, .ref pp, .ref so, .ref ty])), (mb, .inl (cmb, 3, .inr (.inr (.inr (.inr fmb))))), (mu, .inl (cmu, 3, .inl fmu))] := hD
  have hK : va_K (dC, dI) vwCl [(cmb, .object "PatternGate$Book"), (cmu, .int)] s := hK
  generalize hH : s.heap = H at hP ⊢
  have hS : va_S A s.heap H [] := by rw [← hH]; exact va_S.rf
  have hQ := q_at hQ0 hQA hS
  have hl := lv_entry ([.ref gt]) (n := 1) (Nat.le_of_ble_eq_true rfl)
  rw [lg_entry_eq]
  generalize (lg_sl ([.ref gt]) ++ List.replicate (1 - (lg_sl ([.ref gt])).length) Slot.unset).toArray = ls at hl ⊢
  have hl : lv_has ls 1 [(0, .ref gt)] := hl
  obtain ⟨ear, hB3, hear⟩ := hB9 bk hbk
  have hB0 := hB3.poB
  obtain ⟨ds, ps, nd, np, fd, fp, cD, cP, m1, m2, m3, m4, m5, hnd, hnp, hds, hps⟩ := id hB3
  obtain ⟨k_1, hk_1⟩ := List.getElem?_of_mem m1
  obtain ⟨k_2, hk_2⟩ := List.getElem?_of_mem m2
  obtain ⟨j_3, hj_3⟩ := List.getElem?_of_mem m3
  obtain ⟨k_4, hk_4⟩ := List.getElem?_of_mem m4
  obtain ⟨j_5, hj_5⟩ := List.getElem?_of_mem m5
  have r_un := i_rng un
  have r_mk := i_rng mk
  have r_td := i_rng td
  refine lv_aload_n hx hb dX9_mark_0 rfl (lv_at hl 0 rfl) ?_
  refine va_get (D := (dC, dI)) (ci := 9) (v := .int mk) (C := RX9) (T := TX9) (N := 16) hx hb hts fin_X9_mark_X9 hown hK hP 0 rfl rfl 9 (by decide) (hts (.fieldLink RX9 120 "PatternGate" "marks" "I") (List.mem_of_getElem? (i := 1) (by decide +kernel))) (fun _ h9 => h9) rfl dX9_mark_1 ?_
  refine lv_iconst (v := 3) hx hb dX9_mark_4 (by decide) ?_
  refine lv_icmp_lt (tgt := 14) hx hb dX9_mark_5 (by decide) (fun k_6 => ?_) (fun k_6 => ?_)
  · have tk_6 := c_lt (a := mk.toInt) (b := 3) rfl (by decide) k_6
    refine lv_aload_n hx hb dX9_mark_14 rfl (lv_at hl 0 rfl) ?_
    refine va_get (D := (dC, dI)) (ci := 9) (v := .ref mb) (C := RX9) (T := TX9) (N := 16) hx hb hts fin_X9_mark_X9 hown hK hP 0 rfl rfl 7 (by decide) (hts (.fieldLink RX9 33 "PatternGate" "markedBooks" "[LPatternGate$Book;") (List.mem_of_getElem? (i := 2) (by decide +kernel))) (fun _ h9 => h9) rfl dX9_mark_15 ?_
    refine lv_aload_n hx hb dX9_mark_18 rfl (lv_at hl 0 rfl) ?_
    refine va_get (D := (dC, dI)) (ci := 9) (v := .int mk) (C := RX9) (T := TX9) (N := 16) hx hb hts fin_X9_mark_X9 hown hK hP 0 rfl rfl 9 (by decide) (hts (.fieldLink RX9 120 "PatternGate" "marks" "I") (List.mem_of_getElem? (i := 1) (by decide +kernel))) (fun _ h9 => h9) rfl dX9_mark_19 ?_
    refine lv_aload_n hx hb dX9_mark_22 rfl (lv_at hl 0 rfl) ?_
    refine va_get (D := (dC, dI)) (ci := 9) (v := .ref bk) (C := RX9) (T := TX9) (N := 16) hx hb hts fin_X9_mark_X9 hown hK hP 0 rfl rfl 5 (by decide) (hts (.fieldLink RX9 29 "PatternGate" "book" "LPatternGate$Book;") (List.mem_of_getElem? (i := 3) (by decide +kernel))) (fun _ h9 => h9) rfl dX9_mark_23 ?_
    refine va_astqM hx hb hK hP hD hS 1 0 rfl rfl (q_any hQ hK (ci := 0) rfl m1) (i := mk) (vp_of (a := mk.toInt) rfl (by omega) (by omega)) dX9_mark_26 (fun H locs hP hD hS => ?_)
    generalize hf_f_7 : va_up fmb _ _ = f_7 at hP hD
    have hP : va_P (dC, dI) vwCl [(gt, .inr (9, [.int st9, .ref tp, .int td, .int fk, .int fpl, .ref bk, .int un, .ref mb, .ref mu, .int mk, .ref rd, .ref cm, .ref wk, .ref pp, .ref so, .ref ty])), (mb, .inl (cmb, 3, .inr (.inr (.inr (.inr f_7))))), (mu, .inl (cmu, 3, .inl fmu))] H := hP
    have hD : va_D A [(gt, .inr (9, [.int st9, .ref tp, .int td, .int fk, .int fpl, .ref bk, .int un, .ref mb, .ref mu, .int mk, .ref rd, .ref cm, .ref wk, .ref pp, .ref so, .ref ty])), (mb, .inl (cmb, 3, .inr (.inr (.inr (.inr f_7))))), (mu, .inl (cmu, 3, .inl fmu))] := hD
    have hQ := q_at hQ0 hQA hS
    refine lv_aload_n hx hb dX9_mark_27 rfl (lv_at hl 0 rfl) ?_
    refine va_get (D := (dC, dI)) (ci := 9) (v := .ref mu) (C := RX9) (T := TX9) (N := 16) hx hb hts fin_X9_mark_X9 hown hK hP 0 rfl rfl 8 (by decide) (hts (.fieldLink RX9 37 "PatternGate" "markedUndoable" "[I") (List.mem_of_getElem? (i := 4) (by decide +kernel))) (fun _ h9 => h9) rfl dX9_mark_28 ?_
    refine lv_aload_n hx hb dX9_mark_31 rfl (lv_at hl 0 rfl) ?_
    refine va_get (D := (dC, dI)) (ci := 9) (v := .int mk) (C := RX9) (T := TX9) (N := 16) hx hb hts fin_X9_mark_X9 hown hK hP 0 rfl rfl 9 (by decide) (hts (.fieldLink RX9 120 "PatternGate" "marks" "I") (List.mem_of_getElem? (i := 1) (by decide +kernel))) (fun _ h9 => h9) rfl dX9_mark_32 ?_
    refine lv_aload_n hx hb dX9_mark_35 rfl (lv_at hl 0 rfl) ?_
    refine va_get (D := (dC, dI)) (ci := 9) (v := .int un) (C := RX9) (T := TX9) (N := 16) hx hb hts fin_X9_mark_X9 hown hK hP 0 rfl rfl 6 (by decide) (hts (.fieldLink RX9 117 "PatternGate" "undoable" "I") (List.mem_of_getElem? (i := 5) (by decide +kernel))) (fun _ h9 => h9) rfl dX9_mark_36 ?_
    refine va_iast hx hb hK hP hD hS 2 1 rfl rfl (i := mk) (vp_of (a := mk.toInt) rfl (by omega) (by omega)) dX9_mark_39 (fun H locs hP hD hS => ?_)
    generalize hf_f_8 : upd fmu _ _ = f_8 at hP hD
    have hP : va_P (dC, dI) vwCl [(gt, .inr (9, [.int st9, .ref tp, .int td, .int fk, .int fpl, .ref bk, .int un, .ref mb, .ref mu, .int mk, .ref rd, .ref cm, .ref wk, .ref pp, .ref so, .ref ty])), (mb, .inl (cmb, 3, .inr (.inr (.inr (.inr f_7))))), (mu, .inl (cmu, 3, .inl f_8))] H := hP
    have hD : va_D A [(gt, .inr (9, [.int st9, .ref tp, .int td, .int fk, .int fpl, .ref bk, .int un, .ref mb, .ref mu, .int mk, .ref rd, .ref cm, .ref wk, .ref pp, .ref so, .ref ty])), (mb, .inl (cmb, 3, .inr (.inr (.inr (.inr f_7))))), (mu, .inl (cmu, 3, .inl f_8))] := hD
    have hQ := q_at hQ0 hQA hS
    refine lv_aload_n hx hb dX9_mark_40 rfl (lv_at hl 0 rfl) ?_
    refine lv_dup hx hb dX9_mark_41 rfl ?_
    refine va_get (D := (dC, dI)) (ci := 9) (v := .int mk) (C := RX9) (T := TX9) (N := 16) hx hb hts fin_X9_mark_X9 hown hK hP 0 rfl rfl 9 (by decide) (hts (.fieldLink RX9 120 "PatternGate" "marks" "I") (List.mem_of_getElem? (i := 1) (by decide +kernel))) (fun _ h9 => h9) rfl dX9_mark_42 ?_
    refine lv_iconst (v := 1) hx hb dX9_mark_45 (by decide) ?_
    refine lv_iadd hx hb dX9_mark_46 ?_
    refine lv_topi (fun y_9 ey_9 => ?_)
    first | have ty_9 := i_add (a := mk.toInt) (b := 1) rfl (by decide) ey_9 (by omega) (by omega) | skip
    refine va_put (D := (dC, dI)) (ci := 9) (v := .int y_9) (ty := .int) (C := RX9) (T := TX9) (N := 16) hx hb hts fin_X9_mark_X9 tyX9 tyX9_ok nmX9 hown hK hP hD hS 0 rfl rfl 9 (by decide) (hts (.fieldLink RX9 120 "PatternGate" "marks" "I") (List.mem_of_getElem? (i := 1) (by decide +kernel))) (fun _ h9 => h9) rfl (by decide +kernel) rfl rfl (Nat.le_of_ble_eq_true rfl) dX9_mark_47 (fun H locs hP hD hS => ?_)
    have hP : va_P (dC, dI) vwCl [(gt, .inr (9, [.int st9, .ref tp, .int td, .int fk, .int fpl, .ref bk, .int un, .ref mb, .ref mu, .int y_9, .ref rd, .ref cm, .ref wk, .ref pp, .ref so, .ref ty])), (mb, .inl (cmb, 3, .inr (.inr (.inr (.inr f_7))))), (mu, .inl (cmu, 3, .inl f_8))] H := hP
    have hD : va_D A [(gt, .inr (9, [.int st9, .ref tp, .int td, .int fk, .int fpl, .ref bk, .int un, .ref mb, .ref mu, .int y_9, .ref rd, .ref cm, .ref wk, .ref pp, .ref so, .ref ty])), (mb, .inl (cmb, 3, .inr (.inr (.inr (.inr f_7))))), (mu, .inl (cmu, 3, .inl f_8))] := hD
    have hQ := q_at hQ0 hQA hS
    refine lv_aload_n hx hb dX9_mark_50 rfl (lv_at hl 0 rfl) ?_
    refine lv_aload_n hx hb dX9_mark_51 rfl (lv_at hl 0 rfl) ?_
    refine va_get (D := (dC, dI)) (ci := 9) (v := .int y_9) (C := RX9) (T := TX9) (N := 16) hx hb hts fin_X9_mark_X9 hown hK hP 0 rfl rfl 9 (by decide) (hts (.fieldLink RX9 120 "PatternGate" "marks" "I") (List.mem_of_getElem? (i := 1) (by decide +kernel))) (fun _ h9 => h9) rfl dX9_mark_52 ?_
    have hPc := hP.sub (ws' := [(gt, .inr (9, [.int st9, .ref tp, .int td, .int fk, .int fpl, .ref bk, .int un, .ref mb, .ref mu, .int y_9, .ref rd, .ref cm, .ref wk, .ref pp, .ref so, .ref ty]))]) [0] rfl
    have hKc := hK.sub (tys' := []) [] rfl
    have hDc := hD.sub (ws' := [(gt, .inr (9, [.int st9, .ref tp, .int td, .int fk, .int fpl, .ref bk, .int un, .ref mb, .ref mu, .int y_9, .ref rd, .ref cm, .ref wk, .ref pp, .ref so, .ref ty]))]) [0] (by decide) rfl
    have hFc := va_free (wc := [(gt, .inr (9, [.int st9, .ref tp, .int td, .int fk, .int fpl, .ref bk, .int un, .ref mb, .ref mu, .int y_9, .ref rd, .ref cm, .ref wk, .ref pp, .ref so, .ref ty]))]) hD hS hA [0] rfl
    refine va_calli (va_runV (As := [.int y_9]) (rest := []) ⟨hx, hb, hml, hown, hts⟩ (s_answer l dC dI gt tp bk mb mu rd cm wk pp so ty st9 td fk fpl un y_9 H.size y_9) (cwV 1 hts mg_X9_mark_X9_answer_100 rfl rfl rfl (by decide +kernel) ⟨Nat.le_of_ble_eq_true rfl, Nat.le_of_ble_eq_true rfl⟩) ⟨fun a U g mk q => by obtain ⟨q0, q1, qP, qK, qD⟩ := q; exact ⟨q0, q1, qP, va_K.moved (u := U) (U := U.calling g mk a) (Vm.Alike.refl U.vm) qK, qD⟩, va_recv hKc hPc (ci := 9) (q0 := 0) rfl rfl, fun U hU hW => ⟨rfl, by rw [hU], by rw [hU]; exact hPc, va_K.moved hW.alike hKc, hDc.weaken (fun _ _ _ _ => trivial)⟩⟩ rfl rfl hl.1 rfl (lv_room (Nat.le_of_ble_eq_true rfl)) dX9_mark_55 ⟨Nat.le_of_ble_eq_true rfl, Nat.le_of_ble_eq_true rfl⟩) hS (fun q _ h => hFc q h) hFc (fun r_11 u t H1 locs ht hvm hw hB hz1 hk1 hS => ?_)
    obtain ⟨hP1, hK1, hD1⟩ := hB
    rw [ht] at hP1
    have hr_11 := hw
    obtain ⟨hP, hD⟩ := va_join (wr := [(mb, .inl (cmb, 3, .inr (.inr (.inr (.inr f_7))))), (mu, .inl (cmu, 3, .inl f_8))]) (w1 := [(gt, .inr (9, [.int 0, .ref tp, .int td, .int fk, .int fpl, .ref bk, .int un, .ref mb, .ref mu, .int y_9, .ref rd, .ref cm, .ref wk, .ref pp, .ref so, .ref ty]))]) hP hD [0] [1, 2] rfl rfl (by decide) (by decide) hk1 hFc hP1 hD1
    generalize H1 = H at hP hS ⊢
    have hP : va_P (dC, dI) vwCl [(mb, .inl (cmb, 3, .inr (.inr (.inr (.inr f_7))))), (mu, .inl (cmu, 3, .inl f_8)), (gt, .inr (9, [.int 0, .ref tp, .int td, .int fk, .int fpl, .ref bk, .int un, .ref mb, .ref mu, .int y_9, .ref rd, .ref cm, .ref wk, .ref pp, .ref so, .ref ty]))] H := hP
    have hD : va_D A [(mb, .inl (cmb, 3, .inr (.inr (.inr (.inr f_7))))), (mu, .inl (cmu, 3, .inl f_8)), (gt, .inr (9, [.int 0, .ref tp, .int td, .int fk, .int fpl, .ref bk, .int un, .ref mb, .ref mu, .int y_9, .ref rd, .ref cm, .ref wk, .ref pp, .ref so, .ref ty]))] := hD
    have hQ := q_at hQ0 hQA hS
    have hP9 := hP.sub (ws' := [(gt, .inr (9, [.int 0, .ref tp, .int td, .int fk, .int fpl, .ref bk, .int un, .ref mb, .ref mu, .int y_9, .ref rd, .ref cm, .ref wk, .ref pp, .ref so, .ref ty])), (mb, .inl (cmb, 3, .inr (.inr (.inr (.inr f_7))))), (mu, .inl (cmu, 3, .inl f_8))]) [2, 0, 1] rfl
    have hD9 := hD.sub (ws' := [(gt, .inr (9, [.int 0, .ref tp, .int td, .int fk, .int fpl, .ref bk, .int un, .ref mb, .ref mu, .int y_9, .ref rd, .ref cm, .ref wk, .ref pp, .ref so, .ref ty])), (mb, .inl (cmb, 3, .inr (.inr (.inr (.inr f_7))))), (mu, .inl (cmu, 3, .inl f_8))]) [2, 0, 1] (by decide) rfl
    have hK9 := hK.sub (tys' := [(cmb, .object "PatternGate$Book"), (cmu, .int)]) [0, 1] rfl
    have lz_11 : ((-1) : Int32).toInt = (-1) := by decide
    have lz_12 : (3 : Int32).toInt = 3 := by decide
    have hv9 := congrArg Int32.toInt hr_11
    exact W.iret hx hb hr (fun t ht hW => ⟨⟨_, y_9, rfl, by omega, 0, f_7, f_8, (hM.mark hbk hf_f_7 (by omega) (by omega)), by rw [ht]; exact hP9, va_K.moved hW.alike hK9, hD9⟩, hS.F ht⟩) hS.2.2 dX9_mark_58
  · have tk_6 := c_nlt (a := mk.toInt) (b := 3) rfl (by decide) k_6
    refine lv_aload_n hx hb dX9_mark_8 rfl (lv_at hl 0 rfl) ?_
    refine lv_iconst (v := 3) hx hb dX9_mark_9 (by decide) ?_
    have hPc := hP.sub (ws' := [(gt, .inr (9, [.int st9, .ref tp, .int td, .int fk, .int fpl, .ref bk, .int un, .ref mb, .ref mu, .int mk, .ref rd, .ref cm, .ref wk, .ref pp, .ref so, .ref ty]))]) [0] rfl
    have hKc := hK.sub (tys' := []) [] rfl
    have hDc := hD.sub (ws' := [(gt, .inr (9, [.int st9, .ref tp, .int td, .int fk, .int fpl, .ref bk, .int un, .ref mb, .ref mu, .int mk, .ref rd, .ref cm, .ref wk, .ref pp, .ref so, .ref ty]))]) [0] (by decide) rfl
    have hFc := va_free (wc := [(gt, .inr (9, [.int st9, .ref tp, .int td, .int fk, .int fpl, .ref bk, .int un, .ref mb, .ref mu, .int mk, .ref rd, .ref cm, .ref wk, .ref pp, .ref so, .ref ty]))]) hD hS hA [0] rfl
    refine va_calli (va_runV (As := [.int 3]) (rest := []) ⟨hx, hb, hml, hown, hts⟩ (s_refuse l dC dI gt tp bk mb mu rd cm wk pp so ty st9 td fk fpl un mk H.size 3) (cwV 1 hts mg_X9_mark_X9_refuse_80 rfl rfl rfl (by decide +kernel) ⟨Nat.le_of_ble_eq_true rfl, Nat.le_of_ble_eq_true rfl⟩) ⟨fun a U g mk q => by obtain ⟨q0, q1, qP, qK, qD⟩ := q; exact ⟨q0, q1, qP, va_K.moved (u := U) (U := U.calling g mk a) (Vm.Alike.refl U.vm) qK, qD⟩, va_recv hKc hPc (ci := 9) (q0 := 0) rfl rfl, fun U hU hW => ⟨rfl, by rw [hU], by rw [hU]; exact hPc, va_K.moved hW.alike hKc, hDc.weaken (fun _ _ _ _ => trivial)⟩⟩ rfl rfl hl.1 rfl (lv_room (Nat.le_of_ble_eq_true rfl)) dX9_mark_10 ⟨Nat.le_of_ble_eq_true rfl, Nat.le_of_ble_eq_true rfl⟩) hS (fun q _ h => hFc q h) hFc (fun r_15 u t H1 locs ht hvm hw hB hz1 hk1 hS => ?_)
    obtain ⟨hP1, hK1, hD1⟩ := hB
    rw [ht] at hP1
    have hr_15 := hw
    obtain ⟨hP, hD⟩ := va_join (wr := [(mb, .inl (cmb, 3, .inr (.inr (.inr (.inr fmb))))), (mu, .inl (cmu, 3, .inl fmu))]) (w1 := [(gt, .inr (9, [.int 3, .ref tp, .int td, .int fk, .int fpl, .ref bk, .int un, .ref mb, .ref mu, .int mk, .ref rd, .ref cm, .ref wk, .ref pp, .ref so, .ref ty]))]) hP hD [0] [1, 2] rfl rfl (by decide) (by decide) hk1 hFc hP1 hD1
    generalize H1 = H at hP hS ⊢
    have hP : va_P (dC, dI) vwCl [(mb, .inl (cmb, 3, .inr (.inr (.inr (.inr fmb))))), (mu, .inl (cmu, 3, .inl fmu)), (gt, .inr (9, [.int 3, .ref tp, .int td, .int fk, .int fpl, .ref bk, .int un, .ref mb, .ref mu, .int mk, .ref rd, .ref cm, .ref wk, .ref pp, .ref so, .ref ty]))] H := hP
    have hD : va_D A [(mb, .inl (cmb, 3, .inr (.inr (.inr (.inr fmb))))), (mu, .inl (cmu, 3, .inl fmu)), (gt, .inr (9, [.int 3, .ref tp, .int td, .int fk, .int fpl, .ref bk, .int un, .ref mb, .ref mu, .int mk, .ref rd, .ref cm, .ref wk, .ref pp, .ref so, .ref ty]))] := hD
    have hQ := q_at hQ0 hQA hS
    have hP9 := hP.sub (ws' := [(gt, .inr (9, [.int 3, .ref tp, .int td, .int fk, .int fpl, .ref bk, .int un, .ref mb, .ref mu, .int mk, .ref rd, .ref cm, .ref wk, .ref pp, .ref so, .ref ty])), (mb, .inl (cmb, 3, .inr (.inr (.inr (.inr fmb))))), (mu, .inl (cmu, 3, .inl fmu))]) [2, 0, 1] rfl
    have hD9 := hD.sub (ws' := [(gt, .inr (9, [.int 3, .ref tp, .int td, .int fk, .int fpl, .ref bk, .int un, .ref mb, .ref mu, .int mk, .ref rd, .ref cm, .ref wk, .ref pp, .ref so, .ref ty])), (mb, .inl (cmb, 3, .inr (.inr (.inr (.inr fmb))))), (mu, .inl (cmu, 3, .inl fmu))]) [2, 0, 1] (by decide) rfl
    have hK9 := hK.sub (tys' := [(cmb, .object "PatternGate$Book"), (cmu, .int)]) [0, 1] rfl
    have lz_15 : ((-1) : Int32).toInt = (-1) := by decide
    have lz_16 : (3 : Int32).toInt = 3 := by decide
    have hv9 := congrArg Int32.toInt hr_15
    exact W.iret hx hb hr (fun t ht hW => ⟨⟨_, mk, rfl, by omega, 3, fmb, fmu, (hM.mono (fun _ h => h) (by omega)), by rw [ht]; exact hP9, va_K.moved hW.alike hK9, hD9⟩, hS.F ht⟩) hS.2.2 dX9_mark_13
theorem dX9_back_0 : decode cX9_back 0 = .ok (.aload_n 0, 1) := by decide +kernel
theorem dX9_back_1 : decode cX9_back 1 = .ok (.getfield 120, 3) := by decide +kernel
theorem dX9_back_4 : decode cX9_back 4 = .ok (.ifCond .le 11, 3) := by decide +kernel
theorem dX9_back_7 : decode cX9_back 7 = .ok (.aload_n 0, 1) := by decide +kernel
theorem dX9_back_8 : decode cX9_back 8 = .ok (.getfield 120, 3) := by decide +kernel
theorem dX9_back_11 : decode cX9_back 11 = .ok (.iconst 3, 1) := by decide +kernel
theorem dX9_back_12 : decode cX9_back 12 = .ok (.if_icmp .le 9, 3) := by decide +kernel
theorem dX9_back_15 : decode cX9_back 15 = .ok (.aload_n 0, 1) := by decide +kernel
theorem dX9_back_16 : decode cX9_back 16 = .ok (.iconst 5, 1) := by decide +kernel
theorem dX9_back_17 : decode cX9_back 17 = .ok (.invokevirtual 80, 3) := by decide +kernel
theorem dX9_back_20 : decode cX9_back 20 = .ok (.ireturn, 1) := by decide +kernel
theorem dX9_back_21 : decode cX9_back 21 = .ok (.aload_n 0, 1) := by decide +kernel
theorem dX9_back_22 : decode cX9_back 22 = .ok (.getfield 33, 3) := by decide +kernel
theorem dX9_back_25 : decode cX9_back 25 = .ok (.aload_n 0, 1) := by decide +kernel
theorem dX9_back_26 : decode cX9_back 26 = .ok (.getfield 120, 3) := by decide +kernel
theorem dX9_back_29 : decode cX9_back 29 = .ok (.iconst 1, 1) := by decide +kernel
theorem dX9_back_30 : decode cX9_back 30 = .ok (.isub, 1) := by decide +kernel
theorem dX9_back_31 : decode cX9_back 31 = .ok (.aaload, 1) := by decide +kernel
theorem dX9_back_32 : decode cX9_back 32 = .ok (.astore_n 1, 1) := by decide +kernel
theorem dX9_back_33 : decode cX9_back 33 = .ok (.aload_n 1, 1) := by decide +kernel
theorem dX9_back_34 : decode cX9_back 34 = .ok (.ifnonnull 9, 3) := by decide +kernel
theorem dX9_back_43 : decode cX9_back 43 = .ok (.aload_n 0, 1) := by decide +kernel
theorem dX9_back_44 : decode cX9_back 44 = .ok (.dup, 1) := by decide +kernel
theorem dX9_back_45 : decode cX9_back 45 = .ok (.getfield 120, 3) := by decide +kernel
theorem dX9_back_48 : decode cX9_back 48 = .ok (.iconst 1, 1) := by decide +kernel
theorem dX9_back_49 : decode cX9_back 49 = .ok (.isub, 1) := by decide +kernel
theorem dX9_back_50 : decode cX9_back 50 = .ok (.putfield 120, 3) := by decide +kernel
theorem dX9_back_53 : decode cX9_back 53 = .ok (.aload_n 0, 1) := by decide +kernel
theorem dX9_back_54 : decode cX9_back 54 = .ok (.aload_n 1, 1) := by decide +kernel
theorem dX9_back_55 : decode cX9_back 55 = .ok (.putfield 29, 3) := by decide +kernel
theorem dX9_back_58 : decode cX9_back 58 = .ok (.aload_n 0, 1) := by decide +kernel
theorem dX9_back_59 : decode cX9_back 59 = .ok (.aload_n 0, 1) := by decide +kernel
theorem dX9_back_60 : decode cX9_back 60 = .ok (.getfield 37, 3) := by decide +kernel
theorem dX9_back_63 : decode cX9_back 63 = .ok (.aload_n 0, 1) := by decide +kernel
theorem dX9_back_64 : decode cX9_back 64 = .ok (.getfield 120, 3) := by decide +kernel
theorem dX9_back_67 : decode cX9_back 67 = .ok (.iaload, 1) := by decide +kernel
theorem dX9_back_68 : decode cX9_back 68 = .ok (.putfield 117, 3) := by decide +kernel
theorem dX9_back_71 : decode cX9_back 71 = .ok (.aload_n 0, 1) := by decide +kernel
theorem dX9_back_72 : decode cX9_back 72 = .ok (.aload_n 0, 1) := by decide +kernel
theorem dX9_back_73 : decode cX9_back 73 = .ok (.getfield 120, 3) := by decide +kernel
theorem dX9_back_76 : decode cX9_back 76 = .ok (.invokevirtual 100, 3) := by decide +kernel
theorem dX9_back_79 : decode cX9_back 79 = .ok (.ireturn, 1) := by decide +kernel
def mwX9_back : List Cond := .code yX9_back cX9_back 2 (some .int) :: (([.fieldLink RX9 120 "PatternGate" "marks" "I", .methodLink RX9 80 yX9_refuse, .instanceMethod yX9_refuse, .selects RX9 yX9_refuse yX9_refuse, .initialized RX9, .fieldLink RX9 33 "PatternGate" "markedBooks" "[LPatternGate$Book;", .fieldLink RX9 29 "PatternGate" "book" "LPatternGate$Book;", .fieldLink RX9 37 "PatternGate" "markedUndoable" "[I", .fieldLink RX9 117 "PatternGate" "undoable" "I", .methodLink RX9 100 yX9_answer, .instanceMethod yX9_answer, .selects RX9 yX9_answer yX9_answer] : List Cond) ++ (wsX90 ++ (mwX9_refuse ++ (mwX9_answer))))
theorem fin_X9_back_X9 : ∀ w ∈ wsX90, w ∈ mwX9_back := fun w h => List.mem_cons_of_mem _ (List.mem_append_right _ (List.mem_append_left _ h))
set_option maxRecDepth 20000 in
theorem mg_X9_back_X9_refuse_80 : GoodIn mwX9_back (wsV RX9 80 RX9 yX9_refuse mwX9_refuse) := gi_app (A := [.methodLink RX9 80 yX9_refuse, .instanceMethod yX9_refuse, .selects RX9 yX9_refuse yX9_refuse, .initialized RX9]) (goodIn_r _ [2, 3, 4, 5] (by decide +kernel) (by decide +kernel)) (gi_sub gd_mwX9_refuse (fun w h => List.mem_cons_of_mem _ (List.mem_append_right _ (List.mem_append_right _ (List.mem_append_left _ h)))))
set_option maxRecDepth 20000 in
theorem mg_X9_back_X9_answer_100 : GoodIn mwX9_back (wsV RX9 100 RX9 yX9_answer mwX9_answer) := gi_app (A := [.methodLink RX9 100 yX9_answer, .instanceMethod yX9_answer, .selects RX9 yX9_answer yX9_answer, .initialized RX9]) (goodIn_r _ [10, 11, 12, 5] (by decide +kernel) (by decide +kernel)) (gi_sub gd_mwX9_answer (fun w h => List.mem_cons_of_mem _ (List.mem_append_right _ (List.mem_append_right _ (List.mem_append_right _ (h))))))
set_option maxHeartbeats 4000000 in
set_option maxRecDepth 100000 in
/-- gate: back -/
theorem s_g_back (l : Launch) (dC : Nat → ClassId) (dI : Nat → Nat → Nat) (W9 : va_W) (T9 : List (ClassId × FieldType)) (B9 : Nat → Prop) (gt tp bk mb mu rd cm wk pp so ty : Nat) (st9 td fk fpl un mk : Int32) (cmb cmu : ClassId) (fmb : Nat → Option Nat) (fmu : Nat → Int32) (sz : Nat) (hB9 : gB W9 T9 B9) (hbk : B9 bk) (hM : gM fmb B9 mk.toInt) (hmk : 0 ≤ mk.toInt ∧ mk.toInt ≤ 3) : Met l yX9_back mwX9_back ({ frames := 1, cells := 0, slots := 0, locals := 60 }) (va_Pc [.ref gt] (fun U => U.heap.size = sz ∧ va_P (dC, dI) vwCl ([(gt, .inr (9, [.int st9, .ref tp, .int td, .int fk, .int fpl, .ref bk, .int un, .ref mb, .ref mu, .int mk, .ref rd, .ref cm, .ref wk, .ref pp, .ref so, .ref ty])), (mb, .inl (cmb, 3, .inr (.inr (.inr (.inr fmb))))), (mu, .inl (cmu, 3, .inl fmu))]) U.heap ∧ va_K (dC, dI) vwCl ([(cmb, .object "PatternGate$Book"), (cmu, .int)]) U ∧ va_D (fun _ => True) ([(gt, .inr (9, [.int st9, .ref tp, .int td, .int fk, .int fpl, .ref bk, .int un, .ref mb, .ref mu, .int mk, .ref rd, .ref cm, .ref wk, .ref pp, .ref so, .ref ty])), (mb, .inl (cmb, 3, .inr (.inr (.inr (.inr fmb))))), (mu, .inl (cmu, 3, .inl fmu))]) ∧ va_P (dC, dI) vwCl W9 U.heap ∧ va_K (dC, dI) vwCl T9 U ∧ (∀ q ∈ W9, ¬ va_A ([(gt, .inr (9, [.int st9, .ref tp, .int td, .int fk, .int fpl, .ref bk, .int un, .ref mb, .ref mu, .int mk, .ref rd, .ref cm, .ref wk, .ref pp, .ref so, .ref ty])), (mb, .inl (cmb, 3, .inr (.inr (.inr (.inr fmb))))), (mu, .inl (cmu, 3, .inl fmu))]) sz q.1))) (va_Qi (fun (o9 : Int32) (u : Int32) => mk.toInt = 0 ∧ o9.toInt = -1 ∧ u.toInt = 0 ∨ 0 < mk.toInt ∧ o9.toInt = mk.toInt - 1 ∧ u.toInt = mk.toInt - 1) (fun u t => ∃ (y0 : Int32) (b9 : Nat) (y6 : Int32), B9 b9 ∧ gM fmb B9 u.toInt ∧ va_P (dC, dI) vwCl [(gt, .inr (9, [.int y0, .ref tp, .int td, .int fk, .int fpl, .ref b9, .int y6, .ref mb, .ref mu, .int u, .ref rd, .ref cm, .ref wk, .ref pp, .ref so, .ref ty])), (mb, .inl (cmb, 3, .inr (.inr (.inr (.inr fmb))))), (mu, .inl (cmu, 3, .inl fmu))] t.heap ∧ va_K (dC, dI) vwCl [(cmb, .object "PatternGate$Book"), (cmu, .int)] t ∧ va_D (va_A ([(gt, .inr (9, [.int st9, .ref tp, .int td, .int fk, .int fpl, .ref bk, .int un, .ref mb, .ref mu, .int mk, .ref rd, .ref cm, .ref wk, .ref pp, .ref so, .ref ty])), (mb, .inl (cmb, 3, .inr (.inr (.inr (.inr fmb))))), (mu, .inl (cmu, 3, .inl fmu))]) sz) [(gt, .inr (9, [.int y0, .ref tp, .int td, .int fk, .int fpl, .ref b9, .int y6, .ref mb, .ref mu, .int u, .ref rd, .ref cm, .ref wk, .ref pp, .ref so, .ref ty])), (mb, .inl (cmb, 3, .inr (.inr (.inr (.inr fmb))))), (mu, .inl (cmu, 3, .inl fmu))]) (va_A ([(gt, .inr (9, [.int st9, .ref tp, .int td, .int fk, .int fpl, .ref bk, .int un, .ref mb, .ref mu, .int mk, .ref rd, .ref cm, .ref wk, .ref pp, .ref so, .ref ty])), (mb, .inl (cmb, 3, .inr (.inr (.inr (.inr fmb))))), (mu, .inl (cmu, 3, .inl fmu))]) sz)) 0 0 (va_A ([(gt, .inr (9, [.int st9, .ref tp, .int td, .int fk, .int fpl, .ref bk, .int un, .ref mb, .ref mu, .int mk, .ref rd, .ref cm, .ref wk, .ref pp, .ref so, .ref ty])), (mb, .inl (cmb, 3, .inr (.inr (.inr (.inr fmb))))), (mu, .inl (cmu, 3, .inl fmu))]) sz) := by
  refine Met.ofW (cc := cX9_back) (maxL := 2) (ret := (some .int)) (by decide +kernel) rfl ?_
  intro p e s m args below meth c s₁ B hml hv
  obtain ⟨rfl, hsz, hP, hK, hD0, hQ0, hKQ, hQA⟩ := hv
  have hx := B.exec
  have hb := B.bytes
  have hr := B.returns
  have hts := atoms_spec (ws := mwX9_back) B.pre
  have hown : s.vm.findClass RX9 = some m.cls := findClass_of_methodNamed B.named
  have hlocks := B.notSynchronized
  subst hsz
  have hD := hD0.self (sz := s.heap.size)
  generalize hAe : va_A ([(gt, .inr (9, [.int st9, .ref tp, .int td, .int fk, .int fpl, .ref bk, .int un, .ref mb, .ref mu, .int mk, .ref rd, .ref cm, .ref wk, .ref pp, .ref so, .ref ty])), (mb, .inl (cmb, 3, .inr (.inr (.inr (.inr fmb))))), (mu, .inl (cmu, 3, .inl fmu))]) s.heap.size = A at hD hQA ⊢
  have hA : ∀ q : Nat, s.heap.size ≤ q → A q := fun q h => by rw [← hAe]; exact Or.inr h
  have hP : va_P (dC, dI) vwCl [(gt, .inr (9, [.int st9, .ref tp, .int td, .int fk, .int fpl, .ref bk, .int un, .ref mb, .ref mu, .int mk, .ref rd, .ref cm, .ref wk, .ref pp, .ref so, .ref ty])), (mb, .inl (cmb, 3, .inr (.inr (.inr (.inr fmb))))), (mu, .inl (cmu, 3, .inl fmu))] s.heap := hP
  have hD : va_D A [(gt, .inr (9, [.int st9, .ref tp, .int td, .int fk, .int fpl, .ref bk, .int un, .ref mb, .ref mu, .int mk, .ref rd, .ref cm, .ref wk, .ref pp, .ref so, .ref ty])), (mb, .inl (cmb, 3, .inr (.inr (.inr (.inr fmb))))), (mu, .inl (cmu, 3, .inl fmu))] := hD
  have hK : va_K (dC, dI) vwCl [(cmb, .object "PatternGate$Book"), (cmu, .int)] s := hK
  generalize hH : s.heap = H at hP ⊢
  have hS : va_S A s.heap H [] := by rw [← hH]; exact va_S.rf
  have hQ := q_at hQ0 hQA hS
  have hl := lv_entry ([.ref gt]) (n := 2) (Nat.le_of_ble_eq_true rfl)
  rw [lg_entry_eq]
  generalize (lg_sl ([.ref gt]) ++ List.replicate (2 - (lg_sl ([.ref gt])).length) Slot.unset).toArray = ls at hl ⊢
  have hl : lv_has ls 2 [(0, .ref gt)] := hl
  obtain ⟨ear, hB3, hear⟩ := hB9 bk hbk
  have hB0 := hB3.poB
  obtain ⟨ds, ps, nd, np, fd, fp, cD, cP, m1, m2, m3, m4, m5, hnd, hnp, hds, hps⟩ := id hB3
  obtain ⟨k_1, hk_1⟩ := List.getElem?_of_mem m1
  obtain ⟨k_2, hk_2⟩ := List.getElem?_of_mem m2
  obtain ⟨j_3, hj_3⟩ := List.getElem?_of_mem m3
  obtain ⟨k_4, hk_4⟩ := List.getElem?_of_mem m4
  obtain ⟨j_5, hj_5⟩ := List.getElem?_of_mem m5
  have r_un := i_rng un
  have r_mk := i_rng mk
  have r_td := i_rng td
  refine lv_aload_n hx hb dX9_back_0 rfl (lv_at hl 0 rfl) ?_
  refine va_get (D := (dC, dI)) (ci := 9) (v := .int mk) (C := RX9) (T := TX9) (N := 16) hx hb hts fin_X9_back_X9 hown hK hP 0 rfl rfl 9 (by decide) (hts (.fieldLink RX9 120 "PatternGate" "marks" "I") (List.mem_of_getElem? (i := 1) (by decide +kernel))) (fun _ h9 => h9) rfl dX9_back_1 ?_
  refine lv_if_le (tgt := 15) hx hb dX9_back_4 (by decide) (fun k_6 => ?_) (fun k_6 => ?_)
  · have tk_6 := c_le (a := mk.toInt) (b := 0) rfl (by decide) k_6
    refine lv_aload_n hx hb dX9_back_15 rfl (lv_at hl 0 rfl) ?_
    refine lv_iconst (v := 5) hx hb dX9_back_16 (by decide) ?_
    have hPc := hP.sub (ws' := [(gt, .inr (9, [.int st9, .ref tp, .int td, .int fk, .int fpl, .ref bk, .int un, .ref mb, .ref mu, .int mk, .ref rd, .ref cm, .ref wk, .ref pp, .ref so, .ref ty]))]) [0] rfl
    have hKc := hK.sub (tys' := []) [] rfl
    have hDc := hD.sub (ws' := [(gt, .inr (9, [.int st9, .ref tp, .int td, .int fk, .int fpl, .ref bk, .int un, .ref mb, .ref mu, .int mk, .ref rd, .ref cm, .ref wk, .ref pp, .ref so, .ref ty]))]) [0] (by decide) rfl
    have hFc := va_free (wc := [(gt, .inr (9, [.int st9, .ref tp, .int td, .int fk, .int fpl, .ref bk, .int un, .ref mb, .ref mu, .int mk, .ref rd, .ref cm, .ref wk, .ref pp, .ref so, .ref ty]))]) hD hS hA [0] rfl
    refine va_calli (va_runV (As := [.int 5]) (rest := []) ⟨hx, hb, hml, hown, hts⟩ (s_refuse l dC dI gt tp bk mb mu rd cm wk pp so ty st9 td fk fpl un mk H.size 5) (cwV 1 hts mg_X9_back_X9_refuse_80 rfl rfl rfl (by decide +kernel) ⟨Nat.le_of_ble_eq_true rfl, Nat.le_of_ble_eq_true rfl⟩) ⟨fun a U g mk q => by obtain ⟨q0, q1, qP, qK, qD⟩ := q; exact ⟨q0, q1, qP, va_K.moved (u := U) (U := U.calling g mk a) (Vm.Alike.refl U.vm) qK, qD⟩, va_recv hKc hPc (ci := 9) (q0 := 0) rfl rfl, fun U hU hW => ⟨rfl, by rw [hU], by rw [hU]; exact hPc, va_K.moved hW.alike hKc, hDc.weaken (fun _ _ _ _ => trivial)⟩⟩ rfl rfl hl.1 rfl (lv_room (Nat.le_of_ble_eq_true rfl)) dX9_back_17 ⟨Nat.le_of_ble_eq_true rfl, Nat.le_of_ble_eq_true rfl⟩) hS (fun q _ h => hFc q h) hFc (fun r_8 u t H1 locs ht hvm hw hB hz1 hk1 hS => ?_)
    obtain ⟨hP1, hK1, hD1⟩ := hB
    rw [ht] at hP1
    have hr_8 := hw
    obtain ⟨hP, hD⟩ := va_join (wr := [(mb, .inl (cmb, 3, .inr (.inr (.inr (.inr fmb))))), (mu, .inl (cmu, 3, .inl fmu))]) (w1 := [(gt, .inr (9, [.int 5, .ref tp, .int td, .int fk, .int fpl, .ref bk, .int un, .ref mb, .ref mu, .int mk, .ref rd, .ref cm, .ref wk, .ref pp, .ref so, .ref ty]))]) hP hD [0] [1, 2] rfl rfl (by decide) (by decide) hk1 hFc hP1 hD1
    generalize H1 = H at hP hS ⊢
    have hP : va_P (dC, dI) vwCl [(mb, .inl (cmb, 3, .inr (.inr (.inr (.inr fmb))))), (mu, .inl (cmu, 3, .inl fmu)), (gt, .inr (9, [.int 5, .ref tp, .int td, .int fk, .int fpl, .ref bk, .int un, .ref mb, .ref mu, .int mk, .ref rd, .ref cm, .ref wk, .ref pp, .ref so, .ref ty]))] H := hP
    have hD : va_D A [(mb, .inl (cmb, 3, .inr (.inr (.inr (.inr fmb))))), (mu, .inl (cmu, 3, .inl fmu)), (gt, .inr (9, [.int 5, .ref tp, .int td, .int fk, .int fpl, .ref bk, .int un, .ref mb, .ref mu, .int mk, .ref rd, .ref cm, .ref wk, .ref pp, .ref so, .ref ty]))] := hD
    have hQ := q_at hQ0 hQA hS
    have hP9 := hP.sub (ws' := [(gt, .inr (9, [.int 5, .ref tp, .int td, .int fk, .int fpl, .ref bk, .int un, .ref mb, .ref mu, .int mk, .ref rd, .ref cm, .ref wk, .ref pp, .ref so, .ref ty])), (mb, .inl (cmb, 3, .inr (.inr (.inr (.inr fmb))))), (mu, .inl (cmu, 3, .inl fmu))]) [2, 0, 1] rfl
    have hD9 := hD.sub (ws' := [(gt, .inr (9, [.int 5, .ref tp, .int td, .int fk, .int fpl, .ref bk, .int un, .ref mb, .ref mu, .int mk, .ref rd, .ref cm, .ref wk, .ref pp, .ref so, .ref ty])), (mb, .inl (cmb, 3, .inr (.inr (.inr (.inr fmb))))), (mu, .inl (cmu, 3, .inl fmu))]) [2, 0, 1] (by decide) rfl
    have hK9 := hK.sub (tys' := [(cmb, .object "PatternGate$Book"), (cmu, .int)]) [0, 1] rfl
    have lz_8 : ((-1) : Int32).toInt = (-1) := by decide
    have hv9 := congrArg Int32.toInt hr_8
    exact W.iret hx hb hr (fun t ht hW => ⟨⟨_, mk, rfl, by omega, 5, bk, un, hbk, hM.mono (fun _ h => h) (by omega), by rw [ht]; exact hP9, va_K.moved hW.alike hK9, hD9⟩, hS.F ht⟩) hS.2.2 dX9_back_20
  · have tk_6 := c_nle (a := mk.toInt) (b := 0) rfl (by decide) k_6
    refine lv_aload_n hx hb dX9_back_7 rfl (lv_at hl 0 rfl) ?_
    refine va_get (D := (dC, dI)) (ci := 9) (v := .int mk) (C := RX9) (T := TX9) (N := 16) hx hb hts fin_X9_back_X9 hown hK hP 0 rfl rfl 9 (by decide) (hts (.fieldLink RX9 120 "PatternGate" "marks" "I") (List.mem_of_getElem? (i := 1) (by decide +kernel))) (fun _ h9 => h9) rfl dX9_back_8 ?_
    refine lv_iconst (v := 3) hx hb dX9_back_11 (by decide) ?_
    refine lv_icmp_le (tgt := 21) hx hb dX9_back_12 (by decide) (fun k_10 => ?_) (fun k_10 => ?_)
    · have tk_10 := c_le (a := mk.toInt) (b := 3) rfl (by decide) k_10
      refine lv_aload_n hx hb dX9_back_21 rfl (lv_at hl 0 rfl) ?_
      refine va_get (D := (dC, dI)) (ci := 9) (v := .ref mb) (C := RX9) (T := TX9) (N := 16) hx hb hts fin_X9_back_X9 hown hK hP 0 rfl rfl 7 (by decide) (hts (.fieldLink RX9 33 "PatternGate" "markedBooks" "[LPatternGate$Book;") (List.mem_of_getElem? (i := 6) (by decide +kernel))) (fun _ h9 => h9) rfl dX9_back_22 ?_
      refine lv_aload_n hx hb dX9_back_25 rfl (lv_at hl 0 rfl) ?_
      refine va_get (D := (dC, dI)) (ci := 9) (v := .int mk) (C := RX9) (T := TX9) (N := 16) hx hb hts fin_X9_back_X9 hown hK hP 0 rfl rfl 9 (by decide) (hts (.fieldLink RX9 120 "PatternGate" "marks" "I") (List.mem_of_getElem? (i := 1) (by decide +kernel))) (fun _ h9 => h9) rfl dX9_back_26 ?_
      refine lv_iconst (v := 1) hx hb dX9_back_29 (by decide) ?_
      refine lv_isub hx hb dX9_back_30 ?_
      refine lv_topi (fun y_11 ey_11 => ?_)
      first | have ty_11 := i_sub (a := mk.toInt) (b := 1) rfl (by decide) ey_11 (by omega) (by omega) | skip
      refine va_aldq hx hb hK hP 1 0 rfl rfl (i := y_11) (vp_of (a := y_11.toInt) rfl (by omega) (by omega)) dX9_back_31 ?_
      obtain ⟨b_12, eb_12, hb_12⟩ := hM y_11.toNatClampNeg (by have := c_nat (x := y_11) (by omega); omega)
      rw [eb_12]
      refine W.eq (g2 := F0 m 32 ls [.ref b_12]) rfl ?_
      refine lv_astore_n (lv' := [(1, .ref b_12), (0, .ref gt)]) hx hb dX9_back_32 rfl hl (by decide) rfl (fun ls hl => ?_)
      refine lv_aload_n hx hb dX9_back_33 rfl (lv_at hl 0 rfl) ?_
      refine lv_ifnonnull (tgt := 43) hx hb dX9_back_34 (by decide) ?_
      refine lv_aload_n hx hb dX9_back_43 rfl (lv_at hl 1 rfl) ?_
      refine lv_dup hx hb dX9_back_44 rfl ?_
      refine va_get (D := (dC, dI)) (ci := 9) (v := .int mk) (C := RX9) (T := TX9) (N := 16) hx hb hts fin_X9_back_X9 hown hK hP 0 rfl rfl 9 (by decide) (hts (.fieldLink RX9 120 "PatternGate" "marks" "I") (List.mem_of_getElem? (i := 1) (by decide +kernel))) (fun _ h9 => h9) rfl dX9_back_45 ?_
      refine lv_iconst (v := 1) hx hb dX9_back_48 (by decide) ?_
      refine lv_isub hx hb dX9_back_49 ?_
      refine lv_topi (fun y_13 ey_13 => ?_)
      first | have ty_13 := i_sub (a := mk.toInt) (b := 1) rfl (by decide) ey_13 (by omega) (by omega) | skip
      refine va_put (D := (dC, dI)) (ci := 9) (v := .int y_13) (ty := .int) (C := RX9) (T := TX9) (N := 16) hx hb hts fin_X9_back_X9 tyX9 tyX9_ok nmX9 hown hK hP hD hS 0 rfl rfl 9 (by decide) (hts (.fieldLink RX9 120 "PatternGate" "marks" "I") (List.mem_of_getElem? (i := 1) (by decide +kernel))) (fun _ h9 => h9) rfl (by decide +kernel) rfl rfl (Nat.le_of_ble_eq_true rfl) dX9_back_50 (fun H locs hP hD hS => ?_)
      have hP : va_P (dC, dI) vwCl [(gt, .inr (9, [.int st9, .ref tp, .int td, .int fk, .int fpl, .ref bk, .int un, .ref mb, .ref mu, .int y_13, .ref rd, .ref cm, .ref wk, .ref pp, .ref so, .ref ty])), (mb, .inl (cmb, 3, .inr (.inr (.inr (.inr fmb))))), (mu, .inl (cmu, 3, .inl fmu))] H := hP
      have hD : va_D A [(gt, .inr (9, [.int st9, .ref tp, .int td, .int fk, .int fpl, .ref bk, .int un, .ref mb, .ref mu, .int y_13, .ref rd, .ref cm, .ref wk, .ref pp, .ref so, .ref ty])), (mb, .inl (cmb, 3, .inr (.inr (.inr (.inr fmb))))), (mu, .inl (cmu, 3, .inl fmu))] := hD
      have hQ := q_at hQ0 hQA hS
      refine lv_aload_n hx hb dX9_back_53 rfl (lv_at hl 1 rfl) ?_
      refine lv_aload_n hx hb dX9_back_54 rfl (lv_at hl 0 rfl) ?_
      refine va_put (D := (dC, dI)) (ci := 9) (v := .ref b_12) (ty := .object "PatternGate$Book") (C := RX9) (T := TX9) (N := 16) hx hb hts fin_X9_back_X9 tyX9 tyX9_ok nmX9 hown hK hP hD hS 0 rfl rfl 5 (by decide) (hts (.fieldLink RX9 29 "PatternGate" "book" "LPatternGate$Book;") (List.mem_of_getElem? (i := 7) (by decide +kernel))) (fun _ h9 => h9) rfl (by decide +kernel) rfl rfl (Nat.le_of_ble_eq_true rfl) dX9_back_55 (fun H locs hP hD hS => ?_)
      have hP : va_P (dC, dI) vwCl [(gt, .inr (9, [.int st9, .ref tp, .int td, .int fk, .int fpl, .ref b_12, .int un, .ref mb, .ref mu, .int y_13, .ref rd, .ref cm, .ref wk, .ref pp, .ref so, .ref ty])), (mb, .inl (cmb, 3, .inr (.inr (.inr (.inr fmb))))), (mu, .inl (cmu, 3, .inl fmu))] H := hP
      have hD : va_D A [(gt, .inr (9, [.int st9, .ref tp, .int td, .int fk, .int fpl, .ref b_12, .int un, .ref mb, .ref mu, .int y_13, .ref rd, .ref cm, .ref wk, .ref pp, .ref so, .ref ty])), (mb, .inl (cmb, 3, .inr (.inr (.inr (.inr fmb))))), (mu, .inl (cmu, 3, .inl fmu))] := hD
      have hQ := q_at hQ0 hQA hS
      refine lv_aload_n hx hb dX9_back_58 rfl (lv_at hl 1 rfl) ?_
      refine lv_aload_n hx hb dX9_back_59 rfl (lv_at hl 1 rfl) ?_
      refine va_get (D := (dC, dI)) (ci := 9) (v := .ref mu) (C := RX9) (T := TX9) (N := 16) hx hb hts fin_X9_back_X9 hown hK hP 0 rfl rfl 8 (by decide) (hts (.fieldLink RX9 37 "PatternGate" "markedUndoable" "[I") (List.mem_of_getElem? (i := 8) (by decide +kernel))) (fun _ h9 => h9) rfl dX9_back_60 ?_
      refine lv_aload_n hx hb dX9_back_63 rfl (lv_at hl 1 rfl) ?_
      refine va_get (D := (dC, dI)) (ci := 9) (v := .int y_13) (C := RX9) (T := TX9) (N := 16) hx hb hts fin_X9_back_X9 hown hK hP 0 rfl rfl 9 (by decide) (hts (.fieldLink RX9 120 "PatternGate" "marks" "I") (List.mem_of_getElem? (i := 1) (by decide +kernel))) (fun _ h9 => h9) rfl dX9_back_64 ?_
      refine va_iald hx hb hK hP 2 1 rfl rfl (i := y_13) (vp_of (a := y_13.toInt) rfl (by omega) (by omega)) dX9_back_67 ?_
      refine lv_topi (fun y_14 ey_14 => ?_)
      have rg_y_14 := i_rng y_14
      refine va_put (D := (dC, dI)) (ci := 9) (v := .int y_14) (ty := .int) (C := RX9) (T := TX9) (N := 16) hx hb hts fin_X9_back_X9 tyX9 tyX9_ok nmX9 hown hK hP hD hS 0 rfl rfl 6 (by decide) (hts (.fieldLink RX9 117 "PatternGate" "undoable" "I") (List.mem_of_getElem? (i := 9) (by decide +kernel))) (fun _ h9 => h9) rfl (by decide +kernel) rfl rfl (Nat.le_of_ble_eq_true rfl) dX9_back_68 (fun H locs hP hD hS => ?_)
      have hP : va_P (dC, dI) vwCl [(gt, .inr (9, [.int st9, .ref tp, .int td, .int fk, .int fpl, .ref b_12, .int y_14, .ref mb, .ref mu, .int y_13, .ref rd, .ref cm, .ref wk, .ref pp, .ref so, .ref ty])), (mb, .inl (cmb, 3, .inr (.inr (.inr (.inr fmb))))), (mu, .inl (cmu, 3, .inl fmu))] H := hP
      have hD : va_D A [(gt, .inr (9, [.int st9, .ref tp, .int td, .int fk, .int fpl, .ref b_12, .int y_14, .ref mb, .ref mu, .int y_13, .ref rd, .ref cm, .ref wk, .ref pp, .ref so, .ref ty])), (mb, .inl (cmb, 3, .inr (.inr (.inr (.inr fmb))))), (mu, .inl (cmu, 3, .inl fmu))] := hD
      have hQ := q_at hQ0 hQA hS
      refine lv_aload_n hx hb dX9_back_71 rfl (lv_at hl 1 rfl) ?_
      refine lv_aload_n hx hb dX9_back_72 rfl (lv_at hl 1 rfl) ?_
      refine va_get (D := (dC, dI)) (ci := 9) (v := .int y_13) (C := RX9) (T := TX9) (N := 16) hx hb hts fin_X9_back_X9 hown hK hP 0 rfl rfl 9 (by decide) (hts (.fieldLink RX9 120 "PatternGate" "marks" "I") (List.mem_of_getElem? (i := 1) (by decide +kernel))) (fun _ h9 => h9) rfl dX9_back_73 ?_
      have hPc := hP.sub (ws' := [(gt, .inr (9, [.int st9, .ref tp, .int td, .int fk, .int fpl, .ref b_12, .int y_14, .ref mb, .ref mu, .int y_13, .ref rd, .ref cm, .ref wk, .ref pp, .ref so, .ref ty]))]) [0] rfl
      have hKc := hK.sub (tys' := []) [] rfl
      have hDc := hD.sub (ws' := [(gt, .inr (9, [.int st9, .ref tp, .int td, .int fk, .int fpl, .ref b_12, .int y_14, .ref mb, .ref mu, .int y_13, .ref rd, .ref cm, .ref wk, .ref pp, .ref so, .ref ty]))]) [0] (by decide) rfl
      have hFc := va_free (wc := [(gt, .inr (9, [.int st9, .ref tp, .int td, .int fk, .int fpl, .ref b_12, .int y_14, .ref mb, .ref mu, .int y_13, .ref rd, .ref cm, .ref wk, .ref pp, .ref so, .ref ty]))]) hD hS hA [0] rfl
      refine va_calli (va_runV (As := [.int y_13]) (rest := []) ⟨hx, hb, hml, hown, hts⟩ (s_answer l dC dI gt tp b_12 mb mu rd cm wk pp so ty st9 td fk fpl y_14 y_13 H.size y_13) (cwV 1 hts mg_X9_back_X9_answer_100 rfl rfl rfl (by decide +kernel) ⟨Nat.le_of_ble_eq_true rfl, Nat.le_of_ble_eq_true rfl⟩) ⟨fun a U g mk q => by obtain ⟨q0, q1, qP, qK, qD⟩ := q; exact ⟨q0, q1, qP, va_K.moved (u := U) (U := U.calling g mk a) (Vm.Alike.refl U.vm) qK, qD⟩, va_recv hKc hPc (ci := 9) (q0 := 0) rfl rfl, fun U hU hW => ⟨rfl, by rw [hU], by rw [hU]; exact hPc, va_K.moved hW.alike hKc, hDc.weaken (fun _ _ _ _ => trivial)⟩⟩ rfl rfl hl.1 rfl (lv_room (Nat.le_of_ble_eq_true rfl)) dX9_back_76 ⟨Nat.le_of_ble_eq_true rfl, Nat.le_of_ble_eq_true rfl⟩) hS (fun q _ h => hFc q h) hFc (fun r_16 u t H1 locs ht hvm hw hB hz1 hk1 hS => ?_)
      obtain ⟨hP1, hK1, hD1⟩ := hB
      rw [ht] at hP1
      have hr_16 := hw
      obtain ⟨hP, hD⟩ := va_join (wr := [(mb, .inl (cmb, 3, .inr (.inr (.inr (.inr fmb))))), (mu, .inl (cmu, 3, .inl fmu))]) (w1 := [(gt, .inr (9, [.int 0, .ref tp, .int td, .int fk, .int fpl, .ref b_12, .int y_14, .ref mb, .ref mu, .int y_13, .ref rd, .ref cm, .ref wk, .ref pp, .ref so, .ref ty]))]) hP hD [0] [1, 2] rfl rfl (by decide) (by decide) hk1 hFc hP1 hD1
      generalize H1 = H at hP hS ⊢
      have hP : va_P (dC, dI) vwCl [(mb, .inl (cmb, 3, .inr (.inr (.inr (.inr fmb))))), (mu, .inl (cmu, 3, .inl fmu)), (gt, .inr (9, [.int 0, .ref tp, .int td, .int fk, .int fpl, .ref b_12, .int y_14, .ref mb, .ref mu, .int y_13, .ref rd, .ref cm, .ref wk, .ref pp, .ref so, .ref ty]))] H := hP
      have hD : va_D A [(mb, .inl (cmb, 3, .inr (.inr (.inr (.inr fmb))))), (mu, .inl (cmu, 3, .inl fmu)), (gt, .inr (9, [.int 0, .ref tp, .int td, .int fk, .int fpl, .ref b_12, .int y_14, .ref mb, .ref mu, .int y_13, .ref rd, .ref cm, .ref wk, .ref pp, .ref so, .ref ty]))] := hD
      have hQ := q_at hQ0 hQA hS
      have hP9 := hP.sub (ws' := [(gt, .inr (9, [.int 0, .ref tp, .int td, .int fk, .int fpl, .ref b_12, .int y_14, .ref mb, .ref mu, .int y_13, .ref rd, .ref cm, .ref wk, .ref pp, .ref so, .ref ty])), (mb, .inl (cmb, 3, .inr (.inr (.inr (.inr fmb))))), (mu, .inl (cmu, 3, .inl fmu))]) [2, 0, 1] rfl
      have hD9 := hD.sub (ws' := [(gt, .inr (9, [.int 0, .ref tp, .int td, .int fk, .int fpl, .ref b_12, .int y_14, .ref mb, .ref mu, .int y_13, .ref rd, .ref cm, .ref wk, .ref pp, .ref so, .ref ty])), (mb, .inl (cmb, 3, .inr (.inr (.inr (.inr fmb))))), (mu, .inl (cmu, 3, .inl fmu))]) [2, 0, 1] (by decide) rfl
      have hK9 := hK.sub (tys' := [(cmb, .object "PatternGate$Book"), (cmu, .int)]) [0, 1] rfl
      have lz_16 : ((-1) : Int32).toInt = (-1) := by decide
      have hv9 := congrArg Int32.toInt hr_16
      exact W.iret hx hb hr (fun t ht hW => ⟨⟨_, y_13, rfl, by omega, 0, b_12, y_14, hb_12, hM.mono (fun _ h => h) (by omega), by rw [ht]; exact hP9, va_K.moved hW.alike hK9, hD9⟩, hS.F ht⟩) hS.2.2 dX9_back_79
    · have tk_10 := c_nle (a := mk.toInt) (b := 3) rfl (by decide) k_10
      refine lv_aload_n hx hb dX9_back_15 rfl (lv_at hl 0 rfl) ?_
      refine lv_iconst (v := 5) hx hb dX9_back_16 (by decide) ?_
      have hPc := hP.sub (ws' := [(gt, .inr (9, [.int st9, .ref tp, .int td, .int fk, .int fpl, .ref bk, .int un, .ref mb, .ref mu, .int mk, .ref rd, .ref cm, .ref wk, .ref pp, .ref so, .ref ty]))]) [0] rfl
      have hKc := hK.sub (tys' := []) [] rfl
      have hDc := hD.sub (ws' := [(gt, .inr (9, [.int st9, .ref tp, .int td, .int fk, .int fpl, .ref bk, .int un, .ref mb, .ref mu, .int mk, .ref rd, .ref cm, .ref wk, .ref pp, .ref so, .ref ty]))]) [0] (by decide) rfl
      have hFc := va_free (wc := [(gt, .inr (9, [.int st9, .ref tp, .int td, .int fk, .int fpl, .ref bk, .int un, .ref mb, .ref mu, .int mk, .ref rd, .ref cm, .ref wk, .ref pp, .ref so, .ref ty]))]) hD hS hA [0] rfl
      refine va_calli (va_runV (As := [.int 5]) (rest := []) ⟨hx, hb, hml, hown, hts⟩ (s_refuse l dC dI gt tp bk mb mu rd cm wk pp so ty st9 td fk fpl un mk H.size 5) (cwV 1 hts mg_X9_back_X9_refuse_80 rfl rfl rfl (by decide +kernel) ⟨Nat.le_of_ble_eq_true rfl, Nat.le_of_ble_eq_true rfl⟩) ⟨fun a U g mk q => by obtain ⟨q0, q1, qP, qK, qD⟩ := q; exact ⟨q0, q1, qP, va_K.moved (u := U) (U := U.calling g mk a) (Vm.Alike.refl U.vm) qK, qD⟩, va_recv hKc hPc (ci := 9) (q0 := 0) rfl rfl, fun U hU hW => ⟨rfl, by rw [hU], by rw [hU]; exact hPc, va_K.moved hW.alike hKc, hDc.weaken (fun _ _ _ _ => trivial)⟩⟩ rfl rfl hl.1 rfl (lv_room (Nat.le_of_ble_eq_true rfl)) dX9_back_17 ⟨Nat.le_of_ble_eq_true rfl, Nat.le_of_ble_eq_true rfl⟩) hS (fun q _ h => hFc q h) hFc (fun r_19 u t H1 locs ht hvm hw hB hz1 hk1 hS => ?_)
      obtain ⟨hP1, hK1, hD1⟩ := hB
      rw [ht] at hP1
      have hr_19 := hw
      obtain ⟨hP, hD⟩ := va_join (wr := [(mb, .inl (cmb, 3, .inr (.inr (.inr (.inr fmb))))), (mu, .inl (cmu, 3, .inl fmu))]) (w1 := [(gt, .inr (9, [.int 5, .ref tp, .int td, .int fk, .int fpl, .ref bk, .int un, .ref mb, .ref mu, .int mk, .ref rd, .ref cm, .ref wk, .ref pp, .ref so, .ref ty]))]) hP hD [0] [1, 2] rfl rfl (by decide) (by decide) hk1 hFc hP1 hD1
      generalize H1 = H at hP hS ⊢
      have hP : va_P (dC, dI) vwCl [(mb, .inl (cmb, 3, .inr (.inr (.inr (.inr fmb))))), (mu, .inl (cmu, 3, .inl fmu)), (gt, .inr (9, [.int 5, .ref tp, .int td, .int fk, .int fpl, .ref bk, .int un, .ref mb, .ref mu, .int mk, .ref rd, .ref cm, .ref wk, .ref pp, .ref so, .ref ty]))] H := hP
      have hD : va_D A [(mb, .inl (cmb, 3, .inr (.inr (.inr (.inr fmb))))), (mu, .inl (cmu, 3, .inl fmu)), (gt, .inr (9, [.int 5, .ref tp, .int td, .int fk, .int fpl, .ref bk, .int un, .ref mb, .ref mu, .int mk, .ref rd, .ref cm, .ref wk, .ref pp, .ref so, .ref ty]))] := hD
      have hQ := q_at hQ0 hQA hS
      have hP9 := hP.sub (ws' := [(gt, .inr (9, [.int 5, .ref tp, .int td, .int fk, .int fpl, .ref bk, .int un, .ref mb, .ref mu, .int mk, .ref rd, .ref cm, .ref wk, .ref pp, .ref so, .ref ty])), (mb, .inl (cmb, 3, .inr (.inr (.inr (.inr fmb))))), (mu, .inl (cmu, 3, .inl fmu))]) [2, 0, 1] rfl
      have hD9 := hD.sub (ws' := [(gt, .inr (9, [.int 5, .ref tp, .int td, .int fk, .int fpl, .ref bk, .int un, .ref mb, .ref mu, .int mk, .ref rd, .ref cm, .ref wk, .ref pp, .ref so, .ref ty])), (mb, .inl (cmb, 3, .inr (.inr (.inr (.inr fmb))))), (mu, .inl (cmu, 3, .inl fmu))]) [2, 0, 1] (by decide) rfl
      have hK9 := hK.sub (tys' := [(cmb, .object "PatternGate$Book"), (cmu, .int)]) [0, 1] rfl
      have lz_19 : ((-1) : Int32).toInt = (-1) := by decide
      have hv9 := congrArg Int32.toInt hr_19
      exact W.iret hx hb hr (fun t ht hW => ⟨⟨_, mk, rfl, by omega, 5, bk, un, hbk, hM.mono (fun _ h => h) (by omega), by rw [ht]; exact hP9, va_K.moved hW.alike hK9, hD9⟩, hS.F ht⟩) hS.2.2 dX9_back_20
theorem dX9_undo_0 : decode cX9_undo 0 = .ok (.aload_n 0, 1) := by decide +kernel
theorem dX9_undo_1 : decode cX9_undo 1 = .ok (.getfield 29, 3) := by decide +kernel
theorem dX9_undo_4 : decode cX9_undo 4 = .ok (.getfield 278, 3) := by decide +kernel
theorem dX9_undo_7 : decode cX9_undo 7 = .ok (.astore_n 1, 1) := by decide +kernel
theorem dX9_undo_8 : decode cX9_undo 8 = .ok (.aload_n 0, 1) := by decide +kernel
theorem dX9_undo_9 : decode cX9_undo 9 = .ok (.getfield 117, 3) := by decide +kernel
theorem dX9_undo_12 : decode cX9_undo 12 = .ok (.ifCond .le 7, 3) := by decide +kernel
theorem dX9_undo_15 : decode cX9_undo 15 = .ok (.aload_n 1, 1) := by decide +kernel
theorem dX9_undo_16 : decode cX9_undo 16 = .ok (.ifnonnull 9, 3) := by decide +kernel
theorem dX9_undo_19 : decode cX9_undo 19 = .ok (.aload_n 0, 1) := by decide +kernel
theorem dX9_undo_20 : decode cX9_undo 20 = .ok (.iconst 5, 1) := by decide +kernel
theorem dX9_undo_21 : decode cX9_undo 21 = .ok (.invokevirtual 80, 3) := by decide +kernel
theorem dX9_undo_24 : decode cX9_undo 24 = .ok (.ireturn, 1) := by decide +kernel
theorem dX9_undo_25 : decode cX9_undo 25 = .ok (.aload_n 0, 1) := by decide +kernel
theorem dX9_undo_26 : decode cX9_undo 26 = .ok (.aload_n 1, 1) := by decide +kernel
theorem dX9_undo_27 : decode cX9_undo 27 = .ok (.putfield 29, 3) := by decide +kernel
theorem dX9_undo_30 : decode cX9_undo 30 = .ok (.aload_n 0, 1) := by decide +kernel
theorem dX9_undo_31 : decode cX9_undo 31 = .ok (.dup, 1) := by decide +kernel
theorem dX9_undo_32 : decode cX9_undo 32 = .ok (.getfield 117, 3) := by decide +kernel
theorem dX9_undo_35 : decode cX9_undo 35 = .ok (.iconst 1, 1) := by decide +kernel
theorem dX9_undo_36 : decode cX9_undo 36 = .ok (.isub, 1) := by decide +kernel
theorem dX9_undo_37 : decode cX9_undo 37 = .ok (.putfield 117, 3) := by decide +kernel
theorem dX9_undo_40 : decode cX9_undo 40 = .ok (.aload_n 0, 1) := by decide +kernel
theorem dX9_undo_41 : decode cX9_undo 41 = .ok (.aload_n 0, 1) := by decide +kernel
theorem dX9_undo_42 : decode cX9_undo 42 = .ok (.getfield 117, 3) := by decide +kernel
theorem dX9_undo_45 : decode cX9_undo 45 = .ok (.invokevirtual 100, 3) := by decide +kernel
theorem dX9_undo_48 : decode cX9_undo 48 = .ok (.ireturn, 1) := by decide +kernel
def mwX9_undo : List Cond := .code yX9_undo cX9_undo 2 (some .int) :: (([.fieldLink RX9 29 "PatternGate" "book" "LPatternGate$Book;", .fieldLink RX9 278 "PatternGate$Book" "earlier" "LPatternGate$Book;", .fieldLink RX9 117 "PatternGate" "undoable" "I", .methodLink RX9 80 yX9_refuse, .instanceMethod yX9_refuse, .selects RX9 yX9_refuse yX9_refuse, .initialized RX9, .methodLink RX9 100 yX9_answer, .instanceMethod yX9_answer, .selects RX9 yX9_answer yX9_answer] : List Cond) ++ (wsX90 ++ (wsX00 ++ (mwX9_refuse ++ (mwX9_answer)))))
theorem fin_X9_undo_X0 : ∀ w ∈ wsX00, w ∈ mwX9_undo := fun w h => List.mem_cons_of_mem _ (List.mem_append_right _ (List.mem_append_right _ (List.mem_append_left _ h)))
theorem fin_X9_undo_X9 : ∀ w ∈ wsX90, w ∈ mwX9_undo := fun w h => List.mem_cons_of_mem _ (List.mem_append_right _ (List.mem_append_left _ h))
set_option maxRecDepth 20000 in
theorem mg_X9_undo_X9_refuse_80 : GoodIn mwX9_undo (wsV RX9 80 RX9 yX9_refuse mwX9_refuse) := gi_app (A := [.methodLink RX9 80 yX9_refuse, .instanceMethod yX9_refuse, .selects RX9 yX9_refuse yX9_refuse, .initialized RX9]) (goodIn_r _ [4, 5, 6, 7] (by decide +kernel) (by decide +kernel)) (gi_sub gd_mwX9_refuse (fun w h => List.mem_cons_of_mem _ (List.mem_append_right _ (List.mem_append_right _ (List.mem_append_right _ (List.mem_append_left _ h))))))
set_option maxRecDepth 20000 in
theorem mg_X9_undo_X9_answer_100 : GoodIn mwX9_undo (wsV RX9 100 RX9 yX9_answer mwX9_answer) := gi_app (A := [.methodLink RX9 100 yX9_answer, .instanceMethod yX9_answer, .selects RX9 yX9_answer yX9_answer, .initialized RX9]) (goodIn_r _ [8, 9, 10, 7] (by decide +kernel) (by decide +kernel)) (gi_sub gd_mwX9_answer (fun w h => List.mem_cons_of_mem _ (List.mem_append_right _ (List.mem_append_right _ (List.mem_append_right _ (List.mem_append_right _ (h)))))))
set_option maxHeartbeats 4000000 in
set_option maxRecDepth 100000 in
/-- gate: undo -/
theorem s_g_undo (l : Launch) (dC : Nat → ClassId) (dI : Nat → Nat → Nat) (W9 : va_W) (T9 : List (ClassId × FieldType)) (B9 : Nat → Prop) (gt tp bk mb mu rd cm wk pp so ty : Nat) (st9 td fk fpl un mk : Int32) (sz : Nat) (hB9 : gB W9 T9 B9) (hbk : B9 bk) : Met l yX9_undo mwX9_undo ({ frames := 1, cells := 0, slots := 0, locals := 60 }) (va_Pc [.ref gt] (fun U => U.heap.size = sz ∧ va_P (dC, dI) vwCl ([(gt, .inr (9, [.int st9, .ref tp, .int td, .int fk, .int fpl, .ref bk, .int un, .ref mb, .ref mu, .int mk, .ref rd, .ref cm, .ref wk, .ref pp, .ref so, .ref ty]))]) U.heap ∧ va_K (dC, dI) vwCl ([]) U ∧ va_D (fun _ => True) ([(gt, .inr (9, [.int st9, .ref tp, .int td, .int fk, .int fpl, .ref bk, .int un, .ref mb, .ref mu, .int mk, .ref rd, .ref cm, .ref wk, .ref pp, .ref so, .ref ty]))]) ∧ va_P (dC, dI) vwCl W9 U.heap ∧ va_K (dC, dI) vwCl T9 U ∧ (∀ q ∈ W9, ¬ va_A ([(gt, .inr (9, [.int st9, .ref tp, .int td, .int fk, .int fpl, .ref bk, .int un, .ref mb, .ref mu, .int mk, .ref rd, .ref cm, .ref wk, .ref pp, .ref so, .ref ty]))]) sz q.1))) (va_Qi (fun (_ : Int32) (_ : Unit) => True) (fun _ t => ∃ (y0 : Int32) (b9 : Nat) (y6 : Int32), B9 b9 ∧ va_P (dC, dI) vwCl [(gt, .inr (9, [.int y0, .ref tp, .int td, .int fk, .int fpl, .ref b9, .int y6, .ref mb, .ref mu, .int mk, .ref rd, .ref cm, .ref wk, .ref pp, .ref so, .ref ty]))] t.heap ∧ va_K (dC, dI) vwCl [] t ∧ va_D (va_A ([(gt, .inr (9, [.int st9, .ref tp, .int td, .int fk, .int fpl, .ref bk, .int un, .ref mb, .ref mu, .int mk, .ref rd, .ref cm, .ref wk, .ref pp, .ref so, .ref ty]))]) sz) [(gt, .inr (9, [.int y0, .ref tp, .int td, .int fk, .int fpl, .ref b9, .int y6, .ref mb, .ref mu, .int mk, .ref rd, .ref cm, .ref wk, .ref pp, .ref so, .ref ty]))]) (va_A ([(gt, .inr (9, [.int st9, .ref tp, .int td, .int fk, .int fpl, .ref bk, .int un, .ref mb, .ref mu, .int mk, .ref rd, .ref cm, .ref wk, .ref pp, .ref so, .ref ty]))]) sz)) 0 0 (va_A ([(gt, .inr (9, [.int st9, .ref tp, .int td, .int fk, .int fpl, .ref bk, .int un, .ref mb, .ref mu, .int mk, .ref rd, .ref cm, .ref wk, .ref pp, .ref so, .ref ty]))]) sz) := by
  refine Met.ofW (cc := cX9_undo) (maxL := 2) (ret := (some .int)) (by decide +kernel) rfl ?_
  intro p e s m args below meth c s₁ B hml hv
  obtain ⟨rfl, hsz, hP, hK, hD0, hQ0, hKQ, hQA⟩ := hv
  have hx := B.exec
  have hb := B.bytes
  have hr := B.returns
  have hts := atoms_spec (ws := mwX9_undo) B.pre
  have hown : s.vm.findClass RX9 = some m.cls := findClass_of_methodNamed B.named
  have hlocks := B.notSynchronized
  subst hsz
  have hD := hD0.self (sz := s.heap.size)
  generalize hAe : va_A ([(gt, .inr (9, [.int st9, .ref tp, .int td, .int fk, .int fpl, .ref bk, .int un, .ref mb, .ref mu, .int mk, .ref rd, .ref cm, .ref wk, .ref pp, .ref so, .ref ty]))]) s.heap.size = A at hD hQA ⊢
  have hA : ∀ q : Nat, s.heap.size ≤ q → A q := fun q h => by rw [← hAe]; exact Or.inr h
  have hP : va_P (dC, dI) vwCl [(gt, .inr (9, [.int st9, .ref tp, .int td, .int fk, .int fpl, .ref bk, .int un, .ref mb, .ref mu, .int mk, .ref rd, .ref cm, .ref wk, .ref pp, .ref so, .ref ty]))] s.heap := hP
  have hD : va_D A [(gt, .inr (9, [.int st9, .ref tp, .int td, .int fk, .int fpl, .ref bk, .int un, .ref mb, .ref mu, .int mk, .ref rd, .ref cm, .ref wk, .ref pp, .ref so, .ref ty]))] := hD
  have hK : va_K (dC, dI) vwCl [] s := hK
  generalize hH : s.heap = H at hP ⊢
  have hS : va_S A s.heap H [] := by rw [← hH]; exact va_S.rf
  have hQ := q_at hQ0 hQA hS
  have hl := lv_entry ([.ref gt]) (n := 2) (Nat.le_of_ble_eq_true rfl)
  rw [lg_entry_eq]
  generalize (lg_sl ([.ref gt]) ++ List.replicate (2 - (lg_sl ([.ref gt])).length) Slot.unset).toArray = ls at hl ⊢
  have hl : lv_has ls 2 [(0, .ref gt)] := hl
  obtain ⟨ear, hB3, hear⟩ := hB9 bk hbk
  have hB0 := hB3.poB
  obtain ⟨ds, ps, nd, np, fd, fp, cD, cP, m1, m2, m3, m4, m5, hnd, hnp, hds, hps⟩ := id hB3
  obtain ⟨k_1, hk_1⟩ := List.getElem?_of_mem m1
  obtain ⟨k_2, hk_2⟩ := List.getElem?_of_mem m2
  obtain ⟨j_3, hj_3⟩ := List.getElem?_of_mem m3
  obtain ⟨k_4, hk_4⟩ := List.getElem?_of_mem m4
  obtain ⟨j_5, hj_5⟩ := List.getElem?_of_mem m5
  have r_un := i_rng un
  have r_mk := i_rng mk
  have r_td := i_rng td
  rcases ear with _ | eb
  · refine lv_aload_n hx hb dX9_undo_0 rfl (lv_at hl 0 rfl) ?_
    refine va_get (D := (dC, dI)) (ci := 9) (v := .ref bk) (C := RX9) (T := TX9) (N := 16) hx hb hts fin_X9_undo_X9 hown hK hP 0 rfl rfl 5 (by decide) (hts (.fieldLink RX9 29 "PatternGate" "book" "LPatternGate$Book;") (List.mem_of_getElem? (i := 1) (by decide +kernel))) (fun _ h9 => h9) rfl dX9_undo_1 ?_
    refine va_get (D := (dC, dI)) (ci := 0) (v := .null) (C := RX0) (T := TX0) (N := 3) hx hb hts fin_X9_undo_X0 hown hKQ hQ k_1 hk_1 rfl 2 (by decide) (hts (.fieldLink RX9 278 "PatternGate$Book" "earlier" "LPatternGate$Book;") (List.mem_of_getElem? (i := 2) (by decide +kernel))) (fun _ h9 => h9) rfl dX9_undo_4 ?_
    refine lv_astore_nN (lv' := [(1, .null), (0, .ref gt)]) hx hb dX9_undo_7 rfl hl (by decide) rfl (fun ls hl => ?_)
    refine lv_aload_n hx hb dX9_undo_8 rfl (lv_at hl 1 rfl) ?_
    refine va_get (D := (dC, dI)) (ci := 9) (v := .int un) (C := RX9) (T := TX9) (N := 16) hx hb hts fin_X9_undo_X9 hown hK hP 0 rfl rfl 6 (by decide) (hts (.fieldLink RX9 117 "PatternGate" "undoable" "I") (List.mem_of_getElem? (i := 3) (by decide +kernel))) (fun _ h9 => h9) rfl dX9_undo_9 ?_
    refine lv_if_le (tgt := 19) hx hb dX9_undo_12 (by decide) (fun k_6 => ?_) (fun k_6 => ?_)
    · have tk_6 := c_le (a := un.toInt) (b := 0) rfl (by decide) k_6
      refine lv_aload_n hx hb dX9_undo_19 rfl (lv_at hl 1 rfl) ?_
      refine lv_iconst (v := 5) hx hb dX9_undo_20 (by decide) ?_
      have hPc := hP.sub (ws' := [(gt, .inr (9, [.int st9, .ref tp, .int td, .int fk, .int fpl, .ref bk, .int un, .ref mb, .ref mu, .int mk, .ref rd, .ref cm, .ref wk, .ref pp, .ref so, .ref ty]))]) [0] rfl
      have hKc := hK.sub (tys' := []) [] rfl
      have hDc := hD.sub (ws' := [(gt, .inr (9, [.int st9, .ref tp, .int td, .int fk, .int fpl, .ref bk, .int un, .ref mb, .ref mu, .int mk, .ref rd, .ref cm, .ref wk, .ref pp, .ref so, .ref ty]))]) [0] (by decide) rfl
      have hFc := va_free (wc := [(gt, .inr (9, [.int st9, .ref tp, .int td, .int fk, .int fpl, .ref bk, .int un, .ref mb, .ref mu, .int mk, .ref rd, .ref cm, .ref wk, .ref pp, .ref so, .ref ty]))]) hD hS hA [0] rfl
      refine va_calli (va_runV (As := [.int 5]) (rest := []) ⟨hx, hb, hml, hown, hts⟩ (s_refuse l dC dI gt tp bk mb mu rd cm wk pp so ty st9 td fk fpl un mk H.size 5) (cwV 1 hts mg_X9_undo_X9_refuse_80 rfl rfl rfl (by decide +kernel) ⟨Nat.le_of_ble_eq_true rfl, Nat.le_of_ble_eq_true rfl⟩) ⟨fun a U g mk q => by obtain ⟨q0, q1, qP, qK, qD⟩ := q; exact ⟨q0, q1, qP, va_K.moved (u := U) (U := U.calling g mk a) (Vm.Alike.refl U.vm) qK, qD⟩, va_recv hKc hPc (ci := 9) (q0 := 0) rfl rfl, fun U hU hW => ⟨rfl, by rw [hU], by rw [hU]; exact hPc, va_K.moved hW.alike hKc, hDc.weaken (fun _ _ _ _ => trivial)⟩⟩ rfl rfl hl.1 rfl (lv_room (Nat.le_of_ble_eq_true rfl)) dX9_undo_21 ⟨Nat.le_of_ble_eq_true rfl, Nat.le_of_ble_eq_true rfl⟩) hS (fun q _ h => hFc q h) hFc (fun r_8 u t H1 locs ht hvm hw hB hz1 hk1 hS => ?_)
      obtain ⟨hP1, hK1, hD1⟩ := hB
      rw [ht] at hP1
      have hr_8 := hw
      obtain ⟨hP, hD⟩ := va_join (wr := []) (w1 := [(gt, .inr (9, [.int 5, .ref tp, .int td, .int fk, .int fpl, .ref bk, .int un, .ref mb, .ref mu, .int mk, .ref rd, .ref cm, .ref wk, .ref pp, .ref so, .ref ty]))]) hP hD [0] [] rfl rfl (by decide) (by decide) hk1 hFc hP1 hD1
      generalize H1 = H at hP hS ⊢
      have hP : va_P (dC, dI) vwCl [(gt, .inr (9, [.int 5, .ref tp, .int td, .int fk, .int fpl, .ref bk, .int un, .ref mb, .ref mu, .int mk, .ref rd, .ref cm, .ref wk, .ref pp, .ref so, .ref ty]))] H := hP
      have hD : va_D A [(gt, .inr (9, [.int 5, .ref tp, .int td, .int fk, .int fpl, .ref bk, .int un, .ref mb, .ref mu, .int mk, .ref rd, .ref cm, .ref wk, .ref pp, .ref so, .ref ty]))] := hD
      have hQ := q_at hQ0 hQA hS
      have hP9 := hP.sub (ws' := [(gt, .inr (9, [.int 5, .ref tp, .int td, .int fk, .int fpl, .ref bk, .int un, .ref mb, .ref mu, .int mk, .ref rd, .ref cm, .ref wk, .ref pp, .ref so, .ref ty]))]) [0] rfl
      have hD9 := hD.sub (ws' := [(gt, .inr (9, [.int 5, .ref tp, .int td, .int fk, .int fpl, .ref bk, .int un, .ref mb, .ref mu, .int mk, .ref rd, .ref cm, .ref wk, .ref pp, .ref so, .ref ty]))]) [0] (by decide) rfl
      have hK9 := hK.sub (tys' := []) [] rfl
      exact W.iret hx hb hr (fun t ht hW => ⟨⟨_, (), rfl, trivial, 5, bk, un, hbk, by rw [ht]; exact hP9, va_K.moved hW.alike hK9, hD9⟩, hS.F ht⟩) hS.2.2 dX9_undo_24
    · have tk_6 := c_nle (a := un.toInt) (b := 0) rfl (by decide) k_6
      refine lv_aload_nN hx hb dX9_undo_15 rfl (lv_at hl 0 rfl) ?_
      refine lv_ifnonnullN hx hb dX9_undo_16 ?_
      refine lv_aload_n hx hb dX9_undo_19 rfl (lv_at hl 1 rfl) ?_
      refine lv_iconst (v := 5) hx hb dX9_undo_20 (by decide) ?_
      have hPc := hP.sub (ws' := [(gt, .inr (9, [.int st9, .ref tp, .int td, .int fk, .int fpl, .ref bk, .int un, .ref mb, .ref mu, .int mk, .ref rd, .ref cm, .ref wk, .ref pp, .ref so, .ref ty]))]) [0] rfl
      have hKc := hK.sub (tys' := []) [] rfl
      have hDc := hD.sub (ws' := [(gt, .inr (9, [.int st9, .ref tp, .int td, .int fk, .int fpl, .ref bk, .int un, .ref mb, .ref mu, .int mk, .ref rd, .ref cm, .ref wk, .ref pp, .ref so, .ref ty]))]) [0] (by decide) rfl
      have hFc := va_free (wc := [(gt, .inr (9, [.int st9, .ref tp, .int td, .int fk, .int fpl, .ref bk, .int un, .ref mb, .ref mu, .int mk, .ref rd, .ref cm, .ref wk, .ref pp, .ref so, .ref ty]))]) hD hS hA [0] rfl
      refine va_calli (va_runV (As := [.int 5]) (rest := []) ⟨hx, hb, hml, hown, hts⟩ (s_refuse l dC dI gt tp bk mb mu rd cm wk pp so ty st9 td fk fpl un mk H.size 5) (cwV 1 hts mg_X9_undo_X9_refuse_80 rfl rfl rfl (by decide +kernel) ⟨Nat.le_of_ble_eq_true rfl, Nat.le_of_ble_eq_true rfl⟩) ⟨fun a U g mk q => by obtain ⟨q0, q1, qP, qK, qD⟩ := q; exact ⟨q0, q1, qP, va_K.moved (u := U) (U := U.calling g mk a) (Vm.Alike.refl U.vm) qK, qD⟩, va_recv hKc hPc (ci := 9) (q0 := 0) rfl rfl, fun U hU hW => ⟨rfl, by rw [hU], by rw [hU]; exact hPc, va_K.moved hW.alike hKc, hDc.weaken (fun _ _ _ _ => trivial)⟩⟩ rfl rfl hl.1 rfl (lv_room (Nat.le_of_ble_eq_true rfl)) dX9_undo_21 ⟨Nat.le_of_ble_eq_true rfl, Nat.le_of_ble_eq_true rfl⟩) hS (fun q _ h => hFc q h) hFc (fun r_10 u t H1 locs ht hvm hw hB hz1 hk1 hS => ?_)
      obtain ⟨hP1, hK1, hD1⟩ := hB
      rw [ht] at hP1
      have hr_10 := hw
      obtain ⟨hP, hD⟩ := va_join (wr := []) (w1 := [(gt, .inr (9, [.int 5, .ref tp, .int td, .int fk, .int fpl, .ref bk, .int un, .ref mb, .ref mu, .int mk, .ref rd, .ref cm, .ref wk, .ref pp, .ref so, .ref ty]))]) hP hD [0] [] rfl rfl (by decide) (by decide) hk1 hFc hP1 hD1
      generalize H1 = H at hP hS ⊢
      have hP : va_P (dC, dI) vwCl [(gt, .inr (9, [.int 5, .ref tp, .int td, .int fk, .int fpl, .ref bk, .int un, .ref mb, .ref mu, .int mk, .ref rd, .ref cm, .ref wk, .ref pp, .ref so, .ref ty]))] H := hP
      have hD : va_D A [(gt, .inr (9, [.int 5, .ref tp, .int td, .int fk, .int fpl, .ref bk, .int un, .ref mb, .ref mu, .int mk, .ref rd, .ref cm, .ref wk, .ref pp, .ref so, .ref ty]))] := hD
      have hQ := q_at hQ0 hQA hS
      have hP9 := hP.sub (ws' := [(gt, .inr (9, [.int 5, .ref tp, .int td, .int fk, .int fpl, .ref bk, .int un, .ref mb, .ref mu, .int mk, .ref rd, .ref cm, .ref wk, .ref pp, .ref so, .ref ty]))]) [0] rfl
      have hD9 := hD.sub (ws' := [(gt, .inr (9, [.int 5, .ref tp, .int td, .int fk, .int fpl, .ref bk, .int un, .ref mb, .ref mu, .int mk, .ref rd, .ref cm, .ref wk, .ref pp, .ref so, .ref ty]))]) [0] (by decide) rfl
      have hK9 := hK.sub (tys' := []) [] rfl
      exact W.iret hx hb hr (fun t ht hW => ⟨⟨_, (), rfl, trivial, 5, bk, un, hbk, by rw [ht]; exact hP9, va_K.moved hW.alike hK9, hD9⟩, hS.F ht⟩) hS.2.2 dX9_undo_24
  · refine lv_aload_n hx hb dX9_undo_0 rfl (lv_at hl 0 rfl) ?_
    refine va_get (D := (dC, dI)) (ci := 9) (v := .ref bk) (C := RX9) (T := TX9) (N := 16) hx hb hts fin_X9_undo_X9 hown hK hP 0 rfl rfl 5 (by decide) (hts (.fieldLink RX9 29 "PatternGate" "book" "LPatternGate$Book;") (List.mem_of_getElem? (i := 1) (by decide +kernel))) (fun _ h9 => h9) rfl dX9_undo_1 ?_
    refine va_get (D := (dC, dI)) (ci := 0) (v := .ref eb) (C := RX0) (T := TX0) (N := 3) hx hb hts fin_X9_undo_X0 hown hKQ hQ k_1 hk_1 rfl 2 (by decide) (hts (.fieldLink RX9 278 "PatternGate$Book" "earlier" "LPatternGate$Book;") (List.mem_of_getElem? (i := 2) (by decide +kernel))) (fun _ h9 => h9) rfl dX9_undo_4 ?_
    refine lv_astore_n (lv' := [(1, .ref eb), (0, .ref gt)]) hx hb dX9_undo_7 rfl hl (by decide) rfl (fun ls hl => ?_)
    refine lv_aload_n hx hb dX9_undo_8 rfl (lv_at hl 1 rfl) ?_
    refine va_get (D := (dC, dI)) (ci := 9) (v := .int un) (C := RX9) (T := TX9) (N := 16) hx hb hts fin_X9_undo_X9 hown hK hP 0 rfl rfl 6 (by decide) (hts (.fieldLink RX9 117 "PatternGate" "undoable" "I") (List.mem_of_getElem? (i := 3) (by decide +kernel))) (fun _ h9 => h9) rfl dX9_undo_9 ?_
    refine lv_if_le (tgt := 19) hx hb dX9_undo_12 (by decide) (fun k_11 => ?_) (fun k_11 => ?_)
    · have tk_11 := c_le (a := un.toInt) (b := 0) rfl (by decide) k_11
      refine lv_aload_n hx hb dX9_undo_19 rfl (lv_at hl 1 rfl) ?_
      refine lv_iconst (v := 5) hx hb dX9_undo_20 (by decide) ?_
      have hPc := hP.sub (ws' := [(gt, .inr (9, [.int st9, .ref tp, .int td, .int fk, .int fpl, .ref bk, .int un, .ref mb, .ref mu, .int mk, .ref rd, .ref cm, .ref wk, .ref pp, .ref so, .ref ty]))]) [0] rfl
      have hKc := hK.sub (tys' := []) [] rfl
      have hDc := hD.sub (ws' := [(gt, .inr (9, [.int st9, .ref tp, .int td, .int fk, .int fpl, .ref bk, .int un, .ref mb, .ref mu, .int mk, .ref rd, .ref cm, .ref wk, .ref pp, .ref so, .ref ty]))]) [0] (by decide) rfl
      have hFc := va_free (wc := [(gt, .inr (9, [.int st9, .ref tp, .int td, .int fk, .int fpl, .ref bk, .int un, .ref mb, .ref mu, .int mk, .ref rd, .ref cm, .ref wk, .ref pp, .ref so, .ref ty]))]) hD hS hA [0] rfl
      refine va_calli (va_runV (As := [.int 5]) (rest := []) ⟨hx, hb, hml, hown, hts⟩ (s_refuse l dC dI gt tp bk mb mu rd cm wk pp so ty st9 td fk fpl un mk H.size 5) (cwV 1 hts mg_X9_undo_X9_refuse_80 rfl rfl rfl (by decide +kernel) ⟨Nat.le_of_ble_eq_true rfl, Nat.le_of_ble_eq_true rfl⟩) ⟨fun a U g mk q => by obtain ⟨q0, q1, qP, qK, qD⟩ := q; exact ⟨q0, q1, qP, va_K.moved (u := U) (U := U.calling g mk a) (Vm.Alike.refl U.vm) qK, qD⟩, va_recv hKc hPc (ci := 9) (q0 := 0) rfl rfl, fun U hU hW => ⟨rfl, by rw [hU], by rw [hU]; exact hPc, va_K.moved hW.alike hKc, hDc.weaken (fun _ _ _ _ => trivial)⟩⟩ rfl rfl hl.1 rfl (lv_room (Nat.le_of_ble_eq_true rfl)) dX9_undo_21 ⟨Nat.le_of_ble_eq_true rfl, Nat.le_of_ble_eq_true rfl⟩) hS (fun q _ h => hFc q h) hFc (fun r_13 u t H1 locs ht hvm hw hB hz1 hk1 hS => ?_)
      obtain ⟨hP1, hK1, hD1⟩ := hB
      rw [ht] at hP1
      have hr_13 := hw
      obtain ⟨hP, hD⟩ := va_join (wr := []) (w1 := [(gt, .inr (9, [.int 5, .ref tp, .int td, .int fk, .int fpl, .ref bk, .int un, .ref mb, .ref mu, .int mk, .ref rd, .ref cm, .ref wk, .ref pp, .ref so, .ref ty]))]) hP hD [0] [] rfl rfl (by decide) (by decide) hk1 hFc hP1 hD1
      generalize H1 = H at hP hS ⊢
      have hP : va_P (dC, dI) vwCl [(gt, .inr (9, [.int 5, .ref tp, .int td, .int fk, .int fpl, .ref bk, .int un, .ref mb, .ref mu, .int mk, .ref rd, .ref cm, .ref wk, .ref pp, .ref so, .ref ty]))] H := hP
      have hD : va_D A [(gt, .inr (9, [.int 5, .ref tp, .int td, .int fk, .int fpl, .ref bk, .int un, .ref mb, .ref mu, .int mk, .ref rd, .ref cm, .ref wk, .ref pp, .ref so, .ref ty]))] := hD
      have hQ := q_at hQ0 hQA hS
      have hP9 := hP.sub (ws' := [(gt, .inr (9, [.int 5, .ref tp, .int td, .int fk, .int fpl, .ref bk, .int un, .ref mb, .ref mu, .int mk, .ref rd, .ref cm, .ref wk, .ref pp, .ref so, .ref ty]))]) [0] rfl
      have hD9 := hD.sub (ws' := [(gt, .inr (9, [.int 5, .ref tp, .int td, .int fk, .int fpl, .ref bk, .int un, .ref mb, .ref mu, .int mk, .ref rd, .ref cm, .ref wk, .ref pp, .ref so, .ref ty]))]) [0] (by decide) rfl
      have hK9 := hK.sub (tys' := []) [] rfl
      exact W.iret hx hb hr (fun t ht hW => ⟨⟨_, (), rfl, trivial, 5, bk, un, hbk, by rw [ht]; exact hP9, va_K.moved hW.alike hK9, hD9⟩, hS.F ht⟩) hS.2.2 dX9_undo_24
    · have tk_11 := c_nle (a := un.toInt) (b := 0) rfl (by decide) k_11
      refine lv_aload_n hx hb dX9_undo_15 rfl (lv_at hl 0 rfl) ?_
      refine lv_ifnonnull (tgt := 25) hx hb dX9_undo_16 (by decide) ?_
      refine lv_aload_n hx hb dX9_undo_25 rfl (lv_at hl 1 rfl) ?_
      refine lv_aload_n hx hb dX9_undo_26 rfl (lv_at hl 0 rfl) ?_
      refine va_put (D := (dC, dI)) (ci := 9) (v := .ref eb) (ty := .object "PatternGate$Book") (C := RX9) (T := TX9) (N := 16) hx hb hts fin_X9_undo_X9 tyX9 tyX9_ok nmX9 hown hK hP hD hS 0 rfl rfl 5 (by decide) (hts (.fieldLink RX9 29 "PatternGate" "book" "LPatternGate$Book;") (List.mem_of_getElem? (i := 1) (by decide +kernel))) (fun _ h9 => h9) rfl (by decide +kernel) rfl rfl (Nat.le_of_ble_eq_true rfl) dX9_undo_27 (fun H locs hP hD hS => ?_)
      have hP : va_P (dC, dI) vwCl [(gt, .inr (9, [.int st9, .ref tp, .int td, .int fk, .int fpl, .ref eb, .int un, .ref mb, .ref mu, .int mk, .ref rd, .ref cm, .ref wk, .ref pp, .ref so, .ref ty]))] H := hP
      have hD : va_D A [(gt, .inr (9, [.int st9, .ref tp, .int td, .int fk, .int fpl, .ref eb, .int un, .ref mb, .ref mu, .int mk, .ref rd, .ref cm, .ref wk, .ref pp, .ref so, .ref ty]))] := hD
      have hQ := q_at hQ0 hQA hS
      refine lv_aload_n hx hb dX9_undo_30 rfl (lv_at hl 1 rfl) ?_
      refine lv_dup hx hb dX9_undo_31 rfl ?_
      refine va_get (D := (dC, dI)) (ci := 9) (v := .int un) (C := RX9) (T := TX9) (N := 16) hx hb hts fin_X9_undo_X9 hown hK hP 0 rfl rfl 6 (by decide) (hts (.fieldLink RX9 117 "PatternGate" "undoable" "I") (List.mem_of_getElem? (i := 3) (by decide +kernel))) (fun _ h9 => h9) rfl dX9_undo_32 ?_
      refine lv_iconst (v := 1) hx hb dX9_undo_35 (by decide) ?_
      refine lv_isub hx hb dX9_undo_36 ?_
      refine lv_topi (fun y_14 ey_14 => ?_)
      first | have ty_14 := i_sub (a := un.toInt) (b := 1) rfl (by decide) ey_14 (by omega) (by omega) | skip
      refine va_put (D := (dC, dI)) (ci := 9) (v := .int y_14) (ty := .int) (C := RX9) (T := TX9) (N := 16) hx hb hts fin_X9_undo_X9 tyX9 tyX9_ok nmX9 hown hK hP hD hS 0 rfl rfl 6 (by decide) (hts (.fieldLink RX9 117 "PatternGate" "undoable" "I") (List.mem_of_getElem? (i := 3) (by decide +kernel))) (fun _ h9 => h9) rfl (by decide +kernel) rfl rfl (Nat.le_of_ble_eq_true rfl) dX9_undo_37 (fun H locs hP hD hS => ?_)
      have hP : va_P (dC, dI) vwCl [(gt, .inr (9, [.int st9, .ref tp, .int td, .int fk, .int fpl, .ref eb, .int y_14, .ref mb, .ref mu, .int mk, .ref rd, .ref cm, .ref wk, .ref pp, .ref so, .ref ty]))] H := hP
      have hD : va_D A [(gt, .inr (9, [.int st9, .ref tp, .int td, .int fk, .int fpl, .ref eb, .int y_14, .ref mb, .ref mu, .int mk, .ref rd, .ref cm, .ref wk, .ref pp, .ref so, .ref ty]))] := hD
      have hQ := q_at hQ0 hQA hS
      refine lv_aload_n hx hb dX9_undo_40 rfl (lv_at hl 1 rfl) ?_
      refine lv_aload_n hx hb dX9_undo_41 rfl (lv_at hl 1 rfl) ?_
      refine va_get (D := (dC, dI)) (ci := 9) (v := .int y_14) (C := RX9) (T := TX9) (N := 16) hx hb hts fin_X9_undo_X9 hown hK hP 0 rfl rfl 6 (by decide) (hts (.fieldLink RX9 117 "PatternGate" "undoable" "I") (List.mem_of_getElem? (i := 3) (by decide +kernel))) (fun _ h9 => h9) rfl dX9_undo_42 ?_
      have hPc := hP.sub (ws' := [(gt, .inr (9, [.int st9, .ref tp, .int td, .int fk, .int fpl, .ref eb, .int y_14, .ref mb, .ref mu, .int mk, .ref rd, .ref cm, .ref wk, .ref pp, .ref so, .ref ty]))]) [0] rfl
      have hKc := hK.sub (tys' := []) [] rfl
      have hDc := hD.sub (ws' := [(gt, .inr (9, [.int st9, .ref tp, .int td, .int fk, .int fpl, .ref eb, .int y_14, .ref mb, .ref mu, .int mk, .ref rd, .ref cm, .ref wk, .ref pp, .ref so, .ref ty]))]) [0] (by decide) rfl
      have hFc := va_free (wc := [(gt, .inr (9, [.int st9, .ref tp, .int td, .int fk, .int fpl, .ref eb, .int y_14, .ref mb, .ref mu, .int mk, .ref rd, .ref cm, .ref wk, .ref pp, .ref so, .ref ty]))]) hD hS hA [0] rfl
      refine va_calli (va_runV (As := [.int y_14]) (rest := []) ⟨hx, hb, hml, hown, hts⟩ (s_answer l dC dI gt tp eb mb mu rd cm wk pp so ty st9 td fk fpl y_14 mk H.size y_14) (cwV 1 hts mg_X9_undo_X9_answer_100 rfl rfl rfl (by decide +kernel) ⟨Nat.le_of_ble_eq_true rfl, Nat.le_of_ble_eq_true rfl⟩) ⟨fun a U g mk q => by obtain ⟨q0, q1, qP, qK, qD⟩ := q; exact ⟨q0, q1, qP, va_K.moved (u := U) (U := U.calling g mk a) (Vm.Alike.refl U.vm) qK, qD⟩, va_recv hKc hPc (ci := 9) (q0 := 0) rfl rfl, fun U hU hW => ⟨rfl, by rw [hU], by rw [hU]; exact hPc, va_K.moved hW.alike hKc, hDc.weaken (fun _ _ _ _ => trivial)⟩⟩ rfl rfl hl.1 rfl (lv_room (Nat.le_of_ble_eq_true rfl)) dX9_undo_45 ⟨Nat.le_of_ble_eq_true rfl, Nat.le_of_ble_eq_true rfl⟩) hS (fun q _ h => hFc q h) hFc (fun r_16 u t H1 locs ht hvm hw hB hz1 hk1 hS => ?_)
      obtain ⟨hP1, hK1, hD1⟩ := hB
      rw [ht] at hP1
      have hr_16 := hw
      obtain ⟨hP, hD⟩ := va_join (wr := []) (w1 := [(gt, .inr (9, [.int 0, .ref tp, .int td, .int fk, .int fpl, .ref eb, .int y_14, .ref mb, .ref mu, .int mk, .ref rd, .ref cm, .ref wk, .ref pp, .ref so, .ref ty]))]) hP hD [0] [] rfl rfl (by decide) (by decide) hk1 hFc hP1 hD1
      generalize H1 = H at hP hS ⊢
      have hP : va_P (dC, dI) vwCl [(gt, .inr (9, [.int 0, .ref tp, .int td, .int fk, .int fpl, .ref eb, .int y_14, .ref mb, .ref mu, .int mk, .ref rd, .ref cm, .ref wk, .ref pp, .ref so, .ref ty]))] H := hP
      have hD : va_D A [(gt, .inr (9, [.int 0, .ref tp, .int td, .int fk, .int fpl, .ref eb, .int y_14, .ref mb, .ref mu, .int mk, .ref rd, .ref cm, .ref wk, .ref pp, .ref so, .ref ty]))] := hD
      have hQ := q_at hQ0 hQA hS
      have hP9 := hP.sub (ws' := [(gt, .inr (9, [.int 0, .ref tp, .int td, .int fk, .int fpl, .ref eb, .int y_14, .ref mb, .ref mu, .int mk, .ref rd, .ref cm, .ref wk, .ref pp, .ref so, .ref ty]))]) [0] rfl
      have hD9 := hD.sub (ws' := [(gt, .inr (9, [.int 0, .ref tp, .int td, .int fk, .int fpl, .ref eb, .int y_14, .ref mb, .ref mu, .int mk, .ref rd, .ref cm, .ref wk, .ref pp, .ref so, .ref ty]))]) [0] (by decide) rfl
      have hK9 := hK.sub (tys' := []) [] rfl
      exact W.iret hx hb hr (fun t ht hW => ⟨⟨_, (), rfl, trivial, 0, eb, y_14, (hear eb rfl), by rw [ht]; exact hP9, va_K.moved hW.alike hK9, hD9⟩, hS.F ht⟩) hS.2.2 dX9_undo_48

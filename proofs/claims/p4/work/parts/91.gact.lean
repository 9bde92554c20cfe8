/-- what the pool has become behind an ACT -/
def gN (W9 W' : va_W) (T9 T' : List (ClassId × FieldType)) (B9 B' : Nat → Prop) (sz : Nat) : Prop := (∀ q ∈ W9, q ∈ W') ∧ (∀ q ∈ T9, q ∈ T') ∧ (∀ b, B9 b → B' b) ∧ gB W' T' B' ∧ ∀ q ∈ W', q ∈ W9 ∨ sz ≤ q.1
theorem gN.same {W9 : va_W} {T9 : List (ClassId × FieldType)} {B9 : Nat → Prop} {sz : Nat} (h : gB W9 T9 B9) : gN W9 W9 T9 T9 B9 B9 sz := ⟨fun _ h => h, fun _ h => h, fun _ h => h, h, fun _ h => Or.inl h⟩
theorem gN.act {W9 X : va_W} {T9 Y : List (ClassId × FieldType)} {B9 : Nat → Prop} {sz a b : Nat} (h : gB W9 T9 B9) (hb : B9 b) (hn : poB3 (W9 ++ X) (T9 ++ Y) a (some b)) (hg : ∀ q ∈ X, sz ≤ q.1) : gN W9 (W9 ++ X) T9 (T9 ++ Y) B9 (fun x => B9 x ∨ x = a) sz :=
  ⟨fun _ h => List.mem_append_left _ h, fun _ h => List.mem_append_left _ h, fun _ h => Or.inl h, (h.mono (fun _ h => List.mem_append_left _ h) (fun _ h => List.mem_append_left _ h)).add hn (fun x hx => by cases hx; exact hb), fun q hq => (List.mem_append.mp hq).imp id (hg q)⟩
theorem va_K.nil {D : va_G} {cl : List vw_C} {T : List (ClassId × FieldType)} {U : State} (h : va_K D cl T U) : va_K D cl [] U := h.sub [] rfl
theorem dX9_act_0 : decode cX9_act 0 = .ok (.aload_n 0, 1) := by decide +kernel
theorem dX9_act_1 : decode cX9_act 1 = .ok (.aload_n 1, 1) := by decide +kernel
theorem dX9_act_2 : decode cX9_act 2 = .ok (.putfield 29, 3) := by decide +kernel
theorem dX9_act_5 : decode cX9_act 5 = .ok (.aload_n 0, 1) := by decide +kernel
theorem dX9_act_6 : decode cX9_act 6 = .ok (.aload_n 0, 1) := by decide +kernel
theorem dX9_act_7 : decode cX9_act 7 = .ok (.getfield 117, 3) := by decide +kernel
theorem dX9_act_10 : decode cX9_act 10 = .ok (.iconst 1, 1) := by decide +kernel
theorem dX9_act_11 : decode cX9_act 11 = .ok (.iadd, 1) := by decide +kernel
theorem dX9_act_12 : decode cX9_act 12 = .ok (.bipush 8, 2) := by decide +kernel
theorem dX9_act_14 : decode cX9_act 14 = .ok (.invokestatic 323, 3) := by decide +kernel
theorem dX9_act_17 : decode cX9_act 17 = .ok (.putfield 117, 3) := by decide +kernel
theorem dX9_act_20 : decode cX9_act 20 = .ok (.return_, 1) := by decide +kernel
def mwX9_act : List Cond := .code yX9_act cX9_act 2 none :: (([.fieldLink RX9 29 "PatternGate" "book" "LPatternGate$Book;", .fieldLink RX9 117 "PatternGate" "undoable" "I", .methodLink RX9 323 Lib.Math.min.name, .static Lib.Math.min.name, .initialized "java/lang/Math", .code Lib.Math.min.name Lib.Math.min.code 2 (some .int)] : List Cond) ++ (wsX90))
theorem fin_X9_act_X9 : ∀ w ∈ wsX90, w ∈ mwX9_act := fun w h => List.mem_cons_of_mem _ (List.mem_append_right _ (h))
set_option maxHeartbeats 4000000 in
set_option maxRecDepth 100000 in
/-- gate: act -/
theorem s_g_act (l : Launch) (dC : Nat → ClassId) (dI : Nat → Nat → Nat) (gt tp bk mb mu rd cm wk pp so ty : Nat) (st9 td fk fpl un mk : Int32) (a9 sz : Nat) : Met l yX9_act mwX9_act ({ frames := 1, cells := 0, slots := 0, locals := 60 }) (va_Pc [.ref gt, .ref a9] (fun U => U.heap.size = sz ∧ va_P (dC, dI) vwCl ([(gt, .inr (9, [.int st9, .ref tp, .int td, .int fk, .int fpl, .ref bk, .int un, .ref mb, .ref mu, .int mk, .ref rd, .ref cm, .ref wk, .ref pp, .ref so, .ref ty]))]) U.heap ∧ va_K (dC, dI) vwCl ([]) U ∧ va_D (fun _ => True) ([(gt, .inr (9, [.int st9, .ref tp, .int td, .int fk, .int fpl, .ref bk, .int un, .ref mb, .ref mu, .int mk, .ref rd, .ref cm, .ref wk, .ref pp, .ref so, .ref ty]))]))) (va_Qv (fun (_ : Unit) => True) (fun _ t => ∃ y9 : Int32, va_P (dC, dI) vwCl [(gt, .inr (9, [.int st9, .ref tp, .int td, .int fk, .int fpl, .ref a9, .int y9, .ref mb, .ref mu, .int mk, .ref rd, .ref cm, .ref wk, .ref pp, .ref so, .ref ty]))] t.heap ∧ va_K (dC, dI) vwCl [] t ∧ va_D (va_A ([(gt, .inr (9, [.int st9, .ref tp, .int td, .int fk, .int fpl, .ref bk, .int un, .ref mb, .ref mu, .int mk, .ref rd, .ref cm, .ref wk, .ref pp, .ref so, .ref ty]))]) sz) [(gt, .inr (9, [.int st9, .ref tp, .int td, .int fk, .int fpl, .ref a9, .int y9, .ref mb, .ref mu, .int mk, .ref rd, .ref cm, .ref wk, .ref pp, .ref so, .ref ty]))]) (va_A ([(gt, .inr (9, [.int st9, .ref tp, .int td, .int fk, .int fpl, .ref bk, .int un, .ref mb, .ref mu, .int mk, .ref rd, .ref cm, .ref wk, .ref pp, .ref so, .ref ty]))]) sz)) 0 0 (va_A ([(gt, .inr (9, [.int st9, .ref tp, .int td, .int fk, .int fpl, .ref bk, .int un, .ref mb, .ref mu, .int mk, .ref rd, .ref cm, .ref wk, .ref pp, .ref so, .ref ty]))]) sz) := by
  refine Met.ofW (cc := cX9_act) (maxL := 2) (ret := none) (by decide +kernel) rfl ?_
  intro p e s m args below meth c s₁ B hml hv
  obtain ⟨rfl, hsz, hP, hK, hD0⟩ := hv
  have hx := B.exec
  have hb := B.bytes
  have hr := B.returns
  have hts := atoms_spec (ws := mwX9_act) B.pre
  have hown : s.vm.findClass RX9 = some m.cls := findClass_of_methodNamed B.named
  have hlocks := B.notSynchronized
  subst hsz
  have hD := hD0.self (sz := s.heap.size)
  generalize hAe : va_A ([(gt, .inr (9, [.int st9, .ref tp, .int td, .int fk, .int fpl, .ref bk, .int un, .ref mb, .ref mu, .int mk, .ref rd, .ref cm, .ref wk, .ref pp, .ref so, .ref ty]))]) s.heap.size = A at hD ⊢
  have hA : ∀ q : Nat, s.heap.size ≤ q → A q := fun q h => by rw [← hAe]; exact Or.inr h
  have hP : va_P (dC, dI) vwCl [(gt, .inr (9, [.int st9, .ref tp, .int td, .int fk, .int fpl, .ref bk, .int un, .ref mb, .ref mu, .int mk, .ref rd, .ref cm, .ref wk, .ref pp, .ref so, .ref ty]))] s.heap := hP
  have hD : va_D A [(gt, .inr (9, [.int st9, .ref tp, .int td, .int fk, .int fpl, .ref bk, .int un, .ref mb, .ref mu, .int mk, .ref rd, .ref cm, .ref wk, .ref pp, .ref so, .ref ty]))] := hD
  have hK : va_K (dC, dI) vwCl [] s := hK
  generalize hH : s.heap = H at hP ⊢
  have hS : va_S A s.heap H [] := by rw [← hH]; exact va_S.rf
  have hl := lv_entry ([.ref gt, .ref a9]) (n := 2) (Nat.le_of_ble_eq_true rfl)
  rw [lg_entry_eq]
  generalize (lg_sl ([.ref gt, .ref a9]) ++ List.replicate (2 - (lg_sl ([.ref gt, .ref a9])).length) Slot.unset).toArray = ls at hl ⊢
  have hl : lv_has ls 2 [(0, .ref gt), (1, .ref a9)] := hl
  refine lv_aload_n hx hb dX9_act_0 rfl (lv_at hl 0 rfl) ?_
  refine lv_aload_n hx hb dX9_act_1 rfl (lv_at hl 1 rfl) ?_
  refine va_put (D := (dC, dI)) (ci := 9) (v := .ref a9) (ty := .object "PatternGate$Book") (C := RX9) (T := TX9) (N := 16) hx hb hts fin_X9_act_X9 tyX9 tyX9_ok nmX9 hown hK hP hD hS 0 rfl rfl 5 (by decide) (hts (.fieldLink RX9 29 "PatternGate" "book" "LPatternGate$Book;") (List.mem_of_getElem? (i := 1) (by decide +kernel))) (fun _ h9 => h9) rfl (by decide +kernel) rfl rfl (Nat.le_of_ble_eq_true rfl) dX9_act_2 (fun H locs hP hD hS => ?_)
  have hP : va_P (dC, dI) vwCl [(gt, .inr (9, [.int st9, .ref tp, .int td, .int fk, .int fpl, .ref a9, .int un, .ref mb, .ref mu, .int mk, .ref rd, .ref cm, .ref wk, .ref pp, .ref so, .ref ty]))] H := hP
  have hD : va_D A [(gt, .inr (9, [.int st9, .ref tp, .int td, .int fk, .int fpl, .ref a9, .int un, .ref mb, .ref mu, .int mk, .ref rd, .ref cm, .ref wk, .ref pp, .ref so, .ref ty]))] := hD
  refine lv_aload_n hx hb dX9_act_5 rfl (lv_at hl 0 rfl) ?_
  refine lv_aload_n hx hb dX9_act_6 rfl (lv_at hl 0 rfl) ?_
  refine va_get (D := (dC, dI)) (ci := 9) (v := .int un) (C := RX9) (T := TX9) (N := 16) hx hb hts fin_X9_act_X9 hown hK hP 0 rfl rfl 6 (by decide) (hts (.fieldLink RX9 117 "PatternGate" "undoable" "I") (List.mem_of_getElem? (i := 2) (by decide +kernel))) (fun _ h9 => h9) rfl dX9_act_7 ?_
  refine lv_iconst (v := 1) hx hb dX9_act_10 (by decide) ?_
  refine lv_iadd hx hb dX9_act_11 ?_
  refine lv_topi (fun y_1 ey_1 => ?_)
  first | have ty_1 := i_add (a := un.toInt) (b := 1) rfl (by decide) ey_1 (by omega) (by omega) | skip
  refine lv_bipush (v := 8) hx hb dX9_act_12 (by decide) ?_
  refine va_mmin hx hb (hml.trans hl.1.symm) hown (hts (.methodLink RX9 323 Lib.Math.min.name) (List.mem_of_getElem? (i := 3) (by decide +kernel))) (hts (.static Lib.Math.min.name) (List.mem_of_getElem? (i := 4) (by decide +kernel))) (hts (.initialized "java/lang/Math") (List.mem_of_getElem? (i := 5) (by decide +kernel))) (hts (.code Lib.Math.min.name Lib.Math.min.code 2 (some .int)) (List.mem_of_getElem? (i := 6) (by decide +kernel))) (Nat.le_of_ble_eq_true rfl) (Nat.le_of_ble_eq_true rfl) (Nat.le_of_ble_eq_true rfl) (Nat.le_of_ble_eq_true rfl) dX9_act_14 ?_
  refine lv_topi (fun y_2 ey_2 => ?_)
  have ty_2 := i_min (a := y_1.toInt) (b := 8) rfl (by decide) ey_2
  refine va_put (D := (dC, dI)) (ci := 9) (v := .int y_2) (ty := .int) (C := RX9) (T := TX9) (N := 16) hx hb hts fin_X9_act_X9 tyX9 tyX9_ok nmX9 hown hK hP hD hS 0 rfl rfl 6 (by decide) (hts (.fieldLink RX9 117 "PatternGate" "undoable" "I") (List.mem_of_getElem? (i := 2) (by decide +kernel))) (fun _ h9 => h9) rfl (by decide +kernel) rfl rfl (Nat.le_of_ble_eq_true rfl) dX9_act_17 (fun H locs hP hD hS => ?_)
  have hP : va_P (dC, dI) vwCl [(gt, .inr (9, [.int st9, .ref tp, .int td, .int fk, .int fpl, .ref a9, .int y_2, .ref mb, .ref mu, .int mk, .ref rd, .ref cm, .ref wk, .ref pp, .ref so, .ref ty]))] H := hP
  have hD : va_D A [(gt, .inr (9, [.int st9, .ref tp, .int td, .int fk, .int fpl, .ref a9, .int y_2, .ref mb, .ref mu, .int mk, .ref rd, .ref cm, .ref wk, .ref pp, .ref so, .ref ty]))] := hD
  have hP9 := hP.sub (ws' := [(gt, .inr (9, [.int st9, .ref tp, .int td, .int fk, .int fpl, .ref a9, .int y_2, .ref mb, .ref mu, .int mk, .ref rd, .ref cm, .ref wk, .ref pp, .ref so, .ref ty]))]) [0] rfl
  have hD9 := hD.sub (ws' := [(gt, .inr (9, [.int st9, .ref tp, .int td, .int fk, .int fpl, .ref a9, .int y_2, .ref mb, .ref mu, .int mk, .ref rd, .ref cm, .ref wk, .ref pp, .ref so, .ref ty]))]) [0] (by decide) rfl
  have hK9 := hK.sub (tys' := []) [] rfl
  exact W.vret hx hb hr (fun t ht hW => ⟨⟨(), rfl, trivial, y_2, by rw [ht]; exact hP9, va_K.moved hW.alike hK9, hD9⟩, hS.F ht⟩) hS.2.2 dX9_act_20
theorem dX9_put_0 : decode cX9_put 0 = .ok (.iload_n 3, 1) := by decide +kernel
theorem dX9_put_1 : decode cX9_put 1 = .ok (.invokestatic 239, 3) := by decide +kernel
theorem dX9_put_4 : decode cX9_put 4 = .ok (.ifCond .eq 7, 3) := by decide +kernel
theorem dX9_put_7 : decode cX9_put 7 = .ok (.iload_n 2, 1) := by decide +kernel
theorem dX9_put_8 : decode cX9_put 8 = .ok (.ifCond .ge 9, 3) := by decide +kernel
theorem dX9_put_11 : decode cX9_put 11 = .ok (.aload_n 0, 1) := by decide +kernel
theorem dX9_put_12 : decode cX9_put 12 = .ok (.iconst 1, 1) := by decide +kernel
theorem dX9_put_13 : decode cX9_put 13 = .ok (.invokevirtual 80, 3) := by decide +kernel
theorem dX9_put_16 : decode cX9_put 16 = .ok (.ireturn, 1) := by decide +kernel
theorem dX9_put_17 : decode cX9_put 17 = .ok (.aload_n 0, 1) := by decide +kernel
theorem dX9_put_18 : decode cX9_put 18 = .ok (.getfield 29, 3) := by decide +kernel
theorem dX9_put_21 : decode cX9_put 21 = .ok (.iload_n 1, 1) := by decide +kernel
theorem dX9_put_22 : decode cX9_put 22 = .ok (.invokevirtual 123, 3) := by decide +kernel
theorem dX9_put_25 : decode cX9_put 25 = .ok (.astore 4, 2) := by decide +kernel
theorem dX9_put_27 : decode cX9_put 27 = .ok (.aload 4, 2) := by decide +kernel
theorem dX9_put_29 : decode cX9_put 29 = .ok (.ifnonnull 9, 3) := by decide +kernel
theorem dX9_put_32 : decode cX9_put 32 = .ok (.aload_n 0, 1) := by decide +kernel
theorem dX9_put_33 : decode cX9_put 33 = .ok (.iconst 2, 1) := by decide +kernel
theorem dX9_put_34 : decode cX9_put 34 = .ok (.invokevirtual 80, 3) := by decide +kernel
theorem dX9_put_37 : decode cX9_put 37 = .ok (.ireturn, 1) := by decide +kernel
theorem dX9_put_38 : decode cX9_put 38 = .ok (.iload_n 2, 1) := by decide +kernel
theorem dX9_put_39 : decode cX9_put 39 = .ok (.aload 4, 2) := by decide +kernel
theorem dX9_put_41 : decode cX9_put 41 = .ok (.getfield 127, 3) := by decide +kernel
theorem dX9_put_44 : decode cX9_put 44 = .ok (.arraylength, 1) := by decide +kernel
theorem dX9_put_45 : decode cX9_put 45 = .ok (.if_icmp .lt 9, 3) := by decide +kernel
theorem dX9_put_48 : decode cX9_put 48 = .ok (.aload_n 0, 1) := by decide +kernel
theorem dX9_put_49 : decode cX9_put 49 = .ok (.iconst 5, 1) := by decide +kernel
theorem dX9_put_50 : decode cX9_put 50 = .ok (.invokevirtual 80, 3) := by decide +kernel
theorem dX9_put_53 : decode cX9_put 53 = .ok (.ireturn, 1) := by decide +kernel
theorem dX9_put_54 : decode cX9_put 54 = .ok (.aload 4, 2) := by decide +kernel
theorem dX9_put_56 : decode cX9_put 56 = .ok (.getfield 127, 3) := by decide +kernel
theorem dX9_put_59 : decode cX9_put 59 = .ok (.iload_n 2, 1) := by decide +kernel
theorem dX9_put_60 : decode cX9_put 60 = .ok (.iaload, 1) := by decide +kernel
theorem dX9_put_61 : decode cX9_put 61 = .ok (.istore 5, 2) := by decide +kernel
theorem dX9_put_63 : decode cX9_put 63 = .ok (.iload 5, 2) := by decide +kernel
theorem dX9_put_65 : decode cX9_put 65 = .ok (.iload_n 3, 1) := by decide +kernel
theorem dX9_put_66 : decode cX9_put 66 = .ok (.if_icmp .ne 9, 3) := by decide +kernel
theorem dX9_put_69 : decode cX9_put 69 = .ok (.aload_n 0, 1) := by decide +kernel
theorem dX9_put_70 : decode cX9_put 70 = .ok (.iconst 4, 1) := by decide +kernel
theorem dX9_put_71 : decode cX9_put 71 = .ok (.invokevirtual 80, 3) := by decide +kernel
theorem dX9_put_74 : decode cX9_put 74 = .ok (.ireturn, 1) := by decide +kernel
theorem dX9_put_75 : decode cX9_put 75 = .ok (.aload 4, 2) := by decide +kernel
theorem dX9_put_77 : decode cX9_put 77 = .ok (.getfield 127, 3) := by decide +kernel
theorem dX9_put_80 : decode cX9_put 80 = .ok (.invokevirtual 242, 3) := by decide +kernel
theorem dX9_put_83 : decode cX9_put 83 = .ok (.checkcast 243, 3) := by decide +kernel
theorem dX9_put_86 : decode cX9_put 86 = .ok (.astore 6, 2) := by decide +kernel
theorem dX9_put_88 : decode cX9_put 88 = .ok (.aload 6, 2) := by decide +kernel
theorem dX9_put_90 : decode cX9_put 90 = .ok (.iload_n 2, 1) := by decide +kernel
theorem dX9_put_91 : decode cX9_put 91 = .ok (.iload_n 3, 1) := by decide +kernel
theorem dX9_put_92 : decode cX9_put 92 = .ok (.iastore, 1) := by decide +kernel
theorem dX9_put_93 : decode cX9_put 93 = .ok (.aload_n 0, 1) := by decide +kernel
theorem dX9_put_94 : decode cX9_put 94 = .ok (.aload_n 0, 1) := by decide +kernel
theorem dX9_put_95 : decode cX9_put 95 = .ok (.getfield 29, 3) := by decide +kernel
theorem dX9_put_98 : decode cX9_put 98 = .ok (.iload_n 1, 1) := by decide +kernel
theorem dX9_put_99 : decode cX9_put 99 = .ok (.aload 6, 2) := by decide +kernel
theorem dX9_put_101 : decode cX9_put 101 = .ok (.aload_n 0, 1) := by decide +kernel
theorem dX9_put_102 : decode cX9_put 102 = .ok (.getfield 64, 3) := by decide +kernel
theorem dX9_put_105 : decode cX9_put 105 = .ok (.invokestatic 247, 3) := by decide +kernel
theorem dX9_put_108 : decode cX9_put 108 = .ok (.invokevirtual 251, 3) := by decide +kernel
theorem dX9_put_111 : decode cX9_put 111 = .ok (.invokevirtual 92, 3) := by decide +kernel
theorem dX9_put_114 : decode cX9_put 114 = .ok (.aload_n 0, 1) := by decide +kernel
theorem dX9_put_115 : decode cX9_put 115 = .ok (.iload 5, 2) := by decide +kernel
theorem dX9_put_117 : decode cX9_put 117 = .ok (.invokevirtual 100, 3) := by decide +kernel
theorem dX9_put_120 : decode cX9_put 120 = .ok (.ireturn, 1) := by decide +kernel
def mwX9_put : List Cond := .code yX9_put cX9_put 7 (some .int) :: (([.methodLink RX9 239 yX9_isLetter, .static yX9_isLetter, .initialized RX9, .methodLink RX9 80 yX9_refuse, .instanceMethod yX9_refuse, .selects RX9 yX9_refuse yX9_refuse, .fieldLink RX9 29 "PatternGate" "book" "LPatternGate$Book;", .methodLink RX9 123 yX0_docAt, .instanceMethod yX0_docAt, .selects RX0 yX0_docAt yX0_docAt, .initialized RX0, .fieldLink RX9 127 "PatternGate$Doc" "letters" "[I", .methodLink RX9 242 ⟨"[I", "clone", "()Ljava/lang/Object;"⟩, .sameMethod "[I" "java/lang/Object" "clone" "()Ljava/lang/Object;", .native ⟨"java/lang/Object", "clone", "()Ljava/lang/Object;"⟩, .instanceMethod ⟨"java/lang/Object", "clone", "()Ljava/lang/Object;"⟩, .selects "[I" ⟨"[I", "clone", "()Ljava/lang/Object;"⟩ ⟨"java/lang/Object", "clone", "()Ljava/lang/Object;"⟩, .classLink RX9 243 "[I", .fieldLink RX9 64 "PatternGate" "sorted" "[I", .methodLink RX9 247 yX2_made, .static yX2_made, .initialized RX2, .methodLink RX9 251 yX0_withDoc, .instanceMethod yX0_withDoc, .selects RX0 yX0_withDoc yX0_withDoc, .methodLink RX9 92 yX9_act, .instanceMethod yX9_act, .selects RX9 yX9_act yX9_act, .methodLink RX9 100 yX9_answer, .instanceMethod yX9_answer, .selects RX9 yX9_answer yX9_answer] : List Cond) ++ (wsX90 ++ (wsX20 ++ (mwX9_isLetter ++ (mwX9_refuse ++ (mwX0_docAt ++ (mwX2_made ++ (mwX0_withDoc ++ (mwX9_act ++ (mwX9_answer))))))))))
theorem fin_X9_put_X2 : ∀ w ∈ wsX20, w ∈ mwX9_put := fun w h => List.mem_cons_of_mem _ (List.mem_append_right _ (List.mem_append_right _ (List.mem_append_left _ h)))
theorem fin_X9_put_X9 : ∀ w ∈ wsX90, w ∈ mwX9_put := fun w h => List.mem_cons_of_mem _ (List.mem_append_right _ (List.mem_append_left _ h))
set_option maxRecDepth 100000 in
theorem gd_mwX0_withDoc : mwX0_withDoc.all goodWord = true := by decide +kernel
set_option maxRecDepth 100000 in
theorem gd_mwX9_act : mwX9_act.all goodWord = true := by decide +kernel
set_option maxRecDepth 20000 in
theorem mg_X9_put_X9_isLetter_239 : GoodIn mwX9_put (va_wsS RX9 239 yX9_isLetter mwX9_isLetter) := gi_app (A := [.methodLink RX9 239 yX9_isLetter, .static yX9_isLetter, .initialized RX9]) (goodIn_r _ [1, 2, 3] (by decide +kernel) (by decide +kernel)) (gi_sub gd_mwX9_isLetter (fun w h => List.mem_cons_of_mem _ (List.mem_append_right _ (List.mem_append_right _ (List.mem_append_right _ (List.mem_append_left _ h))))))
set_option maxRecDepth 20000 in
theorem mg_X9_put_X9_refuse_80 : GoodIn mwX9_put (wsV RX9 80 RX9 yX9_refuse mwX9_refuse) := gi_app (A := [.methodLink RX9 80 yX9_refuse, .instanceMethod yX9_refuse, .selects RX9 yX9_refuse yX9_refuse, .initialized RX9]) (goodIn_r _ [4, 5, 6, 3] (by decide +kernel) (by decide +kernel)) (gi_sub gd_mwX9_refuse (fun w h => List.mem_cons_of_mem _ (List.mem_append_right _ (List.mem_append_right _ (List.mem_append_right _ (List.mem_append_right _ (List.mem_append_left _ h)))))))
set_option maxRecDepth 20000 in
theorem mg_X9_put_X0_docAt_123 : GoodIn mwX9_put (wsV RX9 123 RX0 yX0_docAt mwX0_docAt) := gi_app (A := [.methodLink RX9 123 yX0_docAt, .instanceMethod yX0_docAt, .selects RX0 yX0_docAt yX0_docAt, .initialized RX0]) (goodIn_r _ [8, 9, 10, 11] (by decide +kernel) (by decide +kernel)) (gi_sub gd_mwX0_docAt (fun w h => List.mem_cons_of_mem _ (List.mem_append_right _ (List.mem_append_right _ (List.mem_append_right _ (List.mem_append_right _ (List.mem_append_right _ (List.mem_append_left _ h))))))))
set_option maxRecDepth 20000 in
theorem mg_X9_put_X2_made_247 : GoodIn mwX9_put (va_wsS RX9 247 yX2_made mwX2_made) := gi_app (A := [.methodLink RX9 247 yX2_made, .static yX2_made, .initialized RX2]) (goodIn_r _ [20, 21, 22] (by decide +kernel) (by decide +kernel)) (gi_sub gd_mwX2_made (fun w h => List.mem_cons_of_mem _ (List.mem_append_right _ (List.mem_append_right _ (List.mem_append_right _ (List.mem_append_right _ (List.mem_append_right _ (List.mem_append_right _ (List.mem_append_left _ h)))))))))
set_option maxRecDepth 20000 in
theorem mg_X9_put_X0_withDoc_251 : GoodIn mwX9_put (wsV RX9 251 RX0 yX0_withDoc mwX0_withDoc) := gi_app (A := [.methodLink RX9 251 yX0_withDoc, .instanceMethod yX0_withDoc, .selects RX0 yX0_withDoc yX0_withDoc, .initialized RX0]) (goodIn_r _ [23, 24, 25, 11] (by decide +kernel) (by decide +kernel)) (gi_sub gd_mwX0_withDoc (fun w h => List.mem_cons_of_mem _ (List.mem_append_right _ (List.mem_append_right _ (List.mem_append_right _ (List.mem_append_right _ (List.mem_append_right _ (List.mem_append_right _ (List.mem_append_right _ (List.mem_append_left _ h))))))))))
set_option maxRecDepth 20000 in
theorem mg_X9_put_X9_act_92 : GoodIn mwX9_put (wsV RX9 92 RX9 yX9_act mwX9_act) := gi_app (A := [.methodLink RX9 92 yX9_act, .instanceMethod yX9_act, .selects RX9 yX9_act yX9_act, .initialized RX9]) (goodIn_r _ [26, 27, 28, 3] (by decide +kernel) (by decide +kernel)) (gi_sub gd_mwX9_act (fun w h => List.mem_cons_of_mem _ (List.mem_append_right _ (List.mem_append_right _ (List.mem_append_right _ (List.mem_append_right _ (List.mem_append_right _ (List.mem_append_right _ (List.mem_append_right _ (List.mem_append_right _ (List.mem_append_left _ h)))))))))))
set_option maxRecDepth 20000 in
theorem mg_X9_put_X9_answer_100 : GoodIn mwX9_put (wsV RX9 100 RX9 yX9_answer mwX9_answer) := gi_app (A := [.methodLink RX9 100 yX9_answer, .instanceMethod yX9_answer, .selects RX9 yX9_answer yX9_answer, .initialized RX9]) (goodIn_r _ [29, 30, 31, 3] (by decide +kernel) (by decide +kernel)) (gi_sub gd_mwX9_answer (fun w h => List.mem_cons_of_mem _ (List.mem_append_right _ (List.mem_append_right _ (List.mem_append_right _ (List.mem_append_right _ (List.mem_append_right _ (List.mem_append_right _ (List.mem_append_right _ (List.mem_append_right _ (List.mem_append_right _ (h))))))))))))
set_option maxHeartbeats 4000000 in
set_option maxRecDepth 100000 in
/-- gate: put -/
theorem s_g_put (l : Launch) (dC : Nat → ClassId) (dI : Nat → Nat → Nat) (W9 : va_W) (T9 : List (ClassId × FieldType)) (B9 : Nat → Prop) (gt tp bk mb mu rd cm wk pp so ty : Nat) (st9 td fk fpl un mk : Int32) (cso : ClassId) (fso : Nat → Int32) (sz : Nat) (i1 i2 i3 : Int32) (hB9 : gB W9 T9 B9) (hbk : B9 bk) : Met l yX9_put mwX9_put ({ frames := 5, cells := 5, slots := 135, locals := 300 }) (va_Pc [.ref gt, .int i1, .int i2, .int i3] (fun U => U.heap.size = sz ∧ va_P (dC, dI) vwCl ([(gt, .inr (9, [.int st9, .ref tp, .int td, .int fk, .int fpl, .ref bk, .int un, .ref mb, .ref mu, .int mk, .ref rd, .ref cm, .ref wk, .ref pp, .ref so, .ref ty])), (so, .inl (cso, 60, .inl fso))]) U.heap ∧ va_K (dC, dI) vwCl ([(cso, .int)]) U ∧ va_D (fun _ => True) ([(gt, .inr (9, [.int st9, .ref tp, .int td, .int fk, .int fpl, .ref bk, .int un, .ref mb, .ref mu, .int mk, .ref rd, .ref cm, .ref wk, .ref pp, .ref so, .ref ty])), (so, .inl (cso, 60, .inl fso))]) ∧ va_Nw (.castable "[I" "java/lang/Cloneable") U ∧ va_Nw (.castable "[LPatternGate$Doc;" "java/lang/Cloneable") U ∧ va_P (dC, dI) vwCl W9 U.heap ∧ va_K (dC, dI) vwCl T9 U ∧ (∀ q ∈ W9, ¬ va_A ([(gt, .inr (9, [.int st9, .ref tp, .int td, .int fk, .int fpl, .ref bk, .int un, .ref mb, .ref mu, .int mk, .ref rd, .ref cm, .ref wk, .ref pp, .ref so, .ref ty])), (so, .inl (cso, 60, .inl fso))]) sz q.1))) (va_Qi (fun (_ : Int32) (_ : Unit) => True) (fun _ t => ∃ (y0 : Int32) (b9 : Nat) (y6 : Int32) (f9 : Nat → Int32) (W2 : va_W) (T2 : List (ClassId × FieldType)) (B2 : Nat → Prop), gN W9 W2 T9 T2 B9 B2 sz ∧ B2 b9 ∧ va_P (dC, dI) vwCl W2 t.heap ∧ va_K (dC, dI) vwCl T2 t ∧ va_P (dC, dI) vwCl [(gt, .inr (9, [.int y0, .ref tp, .int td, .int fk, .int fpl, .ref b9, .int y6, .ref mb, .ref mu, .int mk, .ref rd, .ref cm, .ref wk, .ref pp, .ref so, .ref ty])), (so, .inl (cso, 60, .inl f9))] t.heap ∧ va_K (dC, dI) vwCl [(cso, .int)] t ∧ va_D (va_A ([(gt, .inr (9, [.int st9, .ref tp, .int td, .int fk, .int fpl, .ref bk, .int un, .ref mb, .ref mu, .int mk, .ref rd, .ref cm, .ref wk, .ref pp, .ref so, .ref ty])), (so, .inl (cso, 60, .inl fso))]) sz) [(gt, .inr (9, [.int y0, .ref tp, .int td, .int fk, .int fpl, .ref b9, .int y6, .ref mb, .ref mu, .int mk, .ref rd, .ref cm, .ref wk, .ref pp, .ref so, .ref ty])), (so, .inl (cso, 60, .inl f9))]) (va_A ([(gt, .inr (9, [.int st9, .ref tp, .int td, .int fk, .int fpl, .ref bk, .int un, .ref mb, .ref mu, .int mk, .ref rd, .ref cm, .ref wk, .ref pp, .ref so, .ref ty])), (so, .inl (cso, 60, .inl fso))]) sz)) 5 135 (va_A ([(gt, .inr (9, [.int st9, .ref tp, .int td, .int fk, .int fpl, .ref bk, .int un, .ref mb, .ref mu, .int mk, .ref rd, .ref cm, .ref wk, .ref pp, .ref so, .ref ty])), (so, .inl (cso, 60, .inl fso))]) sz) := by
  refine Met.ofW (cc := cX9_put) (maxL := 7) (ret := (some .int)) (by decide +kernel) rfl ?_
  intro p e s m args below meth c s₁ B hml hv
  obtain ⟨rfl, hsz, hP, hK, hD0, hcl, hcld, hQ0, hKQ, hQA⟩ := hv
  have hx := B.exec
  have hb := B.bytes
  have hr := B.returns
  have hts := atoms_spec (ws := mwX9_put) B.pre
  have hown : s.vm.findClass RX9 = some m.cls := findClass_of_methodNamed B.named
  have hlocks := B.notSynchronized
  subst hsz
  have hD := hD0.self (sz := s.heap.size)
  generalize hAe : va_A ([(gt, .inr (9, [.int st9, .ref tp, .int td, .int fk, .int fpl, .ref bk, .int un, .ref mb, .ref mu, .int mk, .ref rd, .ref cm, .ref wk, .ref pp, .ref so, .ref ty])), (so, .inl (cso, 60, .inl fso))]) s.heap.size = A at hD hQA ⊢
  have hA : ∀ q : Nat, s.heap.size ≤ q → A q := fun q h => by rw [← hAe]; exact Or.inr h
  obtain ⟨sz9, hz9⟩ : ∃ n : Nat, n = s.heap.size := ⟨_, rfl⟩
  rw [← hz9]
  have hP : va_P (dC, dI) vwCl [(gt, .inr (9, [.int st9, .ref tp, .int td, .int fk, .int fpl, .ref bk, .int un, .ref mb, .ref mu, .int mk, .ref rd, .ref cm, .ref wk, .ref pp, .ref so, .ref ty])), (so, .inl (cso, 60, .inl fso))] s.heap := hP
  have hD : va_D A [(gt, .inr (9, [.int st9, .ref tp, .int td, .int fk, .int fpl, .ref bk, .int un, .ref mb, .ref mu, .int mk, .ref rd, .ref cm, .ref wk, .ref pp, .ref so, .ref ty])), (so, .inl (cso, 60, .inl fso))] := hD
  have hK : va_K (dC, dI) vwCl [(cso, .int)] s := hK
  generalize hH : s.heap = H at hP ⊢
  have hS : va_S A s.heap H [] := by rw [← hH]; exact va_S.rf
  have hQ := q_at hQ0 hQA hS
  have hl := lv_entry ([.ref gt, .int i1, .int i2, .int i3]) (n := 7) (Nat.le_of_ble_eq_true rfl)
  rw [lg_entry_eq]
  generalize (lg_sl ([.ref gt, .int i1, .int i2, .int i3]) ++ List.replicate (7 - (lg_sl ([.ref gt, .int i1, .int i2, .int i3])).length) Slot.unset).toArray = ls at hl ⊢
  have hl : lv_has ls 7 [(0, .ref gt), (1, .int i1), (2, .int i2), (3, .int i3)] := hl
  have rg_i1 := i_rng i1
  have rg_i2 := i_rng i2
  have rg_i3 := i_rng i3
  obtain ⟨ear, hB3, hear⟩ := hB9 bk hbk
  have hB0 := hB3.poB
  obtain ⟨ds, ps, nd, np, fd, fp, cD, cP, m1, m2, m3, m4, m5, hnd, hnp, hds, hps⟩ := id hB3
  obtain ⟨k_1, hk_1⟩ := List.getElem?_of_mem m1
  obtain ⟨k_2, hk_2⟩ := List.getElem?_of_mem m2
  obtain ⟨j_3, hj_3⟩ := List.getElem?_of_mem m3
  obtain ⟨k_4, hk_4⟩ := List.getElem?_of_mem m4
  obtain ⟨j_5, hj_5⟩ := List.getElem?_of_mem m5
  have r_un := i_rng un
  have r_mk := i_rng mk
  have r_td := i_rng td
  refine lv_iload_n hx hb dX9_put_0 rfl (lv_at hl 3 rfl) ?_
  refine vp_callSi (W.runS (As := [.int i3]) (rest := []) ⟨hx, hb, hml, hown, hts⟩ (s_isLetter l dC dI i3) (va_cwS 1 hts mg_X9_put_X9_isLetter_239 rfl rfl rfl (by decide +kernel) ⟨Nat.le_of_ble_eq_true rfl, Nat.le_of_ble_eq_true rfl⟩) ⟨fun a U g mk q => ⟨q.1, trivial⟩, fun U hU hW => ⟨rfl, trivial⟩⟩ rfl rfl hl.1 rfl (lv_room (Nat.le_of_ble_eq_true rfl)) dX9_put_1 ⟨Nat.le_of_ble_eq_true rfl, Nat.le_of_ble_eq_true rfl⟩) (fun r_7 hw => ?_)
  refine lv_if_eq (tgt := 11) hx hb dX9_put_4 (by decide) (fun k_8 => ?_) (fun k_8 => ?_)
  · have tk_8 := c_eq (a := r_7.toInt) (b := 0) rfl (by decide) k_8
    refine lv_aload_n hx hb dX9_put_11 rfl (lv_at hl 0 rfl) ?_
    refine lv_iconst (v := 1) hx hb dX9_put_12 (by decide) ?_
    have hPc := hP.sub (ws' := [(gt, .inr (9, [.int st9, .ref tp, .int td, .int fk, .int fpl, .ref bk, .int un, .ref mb, .ref mu, .int mk, .ref rd, .ref cm, .ref wk, .ref pp, .ref so, .ref ty]))]) [0] rfl
    have hKc := hK.sub (tys' := []) [] rfl
    have hDc := hD.sub (ws' := [(gt, .inr (9, [.int st9, .ref tp, .int td, .int fk, .int fpl, .ref bk, .int un, .ref mb, .ref mu, .int mk, .ref rd, .ref cm, .ref wk, .ref pp, .ref so, .ref ty]))]) [0] (by decide) rfl
    have hFc := va_free (wc := [(gt, .inr (9, [.int st9, .ref tp, .int td, .int fk, .int fpl, .ref bk, .int un, .ref mb, .ref mu, .int mk, .ref rd, .ref cm, .ref wk, .ref pp, .ref so, .ref ty]))]) hD hS hA [0] rfl
    refine va_calli (va_runV (As := [.int 1]) (rest := []) ⟨hx, hb, hml, hown, hts⟩ (s_refuse l dC dI gt tp bk mb mu rd cm wk pp so ty st9 td fk fpl un mk H.size 1) (cwV 1 hts mg_X9_put_X9_refuse_80 rfl rfl rfl (by decide +kernel) ⟨Nat.le_of_ble_eq_true rfl, Nat.le_of_ble_eq_true rfl⟩) ⟨fun a U g mk q => by obtain ⟨q0, q1, qP, qK, qD⟩ := q; exact ⟨q0, q1, qP, va_K.moved (u := U) (U := U.calling g mk a) (Vm.Alike.refl U.vm) qK, qD⟩, va_recv hKc hPc (ci := 9) (q0 := 0) rfl rfl, fun U hU hW => ⟨rfl, by rw [hU], by rw [hU]; exact hPc, va_K.moved hW.alike hKc, hDc.weaken (fun _ _ _ _ => trivial)⟩⟩ rfl rfl hl.1 rfl (lv_room (Nat.le_of_ble_eq_true rfl)) dX9_put_13 ⟨Nat.le_of_ble_eq_true rfl, Nat.le_of_ble_eq_true rfl⟩) hS (fun q _ h => hFc q h) hFc (fun r_10 u t H1 locs ht hvm hw hB hz1 hk1 hS => ?_)
    obtain ⟨hP1, hK1, hD1⟩ := hB
    rw [ht] at hP1
    have hr_10 := hw
    obtain ⟨hP, hD⟩ := va_join (wr := [(so, .inl (cso, 60, .inl fso))]) (w1 := [(gt, .inr (9, [.int 1, .ref tp, .int td, .int fk, .int fpl, .ref bk, .int un, .ref mb, .ref mu, .int mk, .ref rd, .ref cm, .ref wk, .ref pp, .ref so, .ref ty]))]) hP hD [0] [1] rfl rfl (by decide) (by decide) hk1 hFc hP1 hD1
    generalize H1 = H at hP hS ⊢
    have hP : va_P (dC, dI) vwCl [(so, .inl (cso, 60, .inl fso)), (gt, .inr (9, [.int 1, .ref tp, .int td, .int fk, .int fpl, .ref bk, .int un, .ref mb, .ref mu, .int mk, .ref rd, .ref cm, .ref wk, .ref pp, .ref so, .ref ty]))] H := hP
    have hD : va_D A [(so, .inl (cso, 60, .inl fso)), (gt, .inr (9, [.int 1, .ref tp, .int td, .int fk, .int fpl, .ref bk, .int un, .ref mb, .ref mu, .int mk, .ref rd, .ref cm, .ref wk, .ref pp, .ref so, .ref ty]))] := hD
    have hQ := q_at hQ0 hQA hS
    have hP9 := hP.sub (ws' := [(gt, .inr (9, [.int 1, .ref tp, .int td, .int fk, .int fpl, .ref bk, .int un, .ref mb, .ref mu, .int mk, .ref rd, .ref cm, .ref wk, .ref pp, .ref so, .ref ty])), (so, .inl (cso, 60, .inl fso))]) [1, 0] rfl
    have hD9 := hD.sub (ws' := [(gt, .inr (9, [.int 1, .ref tp, .int td, .int fk, .int fpl, .ref bk, .int un, .ref mb, .ref mu, .int mk, .ref rd, .ref cm, .ref wk, .ref pp, .ref so, .ref ty])), (so, .inl (cso, 60, .inl fso))]) [1, 0] (by decide) rfl
    have hK9 := hK.sub (tys' := [(cso, .int)]) [0] rfl
    refine W.widen (k := 5) (n := 135) (by omega) (by omega) ?_
    exact W.iret hx hb hr (fun t ht hW => ⟨⟨_, (), rfl, trivial, 1, bk, un, fso, W9, T9, B9, gN.same hB9, hbk, by rw [ht]; exact hQ, va_K.moved hW.alike hKQ, by rw [ht]; exact hP9, va_K.moved hW.alike hK9, hD9⟩, hS.F ht⟩) hS.2.2 dX9_put_16
  · have tk_8 := c_ne (a := r_7.toInt) (b := 0) rfl (by decide) k_8
    refine lv_iload_n hx hb dX9_put_7 rfl (lv_at hl 2 rfl) ?_
    refine lv_if_ge (tgt := 17) hx hb dX9_put_8 (by decide) (fun k_11 => ?_) (fun k_11 => ?_)
    · have tk_11 := c_ge (a := i2.toInt) (b := 0) rfl (by decide) k_11
      refine lv_aload_n hx hb dX9_put_17 rfl (lv_at hl 0 rfl) ?_
      refine va_get (D := (dC, dI)) (ci := 9) (v := .ref bk) (C := RX9) (T := TX9) (N := 16) hx hb hts fin_X9_put_X9 hown hK hP 0 rfl rfl 5 (by decide) (hts (.fieldLink RX9 29 "PatternGate" "book" "LPatternGate$Book;") (List.mem_of_getElem? (i := 7) (by decide +kernel))) (fun _ h9 => h9) rfl dX9_put_18 ?_
      refine lv_iload_n hx hb dX9_put_21 rfl (lv_at hl 1 rfl) ?_
      have hPc := hQ
      have hKc := hKQ
      refine va_csq (W.runV (As := [.int i1]) (rest := []) ⟨hx, hb, hml, hown, hts⟩ (s_docAt l dC dI W9 T9 bk i1 hB0) (cwV 1 hts mg_X9_put_X0_docAt_123 rfl rfl rfl (by decide +kernel) ⟨Nat.le_of_ble_eq_true rfl, Nat.le_of_ble_eq_true rfl⟩) ⟨fun a U g mk q => by obtain ⟨q0, qP, qK⟩ := q; exact ⟨q0, qP, va_K.moved (u := U) (U := U.calling g mk a) (Vm.Alike.refl U.vm) qK⟩, va_recv hKc hPc (ci := 0) (q0 := k_1) rfl hk_1, fun U hU hW => ⟨rfl, by rw [hU]; exact hPc, va_K.moved hW.alike hKc⟩⟩ rfl rfl hl.1 rfl (lv_room (Nat.le_of_ble_eq_true rfl)) dX9_put_22 ⟨Nat.le_of_ble_eq_true rfl, Nat.le_of_ble_eq_true rfl⟩) (fun r_13 hw => ?_)
      rcases hw with rfl | ⟨d_14, rfl, hd_14⟩
      · refine W.eq (g2 := F0 m 25 ls [.null]) rfl ?_
        refine lv_astoreN (lv' := [(4, .null), (0, .ref gt), (1, .int i1), (2, .int i2), (3, .int i3)]) hx hb dX9_put_25 hl (by decide) rfl (fun ls hl => ?_)
        refine lv_aloadN hx hb dX9_put_27 (lv_at hl 0 rfl) ?_
        refine lv_ifnonnullN hx hb dX9_put_29 ?_
        refine lv_aload_n hx hb dX9_put_32 rfl (lv_at hl 1 rfl) ?_
        refine lv_iconst (v := 2) hx hb dX9_put_33 (by decide) ?_
        have hPc := hP.sub (ws' := [(gt, .inr (9, [.int st9, .ref tp, .int td, .int fk, .int fpl, .ref bk, .int un, .ref mb, .ref mu, .int mk, .ref rd, .ref cm, .ref wk, .ref pp, .ref so, .ref ty]))]) [0] rfl
        have hKc := hK.sub (tys' := []) [] rfl
        have hDc := hD.sub (ws' := [(gt, .inr (9, [.int st9, .ref tp, .int td, .int fk, .int fpl, .ref bk, .int un, .ref mb, .ref mu, .int mk, .ref rd, .ref cm, .ref wk, .ref pp, .ref so, .ref ty]))]) [0] (by decide) rfl
        have hFc := va_free (wc := [(gt, .inr (9, [.int st9, .ref tp, .int td, .int fk, .int fpl, .ref bk, .int un, .ref mb, .ref mu, .int mk, .ref rd, .ref cm, .ref wk, .ref pp, .ref so, .ref ty]))]) hD hS hA [0] rfl
        refine va_calli (va_runV (As := [.int 2]) (rest := []) ⟨hx, hb, hml, hown, hts⟩ (s_refuse l dC dI gt tp bk mb mu rd cm wk pp so ty st9 td fk fpl un mk H.size 2) (cwV 1 hts mg_X9_put_X9_refuse_80 rfl rfl rfl (by decide +kernel) ⟨Nat.le_of_ble_eq_true rfl, Nat.le_of_ble_eq_true rfl⟩) ⟨fun a U g mk q => by obtain ⟨q0, q1, qP, qK, qD⟩ := q; exact ⟨q0, q1, qP, va_K.moved (u := U) (U := U.calling g mk a) (Vm.Alike.refl U.vm) qK, qD⟩, va_recv hKc hPc (ci := 9) (q0 := 0) rfl rfl, fun U hU hW => ⟨rfl, by rw [hU], by rw [hU]; exact hPc, va_K.moved hW.alike hKc, hDc.weaken (fun _ _ _ _ => trivial)⟩⟩ rfl rfl hl.1 rfl (lv_room (Nat.le_of_ble_eq_true rfl)) dX9_put_34 ⟨Nat.le_of_ble_eq_true rfl, Nat.le_of_ble_eq_true rfl⟩) hS (fun q _ h => hFc q h) hFc (fun r_16 u t H1 locs ht hvm hw hB hz1 hk1 hS => ?_)
        obtain ⟨hP1, hK1, hD1⟩ := hB
        rw [ht] at hP1
        have hr_16 := hw
        obtain ⟨hP, hD⟩ := va_join (wr := [(so, .inl (cso, 60, .inl fso))]) (w1 := [(gt, .inr (9, [.int 2, .ref tp, .int td, .int fk, .int fpl, .ref bk, .int un, .ref mb, .ref mu, .int mk, .ref rd, .ref cm, .ref wk, .ref pp, .ref so, .ref ty]))]) hP hD [0] [1] rfl rfl (by decide) (by decide) hk1 hFc hP1 hD1
        generalize H1 = H at hP hS ⊢
        have hP : va_P (dC, dI) vwCl [(so, .inl (cso, 60, .inl fso)), (gt, .inr (9, [.int 2, .ref tp, .int td, .int fk, .int fpl, .ref bk, .int un, .ref mb, .ref mu, .int mk, .ref rd, .ref cm, .ref wk, .ref pp, .ref so, .ref ty]))] H := hP
        have hD : va_D A [(so, .inl (cso, 60, .inl fso)), (gt, .inr (9, [.int 2, .ref tp, .int td, .int fk, .int fpl, .ref bk, .int un, .ref mb, .ref mu, .int mk, .ref rd, .ref cm, .ref wk, .ref pp, .ref so, .ref ty]))] := hD
        have hQ := q_at hQ0 hQA hS
        have hP9 := hP.sub (ws' := [(gt, .inr (9, [.int 2, .ref tp, .int td, .int fk, .int fpl, .ref bk, .int un, .ref mb, .ref mu, .int mk, .ref rd, .ref cm, .ref wk, .ref pp, .ref so, .ref ty])), (so, .inl (cso, 60, .inl fso))]) [1, 0] rfl
        have hD9 := hD.sub (ws' := [(gt, .inr (9, [.int 2, .ref tp, .int td, .int fk, .int fpl, .ref bk, .int un, .ref mb, .ref mu, .int mk, .ref rd, .ref cm, .ref wk, .ref pp, .ref so, .ref ty])), (so, .inl (cso, 60, .inl fso))]) [1, 0] (by decide) rfl
        have hK9 := hK.sub (tys' := [(cso, .int)]) [0] rfl
        refine W.widen (k := 5) (n := 135) (by omega) (by omega) ?_
        exact W.iret hx hb hr (fun t ht hW => ⟨⟨_, (), rfl, trivial, 2, bk, un, fso, W9, T9, B9, gN.same hB9, hbk, by rw [ht]; exact hQ, va_K.moved hW.alike hKQ, by rw [ht]; exact hP9, va_K.moved hW.alike hK9, hD9⟩, hS.F ht⟩) hS.2.2 dX9_put_37
      · refine W.eq (g2 := F0 m 25 ls [.ref d_14]) rfl ?_
        have hd_14D := hd_14
        obtain ⟨la_17, ta_18, m_19, n_20, fl_21, ft_22, cI_23, cJ_24, m_25, ⟨m_26, m_27⟩, ⟨m_28, m_29⟩, m_30, m_31⟩ := hd_14
        obtain ⟨k_32, hk_32⟩ := List.getElem?_of_mem m_25
        obtain ⟨k_33, hk_33⟩ := List.getElem?_of_mem m_26
        obtain ⟨j_34, hj_34⟩ := List.getElem?_of_mem m_27
        obtain ⟨k_35, hk_35⟩ := List.getElem?_of_mem m_28
        obtain ⟨j_36, hj_36⟩ := List.getElem?_of_mem m_29
        refine lv_astore (lv' := [(4, .ref d_14), (0, .ref gt), (1, .int i1), (2, .int i2), (3, .int i3)]) hx hb dX9_put_25 hl (by decide) rfl (fun ls hl => ?_)
        refine lv_aload hx hb dX9_put_27 (lv_at hl 0 rfl) ?_
        refine lv_ifnonnull (tgt := 38) hx hb dX9_put_29 (by decide) ?_
        refine lv_iload_n hx hb dX9_put_38 rfl (lv_at hl 3 rfl) ?_
        refine lv_aload hx hb dX9_put_39 (lv_at hl 0 rfl) ?_
        refine va_get (D := (dC, dI)) (ci := 2) (v := .ref la_17) (C := RX2) (T := TX2) (N := 2) hx hb hts fin_X9_put_X2 hown hKQ hQ k_32 hk_32 rfl 0 (by decide) (hts (.fieldLink RX9 127 "PatternGate$Doc" "letters" "[I") (List.mem_of_getElem? (i := 12) (by decide +kernel))) (fun _ h9 => h9) rfl dX9_put_41 ?_
        refine va_alen hx hb hKQ hQ k_33 j_34 hk_33 hj_34 rfl dX9_put_44 ?_
        refine lv_topi (fun y_37 ey_37 => ?_)
        have ty_37 : y_37.toInt = (m_19 : Int) := i_len ey_37 (by omega)
        refine lv_icmp_lt (tgt := 54) hx hb dX9_put_45 (by decide) (fun k_38 => ?_) (fun k_38 => ?_)
        · have tk_38 := c_lt (a := i2.toInt) (b := y_37.toInt) rfl rfl k_38
          refine lv_aload hx hb dX9_put_54 (lv_at hl 0 rfl) ?_
          refine va_get (D := (dC, dI)) (ci := 2) (v := .ref la_17) (C := RX2) (T := TX2) (N := 2) hx hb hts fin_X9_put_X2 hown hKQ hQ k_32 hk_32 rfl 0 (by decide) (hts (.fieldLink RX9 127 "PatternGate$Doc" "letters" "[I") (List.mem_of_getElem? (i := 12) (by decide +kernel))) (fun _ h9 => h9) rfl dX9_put_56 ?_
          refine lv_iload_n hx hb dX9_put_59 rfl (lv_at hl 3 rfl) ?_
          refine va_iald hx hb hKQ hQ k_33 j_34 hk_33 hj_34 (i := i2) (vp_of (a := i2.toInt) rfl (by omega) (by omega)) dX9_put_60 ?_
          refine lv_topi (fun y_39 ey_39 => ?_)
          have rg_y_39 := i_rng y_39
          refine lv_istore (lv' := [(5, .int y_39), (4, .ref d_14), (0, .ref gt), (1, .int i1), (2, .int i2), (3, .int i3)]) hx hb dX9_put_61 hl (by decide) rfl (fun ls hl => ?_)
          refine lv_iload hx hb dX9_put_63 (lv_at hl 0 rfl) ?_
          refine lv_iload_n hx hb dX9_put_65 rfl (lv_at hl 5 rfl) ?_
          refine lv_icmp_ne (tgt := 75) hx hb dX9_put_66 (by decide) (fun k_40 => ?_) (fun k_40 => ?_)
          · have tk_40 := c_ne (a := y_39.toInt) (b := i3.toInt) rfl rfl k_40
            refine lv_aload hx hb dX9_put_75 (lv_at hl 1 rfl) ?_
            refine va_get (D := (dC, dI)) (ci := 2) (v := .ref la_17) (C := RX2) (T := TX2) (N := 2) hx hb hts fin_X9_put_X2 hown hKQ hQ k_32 hk_32 rfl 0 (by decide) (hts (.fieldLink RX9 127 "PatternGate$Doc" "letters" "[I") (List.mem_of_getElem? (i := 12) (by decide +kernel))) (fun _ h9 => h9) rfl dX9_put_77 ?_
            refine q_clone hx hb (hml.trans hl.1.symm) hown (hts (.methodLink RX9 242 ⟨"[I", "clone", "()Ljava/lang/Object;"⟩) (List.mem_of_getElem? (i := 13) (by decide +kernel))) (hts (.sameMethod "[I" "java/lang/Object" "clone" "()Ljava/lang/Object;") (List.mem_of_getElem? (i := 14) (by decide +kernel))) (hts (.native ⟨"java/lang/Object", "clone", "()Ljava/lang/Object;"⟩) (List.mem_of_getElem? (i := 15) (by decide +kernel))) (hts (.instanceMethod ⟨"java/lang/Object", "clone", "()Ljava/lang/Object;"⟩) (List.mem_of_getElem? (i := 16) (by decide +kernel))) (hts (.selects "[I" ⟨"[I", "clone", "()Ljava/lang/Object;"⟩ ⟨"java/lang/Object", "clone", "()Ljava/lang/Object;"⟩) (List.mem_of_getElem? (i := 17) (by decide +kernel))) hcl hQ hKQ hQA hK hP hD hS hA k_33 j_34 hk_33 hj_34 (va_nm_int (hKQ.2 j_34 _ hj_34).2) (va_fit (n := m_19) (F := fun j => .int (fl_21 j)) (fun _ _ => rfl)) (Nat.le_of_ble_eq_true rfl) (by decide +kernel) (Nat.le_of_ble_eq_true rfl) (Nat.le_trans (Nat.add_le_add_left (show m_19 ≤ 60 by omega) _) (Nat.le_of_ble_eq_true rfl)) dX9_put_80 (fun q_41 H hK hP hD hS => ?_)
            refine W.widen (k := 1) (n := 60) (by omega) (show 0 + m_19 ≤ 60 by omega) ?_
            have hP : va_P (dC, dI) vwCl [(gt, .inr (9, [.int st9, .ref tp, .int td, .int fk, .int fpl, .ref bk, .int un, .ref mb, .ref mu, .int mk, .ref rd, .ref cm, .ref wk, .ref pp, .ref so, .ref ty])), (so, .inl (cso, 60, .inl fso)), (q_41, .inl (cI_23, m_19, .inl fl_21))] H := hP
            have hD : va_D A [(gt, .inr (9, [.int st9, .ref tp, .int td, .int fk, .int fpl, .ref bk, .int un, .ref mb, .ref mu, .int mk, .ref rd, .ref cm, .ref wk, .ref pp, .ref so, .ref ty])), (so, .inl (cso, 60, .inl fso)), (q_41, .inl (cI_23, m_19, .inl fl_21))] := hD
            have hQ := q_at hQ0 hQA hS
            have hK : va_K (dC, dI) vwCl [(cso, .int), (cI_23, .int)] s := hK
            refine q_cast hx hb hown (hts (.classLink RX9 243 "[I") (List.mem_of_getElem? (i := 18) (by decide +kernel))) (va_nm_int (hK.2 1 _ rfl).2) hP 2 rfl dX9_put_83 ?_
            refine lv_astore (lv' := [(6, .ref q_41), (5, .int y_39), (4, .ref d_14), (0, .ref gt), (1, .int i1), (2, .int i2), (3, .int i3)]) hx hb dX9_put_86 hl (by decide) rfl (fun ls hl => ?_)
            refine lv_aload hx hb dX9_put_88 (lv_at hl 0 rfl) ?_
            refine lv_iload_n hx hb dX9_put_90 rfl (lv_at hl 5 rfl) ?_
            refine lv_iload_n hx hb dX9_put_91 rfl (lv_at hl 6 rfl) ?_
            refine va_iast hx hb hK hP hD hS 2 1 rfl rfl (i := i2) (vp_of (a := i2.toInt) rfl (by omega) (by omega)) dX9_put_92 (fun H locs hP hD hS => ?_)
            generalize hf_f_42 : upd fl_21 _ _ = f_42 at hP hD
            have hP : va_P (dC, dI) vwCl [(gt, .inr (9, [.int st9, .ref tp, .int td, .int fk, .int fpl, .ref bk, .int un, .ref mb, .ref mu, .int mk, .ref rd, .ref cm, .ref wk, .ref pp, .ref so, .ref ty])), (so, .inl (cso, 60, .inl fso)), (q_41, .inl (cI_23, m_19, .inl f_42))] H := hP
            have hD : va_D A [(gt, .inr (9, [.int st9, .ref tp, .int td, .int fk, .int fpl, .ref bk, .int un, .ref mb, .ref mu, .int mk, .ref rd, .ref cm, .ref wk, .ref pp, .ref so, .ref ty])), (so, .inl (cso, 60, .inl fso)), (q_41, .inl (cI_23, m_19, .inl f_42))] := hD
            have hQ := q_at hQ0 hQA hS
            refine lv_aload_n hx hb dX9_put_93 rfl (lv_at hl 3 rfl) ?_
            refine lv_aload_n hx hb dX9_put_94 rfl (lv_at hl 3 rfl) ?_
            refine va_get (D := (dC, dI)) (ci := 9) (v := .ref bk) (C := RX9) (T := TX9) (N := 16) hx hb hts fin_X9_put_X9 hown hK hP 0 rfl rfl 5 (by decide) (hts (.fieldLink RX9 29 "PatternGate" "book" "LPatternGate$Book;") (List.mem_of_getElem? (i := 7) (by decide +kernel))) (fun _ h9 => h9) rfl dX9_put_95 ?_
            refine lv_iload_n hx hb dX9_put_98 rfl (lv_at hl 4 rfl) ?_
            refine lv_aload hx hb dX9_put_99 (lv_at hl 0 rfl) ?_
            refine lv_aload_n hx hb dX9_put_101 rfl (lv_at hl 3 rfl) ?_
            refine va_get (D := (dC, dI)) (ci := 9) (v := .ref so) (C := RX9) (T := TX9) (N := 16) hx hb hts fin_X9_put_X9 hown hK hP 0 rfl rfl 14 (by decide) (hts (.fieldLink RX9 64 "PatternGate" "sorted" "[I") (List.mem_of_getElem? (i := 19) (by decide +kernel))) (fun _ h9 => h9) rfl dX9_put_102 ?_
            have hPc := hP.sub (ws' := [(q_41, .inl (cI_23, m_19, .inl f_42)), (so, .inl (cso, 60, .inl fso))]) [2, 1] rfl
            have hKc := hK.sub (tys' := [(cI_23, .int), (cso, .int)]) [1, 0] rfl
            have hDc := hD.sub (ws' := [(q_41, .inl (cI_23, m_19, .inl f_42)), (so, .inl (cso, 60, .inl fso))]) [2, 1] (by decide) rfl
            have hFc := va_free (wc := [(q_41, .inl (cI_23, m_19, .inl f_42)), (so, .inl (cso, 60, .inl fso))]) hD hS hA [2, 1] rfl
            refine va_callr (va_runS (As := [.ref q_41, .ref so]) (rest := [.int i1, .ref bk, .ref gt]) ⟨hx, hb, hml, hown, hts⟩ (s_made l dC dI q_41 so m_19 60 cI_23 cso f_42 fso H.size (by omega) (by omega)) (va_cwS 2 hts mg_X9_put_X2_made_247 rfl rfl rfl (by decide +kernel) ⟨Nat.le_of_ble_eq_true rfl, Nat.le_of_ble_eq_true rfl⟩) ⟨fun a U g mk q => by obtain ⟨q0, q1, qP, qK, qD, qE0⟩ := q; exact ⟨q0, q1, qP, va_K.moved (u := U) (U := U.calling g mk a) (Vm.Alike.refl U.vm) qK, qD, va_Nw.same rfl (u := U) rfl qE0⟩, fun U hU hW => ⟨rfl, by rw [hU], by rw [hU]; exact hPc, va_K.moved hW.alike hKc, hDc.weaken (fun _ _ _ _ => trivial), nw_moved hW.alike hcl⟩⟩ rfl rfl hl.1 rfl (lv_room (Nat.le_of_ble_eq_true rfl)) dX9_put_105 ⟨Nat.le_of_ble_eq_true rfl, Nat.le_of_ble_eq_true rfl⟩) hS (fun q _ h => hFc q h) hFc (fun u r_44 t H1 locs ht hvm hw hB hz1 hk1 hS => ?_)
            obtain ⟨q_45, n_46, f_47, f_48, c_49, tn_46, hP1, hK1, hD1⟩ := hB
            rw [ht] at hP1
            have hK := hK.app ((va_K.moved hvm.symm hK1).sub (tys' := [(c_49, .int)]) [2] rfl)
            have hK : va_K (dC, dI) vwCl [(cso, .int), (cI_23, .int), (c_49, .int)] s := hK
            obtain ⟨hP, hD⟩ := va_join (wr := [(gt, .inr (9, [.int st9, .ref tp, .int td, .int fk, .int fpl, .ref bk, .int un, .ref mb, .ref mu, .int mk, .ref rd, .ref cm, .ref wk, .ref pp, .ref so, .ref ty]))]) (w1 := [(q_41, .inl (cI_23, m_19, .inl f_42)), (so, .inl (cso, 60, .inl f_47)), (q_45, .inl (c_49, n_46, .inl f_48)), (r_44, .inr (2, [.ref q_41, .ref q_45]))]) hP hD [2, 1] [0] rfl rfl (by decide) (by decide) hk1 hFc hP1 hD1
            generalize H1 = H at hP hS ⊢
            have hP : va_P (dC, dI) vwCl [(gt, .inr (9, [.int st9, .ref tp, .int td, .int fk, .int fpl, .ref bk, .int un, .ref mb, .ref mu, .int mk, .ref rd, .ref cm, .ref wk, .ref pp, .ref so, .ref ty])), (q_41, .inl (cI_23, m_19, .inl f_42)), (so, .inl (cso, 60, .inl f_47)), (q_45, .inl (c_49, n_46, .inl f_48)), (r_44, .inr (2, [.ref q_41, .ref q_45]))] H := hP
            have hD : va_D A [(gt, .inr (9, [.int st9, .ref tp, .int td, .int fk, .int fpl, .ref bk, .int un, .ref mb, .ref mu, .int mk, .ref rd, .ref cm, .ref wk, .ref pp, .ref so, .ref ty])), (q_41, .inl (cI_23, m_19, .inl f_42)), (so, .inl (cso, 60, .inl f_47)), (q_45, .inl (c_49, n_46, .inl f_48)), (r_44, .inr (2, [.ref q_41, .ref q_45]))] := hD
            have hQ := q_at hQ0 hQA hS
            have hPc := hP.sub (ws' := [(r_44, .inr (2, [.ref q_41, .ref q_45]))]) [4] rfl
            have hKc := hK.sub (tys' := []) [] rfl
            have hDc := hD.sub (ws' := [(r_44, .inr (2, [.ref q_41, .ref q_45]))]) [4] (by decide) rfl
            have hFc := va_free (wc := [(r_44, .inr (2, [.ref q_41, .ref q_45]))]) hD hS hA [4] rfl
            refine va_callr (va_runV (As := [.int i1, .ref r_44]) (rest := [.ref gt]) ⟨hx, hb, hml, hown, hts⟩ (s_withDoc l dC dI W9 T9 bk ear r_44 q_41 q_45 H.size i1 hB3) (cwV 2 hts mg_X9_put_X0_withDoc_251 rfl rfl rfl (by decide +kernel) ⟨Nat.le_of_ble_eq_true rfl, Nat.le_of_ble_eq_true rfl⟩) ⟨fun a U g mk q => by obtain ⟨q0, q1, qP, qK, qD, qE0, qE1, qE2, qE3⟩ := q; exact ⟨q0, q1, qP, va_K.moved (u := U) (U := U.calling g mk a) (Vm.Alike.refl U.vm) qK, qD, va_Nw.same rfl (u := U) rfl qE0, qE1, va_K.moved (u := U) (U := U.calling g mk a) (Vm.Alike.refl U.vm) qE2, qE3⟩, va_recv hKQ hQ (ci := 0) (q0 := k_1) rfl hk_1, fun U hU hW => ⟨rfl, by rw [hU], by rw [hU]; exact hPc, va_K.moved hW.alike hKc, hDc.weaken (fun _ _ _ _ => trivial), nw_moved hW.alike hcld, (by rw [hU]; exact hQ), va_K.moved hW.alike hKQ, (fun q hq => qA_sub (hQA q hq) hFc)⟩⟩ rfl rfl hl.1 rfl (lv_room (Nat.le_of_ble_eq_true rfl)) dX9_put_108 ⟨Nat.le_of_ble_eq_true rfl, Nat.le_of_ble_eq_true rfl⟩) hS (fun q _ h => hFc q h) hFc (fun u r_51 t H1 locs ht hvm hw hB hz1 hk1 hS => ?_)
            obtain ⟨q_52, n_53, q_54, f_55, c_56, h_57, h_58, hP1, hK1, hD1⟩ := hB
            rw [ht] at hP1
            have hK := hK.app (va_K.moved hvm.symm hK1)
            have hK : va_K (dC, dI) vwCl [(cso, .int), (cI_23, .int), (c_49, .int), (c_56, .object "PatternGate$Doc")] s := hK
            obtain ⟨hP, hD⟩ := va_join (wr := [(gt, .inr (9, [.int st9, .ref tp, .int td, .int fk, .int fpl, .ref bk, .int un, .ref mb, .ref mu, .int mk, .ref rd, .ref cm, .ref wk, .ref pp, .ref so, .ref ty])), (q_41, .inl (cI_23, m_19, .inl f_42)), (so, .inl (cso, 60, .inl f_47)), (q_45, .inl (c_49, n_46, .inl f_48))]) (w1 := [(r_44, .inr (2, [.ref q_41, .ref q_45])), (q_52, .inl (c_56, n_53, .inr (.inr (.inr (.inr f_55))))), (r_51, .inr (0, [.ref q_52, .ref q_54, .ref bk]))]) hP hD [4] [0, 1, 2, 3] rfl rfl (by decide) (by decide) hk1 hFc hP1 hD1
            generalize H1 = H at hP hS ⊢
            have hP : va_P (dC, dI) vwCl [(gt, .inr (9, [.int st9, .ref tp, .int td, .int fk, .int fpl, .ref bk, .int un, .ref mb, .ref mu, .int mk, .ref rd, .ref cm, .ref wk, .ref pp, .ref so, .ref ty])), (q_41, .inl (cI_23, m_19, .inl f_42)), (so, .inl (cso, 60, .inl f_47)), (q_45, .inl (c_49, n_46, .inl f_48)), (r_44, .inr (2, [.ref q_41, .ref q_45])), (q_52, .inl (c_56, n_53, .inr (.inr (.inr (.inr f_55))))), (r_51, .inr (0, [.ref q_52, .ref q_54, .ref bk]))] H := hP
            have hD : va_D A [(gt, .inr (9, [.int st9, .ref tp, .int td, .int fk, .int fpl, .ref bk, .int un, .ref mb, .ref mu, .int mk, .ref rd, .ref cm, .ref wk, .ref pp, .ref so, .ref ty])), (q_41, .inl (cI_23, m_19, .inl f_42)), (so, .inl (cso, 60, .inl f_47)), (q_45, .inl (c_49, n_46, .inl f_48)), (r_44, .inr (2, [.ref q_41, .ref q_45])), (q_52, .inl (c_56, n_53, .inr (.inr (.inr (.inr f_55))))), (r_51, .inr (0, [.ref q_52, .ref q_54, .ref bk]))] := hD
            have hQ := q_at hQ0 hQA hS
            have hPc := hP.sub (ws' := [(gt, .inr (9, [.int st9, .ref tp, .int td, .int fk, .int fpl, .ref bk, .int un, .ref mb, .ref mu, .int mk, .ref rd, .ref cm, .ref wk, .ref pp, .ref so, .ref ty]))]) [0] rfl
            have hKc := hK.sub (tys' := []) [] rfl
            have hDc := hD.sub (ws' := [(gt, .inr (9, [.int st9, .ref tp, .int td, .int fk, .int fpl, .ref bk, .int un, .ref mb, .ref mu, .int mk, .ref rd, .ref cm, .ref wk, .ref pp, .ref so, .ref ty]))]) [0] (by decide) rfl
            have hFc := va_free (wc := [(gt, .inr (9, [.int st9, .ref tp, .int td, .int fk, .int fpl, .ref bk, .int un, .ref mb, .ref mu, .int mk, .ref rd, .ref cm, .ref wk, .ref pp, .ref so, .ref ty]))]) hD hS hA [0] rfl
            refine va_callv (va_runV (As := [.ref r_51]) (rest := []) ⟨hx, hb, hml, hown, hts⟩ (s_g_act l dC dI gt tp bk mb mu rd cm wk pp so ty st9 td fk fpl un mk r_51 H.size) (cwV 1 hts mg_X9_put_X9_act_92 rfl rfl rfl (by decide +kernel) ⟨Nat.le_of_ble_eq_true rfl, Nat.le_of_ble_eq_true rfl⟩) ⟨fun a U g mk q => by obtain ⟨q0, q1, qP, qK, qD⟩ := q; exact ⟨q0, q1, qP, va_K.moved (u := U) (U := U.calling g mk a) (Vm.Alike.refl U.vm) qK, qD⟩, va_recv hKc hPc (ci := 9) (q0 := 0) rfl rfl, fun U hU hW => ⟨rfl, by rw [hU], by rw [hU]; exact hPc, va_K.moved hW.alike hKc, hDc.weaken (fun _ _ _ _ => trivial)⟩⟩ rfl rfl hl.1 rfl (lv_room (Nat.le_of_ble_eq_true rfl)) dX9_put_111 ⟨Nat.le_of_ble_eq_true rfl, Nat.le_of_ble_eq_true rfl⟩) hS (fun q _ h => hFc q h) hFc (fun u t H1 locs ht hvm hw hB hz1 hk1 hS => ?_)
            obtain ⟨y_61, hP1, hK1, hD1⟩ := hB
            rw [ht] at hP1
            obtain ⟨hP, hD⟩ := va_join (wr := [(q_41, .inl (cI_23, m_19, .inl f_42)), (so, .inl (cso, 60, .inl f_47)), (q_45, .inl (c_49, n_46, .inl f_48)), (r_44, .inr (2, [.ref q_41, .ref q_45])), (q_52, .inl (c_56, n_53, .inr (.inr (.inr (.inr f_55))))), (r_51, .inr (0, [.ref q_52, .ref q_54, .ref bk]))]) (w1 := [(gt, .inr (9, [.int st9, .ref tp, .int td, .int fk, .int fpl, .ref r_51, .int y_61, .ref mb, .ref mu, .int mk, .ref rd, .ref cm, .ref wk, .ref pp, .ref so, .ref ty]))]) hP hD [0] [1, 2, 3, 4, 5, 6] rfl rfl (by decide) (by decide) hk1 hFc hP1 hD1
            generalize H1 = H at hP hS ⊢
            have hP : va_P (dC, dI) vwCl [(q_41, .inl (cI_23, m_19, .inl f_42)), (so, .inl (cso, 60, .inl f_47)), (q_45, .inl (c_49, n_46, .inl f_48)), (r_44, .inr (2, [.ref q_41, .ref q_45])), (q_52, .inl (c_56, n_53, .inr (.inr (.inr (.inr f_55))))), (r_51, .inr (0, [.ref q_52, .ref q_54, .ref bk])), (gt, .inr (9, [.int st9, .ref tp, .int td, .int fk, .int fpl, .ref r_51, .int y_61, .ref mb, .ref mu, .int mk, .ref rd, .ref cm, .ref wk, .ref pp, .ref so, .ref ty]))] H := hP
            have hD : va_D A [(q_41, .inl (cI_23, m_19, .inl f_42)), (so, .inl (cso, 60, .inl f_47)), (q_45, .inl (c_49, n_46, .inl f_48)), (r_44, .inr (2, [.ref q_41, .ref q_45])), (q_52, .inl (c_56, n_53, .inr (.inr (.inr (.inr f_55))))), (r_51, .inr (0, [.ref q_52, .ref q_54, .ref bk])), (gt, .inr (9, [.int st9, .ref tp, .int td, .int fk, .int fpl, .ref r_51, .int y_61, .ref mb, .ref mu, .int mk, .ref rd, .ref cm, .ref wk, .ref pp, .ref so, .ref ty]))] := hD
            have hQ := q_at hQ0 hQA hS
            refine lv_aload_n hx hb dX9_put_114 rfl (lv_at hl 3 rfl) ?_
            refine lv_iload hx hb dX9_put_115 (lv_at hl 1 rfl) ?_
            have hPc := hP.sub (ws' := [(gt, .inr (9, [.int st9, .ref tp, .int td, .int fk, .int fpl, .ref r_51, .int y_61, .ref mb, .ref mu, .int mk, .ref rd, .ref cm, .ref wk, .ref pp, .ref so, .ref ty]))]) [6] rfl
            have hKc := hK.sub (tys' := []) [] rfl
            have hDc := hD.sub (ws' := [(gt, .inr (9, [.int st9, .ref tp, .int td, .int fk, .int fpl, .ref r_51, .int y_61, .ref mb, .ref mu, .int mk, .ref rd, .ref cm, .ref wk, .ref pp, .ref so, .ref ty]))]) [6] (by decide) rfl
            have hFc := va_free (wc := [(gt, .inr (9, [.int st9, .ref tp, .int td, .int fk, .int fpl, .ref r_51, .int y_61, .ref mb, .ref mu, .int mk, .ref rd, .ref cm, .ref wk, .ref pp, .ref so, .ref ty]))]) hD hS hA [6] rfl
            refine va_calli (va_runV (As := [.int y_39]) (rest := []) ⟨hx, hb, hml, hown, hts⟩ (s_answer l dC dI gt tp r_51 mb mu rd cm wk pp so ty st9 td fk fpl y_61 mk H.size y_39) (cwV 1 hts mg_X9_put_X9_answer_100 rfl rfl rfl (by decide +kernel) ⟨Nat.le_of_ble_eq_true rfl, Nat.le_of_ble_eq_true rfl⟩) ⟨fun a U g mk q => by obtain ⟨q0, q1, qP, qK, qD⟩ := q; exact ⟨q0, q1, qP, va_K.moved (u := U) (U := U.calling g mk a) (Vm.Alike.refl U.vm) qK, qD⟩, va_recv hKc hPc (ci := 9) (q0 := 0) rfl rfl, fun U hU hW => ⟨rfl, by rw [hU], by rw [hU]; exact hPc, va_K.moved hW.alike hKc, hDc.weaken (fun _ _ _ _ => trivial)⟩⟩ rfl rfl hl.1 rfl (lv_room (Nat.le_of_ble_eq_true rfl)) dX9_put_117 ⟨Nat.le_of_ble_eq_true rfl, Nat.le_of_ble_eq_true rfl⟩) hS (fun q _ h => hFc q h) hFc (fun r_63 u t H1 locs ht hvm hw hB hz1 hk1 hS => ?_)
            obtain ⟨hP1, hK1, hD1⟩ := hB
            rw [ht] at hP1
            have hr_63 := hw
            obtain ⟨hP, hD⟩ := va_join (wr := [(q_41, .inl (cI_23, m_19, .inl f_42)), (so, .inl (cso, 60, .inl f_47)), (q_45, .inl (c_49, n_46, .inl f_48)), (r_44, .inr (2, [.ref q_41, .ref q_45])), (q_52, .inl (c_56, n_53, .inr (.inr (.inr (.inr f_55))))), (r_51, .inr (0, [.ref q_52, .ref q_54, .ref bk]))]) (w1 := [(gt, .inr (9, [.int 0, .ref tp, .int td, .int fk, .int fpl, .ref r_51, .int y_61, .ref mb, .ref mu, .int mk, .ref rd, .ref cm, .ref wk, .ref pp, .ref so, .ref ty]))]) hP hD [6] [0, 1, 2, 3, 4, 5] rfl rfl (by decide) (by decide) hk1 hFc hP1 hD1
            generalize H1 = H at hP hS ⊢
            have hP : va_P (dC, dI) vwCl [(q_41, .inl (cI_23, m_19, .inl f_42)), (so, .inl (cso, 60, .inl f_47)), (q_45, .inl (c_49, n_46, .inl f_48)), (r_44, .inr (2, [.ref q_41, .ref q_45])), (q_52, .inl (c_56, n_53, .inr (.inr (.inr (.inr f_55))))), (r_51, .inr (0, [.ref q_52, .ref q_54, .ref bk])), (gt, .inr (9, [.int 0, .ref tp, .int td, .int fk, .int fpl, .ref r_51, .int y_61, .ref mb, .ref mu, .int mk, .ref rd, .ref cm, .ref wk, .ref pp, .ref so, .ref ty]))] H := hP
            have hD : va_D A [(q_41, .inl (cI_23, m_19, .inl f_42)), (so, .inl (cso, 60, .inl f_47)), (q_45, .inl (c_49, n_46, .inl f_48)), (r_44, .inr (2, [.ref q_41, .ref q_45])), (q_52, .inl (c_56, n_53, .inr (.inr (.inr (.inr f_55))))), (r_51, .inr (0, [.ref q_52, .ref q_54, .ref bk])), (gt, .inr (9, [.int 0, .ref tp, .int td, .int fk, .int fpl, .ref r_51, .int y_61, .ref mb, .ref mu, .int mk, .ref rd, .ref cm, .ref wk, .ref pp, .ref so, .ref ty]))] := hD
            have hQ := q_at hQ0 hQA hS
            have hP9 := hP.sub (ws' := [(gt, .inr (9, [.int 0, .ref tp, .int td, .int fk, .int fpl, .ref r_51, .int y_61, .ref mb, .ref mu, .int mk, .ref rd, .ref cm, .ref wk, .ref pp, .ref so, .ref ty])), (so, .inl (cso, 60, .inl f_47))]) [6, 1] rfl
            have hD9 := hD.sub (ws' := [(gt, .inr (9, [.int 0, .ref tp, .int td, .int fk, .int fpl, .ref r_51, .int y_61, .ref mb, .ref mu, .int mk, .ref rd, .ref cm, .ref wk, .ref pp, .ref so, .ref ty])), (so, .inl (cso, 60, .inl f_47))]) [6, 1] (by decide) rfl
            have hK9 := hK.sub (tys' := [(cso, .int)]) [0] rfl
            refine W.widen (k := 5) (n := 135) (by omega) (by omega) ?_
            have hPn := hP.sub (ws' := [(q_41, .inl (cI_23, m_19, .inl f_42)), (q_45, .inl (c_49, n_46, .inl f_48)), (r_44, .inr (2, [.ref q_41, .ref q_45])), (q_52, .inl (c_56, n_53, .inr (.inr (.inr (.inr f_55))))), (r_51, .inr (0, [.ref q_52, .ref q_54, .ref bk]))]) [0, 2, 3, 4, 5] rfl
            have hDz := hD.sub (ws' := [(gt, .inr (9, [.int 0, .ref tp, .int td, .int fk, .int fpl, .ref r_51, .int y_61, .ref mb, .ref mu, .int mk, .ref rd, .ref cm, .ref wk, .ref pp, .ref so, .ref ty])), (so, .inl (cso, 60, .inl f_47)), (q_41, .inl (cI_23, m_19, .inl f_42)), (q_45, .inl (c_49, n_46, .inl f_48)), (r_44, .inr (2, [.ref q_41, .ref q_45])), (q_52, .inl (c_56, n_53, .inr (.inr (.inr (.inr f_55))))), (r_51, .inr (0, [.ref q_52, .ref q_54, .ref bk]))]) [6, 1, 0, 2, 3, 4, 5] (by decide) rfl
            rw [← hAe] at hDz
            have hge := nw_ge (W1 := [(gt, .inr (9, [.int 0, .ref tp, .int td, .int fk, .int fpl, .ref r_51, .int y_61, .ref mb, .ref mu, .int mk, .ref rd, .ref cm, .ref wk, .ref pp, .ref so, .ref ty])), (so, .inl (cso, 60, .inl f_47))]) (X := [(q_41, .inl (cI_23, m_19, .inl f_42)), (q_45, .inl (c_49, n_46, .inl f_48)), (r_44, .inr (2, [.ref q_41, .ref q_45])), (q_52, .inl (c_56, n_53, .inr (.inr (.inr (.inr f_55))))), (r_51, .inr (0, [.ref q_52, .ref q_54, .ref bk]))]) hDz rfl
            rw [← hz9] at hge
            have hKn := hK.sub (tys' := [(cI_23, .int), (c_49, .int), (c_56, .object "PatternGate$Doc")]) [1, 2, 3] rfl
            have hnb : poB3 (W9 ++ [(q_41, .inl (cI_23, m_19, .inl f_42)), (q_45, .inl (c_49, n_46, .inl f_48)), (r_44, .inr (2, [.ref q_41, .ref q_45])), (q_52, .inl (c_56, n_53, .inr (.inr (.inr (.inr f_55))))), (r_51, .inr (0, [.ref q_52, .ref q_54, .ref bk]))]) (T9 ++ [(cI_23, .int), (c_49, .int), (c_56, .object "PatternGate$Doc")]) r_51 (some bk) := h_57 _ _ (fun _ h => List.mem_append_left _ h) (fun _ h => List.mem_append_left _ h) (List.mem_append_right _ (List.mem_of_getElem? (i := 3) rfl)) (List.mem_append_right _ (List.mem_of_getElem? (i := 2) rfl)) (List.mem_append_right _ (List.mem_of_getElem? (i := 4) rfl)) (fun x hx => by subst hx; exact ⟨q_41, q_45, m_19, n_46, f_42, f_48, cI_23, c_49, (List.mem_append_right _ (List.mem_of_getElem? (i := 2) rfl)), ⟨(List.mem_append_right _ (List.mem_of_getElem? (i := 0) rfl)), (List.mem_append_right _ (List.mem_of_getElem? (i := 0) rfl))⟩, ⟨(List.mem_append_right _ (List.mem_of_getElem? (i := 1) rfl)), (List.mem_append_right _ (List.mem_of_getElem? (i := 1) rfl))⟩, by omega, by omega⟩)
            exact W.iret hx hb hr (fun t ht hW => ⟨⟨_, (), rfl, trivial, 0, r_51, y_61, f_47, _, _, _, gN.act hB9 hbk hnb hge, Or.inr rfl, by rw [ht]; exact hQ.app hPn, (va_K.moved hW.alike hKQ).app (va_K.moved hW.alike hKn), by rw [ht]; exact hP9, va_K.moved hW.alike hK9, hD9⟩, hS.F ht⟩) hS.2.2 dX9_put_120
          · have tk_40 := c_eq (a := y_39.toInt) (b := i3.toInt) rfl rfl k_40
            refine lv_aload_n hx hb dX9_put_69 rfl (lv_at hl 2 rfl) ?_
            refine lv_iconst (v := 4) hx hb dX9_put_70 (by decide) ?_
            have hPc := hP.sub (ws' := [(gt, .inr (9, [.int st9, .ref tp, .int td, .int fk, .int fpl, .ref bk, .int un, .ref mb, .ref mu, .int mk, .ref rd, .ref cm, .ref wk, .ref pp, .ref so, .ref ty]))]) [0] rfl
            have hKc := hK.sub (tys' := []) [] rfl
            have hDc := hD.sub (ws' := [(gt, .inr (9, [.int st9, .ref tp, .int td, .int fk, .int fpl, .ref bk, .int un, .ref mb, .ref mu, .int mk, .ref rd, .ref cm, .ref wk, .ref pp, .ref so, .ref ty]))]) [0] (by decide) rfl
            have hFc := va_free (wc := [(gt, .inr (9, [.int st9, .ref tp, .int td, .int fk, .int fpl, .ref bk, .int un, .ref mb, .ref mu, .int mk, .ref rd, .ref cm, .ref wk, .ref pp, .ref so, .ref ty]))]) hD hS hA [0] rfl
            refine va_calli (va_runV (As := [.int 4]) (rest := []) ⟨hx, hb, hml, hown, hts⟩ (s_refuse l dC dI gt tp bk mb mu rd cm wk pp so ty st9 td fk fpl un mk H.size 4) (cwV 1 hts mg_X9_put_X9_refuse_80 rfl rfl rfl (by decide +kernel) ⟨Nat.le_of_ble_eq_true rfl, Nat.le_of_ble_eq_true rfl⟩) ⟨fun a U g mk q => by obtain ⟨q0, q1, qP, qK, qD⟩ := q; exact ⟨q0, q1, qP, va_K.moved (u := U) (U := U.calling g mk a) (Vm.Alike.refl U.vm) qK, qD⟩, va_recv hKc hPc (ci := 9) (q0 := 0) rfl rfl, fun U hU hW => ⟨rfl, by rw [hU], by rw [hU]; exact hPc, va_K.moved hW.alike hKc, hDc.weaken (fun _ _ _ _ => trivial)⟩⟩ rfl rfl hl.1 rfl (lv_room (Nat.le_of_ble_eq_true rfl)) dX9_put_71 ⟨Nat.le_of_ble_eq_true rfl, Nat.le_of_ble_eq_true rfl⟩) hS (fun q _ h => hFc q h) hFc (fun r_65 u t H1 locs ht hvm hw hB hz1 hk1 hS => ?_)
            obtain ⟨hP1, hK1, hD1⟩ := hB
            rw [ht] at hP1
            have hr_65 := hw
            obtain ⟨hP, hD⟩ := va_join (wr := [(so, .inl (cso, 60, .inl fso))]) (w1 := [(gt, .inr (9, [.int 4, .ref tp, .int td, .int fk, .int fpl, .ref bk, .int un, .ref mb, .ref mu, .int mk, .ref rd, .ref cm, .ref wk, .ref pp, .ref so, .ref ty]))]) hP hD [0] [1] rfl rfl (by decide) (by decide) hk1 hFc hP1 hD1
            generalize H1 = H at hP hS ⊢
            have hP : va_P (dC, dI) vwCl [(so, .inl (cso, 60, .inl fso)), (gt, .inr (9, [.int 4, .ref tp, .int td, .int fk, .int fpl, .ref bk, .int un, .ref mb, .ref mu, .int mk, .ref rd, .ref cm, .ref wk, .ref pp, .ref so, .ref ty]))] H := hP
            have hD : va_D A [(so, .inl (cso, 60, .inl fso)), (gt, .inr (9, [.int 4, .ref tp, .int td, .int fk, .int fpl, .ref bk, .int un, .ref mb, .ref mu, .int mk, .ref rd, .ref cm, .ref wk, .ref pp, .ref so, .ref ty]))] := hD
            have hQ := q_at hQ0 hQA hS
            have hP9 := hP.sub (ws' := [(gt, .inr (9, [.int 4, .ref tp, .int td, .int fk, .int fpl, .ref bk, .int un, .ref mb, .ref mu, .int mk, .ref rd, .ref cm, .ref wk, .ref pp, .ref so, .ref ty])), (so, .inl (cso, 60, .inl fso))]) [1, 0] rfl
            have hD9 := hD.sub (ws' := [(gt, .inr (9, [.int 4, .ref tp, .int td, .int fk, .int fpl, .ref bk, .int un, .ref mb, .ref mu, .int mk, .ref rd, .ref cm, .ref wk, .ref pp, .ref so, .ref ty])), (so, .inl (cso, 60, .inl fso))]) [1, 0] (by decide) rfl
            have hK9 := hK.sub (tys' := [(cso, .int)]) [0] rfl
            refine W.widen (k := 5) (n := 135) (by omega) (by omega) ?_
            exact W.iret hx hb hr (fun t ht hW => ⟨⟨_, (), rfl, trivial, 4, bk, un, fso, W9, T9, B9, gN.same hB9, hbk, by rw [ht]; exact hQ, va_K.moved hW.alike hKQ, by rw [ht]; exact hP9, va_K.moved hW.alike hK9, hD9⟩, hS.F ht⟩) hS.2.2 dX9_put_74
        · have tk_38 := c_nlt (a := i2.toInt) (b := y_37.toInt) rfl rfl k_38
          refine lv_aload_n hx hb dX9_put_48 rfl (lv_at hl 1 rfl) ?_
          refine lv_iconst (v := 5) hx hb dX9_put_49 (by decide) ?_
          have hPc := hP.sub (ws' := [(gt, .inr (9, [.int st9, .ref tp, .int td, .int fk, .int fpl, .ref bk, .int un, .ref mb, .ref mu, .int mk, .ref rd, .ref cm, .ref wk, .ref pp, .ref so, .ref ty]))]) [0] rfl
          have hKc := hK.sub (tys' := []) [] rfl
          have hDc := hD.sub (ws' := [(gt, .inr (9, [.int st9, .ref tp, .int td, .int fk, .int fpl, .ref bk, .int un, .ref mb, .ref mu, .int mk, .ref rd, .ref cm, .ref wk, .ref pp, .ref so, .ref ty]))]) [0] (by decide) rfl
          have hFc := va_free (wc := [(gt, .inr (9, [.int st9, .ref tp, .int td, .int fk, .int fpl, .ref bk, .int un, .ref mb, .ref mu, .int mk, .ref rd, .ref cm, .ref wk, .ref pp, .ref so, .ref ty]))]) hD hS hA [0] rfl
          refine va_calli (va_runV (As := [.int 5]) (rest := []) ⟨hx, hb, hml, hown, hts⟩ (s_refuse l dC dI gt tp bk mb mu rd cm wk pp so ty st9 td fk fpl un mk H.size 5) (cwV 1 hts mg_X9_put_X9_refuse_80 rfl rfl rfl (by decide +kernel) ⟨Nat.le_of_ble_eq_true rfl, Nat.le_of_ble_eq_true rfl⟩) ⟨fun a U g mk q => by obtain ⟨q0, q1, qP, qK, qD⟩ := q; exact ⟨q0, q1, qP, va_K.moved (u := U) (U := U.calling g mk a) (Vm.Alike.refl U.vm) qK, qD⟩, va_recv hKc hPc (ci := 9) (q0 := 0) rfl rfl, fun U hU hW => ⟨rfl, by rw [hU], by rw [hU]; exact hPc, va_K.moved hW.alike hKc, hDc.weaken (fun _ _ _ _ => trivial)⟩⟩ rfl rfl hl.1 rfl (lv_room (Nat.le_of_ble_eq_true rfl)) dX9_put_50 ⟨Nat.le_of_ble_eq_true rfl, Nat.le_of_ble_eq_true rfl⟩) hS (fun q _ h => hFc q h) hFc (fun r_67 u t H1 locs ht hvm hw hB hz1 hk1 hS => ?_)
          obtain ⟨hP1, hK1, hD1⟩ := hB
          rw [ht] at hP1
          have hr_67 := hw
          obtain ⟨hP, hD⟩ := va_join (wr := [(so, .inl (cso, 60, .inl fso))]) (w1 := [(gt, .inr (9, [.int 5, .ref tp, .int td, .int fk, .int fpl, .ref bk, .int un, .ref mb, .ref mu, .int mk, .ref rd, .ref cm, .ref wk, .ref pp, .ref so, .ref ty]))]) hP hD [0] [1] rfl rfl (by decide) (by decide) hk1 hFc hP1 hD1
          generalize H1 = H at hP hS ⊢
          have hP : va_P (dC, dI) vwCl [(so, .inl (cso, 60, .inl fso)), (gt, .inr (9, [.int 5, .ref tp, .int td, .int fk, .int fpl, .ref bk, .int un, .ref mb, .ref mu, .int mk, .ref rd, .ref cm, .ref wk, .ref pp, .ref so, .ref ty]))] H := hP
          have hD : va_D A [(so, .inl (cso, 60, .inl fso)), (gt, .inr (9, [.int 5, .ref tp, .int td, .int fk, .int fpl, .ref bk, .int un, .ref mb, .ref mu, .int mk, .ref rd, .ref cm, .ref wk, .ref pp, .ref so, .ref ty]))] := hD
          have hQ := q_at hQ0 hQA hS
          have hP9 := hP.sub (ws' := [(gt, .inr (9, [.int 5, .ref tp, .int td, .int fk, .int fpl, .ref bk, .int un, .ref mb, .ref mu, .int mk, .ref rd, .ref cm, .ref wk, .ref pp, .ref so, .ref ty])), (so, .inl (cso, 60, .inl fso))]) [1, 0] rfl
          have hD9 := hD.sub (ws' := [(gt, .inr (9, [.int 5, .ref tp, .int td, .int fk, .int fpl, .ref bk, .int un, .ref mb, .ref mu, .int mk, .ref rd, .ref cm, .ref wk, .ref pp, .ref so, .ref ty])), (so, .inl (cso, 60, .inl fso))]) [1, 0] (by decide) rfl
          have hK9 := hK.sub (tys' := [(cso, .int)]) [0] rfl
          refine W.widen (k := 5) (n := 135) (by omega) (by omega) ?_
          exact W.iret hx hb hr (fun t ht hW => ⟨⟨_, (), rfl, trivial, 5, bk, un, fso, W9, T9, B9, gN.same hB9, hbk, by rw [ht]; exact hQ, va_K.moved hW.alike hKQ, by rw [ht]; exact hP9, va_K.moved hW.alike hK9, hD9⟩, hS.F ht⟩) hS.2.2 dX9_put_53
    · have tk_11 := c_nge (a := i2.toInt) (b := 0) rfl (by decide) k_11
      refine lv_aload_n hx hb dX9_put_11 rfl (lv_at hl 0 rfl) ?_
      refine lv_iconst (v := 1) hx hb dX9_put_12 (by decide) ?_
      have hPc := hP.sub (ws' := [(gt, .inr (9, [.int st9, .ref tp, .int td, .int fk, .int fpl, .ref bk, .int un, .ref mb, .ref mu, .int mk, .ref rd, .ref cm, .ref wk, .ref pp, .ref so, .ref ty]))]) [0] rfl
      have hKc := hK.sub (tys' := []) [] rfl
      have hDc := hD.sub (ws' := [(gt, .inr (9, [.int st9, .ref tp, .int td, .int fk, .int fpl, .ref bk, .int un, .ref mb, .ref mu, .int mk, .ref rd, .ref cm, .ref wk, .ref pp, .ref so, .ref ty]))]) [0] (by decide) rfl
      have hFc := va_free (wc := [(gt, .inr (9, [.int st9, .ref tp, .int td, .int fk, .int fpl, .ref bk, .int un, .ref mb, .ref mu, .int mk, .ref rd, .ref cm, .ref wk, .ref pp, .ref so, .ref ty]))]) hD hS hA [0] rfl
      refine va_calli (va_runV (As := [.int 1]) (rest := []) ⟨hx, hb, hml, hown, hts⟩ (s_refuse l dC dI gt tp bk mb mu rd cm wk pp so ty st9 td fk fpl un mk H.size 1) (cwV 1 hts mg_X9_put_X9_refuse_80 rfl rfl rfl (by decide +kernel) ⟨Nat.le_of_ble_eq_true rfl, Nat.le_of_ble_eq_true rfl⟩) ⟨fun a U g mk q => by obtain ⟨q0, q1, qP, qK, qD⟩ := q; exact ⟨q0, q1, qP, va_K.moved (u := U) (U := U.calling g mk a) (Vm.Alike.refl U.vm) qK, qD⟩, va_recv hKc hPc (ci := 9) (q0 := 0) rfl rfl, fun U hU hW => ⟨rfl, by rw [hU], by rw [hU]; exact hPc, va_K.moved hW.alike hKc, hDc.weaken (fun _ _ _ _ => trivial)⟩⟩ rfl rfl hl.1 rfl (lv_room (Nat.le_of_ble_eq_true rfl)) dX9_put_13 ⟨Nat.le_of_ble_eq_true rfl, Nat.le_of_ble_eq_true rfl⟩) hS (fun q _ h => hFc q h) hFc (fun r_69 u t H1 locs ht hvm hw hB hz1 hk1 hS => ?_)
      obtain ⟨hP1, hK1, hD1⟩ := hB
      rw [ht] at hP1
      have hr_69 := hw
      obtain ⟨hP, hD⟩ := va_join (wr := [(so, .inl (cso, 60, .inl fso))]) (w1 := [(gt, .inr (9, [.int 1, .ref tp, .int td, .int fk, .int fpl, .ref bk, .int un, .ref mb, .ref mu, .int mk, .ref rd, .ref cm, .ref wk, .ref pp, .ref so, .ref ty]))]) hP hD [0] [1] rfl rfl (by decide) (by decide) hk1 hFc hP1 hD1
      generalize H1 = H at hP hS ⊢
      have hP : va_P (dC, dI) vwCl [(so, .inl (cso, 60, .inl fso)), (gt, .inr (9, [.int 1, .ref tp, .int td, .int fk, .int fpl, .ref bk, .int un, .ref mb, .ref mu, .int mk, .ref rd, .ref cm, .ref wk, .ref pp, .ref so, .ref ty]))] H := hP
      have hD : va_D A [(so, .inl (cso, 60, .inl fso)), (gt, .inr (9, [.int 1, .ref tp, .int td, .int fk, .int fpl, .ref bk, .int un, .ref mb, .ref mu, .int mk, .ref rd, .ref cm, .ref wk, .ref pp, .ref so, .ref ty]))] := hD
      have hQ := q_at hQ0 hQA hS
      have hP9 := hP.sub (ws' := [(gt, .inr (9, [.int 1, .ref tp, .int td, .int fk, .int fpl, .ref bk, .int un, .ref mb, .ref mu, .int mk, .ref rd, .ref cm, .ref wk, .ref pp, .ref so, .ref ty])), (so, .inl (cso, 60, .inl fso))]) [1, 0] rfl
      have hD9 := hD.sub (ws' := [(gt, .inr (9, [.int 1, .ref tp, .int td, .int fk, .int fpl, .ref bk, .int un, .ref mb, .ref mu, .int mk, .ref rd, .ref cm, .ref wk, .ref pp, .ref so, .ref ty])), (so, .inl (cso, 60, .inl fso))]) [1, 0] (by decide) rfl
      have hK9 := hK.sub (tys' := [(cso, .int)]) [0] rfl
      refine W.widen (k := 5) (n := 135) (by omega) (by omega) ?_
      exact W.iret hx hb hr (fun t ht hW => ⟨⟨_, (), rfl, trivial, 1, bk, un, fso, W9, T9, B9, gN.same hB9, hbk, by rw [ht]; exact hQ, va_K.moved hW.alike hKQ, by rw [ht]; exact hP9, va_K.moved hW.alike hK9, hD9⟩, hS.F ht⟩) hS.2.2 dX9_put_16
theorem dX9_let_0 : decode cX9_let 0 = .ok (.iload_n 3, 1) := by decide +kernel
theorem dX9_let_1 : decode cX9_let 1 = .ok (.invokestatic 239, 3) := by decide +kernel
theorem dX9_let_4 : decode cX9_let 4 = .ok (.ifCond .eq 7, 3) := by decide +kernel
theorem dX9_let_7 : decode cX9_let 7 = .ok (.iload_n 2, 1) := by decide +kernel
theorem dX9_let_8 : decode cX9_let 8 = .ok (.ifCond .ge 9, 3) := by decide +kernel
theorem dX9_let_11 : decode cX9_let 11 = .ok (.aload_n 0, 1) := by decide +kernel
theorem dX9_let_12 : decode cX9_let 12 = .ok (.iconst 1, 1) := by decide +kernel
theorem dX9_let_13 : decode cX9_let 13 = .ok (.invokevirtual 80, 3) := by decide +kernel
theorem dX9_let_16 : decode cX9_let 16 = .ok (.ireturn, 1) := by decide +kernel
theorem dX9_let_17 : decode cX9_let 17 = .ok (.aload_n 0, 1) := by decide +kernel
theorem dX9_let_18 : decode cX9_let 18 = .ok (.getfield 29, 3) := by decide +kernel
theorem dX9_let_21 : decode cX9_let 21 = .ok (.iload_n 1, 1) := by decide +kernel
theorem dX9_let_22 : decode cX9_let 22 = .ok (.invokevirtual 123, 3) := by decide +kernel
theorem dX9_let_25 : decode cX9_let 25 = .ok (.astore 4, 2) := by decide +kernel
theorem dX9_let_27 : decode cX9_let 27 = .ok (.aload 4, 2) := by decide +kernel
theorem dX9_let_29 : decode cX9_let 29 = .ok (.ifnonnull 9, 3) := by decide +kernel
theorem dX9_let_32 : decode cX9_let 32 = .ok (.aload_n 0, 1) := by decide +kernel
theorem dX9_let_33 : decode cX9_let 33 = .ok (.iconst 2, 1) := by decide +kernel
theorem dX9_let_34 : decode cX9_let 34 = .ok (.invokevirtual 80, 3) := by decide +kernel
theorem dX9_let_37 : decode cX9_let 37 = .ok (.ireturn, 1) := by decide +kernel
theorem dX9_let_38 : decode cX9_let 38 = .ok (.aload 4, 2) := by decide +kernel
theorem dX9_let_40 : decode cX9_let 40 = .ok (.getfield 127, 3) := by decide +kernel
theorem dX9_let_43 : decode cX9_let 43 = .ok (.arraylength, 1) := by decide +kernel
theorem dX9_let_44 : decode cX9_let 44 = .ok (.istore 5, 2) := by decide +kernel
theorem dX9_let_46 : decode cX9_let 46 = .ok (.iload_n 2, 1) := by decide +kernel
theorem dX9_let_47 : decode cX9_let 47 = .ok (.iload 5, 2) := by decide +kernel
theorem dX9_let_49 : decode cX9_let 49 = .ok (.if_icmp .le 9, 3) := by decide +kernel
theorem dX9_let_52 : decode cX9_let 52 = .ok (.aload_n 0, 1) := by decide +kernel
theorem dX9_let_53 : decode cX9_let 53 = .ok (.iconst 5, 1) := by decide +kernel
theorem dX9_let_54 : decode cX9_let 54 = .ok (.invokevirtual 80, 3) := by decide +kernel
theorem dX9_let_57 : decode cX9_let 57 = .ok (.ireturn, 1) := by decide +kernel
theorem dX9_let_58 : decode cX9_let 58 = .ok (.iload 5, 2) := by decide +kernel
theorem dX9_let_60 : decode cX9_let 60 = .ok (.bipush 60, 2) := by decide +kernel
theorem dX9_let_62 : decode cX9_let 62 = .ok (.if_icmp .lt 10, 3) := by decide +kernel
theorem dX9_let_65 : decode cX9_let 65 = .ok (.aload_n 0, 1) := by decide +kernel
theorem dX9_let_66 : decode cX9_let 66 = .ok (.bipush 6, 2) := by decide +kernel
theorem dX9_let_68 : decode cX9_let 68 = .ok (.invokevirtual 80, 3) := by decide +kernel
theorem dX9_let_71 : decode cX9_let 71 = .ok (.ireturn, 1) := by decide +kernel
theorem dX9_let_72 : decode cX9_let 72 = .ok (.iload 5, 2) := by decide +kernel
theorem dX9_let_74 : decode cX9_let 74 = .ok (.iconst 1, 1) := by decide +kernel
theorem dX9_let_75 : decode cX9_let 75 = .ok (.iadd, 1) := by decide +kernel
theorem dX9_let_76 : decode cX9_let 76 = .ok (.newarray .int, 2) := by decide +kernel
theorem dX9_let_78 : decode cX9_let 78 = .ok (.astore 6, 2) := by decide +kernel
theorem dX9_let_80 : decode cX9_let 80 = .ok (.aload 4, 2) := by decide +kernel
theorem dX9_let_82 : decode cX9_let 82 = .ok (.getfield 127, 3) := by decide +kernel
theorem dX9_let_85 : decode cX9_let 85 = .ok (.iconst 0, 1) := by decide +kernel
theorem dX9_let_86 : decode cX9_let 86 = .ok (.aload 6, 2) := by decide +kernel
theorem dX9_let_88 : decode cX9_let 88 = .ok (.iconst 0, 1) := by decide +kernel
theorem dX9_let_89 : decode cX9_let 89 = .ok (.iload_n 2, 1) := by decide +kernel
theorem dX9_let_90 : decode cX9_let 90 = .ok (.invokestatic 255, 3) := by decide +kernel
theorem dX9_let_93 : decode cX9_let 93 = .ok (.aload 6, 2) := by decide +kernel
theorem dX9_let_95 : decode cX9_let 95 = .ok (.iload_n 2, 1) := by decide +kernel
theorem dX9_let_96 : decode cX9_let 96 = .ok (.iload_n 3, 1) := by decide +kernel
theorem dX9_let_97 : decode cX9_let 97 = .ok (.iastore, 1) := by decide +kernel
theorem dX9_let_98 : decode cX9_let 98 = .ok (.aload 4, 2) := by decide +kernel
theorem dX9_let_100 : decode cX9_let 100 = .ok (.getfield 127, 3) := by decide +kernel
theorem dX9_let_103 : decode cX9_let 103 = .ok (.iload_n 2, 1) := by decide +kernel
theorem dX9_let_104 : decode cX9_let 104 = .ok (.aload 6, 2) := by decide +kernel
theorem dX9_let_106 : decode cX9_let 106 = .ok (.iload_n 2, 1) := by decide +kernel
theorem dX9_let_107 : decode cX9_let 107 = .ok (.iconst 1, 1) := by decide +kernel
theorem dX9_let_108 : decode cX9_let 108 = .ok (.iadd, 1) := by decide +kernel
theorem dX9_let_109 : decode cX9_let 109 = .ok (.iload 5, 2) := by decide +kernel
theorem dX9_let_111 : decode cX9_let 111 = .ok (.iload_n 2, 1) := by decide +kernel
theorem dX9_let_112 : decode cX9_let 112 = .ok (.isub, 1) := by decide +kernel
theorem dX9_let_113 : decode cX9_let 113 = .ok (.invokestatic 255, 3) := by decide +kernel
theorem dX9_let_116 : decode cX9_let 116 = .ok (.aload_n 0, 1) := by decide +kernel
theorem dX9_let_117 : decode cX9_let 117 = .ok (.aload_n 0, 1) := by decide +kernel
theorem dX9_let_118 : decode cX9_let 118 = .ok (.getfield 29, 3) := by decide +kernel
theorem dX9_let_121 : decode cX9_let 121 = .ok (.iload_n 1, 1) := by decide +kernel
theorem dX9_let_122 : decode cX9_let 122 = .ok (.aload 6, 2) := by decide +kernel
theorem dX9_let_124 : decode cX9_let 124 = .ok (.aload_n 0, 1) := by decide +kernel
theorem dX9_let_125 : decode cX9_let 125 = .ok (.getfield 64, 3) := by decide +kernel
theorem dX9_let_128 : decode cX9_let 128 = .ok (.invokestatic 247, 3) := by decide +kernel
theorem dX9_let_131 : decode cX9_let 131 = .ok (.invokevirtual 251, 3) := by decide +kernel
theorem dX9_let_134 : decode cX9_let 134 = .ok (.invokevirtual 92, 3) := by decide +kernel
theorem dX9_let_137 : decode cX9_let 137 = .ok (.aload_n 0, 1) := by decide +kernel
theorem dX9_let_138 : decode cX9_let 138 = .ok (.iload 5, 2) := by decide +kernel
theorem dX9_let_140 : decode cX9_let 140 = .ok (.iconst 1, 1) := by decide +kernel
theorem dX9_let_141 : decode cX9_let 141 = .ok (.iadd, 1) := by decide +kernel
theorem dX9_let_142 : decode cX9_let 142 = .ok (.invokevirtual 100, 3) := by decide +kernel
theorem dX9_let_145 : decode cX9_let 145 = .ok (.ireturn, 1) := by decide +kernel
def mwX9_let : List Cond := .code yX9_let cX9_let 7 (some .int) :: (([.methodLink RX9 239 yX9_isLetter, .static yX9_isLetter, .initialized RX9, .methodLink RX9 80 yX9_refuse, .instanceMethod yX9_refuse, .selects RX9 yX9_refuse yX9_refuse, .fieldLink RX9 29 "PatternGate" "book" "LPatternGate$Book;", .methodLink RX9 123 yX0_docAt, .instanceMethod yX0_docAt, .selects RX0 yX0_docAt yX0_docAt, .initialized RX0, .fieldLink RX9 127 "PatternGate$Doc" "letters" "[I", .arrayClass .int, .methodLink RX9 255 arraycopyName, .native arraycopyName, .static arraycopyName, .initialized "java/lang/System", .fieldLink RX9 64 "PatternGate" "sorted" "[I", .methodLink RX9 247 yX2_made, .static yX2_made, .initialized RX2, .methodLink RX9 251 yX0_withDoc, .instanceMethod yX0_withDoc, .selects RX0 yX0_withDoc yX0_withDoc, .methodLink RX9 92 yX9_act, .instanceMethod yX9_act, .selects RX9 yX9_act yX9_act, .methodLink RX9 100 yX9_answer, .instanceMethod yX9_answer, .selects RX9 yX9_answer yX9_answer] : List Cond) ++ (wsX90 ++ (wsX20 ++ (mwX9_isLetter ++ (mwX9_refuse ++ (mwX0_docAt ++ (mwX2_made ++ (mwX0_withDoc ++ (mwX9_act ++ (mwX9_answer))))))))))
theorem fin_X9_let_X2 : ∀ w ∈ wsX20, w ∈ mwX9_let := fun w h => List.mem_cons_of_mem _ (List.mem_append_right _ (List.mem_append_right _ (List.mem_append_left _ h)))
theorem fin_X9_let_X9 : ∀ w ∈ wsX90, w ∈ mwX9_let := fun w h => List.mem_cons_of_mem _ (List.mem_append_right _ (List.mem_append_left _ h))
set_option maxRecDepth 20000 in
theorem mg_X9_let_X9_isLetter_239 : GoodIn mwX9_let (va_wsS RX9 239 yX9_isLetter mwX9_isLetter) := gi_app (A := [.methodLink RX9 239 yX9_isLetter, .static yX9_isLetter, .initialized RX9]) (goodIn_r _ [1, 2, 3] (by decide +kernel) (by decide +kernel)) (gi_sub gd_mwX9_isLetter (fun w h => List.mem_cons_of_mem _ (List.mem_append_right _ (List.mem_append_right _ (List.mem_append_right _ (List.mem_append_left _ h))))))
set_option maxRecDepth 20000 in
theorem mg_X9_let_X9_refuse_80 : GoodIn mwX9_let (wsV RX9 80 RX9 yX9_refuse mwX9_refuse) := gi_app (A := [.methodLink RX9 80 yX9_refuse, .instanceMethod yX9_refuse, .selects RX9 yX9_refuse yX9_refuse, .initialized RX9]) (goodIn_r _ [4, 5, 6, 3] (by decide +kernel) (by decide +kernel)) (gi_sub gd_mwX9_refuse (fun w h => List.mem_cons_of_mem _ (List.mem_append_right _ (List.mem_append_right _ (List.mem_append_right _ (List.mem_append_right _ (List.mem_append_left _ h)))))))
set_option maxRecDepth 20000 in
theorem mg_X9_let_X0_docAt_123 : GoodIn mwX9_let (wsV RX9 123 RX0 yX0_docAt mwX0_docAt) := gi_app (A := [.methodLink RX9 123 yX0_docAt, .instanceMethod yX0_docAt, .selects RX0 yX0_docAt yX0_docAt, .initialized RX0]) (goodIn_r _ [8, 9, 10, 11] (by decide +kernel) (by decide +kernel)) (gi_sub gd_mwX0_docAt (fun w h => List.mem_cons_of_mem _ (List.mem_append_right _ (List.mem_append_right _ (List.mem_append_right _ (List.mem_append_right _ (List.mem_append_right _ (List.mem_append_left _ h))))))))
set_option maxRecDepth 20000 in
theorem mg_X9_let_X2_made_247 : GoodIn mwX9_let (va_wsS RX9 247 yX2_made mwX2_made) := gi_app (A := [.methodLink RX9 247 yX2_made, .static yX2_made, .initialized RX2]) (goodIn_r _ [19, 20, 21] (by decide +kernel) (by decide +kernel)) (gi_sub gd_mwX2_made (fun w h => List.mem_cons_of_mem _ (List.mem_append_right _ (List.mem_append_right _ (List.mem_append_right _ (List.mem_append_right _ (List.mem_append_right _ (List.mem_append_right _ (List.mem_append_left _ h)))))))))
set_option maxRecDepth 20000 in
theorem mg_X9_let_X0_withDoc_251 : GoodIn mwX9_let (wsV RX9 251 RX0 yX0_withDoc mwX0_withDoc) := gi_app (A := [.methodLink RX9 251 yX0_withDoc, .instanceMethod yX0_withDoc, .selects RX0 yX0_withDoc yX0_withDoc, .initialized RX0]) (goodIn_r _ [22, 23, 24, 11] (by decide +kernel) (by decide +kernel)) (gi_sub gd_mwX0_withDoc (fun w h => List.mem_cons_of_mem _ (List.mem_append_right _ (List.mem_append_right _ (List.mem_append_right _ (List.mem_append_right _ (List.mem_append_right _ (List.mem_append_right _ (List.mem_append_right _ (List.mem_append_left _ h))))))))))
set_option maxRecDepth 20000 in
theorem mg_X9_let_X9_act_92 : GoodIn mwX9_let (wsV RX9 92 RX9 yX9_act mwX9_act) := gi_app (A := [.methodLink RX9 92 yX9_act, .instanceMethod yX9_act, .selects RX9 yX9_act yX9_act, .initialized RX9]) (goodIn_r _ [25, 26, 27, 3] (by decide +kernel) (by decide +kernel)) (gi_sub gd_mwX9_act (fun w h => List.mem_cons_of_mem _ (List.mem_append_right _ (List.mem_append_right _ (List.mem_append_right _ (List.mem_append_right _ (List.mem_append_right _ (List.mem_append_right _ (List.mem_append_right _ (List.mem_append_right _ (List.mem_append_left _ h)))))))))))
set_option maxRecDepth 20000 in
theorem mg_X9_let_X9_answer_100 : GoodIn mwX9_let (wsV RX9 100 RX9 yX9_answer mwX9_answer) := gi_app (A := [.methodLink RX9 100 yX9_answer, .instanceMethod yX9_answer, .selects RX9 yX9_answer yX9_answer, .initialized RX9]) (goodIn_r _ [28, 29, 30, 3] (by decide +kernel) (by decide +kernel)) (gi_sub gd_mwX9_answer (fun w h => List.mem_cons_of_mem _ (List.mem_append_right _ (List.mem_append_right _ (List.mem_append_right _ (List.mem_append_right _ (List.mem_append_right _ (List.mem_append_right _ (List.mem_append_right _ (List.mem_append_right _ (List.mem_append_right _ (h))))))))))))
set_option maxHeartbeats 4000000 in
set_option maxRecDepth 100000 in
/-- gate: let -/
theorem s_g_let (l : Launch) (dC : Nat → ClassId) (dI : Nat → Nat → Nat) (W9 : va_W) (T9 : List (ClassId × FieldType)) (B9 : Nat → Prop) (gt tp bk mb mu rd cm wk pp so ty : Nat) (st9 td fk fpl un mk : Int32) (cso : ClassId) (fso : Nat → Int32) (sz : Nat) (i1 i2 i3 : Int32) (hB9 : gB W9 T9 B9) (hbk : B9 bk) : Met l yX9_let mwX9_let ({ frames := 5, cells := 5, slots := 135, locals := 300 }) (va_Pc [.ref gt, .int i1, .int i2, .int i3] (fun U => U.heap.size = sz ∧ va_P (dC, dI) vwCl ([(gt, .inr (9, [.int st9, .ref tp, .int td, .int fk, .int fpl, .ref bk, .int un, .ref mb, .ref mu, .int mk, .ref rd, .ref cm, .ref wk, .ref pp, .ref so, .ref ty])), (so, .inl (cso, 60, .inl fso))]) U.heap ∧ va_K (dC, dI) vwCl ([(cso, .int)]) U ∧ va_D (fun _ => True) ([(gt, .inr (9, [.int st9, .ref tp, .int td, .int fk, .int fpl, .ref bk, .int un, .ref mb, .ref mu, .int mk, .ref rd, .ref cm, .ref wk, .ref pp, .ref so, .ref ty])), (so, .inl (cso, 60, .inl fso))]) ∧ va_Nw (.castable "[I" "java/lang/Cloneable") U ∧ va_Nw (.castable "[LPatternGate$Doc;" "java/lang/Cloneable") U ∧ va_P (dC, dI) vwCl W9 U.heap ∧ va_K (dC, dI) vwCl T9 U ∧ (∀ q ∈ W9, ¬ va_A ([(gt, .inr (9, [.int st9, .ref tp, .int td, .int fk, .int fpl, .ref bk, .int un, .ref mb, .ref mu, .int mk, .ref rd, .ref cm, .ref wk, .ref pp, .ref so, .ref ty])), (so, .inl (cso, 60, .inl fso))]) sz q.1))) (va_Qi (fun (_ : Int32) (_ : Unit) => True) (fun _ t => ∃ (y0 : Int32) (b9 : Nat) (y6 : Int32) (f9 : Nat → Int32) (W2 : va_W) (T2 : List (ClassId × FieldType)) (B2 : Nat → Prop), gN W9 W2 T9 T2 B9 B2 sz ∧ B2 b9 ∧ va_P (dC, dI) vwCl W2 t.heap ∧ va_K (dC, dI) vwCl T2 t ∧ va_P (dC, dI) vwCl [(gt, .inr (9, [.int y0, .ref tp, .int td, .int fk, .int fpl, .ref b9, .int y6, .ref mb, .ref mu, .int mk, .ref rd, .ref cm, .ref wk, .ref pp, .ref so, .ref ty])), (so, .inl (cso, 60, .inl f9))] t.heap ∧ va_K (dC, dI) vwCl [(cso, .int)] t ∧ va_D (va_A ([(gt, .inr (9, [.int st9, .ref tp, .int td, .int fk, .int fpl, .ref bk, .int un, .ref mb, .ref mu, .int mk, .ref rd, .ref cm, .ref wk, .ref pp, .ref so, .ref ty])), (so, .inl (cso, 60, .inl fso))]) sz) [(gt, .inr (9, [.int y0, .ref tp, .int td, .int fk, .int fpl, .ref b9, .int y6, .ref mb, .ref mu, .int mk, .ref rd, .ref cm, .ref wk, .ref pp, .ref so, .ref ty])), (so, .inl (cso, 60, .inl f9))]) (va_A ([(gt, .inr (9, [.int st9, .ref tp, .int td, .int fk, .int fpl, .ref bk, .int un, .ref mb, .ref mu, .int mk, .ref rd, .ref cm, .ref wk, .ref pp, .ref so, .ref ty])), (so, .inl (cso, 60, .inl fso))]) sz)) 5 135 (va_A ([(gt, .inr (9, [.int st9, .ref tp, .int td, .int fk, .int fpl, .ref bk, .int un, .ref mb, .ref mu, .int mk, .ref rd, .ref cm, .ref wk, .ref pp, .ref so, .ref ty])), (so, .inl (cso, 60, .inl fso))]) sz) := by
  refine Met.ofW (cc := cX9_let) (maxL := 7) (ret := (some .int)) (by decide +kernel) rfl ?_
  intro p e s m args below meth c s₁ B hml hv
  obtain ⟨rfl, hsz, hP, hK, hD0, hcl, hcld, hQ0, hKQ, hQA⟩ := hv
  have hx := B.exec
  have hb := B.bytes
  have hr := B.returns
  have hts := atoms_spec (ws := mwX9_let) B.pre
  have hown : s.vm.findClass RX9 = some m.cls := findClass_of_methodNamed B.named
  have hlocks := B.notSynchronized
  subst hsz
  have hD := hD0.self (sz := s.heap.size)
  generalize hAe : va_A ([(gt, .inr (9, [.int st9, .ref tp, .int td, .int fk, .int fpl, .ref bk, .int un, .ref mb, .ref mu, .int mk, .ref rd, .ref cm, .ref wk, .ref pp, .ref so, .ref ty])), (so, .inl (cso, 60, .inl fso))]) s.heap.size = A at hD hQA ⊢
  have hA : ∀ q : Nat, s.heap.size ≤ q → A q := fun q h => by rw [← hAe]; exact Or.inr h
  obtain ⟨sz9, hz9⟩ : ∃ n : Nat, n = s.heap.size := ⟨_, rfl⟩
  rw [← hz9]
  have hP : va_P (dC, dI) vwCl [(gt, .inr (9, [.int st9, .ref tp, .int td, .int fk, .int fpl, .ref bk, .int un, .ref mb, .ref mu, .int mk, .ref rd, .ref cm, .ref wk, .ref pp, .ref so, .ref ty])), (so, .inl (cso, 60, .inl fso))] s.heap := hP
  have hD : va_D A [(gt, .inr (9, [.int st9, .ref tp, .int td, .int fk, .int fpl, .ref bk, .int un, .ref mb, .ref mu, .int mk, .ref rd, .ref cm, .ref wk, .ref pp, .ref so, .ref ty])), (so, .inl (cso, 60, .inl fso))] := hD
  have hK : va_K (dC, dI) vwCl [(cso, .int)] s := hK
  generalize hH : s.heap = H at hP ⊢
  have hS : va_S A s.heap H [] := by rw [← hH]; exact va_S.rf
  have hQ := q_at hQ0 hQA hS
  have hl := lv_entry ([.ref gt, .int i1, .int i2, .int i3]) (n := 7) (Nat.le_of_ble_eq_true rfl)
  rw [lg_entry_eq]
  generalize (lg_sl ([.ref gt, .int i1, .int i2, .int i3]) ++ List.replicate (7 - (lg_sl ([.ref gt, .int i1, .int i2, .int i3])).length) Slot.unset).toArray = ls at hl ⊢
  have hl : lv_has ls 7 [(0, .ref gt), (1, .int i1), (2, .int i2), (3, .int i3)] := hl
  have rg_i1 := i_rng i1
  have rg_i2 := i_rng i2
  have rg_i3 := i_rng i3
  obtain ⟨ear, hB3, hear⟩ := hB9 bk hbk
  have hB0 := hB3.poB
  obtain ⟨ds, ps, nd, np, fd, fp, cD, cP, m1, m2, m3, m4, m5, hnd, hnp, hds, hps⟩ := id hB3
  obtain ⟨k_1, hk_1⟩ := List.getElem?_of_mem m1
  obtain ⟨k_2, hk_2⟩ := List.getElem?_of_mem m2
  obtain ⟨j_3, hj_3⟩ := List.getElem?_of_mem m3
  obtain ⟨k_4, hk_4⟩ := List.getElem?_of_mem m4
  obtain ⟨j_5, hj_5⟩ := List.getElem?_of_mem m5
  have r_un := i_rng un
  have r_mk := i_rng mk
  have r_td := i_rng td
  refine lv_iload_n hx hb dX9_let_0 rfl (lv_at hl 3 rfl) ?_
  refine vp_callSi (W.runS (As := [.int i3]) (rest := []) ⟨hx, hb, hml, hown, hts⟩ (s_isLetter l dC dI i3) (va_cwS 1 hts mg_X9_let_X9_isLetter_239 rfl rfl rfl (by decide +kernel) ⟨Nat.le_of_ble_eq_true rfl, Nat.le_of_ble_eq_true rfl⟩) ⟨fun a U g mk q => ⟨q.1, trivial⟩, fun U hU hW => ⟨rfl, trivial⟩⟩ rfl rfl hl.1 rfl (lv_room (Nat.le_of_ble_eq_true rfl)) dX9_let_1 ⟨Nat.le_of_ble_eq_true rfl, Nat.le_of_ble_eq_true rfl⟩) (fun r_7 hw => ?_)
  refine lv_if_eq (tgt := 11) hx hb dX9_let_4 (by decide) (fun k_8 => ?_) (fun k_8 => ?_)
  · have tk_8 := c_eq (a := r_7.toInt) (b := 0) rfl (by decide) k_8
    refine lv_aload_n hx hb dX9_let_11 rfl (lv_at hl 0 rfl) ?_
    refine lv_iconst (v := 1) hx hb dX9_let_12 (by decide) ?_
    have hPc := hP.sub (ws' := [(gt, .inr (9, [.int st9, .ref tp, .int td, .int fk, .int fpl, .ref bk, .int un, .ref mb, .ref mu, .int mk, .ref rd, .ref cm, .ref wk, .ref pp, .ref so, .ref ty]))]) [0] rfl
    have hKc := hK.sub (tys' := []) [] rfl
    have hDc := hD.sub (ws' := [(gt, .inr (9, [.int st9, .ref tp, .int td, .int fk, .int fpl, .ref bk, .int un, .ref mb, .ref mu, .int mk, .ref rd, .ref cm, .ref wk, .ref pp, .ref so, .ref ty]))]) [0] (by decide) rfl
    have hFc := va_free (wc := [(gt, .inr (9, [.int st9, .ref tp, .int td, .int fk, .int fpl, .ref bk, .int un, .ref mb, .ref mu, .int mk, .ref rd, .ref cm, .ref wk, .ref pp, .ref so, .ref ty]))]) hD hS hA [0] rfl
    refine va_calli (va_runV (As := [.int 1]) (rest := []) ⟨hx, hb, hml, hown, hts⟩ (s_refuse l dC dI gt tp bk mb mu rd cm wk pp so ty st9 td fk fpl un mk H.size 1) (cwV 1 hts mg_X9_let_X9_refuse_80 rfl rfl rfl (by decide +kernel) ⟨Nat.le_of_ble_eq_true rfl, Nat.le_of_ble_eq_true rfl⟩) ⟨fun a U g mk q => by obtain ⟨q0, q1, qP, qK, qD⟩ := q; exact ⟨q0, q1, qP, va_K.moved (u := U) (U := U.calling g mk a) (Vm.Alike.refl U.vm) qK, qD⟩, va_recv hKc hPc (ci := 9) (q0 := 0) rfl rfl, fun U hU hW => ⟨rfl, by rw [hU], by rw [hU]; exact hPc, va_K.moved hW.alike hKc, hDc.weaken (fun _ _ _ _ => trivial)⟩⟩ rfl rfl hl.1 rfl (lv_room (Nat.le_of_ble_eq_true rfl)) dX9_let_13 ⟨Nat.le_of_ble_eq_true rfl, Nat.le_of_ble_eq_true rfl⟩) hS (fun q _ h => hFc q h) hFc (fun r_10 u t H1 locs ht hvm hw hB hz1 hk1 hS => ?_)
    obtain ⟨hP1, hK1, hD1⟩ := hB
    rw [ht] at hP1
    have hr_10 := hw
    obtain ⟨hP, hD⟩ := va_join (wr := [(so, .inl (cso, 60, .inl fso))]) (w1 := [(gt, .inr (9, [.int 1, .ref tp, .int td, .int fk, .int fpl, .ref bk, .int un, .ref mb, .ref mu, .int mk, .ref rd, .ref cm, .ref wk, .ref pp, .ref so, .ref ty]))]) hP hD [0] [1] rfl rfl (by decide) (by decide) hk1 hFc hP1 hD1
    generalize H1 = H at hP hS ⊢
    have hP : va_P (dC, dI) vwCl [(so, .inl (cso, 60, .inl fso)), (gt, .inr (9, [.int 1, .ref tp, .int td, .int fk, .int fpl, .ref bk, .int un, .ref mb, .ref mu, .int mk, .ref rd, .ref cm, .ref wk, .ref pp, .ref so, .ref ty]))] H := hP
    have hD : va_D A [(so, .inl (cso, 60, .inl fso)), (gt, .inr (9, [.int 1, .ref tp, .int td, .int fk, .int fpl, .ref bk, .int un, .ref mb, .ref mu, .int mk, .ref rd, .ref cm, .ref wk, .ref pp, .ref so, .ref ty]))] := hD
    have hQ := q_at hQ0 hQA hS
    have hP9 := hP.sub (ws' := [(gt, .inr (9, [.int 1, .ref tp, .int td, .int fk, .int fpl, .ref bk, .int un, .ref mb, .ref mu, .int mk, .ref rd, .ref cm, .ref wk, .ref pp, .ref so, .ref ty])), (so, .inl (cso, 60, .inl fso))]) [1, 0] rfl
    have hD9 := hD.sub (ws' := [(gt, .inr (9, [.int 1, .ref tp, .int td, .int fk, .int fpl, .ref bk, .int un, .ref mb, .ref mu, .int mk, .ref rd, .ref cm, .ref wk, .ref pp, .ref so, .ref ty])), (so, .inl (cso, 60, .inl fso))]) [1, 0] (by decide) rfl
    have hK9 := hK.sub (tys' := [(cso, .int)]) [0] rfl
    refine W.widen (k := 5) (n := 135) (by omega) (by omega) ?_
    exact W.iret hx hb hr (fun t ht hW => ⟨⟨_, (), rfl, trivial, 1, bk, un, fso, W9, T9, B9, gN.same hB9, hbk, by rw [ht]; exact hQ, va_K.moved hW.alike hKQ, by rw [ht]; exact hP9, va_K.moved hW.alike hK9, hD9⟩, hS.F ht⟩) hS.2.2 dX9_let_16
  · have tk_8 := c_ne (a := r_7.toInt) (b := 0) rfl (by decide) k_8
    refine lv_iload_n hx hb dX9_let_7 rfl (lv_at hl 2 rfl) ?_
    refine lv_if_ge (tgt := 17) hx hb dX9_let_8 (by decide) (fun k_11 => ?_) (fun k_11 => ?_)
    · have tk_11 := c_ge (a := i2.toInt) (b := 0) rfl (by decide) k_11
      refine lv_aload_n hx hb dX9_let_17 rfl (lv_at hl 0 rfl) ?_
      refine va_get (D := (dC, dI)) (ci := 9) (v := .ref bk) (C := RX9) (T := TX9) (N := 16) hx hb hts fin_X9_let_X9 hown hK hP 0 rfl rfl 5 (by decide) (hts (.fieldLink RX9 29 "PatternGate" "book" "LPatternGate$Book;") (List.mem_of_getElem? (i := 7) (by decide +kernel))) (fun _ h9 => h9) rfl dX9_let_18 ?_
      refine lv_iload_n hx hb dX9_let_21 rfl (lv_at hl 1 rfl) ?_
      have hPc := hQ
      have hKc := hKQ
      refine va_csq (W.runV (As := [.int i1]) (rest := []) ⟨hx, hb, hml, hown, hts⟩ (s_docAt l dC dI W9 T9 bk i1 hB0) (cwV 1 hts mg_X9_let_X0_docAt_123 rfl rfl rfl (by decide +kernel) ⟨Nat.le_of_ble_eq_true rfl, Nat.le_of_ble_eq_true rfl⟩) ⟨fun a U g mk q => by obtain ⟨q0, qP, qK⟩ := q; exact ⟨q0, qP, va_K.moved (u := U) (U := U.calling g mk a) (Vm.Alike.refl U.vm) qK⟩, va_recv hKc hPc (ci := 0) (q0 := k_1) rfl hk_1, fun U hU hW => ⟨rfl, by rw [hU]; exact hPc, va_K.moved hW.alike hKc⟩⟩ rfl rfl hl.1 rfl (lv_room (Nat.le_of_ble_eq_true rfl)) dX9_let_22 ⟨Nat.le_of_ble_eq_true rfl, Nat.le_of_ble_eq_true rfl⟩) (fun r_13 hw => ?_)
      rcases hw with rfl | ⟨d_14, rfl, hd_14⟩
      · refine W.eq (g2 := F0 m 25 ls [.null]) rfl ?_
        refine lv_astoreN (lv' := [(4, .null), (0, .ref gt), (1, .int i1), (2, .int i2), (3, .int i3)]) hx hb dX9_let_25 hl (by decide) rfl (fun ls hl => ?_)
        refine lv_aloadN hx hb dX9_let_27 (lv_at hl 0 rfl) ?_
        refine lv_ifnonnullN hx hb dX9_let_29 ?_
        refine lv_aload_n hx hb dX9_let_32 rfl (lv_at hl 1 rfl) ?_
        refine lv_iconst (v := 2) hx hb dX9_let_33 (by decide) ?_
        have hPc := hP.sub (ws' := [(gt, .inr (9, [.int st9, .ref tp, .int td, .int fk, .int fpl, .ref bk, .int un, .ref mb, .ref mu, .int mk, .ref rd, .ref cm, .ref wk, .ref pp, .ref so, .ref ty]))]) [0] rfl
        have hKc := hK.sub (tys' := []) [] rfl
        have hDc := hD.sub (ws' := [(gt, .inr (9, [.int st9, .ref tp, .int td, .int fk, .int fpl, .ref bk, .int un, .ref mb, .ref mu, .int mk, .ref rd, .ref cm, .ref wk, .ref pp, .ref so, .ref ty]))]) [0] (by decide) rfl
        have hFc := va_free (wc := [(gt, .inr (9, [.int st9, .ref tp, .int td, .int fk, .int fpl, .ref bk, .int un, .ref mb, .ref mu, .int mk, .ref rd, .ref cm, .ref wk, .ref pp, .ref so, .ref ty]))]) hD hS hA [0] rfl
        refine va_calli (va_runV (As := [.int 2]) (rest := []) ⟨hx, hb, hml, hown, hts⟩ (s_refuse l dC dI gt tp bk mb mu rd cm wk pp so ty st9 td fk fpl un mk H.size 2) (cwV 1 hts mg_X9_let_X9_refuse_80 rfl rfl rfl (by decide +kernel) ⟨Nat.le_of_ble_eq_true rfl, Nat.le_of_ble_eq_true rfl⟩) ⟨fun a U g mk q => by obtain ⟨q0, q1, qP, qK, qD⟩ := q; exact ⟨q0, q1, qP, va_K.moved (u := U) (U := U.calling g mk a) (Vm.Alike.refl U.vm) qK, qD⟩, va_recv hKc hPc (ci := 9) (q0 := 0) rfl rfl, fun U hU hW => ⟨rfl, by rw [hU], by rw [hU]; exact hPc, va_K.moved hW.alike hKc, hDc.weaken (fun _ _ _ _ => trivial)⟩⟩ rfl rfl hl.1 rfl (lv_room (Nat.le_of_ble_eq_true rfl)) dX9_let_34 ⟨Nat.le_of_ble_eq_true rfl, Nat.le_of_ble_eq_true rfl⟩) hS (fun q _ h => hFc q h) hFc (fun r_16 u t H1 locs ht hvm hw hB hz1 hk1 hS => ?_)
        obtain ⟨hP1, hK1, hD1⟩ := hB
        rw [ht] at hP1
        have hr_16 := hw
        obtain ⟨hP, hD⟩ := va_join (wr := [(so, .inl (cso, 60, .inl fso))]) (w1 := [(gt, .inr (9, [.int 2, .ref tp, .int td, .int fk, .int fpl, .ref bk, .int un, .ref mb, .ref mu, .int mk, .ref rd, .ref cm, .ref wk, .ref pp, .ref so, .ref ty]))]) hP hD [0] [1] rfl rfl (by decide) (by decide) hk1 hFc hP1 hD1
        generalize H1 = H at hP hS ⊢
        have hP : va_P (dC, dI) vwCl [(so, .inl (cso, 60, .inl fso)), (gt, .inr (9, [.int 2, .ref tp, .int td, .int fk, .int fpl, .ref bk, .int un, .ref mb, .ref mu, .int mk, .ref rd, .ref cm, .ref wk, .ref pp, .ref so, .ref ty]))] H := hP
        have hD : va_D A [(so, .inl (cso, 60, .inl fso)), (gt, .inr (9, [.int 2, .ref tp, .int td, .int fk, .int fpl, .ref bk, .int un, .ref mb, .ref mu, .int mk, .ref rd, .ref cm, .ref wk, .ref pp, .ref so, .ref ty]))] := hD
        have hQ := q_at hQ0 hQA hS
        have hP9 := hP.sub (ws' := [(gt, .inr (9, [.int 2, .ref tp, .int td, .int fk, .int fpl, .ref bk, .int un, .ref mb, .ref mu, .int mk, .ref rd, .ref cm, .ref wk, .ref pp, .ref so, .ref ty])), (so, .inl (cso, 60, .inl fso))]) [1, 0] rfl
        have hD9 := hD.sub (ws' := [(gt, .inr (9, [.int 2, .ref tp, .int td, .int fk, .int fpl, .ref bk, .int un, .ref mb, .ref mu, .int mk, .ref rd, .ref cm, .ref wk, .ref pp, .ref so, .ref ty])), (so, .inl (cso, 60, .inl fso))]) [1, 0] (by decide) rfl
        have hK9 := hK.sub (tys' := [(cso, .int)]) [0] rfl
        refine W.widen (k := 5) (n := 135) (by omega) (by omega) ?_
        exact W.iret hx hb hr (fun t ht hW => ⟨⟨_, (), rfl, trivial, 2, bk, un, fso, W9, T9, B9, gN.same hB9, hbk, by rw [ht]; exact hQ, va_K.moved hW.alike hKQ, by rw [ht]; exact hP9, va_K.moved hW.alike hK9, hD9⟩, hS.F ht⟩) hS.2.2 dX9_let_37
      · refine W.eq (g2 := F0 m 25 ls [.ref d_14]) rfl ?_
        have hd_14D := hd_14
        obtain ⟨la_17, ta_18, m_19, n_20, fl_21, ft_22, cI_23, cJ_24, m_25, ⟨m_26, m_27⟩, ⟨m_28, m_29⟩, m_30, m_31⟩ := hd_14
        obtain ⟨k_32, hk_32⟩ := List.getElem?_of_mem m_25
        obtain ⟨k_33, hk_33⟩ := List.getElem?_of_mem m_26
        obtain ⟨j_34, hj_34⟩ := List.getElem?_of_mem m_27
        obtain ⟨k_35, hk_35⟩ := List.getElem?_of_mem m_28
        obtain ⟨j_36, hj_36⟩ := List.getElem?_of_mem m_29
        refine lv_astore (lv' := [(4, .ref d_14), (0, .ref gt), (1, .int i1), (2, .int i2), (3, .int i3)]) hx hb dX9_let_25 hl (by decide) rfl (fun ls hl => ?_)
        refine lv_aload hx hb dX9_let_27 (lv_at hl 0 rfl) ?_
        refine lv_ifnonnull (tgt := 38) hx hb dX9_let_29 (by decide) ?_
        refine lv_aload hx hb dX9_let_38 (lv_at hl 0 rfl) ?_
        refine va_get (D := (dC, dI)) (ci := 2) (v := .ref la_17) (C := RX2) (T := TX2) (N := 2) hx hb hts fin_X9_let_X2 hown hKQ hQ k_32 hk_32 rfl 0 (by decide) (hts (.fieldLink RX9 127 "PatternGate$Doc" "letters" "[I") (List.mem_of_getElem? (i := 12) (by decide +kernel))) (fun _ h9 => h9) rfl dX9_let_40 ?_
        refine va_alen hx hb hKQ hQ k_33 j_34 hk_33 hj_34 rfl dX9_let_43 ?_
        refine lv_topi (fun y_37 ey_37 => ?_)
        have ty_37 : y_37.toInt = (m_19 : Int) := i_len ey_37 (by omega)
        refine lv_istore (lv' := [(5, .int y_37), (4, .ref d_14), (0, .ref gt), (1, .int i1), (2, .int i2), (3, .int i3)]) hx hb dX9_let_44 hl (by decide) rfl (fun ls hl => ?_)
        refine lv_iload_n hx hb dX9_let_46 rfl (lv_at hl 4 rfl) ?_
        refine lv_iload hx hb dX9_let_47 (lv_at hl 0 rfl) ?_
        refine lv_icmp_le (tgt := 58) hx hb dX9_let_49 (by decide) (fun k_38 => ?_) (fun k_38 => ?_)
        · have tk_38 := c_le (a := i2.toInt) (b := y_37.toInt) rfl rfl k_38
          refine lv_iload hx hb dX9_let_58 (lv_at hl 0 rfl) ?_
          refine lv_bipush (v := 60) hx hb dX9_let_60 (by decide) ?_
          refine lv_icmp_lt (tgt := 72) hx hb dX9_let_62 (by decide) (fun k_39 => ?_) (fun k_39 => ?_)
          · have tk_39 := c_lt (a := y_37.toInt) (b := 60) rfl (by decide) k_39
            refine lv_iload hx hb dX9_let_72 (lv_at hl 0 rfl) ?_
            refine lv_iconst (v := 1) hx hb dX9_let_74 (by decide) ?_
            refine lv_iadd hx hb dX9_let_75 ?_
            refine lv_topi (fun y_40 ey_40 => ?_)
            first | have ty_40 := i_add (a := y_37.toInt) (b := 1) rfl (by decide) ey_40 (by omega) (by omega) | skip
            obtain ⟨n_43, hn_43, en_43⟩ := nI_of (i_nn (x := y_40) rfl (by omega))
            have tn_43 : y_40.toInt = (n_43 : Int) := by rw [en_43]; exact nI_toInt hn_43
            have un_43 : n_43 ≤ 60 := by omega
            refine va_newa (atype := .int) (ty := .int) (n := y_40) (N' := n_43) (a0 := (n_43, .inl (fun _ => 0))) hx hb (hts (.arrayClass .int) (List.mem_of_getElem? (i := 13) (by decide +kernel))) rfl hK hP hD hS hA (fun _ => rfl) (i_nn rfl (by omega)) (by rw [en_43]; exact nI_clamp hn_43) (by show n_43 * 4 ≤ 536870912; omega) (Nat.le_of_ble_eq_true rfl) (Nat.le_trans (Nat.add_le_add_left un_43 _) (Nat.le_of_ble_eq_true rfl)) dX9_let_76 (fun q_41 c_42 H hK hP hD hS => ?_)
            have hP : va_P (dC, dI) vwCl [(gt, .inr (9, [.int st9, .ref tp, .int td, .int fk, .int fpl, .ref bk, .int un, .ref mb, .ref mu, .int mk, .ref rd, .ref cm, .ref wk, .ref pp, .ref so, .ref ty])), (so, .inl (cso, 60, .inl fso)), (q_41, .inl (c_42, n_43, .inl (fun _ => 0)))] H := hP
            have hD : va_D A [(gt, .inr (9, [.int st9, .ref tp, .int td, .int fk, .int fpl, .ref bk, .int un, .ref mb, .ref mu, .int mk, .ref rd, .ref cm, .ref wk, .ref pp, .ref so, .ref ty])), (so, .inl (cso, 60, .inl fso)), (q_41, .inl (c_42, n_43, .inl (fun _ => 0)))] := hD
            have hQ := q_at hQ0 hQA hS
            have hK : va_K (dC, dI) vwCl [(cso, .int), (c_42, .int)] s := hK
            refine W.widen (k := 1) (n := 60) (by omega) (by omega) ?_
            refine lv_astore (lv' := [(6, .ref q_41), (5, .int y_37), (4, .ref d_14), (0, .ref gt), (1, .int i1), (2, .int i2), (3, .int i3)]) hx hb dX9_let_78 hl (by decide) rfl (fun ls hl => ?_)
            refine lv_aload hx hb dX9_let_80 (lv_at hl 2 rfl) ?_
            refine va_get (D := (dC, dI)) (ci := 2) (v := .ref la_17) (C := RX2) (T := TX2) (N := 2) hx hb hts fin_X9_let_X2 hown hKQ hQ k_32 hk_32 rfl 0 (by decide) (hts (.fieldLink RX9 127 "PatternGate$Doc" "letters" "[I") (List.mem_of_getElem? (i := 12) (by decide +kernel))) (fun _ h9 => h9) rfl dX9_let_82 ?_
            refine lv_iconst (v := 0) hx hb dX9_let_85 (by decide) ?_
            refine lv_aload hx hb dX9_let_86 (lv_at hl 0 rfl) ?_
            refine lv_iconst (v := 0) hx hb dX9_let_88 (by decide) ?_
            refine lv_iload_n hx hb dX9_let_89 rfl (lv_at hl 5 rfl) ?_
            refine q_copyi hx hb (hml.trans hl.1.symm) hown (hts (.methodLink RX9 255 arraycopyName) (List.mem_of_getElem? (i := 14) (by decide +kernel))) (hts (.native arraycopyName) (List.mem_of_getElem? (i := 15) (by decide +kernel))) (hts (.static arraycopyName) (List.mem_of_getElem? (i := 16) (by decide +kernel))) (hts (.initialized "java/lang/System") (List.mem_of_getElem? (i := 17) (by decide +kernel))) hQ hKQ hK hP hD hS k_33 2 j_34 1 hk_33 rfl hj_34 rfl rfl (i_nn (a := 0) (by decide) (by omega)) (i_nn (a := 0) (by decide) (by omega)) (i_nn (a := i2.toInt) rfl (by omega)) (cp_le (a := 0) (b := i2.toInt) (by decide) rfl (by omega) (by omega) (by omega)) (cp_le (a := 0) (b := i2.toInt) (by decide) rfl (by omega) (by omega) (by omega)) (fun _ _ => rfl) (Nat.le_of_ble_eq_true rfl) (by decide +kernel) dX9_let_90 (fun H locs hP hD hS => ?_)
            generalize hf_f_44 : va_cpy _ _ _ _ _ = f_44 at hP hD
            have hP : va_P (dC, dI) vwCl [(gt, .inr (9, [.int st9, .ref tp, .int td, .int fk, .int fpl, .ref bk, .int un, .ref mb, .ref mu, .int mk, .ref rd, .ref cm, .ref wk, .ref pp, .ref so, .ref ty])), (so, .inl (cso, 60, .inl fso)), (q_41, .inl (c_42, n_43, .inl f_44))] H := hP
            have hD : va_D A [(gt, .inr (9, [.int st9, .ref tp, .int td, .int fk, .int fpl, .ref bk, .int un, .ref mb, .ref mu, .int mk, .ref rd, .ref cm, .ref wk, .ref pp, .ref so, .ref ty])), (so, .inl (cso, 60, .inl fso)), (q_41, .inl (c_42, n_43, .inl f_44))] := hD
            have hQ := q_at hQ0 hQA hS
            refine lv_aload hx hb dX9_let_93 (lv_at hl 0 rfl) ?_
            refine lv_iload_n hx hb dX9_let_95 rfl (lv_at hl 5 rfl) ?_
            refine lv_iload_n hx hb dX9_let_96 rfl (lv_at hl 6 rfl) ?_
            refine va_iast hx hb hK hP hD hS 2 1 rfl rfl (i := i2) (vp_of (a := i2.toInt) rfl (by omega) (by omega)) dX9_let_97 (fun H locs hP hD hS => ?_)
            generalize hf_f_45 : upd f_44 _ _ = f_45 at hP hD
            have hP : va_P (dC, dI) vwCl [(gt, .inr (9, [.int st9, .ref tp, .int td, .int fk, .int fpl, .ref bk, .int un, .ref mb, .ref mu, .int mk, .ref rd, .ref cm, .ref wk, .ref pp, .ref so, .ref ty])), (so, .inl (cso, 60, .inl fso)), (q_41, .inl (c_42, n_43, .inl f_45))] H := hP
            have hD : va_D A [(gt, .inr (9, [.int st9, .ref tp, .int td, .int fk, .int fpl, .ref bk, .int un, .ref mb, .ref mu, .int mk, .ref rd, .ref cm, .ref wk, .ref pp, .ref so, .ref ty])), (so, .inl (cso, 60, .inl fso)), (q_41, .inl (c_42, n_43, .inl f_45))] := hD
            have hQ := q_at hQ0 hQA hS
            refine lv_aload hx hb dX9_let_98 (lv_at hl 2 rfl) ?_
            refine va_get (D := (dC, dI)) (ci := 2) (v := .ref la_17) (C := RX2) (T := TX2) (N := 2) hx hb hts fin_X9_let_X2 hown hKQ hQ k_32 hk_32 rfl 0 (by decide) (hts (.fieldLink RX9 127 "PatternGate$Doc" "letters" "[I") (List.mem_of_getElem? (i := 12) (by decide +kernel))) (fun _ h9 => h9) rfl dX9_let_100 ?_
            refine lv_iload_n hx hb dX9_let_103 rfl (lv_at hl 5 rfl) ?_
            refine lv_aload hx hb dX9_let_104 (lv_at hl 0 rfl) ?_
            refine lv_iload_n hx hb dX9_let_106 rfl (lv_at hl 5 rfl) ?_
            refine lv_iconst (v := 1) hx hb dX9_let_107 (by decide) ?_
            refine lv_iadd hx hb dX9_let_108 ?_
            refine lv_topi (fun y_46 ey_46 => ?_)
            first | have ty_46 := i_add (a := i2.toInt) (b := 1) rfl (by decide) ey_46 (by omega) (by omega) | skip
            refine lv_iload hx hb dX9_let_109 (lv_at hl 1 rfl) ?_
            refine lv_iload_n hx hb dX9_let_111 rfl (lv_at hl 5 rfl) ?_
            refine lv_isub hx hb dX9_let_112 ?_
            refine lv_topi (fun y_47 ey_47 => ?_)
            first | have ty_47 := i_sub (a := y_37.toInt) (b := i2.toInt) rfl rfl ey_47 (by omega) (by omega) | skip
            refine q_copyi hx hb (hml.trans hl.1.symm) hown (hts (.methodLink RX9 255 arraycopyName) (List.mem_of_getElem? (i := 14) (by decide +kernel))) (hts (.native arraycopyName) (List.mem_of_getElem? (i := 15) (by decide +kernel))) (hts (.static arraycopyName) (List.mem_of_getElem? (i := 16) (by decide +kernel))) (hts (.initialized "java/lang/System") (List.mem_of_getElem? (i := 17) (by decide +kernel))) hQ hKQ hK hP hD hS k_33 2 j_34 1 hk_33 rfl hj_34 rfl rfl (i_nn (a := i2.toInt) rfl (by omega)) (i_nn (a := y_46.toInt) rfl (by omega)) (i_nn (a := y_47.toInt) rfl (by omega)) (cp_le (a := i2.toInt) (b := y_47.toInt) rfl rfl (by omega) (by omega) (by omega)) (cp_le (a := y_46.toInt) (b := y_47.toInt) rfl rfl (by omega) (by omega) (by omega)) (fun _ _ => rfl) (Nat.le_of_ble_eq_true rfl) (by decide +kernel) dX9_let_113 (fun H locs hP hD hS => ?_)
            generalize hf_f_48 : va_cpy _ _ _ _ _ = f_48 at hP hD
            have hP : va_P (dC, dI) vwCl [(gt, .inr (9, [.int st9, .ref tp, .int td, .int fk, .int fpl, .ref bk, .int un, .ref mb, .ref mu, .int mk, .ref rd, .ref cm, .ref wk, .ref pp, .ref so, .ref ty])), (so, .inl (cso, 60, .inl fso)), (q_41, .inl (c_42, n_43, .inl f_48))] H := hP
            have hD : va_D A [(gt, .inr (9, [.int st9, .ref tp, .int td, .int fk, .int fpl, .ref bk, .int un, .ref mb, .ref mu, .int mk, .ref rd, .ref cm, .ref wk, .ref pp, .ref so, .ref ty])), (so, .inl (cso, 60, .inl fso)), (q_41, .inl (c_42, n_43, .inl f_48))] := hD
            have hQ := q_at hQ0 hQA hS
            refine lv_aload_n hx hb dX9_let_116 rfl (lv_at hl 3 rfl) ?_
            refine lv_aload_n hx hb dX9_let_117 rfl (lv_at hl 3 rfl) ?_
            refine va_get (D := (dC, dI)) (ci := 9) (v := .ref bk) (C := RX9) (T := TX9) (N := 16) hx hb hts fin_X9_let_X9 hown hK hP 0 rfl rfl 5 (by decide) (hts (.fieldLink RX9 29 "PatternGate" "book" "LPatternGate$Book;") (List.mem_of_getElem? (i := 7) (by decide +kernel))) (fun _ h9 => h9) rfl dX9_let_118 ?_
            refine lv_iload_n hx hb dX9_let_121 rfl (lv_at hl 4 rfl) ?_
            refine lv_aload hx hb dX9_let_122 (lv_at hl 0 rfl) ?_
            refine lv_aload_n hx hb dX9_let_124 rfl (lv_at hl 3 rfl) ?_
            refine va_get (D := (dC, dI)) (ci := 9) (v := .ref so) (C := RX9) (T := TX9) (N := 16) hx hb hts fin_X9_let_X9 hown hK hP 0 rfl rfl 14 (by decide) (hts (.fieldLink RX9 64 "PatternGate" "sorted" "[I") (List.mem_of_getElem? (i := 18) (by decide +kernel))) (fun _ h9 => h9) rfl dX9_let_125 ?_
            have hPc := hP.sub (ws' := [(q_41, .inl (c_42, n_43, .inl f_48)), (so, .inl (cso, 60, .inl fso))]) [2, 1] rfl
            have hKc := hK.sub (tys' := [(c_42, .int), (cso, .int)]) [1, 0] rfl
            have hDc := hD.sub (ws' := [(q_41, .inl (c_42, n_43, .inl f_48)), (so, .inl (cso, 60, .inl fso))]) [2, 1] (by decide) rfl
            have hFc := va_free (wc := [(q_41, .inl (c_42, n_43, .inl f_48)), (so, .inl (cso, 60, .inl fso))]) hD hS hA [2, 1] rfl
            refine va_callr (va_runS (As := [.ref q_41, .ref so]) (rest := [.int i1, .ref bk, .ref gt]) ⟨hx, hb, hml, hown, hts⟩ (s_made l dC dI q_41 so n_43 60 c_42 cso f_48 fso H.size (by omega) (by omega)) (va_cwS 2 hts mg_X9_let_X2_made_247 rfl rfl rfl (by decide +kernel) ⟨Nat.le_of_ble_eq_true rfl, Nat.le_of_ble_eq_true rfl⟩) ⟨fun a U g mk q => by obtain ⟨q0, q1, qP, qK, qD, qE0⟩ := q; exact ⟨q0, q1, qP, va_K.moved (u := U) (U := U.calling g mk a) (Vm.Alike.refl U.vm) qK, qD, va_Nw.same rfl (u := U) rfl qE0⟩, fun U hU hW => ⟨rfl, by rw [hU], by rw [hU]; exact hPc, va_K.moved hW.alike hKc, hDc.weaken (fun _ _ _ _ => trivial), nw_moved hW.alike hcl⟩⟩ rfl rfl hl.1 rfl (lv_room (Nat.le_of_ble_eq_true rfl)) dX9_let_128 ⟨Nat.le_of_ble_eq_true rfl, Nat.le_of_ble_eq_true rfl⟩) hS (fun q _ h => hFc q h) hFc (fun u r_50 t H1 locs ht hvm hw hB hz1 hk1 hS => ?_)
            obtain ⟨q_51, n_52, f_53, f_54, c_55, tn_52, hP1, hK1, hD1⟩ := hB
            rw [ht] at hP1
            have hK := hK.app ((va_K.moved hvm.symm hK1).sub (tys' := [(c_55, .int)]) [2] rfl)
            have hK : va_K (dC, dI) vwCl [(cso, .int), (c_42, .int), (c_55, .int)] s := hK
            obtain ⟨hP, hD⟩ := va_join (wr := [(gt, .inr (9, [.int st9, .ref tp, .int td, .int fk, .int fpl, .ref bk, .int un, .ref mb, .ref mu, .int mk, .ref rd, .ref cm, .ref wk, .ref pp, .ref so, .ref ty]))]) (w1 := [(q_41, .inl (c_42, n_43, .inl f_48)), (so, .inl (cso, 60, .inl f_53)), (q_51, .inl (c_55, n_52, .inl f_54)), (r_50, .inr (2, [.ref q_41, .ref q_51]))]) hP hD [2, 1] [0] rfl rfl (by decide) (by decide) hk1 hFc hP1 hD1
            generalize H1 = H at hP hS ⊢
            have hP : va_P (dC, dI) vwCl [(gt, .inr (9, [.int st9, .ref tp, .int td, .int fk, .int fpl, .ref bk, .int un, .ref mb, .ref mu, .int mk, .ref rd, .ref cm, .ref wk, .ref pp, .ref so, .ref ty])), (q_41, .inl (c_42, n_43, .inl f_48)), (so, .inl (cso, 60, .inl f_53)), (q_51, .inl (c_55, n_52, .inl f_54)), (r_50, .inr (2, [.ref q_41, .ref q_51]))] H := hP
            have hD : va_D A [(gt, .inr (9, [.int st9, .ref tp, .int td, .int fk, .int fpl, .ref bk, .int un, .ref mb, .ref mu, .int mk, .ref rd, .ref cm, .ref wk, .ref pp, .ref so, .ref ty])), (q_41, .inl (c_42, n_43, .inl f_48)), (so, .inl (cso, 60, .inl f_53)), (q_51, .inl (c_55, n_52, .inl f_54)), (r_50, .inr (2, [.ref q_41, .ref q_51]))] := hD
            have hQ := q_at hQ0 hQA hS
            have hPc := hP.sub (ws' := [(r_50, .inr (2, [.ref q_41, .ref q_51]))]) [4] rfl
            have hKc := hK.sub (tys' := []) [] rfl
            have hDc := hD.sub (ws' := [(r_50, .inr (2, [.ref q_41, .ref q_51]))]) [4] (by decide) rfl
            have hFc := va_free (wc := [(r_50, .inr (2, [.ref q_41, .ref q_51]))]) hD hS hA [4] rfl
            refine va_callr (va_runV (As := [.int i1, .ref r_50]) (rest := [.ref gt]) ⟨hx, hb, hml, hown, hts⟩ (s_withDoc l dC dI W9 T9 bk ear r_50 q_41 q_51 H.size i1 hB3) (cwV 2 hts mg_X9_let_X0_withDoc_251 rfl rfl rfl (by decide +kernel) ⟨Nat.le_of_ble_eq_true rfl, Nat.le_of_ble_eq_true rfl⟩) ⟨fun a U g mk q => by obtain ⟨q0, q1, qP, qK, qD, qE0, qE1, qE2, qE3⟩ := q; exact ⟨q0, q1, qP, va_K.moved (u := U) (U := U.calling g mk a) (Vm.Alike.refl U.vm) qK, qD, va_Nw.same rfl (u := U) rfl qE0, qE1, va_K.moved (u := U) (U := U.calling g mk a) (Vm.Alike.refl U.vm) qE2, qE3⟩, va_recv hKQ hQ (ci := 0) (q0 := k_1) rfl hk_1, fun U hU hW => ⟨rfl, by rw [hU], by rw [hU]; exact hPc, va_K.moved hW.alike hKc, hDc.weaken (fun _ _ _ _ => trivial), nw_moved hW.alike hcld, (by rw [hU]; exact hQ), va_K.moved hW.alike hKQ, (fun q hq => qA_sub (hQA q hq) hFc)⟩⟩ rfl rfl hl.1 rfl (lv_room (Nat.le_of_ble_eq_true rfl)) dX9_let_131 ⟨Nat.le_of_ble_eq_true rfl, Nat.le_of_ble_eq_true rfl⟩) hS (fun q _ h => hFc q h) hFc (fun u r_57 t H1 locs ht hvm hw hB hz1 hk1 hS => ?_)
            obtain ⟨q_58, n_59, q_60, f_61, c_62, h_63, h_64, hP1, hK1, hD1⟩ := hB
            rw [ht] at hP1
            have hK := hK.app (va_K.moved hvm.symm hK1)
            have hK : va_K (dC, dI) vwCl [(cso, .int), (c_42, .int), (c_55, .int), (c_62, .object "PatternGate$Doc")] s := hK
            obtain ⟨hP, hD⟩ := va_join (wr := [(gt, .inr (9, [.int st9, .ref tp, .int td, .int fk, .int fpl, .ref bk, .int un, .ref mb, .ref mu, .int mk, .ref rd, .ref cm, .ref wk, .ref pp, .ref so, .ref ty])), (q_41, .inl (c_42, n_43, .inl f_48)), (so, .inl (cso, 60, .inl f_53)), (q_51, .inl (c_55, n_52, .inl f_54))]) (w1 := [(r_50, .inr (2, [.ref q_41, .ref q_51])), (q_58, .inl (c_62, n_59, .inr (.inr (.inr (.inr f_61))))), (r_57, .inr (0, [.ref q_58, .ref q_60, .ref bk]))]) hP hD [4] [0, 1, 2, 3] rfl rfl (by decide) (by decide) hk1 hFc hP1 hD1
            generalize H1 = H at hP hS ⊢
            have hP : va_P (dC, dI) vwCl [(gt, .inr (9, [.int st9, .ref tp, .int td, .int fk, .int fpl, .ref bk, .int un, .ref mb, .ref mu, .int mk, .ref rd, .ref cm, .ref wk, .ref pp, .ref so, .ref ty])), (q_41, .inl (c_42, n_43, .inl f_48)), (so, .inl (cso, 60, .inl f_53)), (q_51, .inl (c_55, n_52, .inl f_54)), (r_50, .inr (2, [.ref q_41, .ref q_51])), (q_58, .inl (c_62, n_59, .inr (.inr (.inr (.inr f_61))))), (r_57, .inr (0, [.ref q_58, .ref q_60, .ref bk]))] H := hP
            have hD : va_D A [(gt, .inr (9, [.int st9, .ref tp, .int td, .int fk, .int fpl, .ref bk, .int un, .ref mb, .ref mu, .int mk, .ref rd, .ref cm, .ref wk, .ref pp, .ref so, .ref ty])), (q_41, .inl (c_42, n_43, .inl f_48)), (so, .inl (cso, 60, .inl f_53)), (q_51, .inl (c_55, n_52, .inl f_54)), (r_50, .inr (2, [.ref q_41, .ref q_51])), (q_58, .inl (c_62, n_59, .inr (.inr (.inr (.inr f_61))))), (r_57, .inr (0, [.ref q_58, .ref q_60, .ref bk]))] := hD
            have hQ := q_at hQ0 hQA hS
            have hPc := hP.sub (ws' := [(gt, .inr (9, [.int st9, .ref tp, .int td, .int fk, .int fpl, .ref bk, .int un, .ref mb, .ref mu, .int mk, .ref rd, .ref cm, .ref wk, .ref pp, .ref so, .ref ty]))]) [0] rfl
            have hKc := hK.sub (tys' := []) [] rfl
            have hDc := hD.sub (ws' := [(gt, .inr (9, [.int st9, .ref tp, .int td, .int fk, .int fpl, .ref bk, .int un, .ref mb, .ref mu, .int mk, .ref rd, .ref cm, .ref wk, .ref pp, .ref so, .ref ty]))]) [0] (by decide) rfl
            have hFc := va_free (wc := [(gt, .inr (9, [.int st9, .ref tp, .int td, .int fk, .int fpl, .ref bk, .int un, .ref mb, .ref mu, .int mk, .ref rd, .ref cm, .ref wk, .ref pp, .ref so, .ref ty]))]) hD hS hA [0] rfl
            refine va_callv (va_runV (As := [.ref r_57]) (rest := []) ⟨hx, hb, hml, hown, hts⟩ (s_g_act l dC dI gt tp bk mb mu rd cm wk pp so ty st9 td fk fpl un mk r_57 H.size) (cwV 1 hts mg_X9_let_X9_act_92 rfl rfl rfl (by decide +kernel) ⟨Nat.le_of_ble_eq_true rfl, Nat.le_of_ble_eq_true rfl⟩) ⟨fun a U g mk q => by obtain ⟨q0, q1, qP, qK, qD⟩ := q; exact ⟨q0, q1, qP, va_K.moved (u := U) (U := U.calling g mk a) (Vm.Alike.refl U.vm) qK, qD⟩, va_recv hKc hPc (ci := 9) (q0 := 0) rfl rfl, fun U hU hW => ⟨rfl, by rw [hU], by rw [hU]; exact hPc, va_K.moved hW.alike hKc, hDc.weaken (fun _ _ _ _ => trivial)⟩⟩ rfl rfl hl.1 rfl (lv_room (Nat.le_of_ble_eq_true rfl)) dX9_let_134 ⟨Nat.le_of_ble_eq_true rfl, Nat.le_of_ble_eq_true rfl⟩) hS (fun q _ h => hFc q h) hFc (fun u t H1 locs ht hvm hw hB hz1 hk1 hS => ?_)
            obtain ⟨y_67, hP1, hK1, hD1⟩ := hB
            rw [ht] at hP1
            obtain ⟨hP, hD⟩ := va_join (wr := [(q_41, .inl (c_42, n_43, .inl f_48)), (so, .inl (cso, 60, .inl f_53)), (q_51, .inl (c_55, n_52, .inl f_54)), (r_50, .inr (2, [.ref q_41, .ref q_51])), (q_58, .inl (c_62, n_59, .inr (.inr (.inr (.inr f_61))))), (r_57, .inr (0, [.ref q_58, .ref q_60, .ref bk]))]) (w1 := [(gt, .inr (9, [.int st9, .ref tp, .int td, .int fk, .int fpl, .ref r_57, .int y_67, .ref mb, .ref mu, .int mk, .ref rd, .ref cm, .ref wk, .ref pp, .ref so, .ref ty]))]) hP hD [0] [1, 2, 3, 4, 5, 6] rfl rfl (by decide) (by decide) hk1 hFc hP1 hD1
            generalize H1 = H at hP hS ⊢
            have hP : va_P (dC, dI) vwCl [(q_41, .inl (c_42, n_43, .inl f_48)), (so, .inl (cso, 60, .inl f_53)), (q_51, .inl (c_55, n_52, .inl f_54)), (r_50, .inr (2, [.ref q_41, .ref q_51])), (q_58, .inl (c_62, n_59, .inr (.inr (.inr (.inr f_61))))), (r_57, .inr (0, [.ref q_58, .ref q_60, .ref bk])), (gt, .inr (9, [.int st9, .ref tp, .int td, .int fk, .int fpl, .ref r_57, .int y_67, .ref mb, .ref mu, .int mk, .ref rd, .ref cm, .ref wk, .ref pp, .ref so, .ref ty]))] H := hP
            have hD : va_D A [(q_41, .inl (c_42, n_43, .inl f_48)), (so, .inl (cso, 60, .inl f_53)), (q_51, .inl (c_55, n_52, .inl f_54)), (r_50, .inr (2, [.ref q_41, .ref q_51])), (q_58, .inl (c_62, n_59, .inr (.inr (.inr (.inr f_61))))), (r_57, .inr (0, [.ref q_58, .ref q_60, .ref bk])), (gt, .inr (9, [.int st9, .ref tp, .int td, .int fk, .int fpl, .ref r_57, .int y_67, .ref mb, .ref mu, .int mk, .ref rd, .ref cm, .ref wk, .ref pp, .ref so, .ref ty]))] := hD
            have hQ := q_at hQ0 hQA hS
            refine lv_aload_n hx hb dX9_let_137 rfl (lv_at hl 3 rfl) ?_
            refine lv_iload hx hb dX9_let_138 (lv_at hl 1 rfl) ?_
            refine lv_iconst (v := 1) hx hb dX9_let_140 (by decide) ?_
            refine lv_iadd hx hb dX9_let_141 ?_
            refine lv_topi (fun y_68 ey_68 => ?_)
            first | have ty_68 := i_add (a := y_37.toInt) (b := 1) rfl (by decide) ey_68 (by omega) (by omega) | skip
            have hPc := hP.sub (ws' := [(gt, .inr (9, [.int st9, .ref tp, .int td, .int fk, .int fpl, .ref r_57, .int y_67, .ref mb, .ref mu, .int mk, .ref rd, .ref cm, .ref wk, .ref pp, .ref so, .ref ty]))]) [6] rfl
            have hKc := hK.sub (tys' := []) [] rfl
            have hDc := hD.sub (ws' := [(gt, .inr (9, [.int st9, .ref tp, .int td, .int fk, .int fpl, .ref r_57, .int y_67, .ref mb, .ref mu, .int mk, .ref rd, .ref cm, .ref wk, .ref pp, .ref so, .ref ty]))]) [6] (by decide) rfl
            have hFc := va_free (wc := [(gt, .inr (9, [.int st9, .ref tp, .int td, .int fk, .int fpl, .ref r_57, .int y_67, .ref mb, .ref mu, .int mk, .ref rd, .ref cm, .ref wk, .ref pp, .ref so, .ref ty]))]) hD hS hA [6] rfl
            refine va_calli (va_runV (As := [.int y_68]) (rest := []) ⟨hx, hb, hml, hown, hts⟩ (s_answer l dC dI gt tp r_57 mb mu rd cm wk pp so ty st9 td fk fpl y_67 mk H.size y_68) (cwV 1 hts mg_X9_let_X9_answer_100 rfl rfl rfl (by decide +kernel) ⟨Nat.le_of_ble_eq_true rfl, Nat.le_of_ble_eq_true rfl⟩) ⟨fun a U g mk q => by obtain ⟨q0, q1, qP, qK, qD⟩ := q; exact ⟨q0, q1, qP, va_K.moved (u := U) (U := U.calling g mk a) (Vm.Alike.refl U.vm) qK, qD⟩, va_recv hKc hPc (ci := 9) (q0 := 0) rfl rfl, fun U hU hW => ⟨rfl, by rw [hU], by rw [hU]; exact hPc, va_K.moved hW.alike hKc, hDc.weaken (fun _ _ _ _ => trivial)⟩⟩ rfl rfl hl.1 rfl (lv_room (Nat.le_of_ble_eq_true rfl)) dX9_let_142 ⟨Nat.le_of_ble_eq_true rfl, Nat.le_of_ble_eq_true rfl⟩) hS (fun q _ h => hFc q h) hFc (fun r_70 u t H1 locs ht hvm hw hB hz1 hk1 hS => ?_)
            obtain ⟨hP1, hK1, hD1⟩ := hB
            rw [ht] at hP1
            have hr_70 := hw
            obtain ⟨hP, hD⟩ := va_join (wr := [(q_41, .inl (c_42, n_43, .inl f_48)), (so, .inl (cso, 60, .inl f_53)), (q_51, .inl (c_55, n_52, .inl f_54)), (r_50, .inr (2, [.ref q_41, .ref q_51])), (q_58, .inl (c_62, n_59, .inr (.inr (.inr (.inr f_61))))), (r_57, .inr (0, [.ref q_58, .ref q_60, .ref bk]))]) (w1 := [(gt, .inr (9, [.int 0, .ref tp, .int td, .int fk, .int fpl, .ref r_57, .int y_67, .ref mb, .ref mu, .int mk, .ref rd, .ref cm, .ref wk, .ref pp, .ref so, .ref ty]))]) hP hD [6] [0, 1, 2, 3, 4, 5] rfl rfl (by decide) (by decide) hk1 hFc hP1 hD1
            generalize H1 = H at hP hS ⊢
            have hP : va_P (dC, dI) vwCl [(q_41, .inl (c_42, n_43, .inl f_48)), (so, .inl (cso, 60, .inl f_53)), (q_51, .inl (c_55, n_52, .inl f_54)), (r_50, .inr (2, [.ref q_41, .ref q_51])), (q_58, .inl (c_62, n_59, .inr (.inr (.inr (.inr f_61))))), (r_57, .inr (0, [.ref q_58, .ref q_60, .ref bk])), (gt, .inr (9, [.int 0, .ref tp, .int td, .int fk, .int fpl, .ref r_57, .int y_67, .ref mb, .ref mu, .int mk, .ref rd, .ref cm, .ref wk, .ref pp, .ref so, .ref ty]))] H := hP
            have hD : va_D A [(q_41, .inl (c_42, n_43, .inl f_48)), (so, .inl (cso, 60, .inl f_53)), (q_51, .inl (c_55, n_52, .inl f_54)), (r_50, .inr (2, [.ref q_41, .ref q_51])), (q_58, .inl (c_62, n_59, .inr (.inr (.inr (.inr f_61))))), (r_57, .inr (0, [.ref q_58, .ref q_60, .ref bk])), (gt, .inr (9, [.int 0, .ref tp, .int td, .int fk, .int fpl, .ref r_57, .int y_67, .ref mb, .ref mu, .int mk, .ref rd, .ref cm, .ref wk, .ref pp, .ref so, .ref ty]))] := hD
            have hQ := q_at hQ0 hQA hS
            have hP9 := hP.sub (ws' := [(gt, .inr (9, [.int 0, .ref tp, .int td, .int fk, .int fpl, .ref r_57, .int y_67, .ref mb, .ref mu, .int mk, .ref rd, .ref cm, .ref wk, .ref pp, .ref so, .ref ty])), (so, .inl (cso, 60, .inl f_53))]) [6, 1] rfl
            have hD9 := hD.sub (ws' := [(gt, .inr (9, [.int 0, .ref tp, .int td, .int fk, .int fpl, .ref r_57, .int y_67, .ref mb, .ref mu, .int mk, .ref rd, .ref cm, .ref wk, .ref pp, .ref so, .ref ty])), (so, .inl (cso, 60, .inl f_53))]) [6, 1] (by decide) rfl
            have hK9 := hK.sub (tys' := [(cso, .int)]) [0] rfl
            refine W.widen (k := 5) (n := 135) (by omega) (by omega) ?_
            have hPn := hP.sub (ws' := [(q_41, .inl (c_42, n_43, .inl f_48)), (q_51, .inl (c_55, n_52, .inl f_54)), (r_50, .inr (2, [.ref q_41, .ref q_51])), (q_58, .inl (c_62, n_59, .inr (.inr (.inr (.inr f_61))))), (r_57, .inr (0, [.ref q_58, .ref q_60, .ref bk]))]) [0, 2, 3, 4, 5] rfl
            have hDz := hD.sub (ws' := [(gt, .inr (9, [.int 0, .ref tp, .int td, .int fk, .int fpl, .ref r_57, .int y_67, .ref mb, .ref mu, .int mk, .ref rd, .ref cm, .ref wk, .ref pp, .ref so, .ref ty])), (so, .inl (cso, 60, .inl f_53)), (q_41, .inl (c_42, n_43, .inl f_48)), (q_51, .inl (c_55, n_52, .inl f_54)), (r_50, .inr (2, [.ref q_41, .ref q_51])), (q_58, .inl (c_62, n_59, .inr (.inr (.inr (.inr f_61))))), (r_57, .inr (0, [.ref q_58, .ref q_60, .ref bk]))]) [6, 1, 0, 2, 3, 4, 5] (by decide) rfl
            rw [← hAe] at hDz
            have hge := nw_ge (W1 := [(gt, .inr (9, [.int 0, .ref tp, .int td, .int fk, .int fpl, .ref r_57, .int y_67, .ref mb, .ref mu, .int mk, .ref rd, .ref cm, .ref wk, .ref pp, .ref so, .ref ty])), (so, .inl (cso, 60, .inl f_53))]) (X := [(q_41, .inl (c_42, n_43, .inl f_48)), (q_51, .inl (c_55, n_52, .inl f_54)), (r_50, .inr (2, [.ref q_41, .ref q_51])), (q_58, .inl (c_62, n_59, .inr (.inr (.inr (.inr f_61))))), (r_57, .inr (0, [.ref q_58, .ref q_60, .ref bk]))]) hDz rfl
            rw [← hz9] at hge
            have hKn := hK.sub (tys' := [(c_42, .int), (c_55, .int), (c_62, .object "PatternGate$Doc")]) [1, 2, 3] rfl
            have hnb : poB3 (W9 ++ [(q_41, .inl (c_42, n_43, .inl f_48)), (q_51, .inl (c_55, n_52, .inl f_54)), (r_50, .inr (2, [.ref q_41, .ref q_51])), (q_58, .inl (c_62, n_59, .inr (.inr (.inr (.inr f_61))))), (r_57, .inr (0, [.ref q_58, .ref q_60, .ref bk]))]) (T9 ++ [(c_42, .int), (c_55, .int), (c_62, .object "PatternGate$Doc")]) r_57 (some bk) := h_63 _ _ (fun _ h => List.mem_append_left _ h) (fun _ h => List.mem_append_left _ h) (List.mem_append_right _ (List.mem_of_getElem? (i := 3) rfl)) (List.mem_append_right _ (List.mem_of_getElem? (i := 2) rfl)) (List.mem_append_right _ (List.mem_of_getElem? (i := 4) rfl)) (fun x hx => by subst hx; exact ⟨q_41, q_51, n_43, n_52, f_48, f_54, c_42, c_55, (List.mem_append_right _ (List.mem_of_getElem? (i := 2) rfl)), ⟨(List.mem_append_right _ (List.mem_of_getElem? (i := 0) rfl)), (List.mem_append_right _ (List.mem_of_getElem? (i := 0) rfl))⟩, ⟨(List.mem_append_right _ (List.mem_of_getElem? (i := 1) rfl)), (List.mem_append_right _ (List.mem_of_getElem? (i := 1) rfl))⟩, by omega, by omega⟩)
            exact W.iret hx hb hr (fun t ht hW => ⟨⟨_, (), rfl, trivial, 0, r_57, y_67, f_53, _, _, _, gN.act hB9 hbk hnb hge, Or.inr rfl, by rw [ht]; exact hQ.app hPn, (va_K.moved hW.alike hKQ).app (va_K.moved hW.alike hKn), by rw [ht]; exact hP9, va_K.moved hW.alike hK9, hD9⟩, hS.F ht⟩) hS.2.2 dX9_let_145
          · have tk_39 := c_nlt (a := y_37.toInt) (b := 60) rfl (by decide) k_39
            refine lv_aload_n hx hb dX9_let_65 rfl (lv_at hl 2 rfl) ?_
            refine lv_bipush (v := 6) hx hb dX9_let_66 (by decide) ?_
            have hPc := hP.sub (ws' := [(gt, .inr (9, [.int st9, .ref tp, .int td, .int fk, .int fpl, .ref bk, .int un, .ref mb, .ref mu, .int mk, .ref rd, .ref cm, .ref wk, .ref pp, .ref so, .ref ty]))]) [0] rfl
            have hKc := hK.sub (tys' := []) [] rfl
            have hDc := hD.sub (ws' := [(gt, .inr (9, [.int st9, .ref tp, .int td, .int fk, .int fpl, .ref bk, .int un, .ref mb, .ref mu, .int mk, .ref rd, .ref cm, .ref wk, .ref pp, .ref so, .ref ty]))]) [0] (by decide) rfl
            have hFc := va_free (wc := [(gt, .inr (9, [.int st9, .ref tp, .int td, .int fk, .int fpl, .ref bk, .int un, .ref mb, .ref mu, .int mk, .ref rd, .ref cm, .ref wk, .ref pp, .ref so, .ref ty]))]) hD hS hA [0] rfl
            refine va_calli (va_runV (As := [.int 6]) (rest := []) ⟨hx, hb, hml, hown, hts⟩ (s_refuse l dC dI gt tp bk mb mu rd cm wk pp so ty st9 td fk fpl un mk H.size 6) (cwV 1 hts mg_X9_let_X9_refuse_80 rfl rfl rfl (by decide +kernel) ⟨Nat.le_of_ble_eq_true rfl, Nat.le_of_ble_eq_true rfl⟩) ⟨fun a U g mk q => by obtain ⟨q0, q1, qP, qK, qD⟩ := q; exact ⟨q0, q1, qP, va_K.moved (u := U) (U := U.calling g mk a) (Vm.Alike.refl U.vm) qK, qD⟩, va_recv hKc hPc (ci := 9) (q0 := 0) rfl rfl, fun U hU hW => ⟨rfl, by rw [hU], by rw [hU]; exact hPc, va_K.moved hW.alike hKc, hDc.weaken (fun _ _ _ _ => trivial)⟩⟩ rfl rfl hl.1 rfl (lv_room (Nat.le_of_ble_eq_true rfl)) dX9_let_68 ⟨Nat.le_of_ble_eq_true rfl, Nat.le_of_ble_eq_true rfl⟩) hS (fun q _ h => hFc q h) hFc (fun r_72 u t H1 locs ht hvm hw hB hz1 hk1 hS => ?_)
            obtain ⟨hP1, hK1, hD1⟩ := hB
            rw [ht] at hP1
            have hr_72 := hw
            obtain ⟨hP, hD⟩ := va_join (wr := [(so, .inl (cso, 60, .inl fso))]) (w1 := [(gt, .inr (9, [.int 6, .ref tp, .int td, .int fk, .int fpl, .ref bk, .int un, .ref mb, .ref mu, .int mk, .ref rd, .ref cm, .ref wk, .ref pp, .ref so, .ref ty]))]) hP hD [0] [1] rfl rfl (by decide) (by decide) hk1 hFc hP1 hD1
            generalize H1 = H at hP hS ⊢
            have hP : va_P (dC, dI) vwCl [(so, .inl (cso, 60, .inl fso)), (gt, .inr (9, [.int 6, .ref tp, .int td, .int fk, .int fpl, .ref bk, .int un, .ref mb, .ref mu, .int mk, .ref rd, .ref cm, .ref wk, .ref pp, .ref so, .ref ty]))] H := hP
            have hD : va_D A [(so, .inl (cso, 60, .inl fso)), (gt, .inr (9, [.int 6, .ref tp, .int td, .int fk, .int fpl, .ref bk, .int un, .ref mb, .ref mu, .int mk, .ref rd, .ref cm, .ref wk, .ref pp, .ref so, .ref ty]))] := hD
            have hQ := q_at hQ0 hQA hS
            have hP9 := hP.sub (ws' := [(gt, .inr (9, [.int 6, .ref tp, .int td, .int fk, .int fpl, .ref bk, .int un, .ref mb, .ref mu, .int mk, .ref rd, .ref cm, .ref wk, .ref pp, .ref so, .ref ty])), (so, .inl (cso, 60, .inl fso))]) [1, 0] rfl
            have hD9 := hD.sub (ws' := [(gt, .inr (9, [.int 6, .ref tp, .int td, .int fk, .int fpl, .ref bk, .int un, .ref mb, .ref mu, .int mk, .ref rd, .ref cm, .ref wk, .ref pp, .ref so, .ref ty])), (so, .inl (cso, 60, .inl fso))]) [1, 0] (by decide) rfl
            have hK9 := hK.sub (tys' := [(cso, .int)]) [0] rfl
            refine W.widen (k := 5) (n := 135) (by omega) (by omega) ?_
            exact W.iret hx hb hr (fun t ht hW => ⟨⟨_, (), rfl, trivial, 6, bk, un, fso, W9, T9, B9, gN.same hB9, hbk, by rw [ht]; exact hQ, va_K.moved hW.alike hKQ, by rw [ht]; exact hP9, va_K.moved hW.alike hK9, hD9⟩, hS.F ht⟩) hS.2.2 dX9_let_71
        · have tk_38 := c_nle (a := i2.toInt) (b := y_37.toInt) rfl rfl k_38
          refine lv_aload_n hx hb dX9_let_52 rfl (lv_at hl 2 rfl) ?_
          refine lv_iconst (v := 5) hx hb dX9_let_53 (by decide) ?_
          have hPc := hP.sub (ws' := [(gt, .inr (9, [.int st9, .ref tp, .int td, .int fk, .int fpl, .ref bk, .int un, .ref mb, .ref mu, .int mk, .ref rd, .ref cm, .ref wk, .ref pp, .ref so, .ref ty]))]) [0] rfl
          have hKc := hK.sub (tys' := []) [] rfl
          have hDc := hD.sub (ws' := [(gt, .inr (9, [.int st9, .ref tp, .int td, .int fk, .int fpl, .ref bk, .int un, .ref mb, .ref mu, .int mk, .ref rd, .ref cm, .ref wk, .ref pp, .ref so, .ref ty]))]) [0] (by decide) rfl
          have hFc := va_free (wc := [(gt, .inr (9, [.int st9, .ref tp, .int td, .int fk, .int fpl, .ref bk, .int un, .ref mb, .ref mu, .int mk, .ref rd, .ref cm, .ref wk, .ref pp, .ref so, .ref ty]))]) hD hS hA [0] rfl
          refine va_calli (va_runV (As := [.int 5]) (rest := []) ⟨hx, hb, hml, hown, hts⟩ (s_refuse l dC dI gt tp bk mb mu rd cm wk pp so ty st9 td fk fpl un mk H.size 5) (cwV 1 hts mg_X9_let_X9_refuse_80 rfl rfl rfl (by decide +kernel) ⟨Nat.le_of_ble_eq_true rfl, Nat.le_of_ble_eq_true rfl⟩) ⟨fun a U g mk q => by obtain ⟨q0, q1, qP, qK, qD⟩ := q; exact ⟨q0, q1, qP, va_K.moved (u := U) (U := U.calling g mk a) (Vm.Alike.refl U.vm) qK, qD⟩, va_recv hKc hPc (ci := 9) (q0 := 0) rfl rfl, fun U hU hW => ⟨rfl, by rw [hU], by rw [hU]; exact hPc, va_K.moved hW.alike hKc, hDc.weaken (fun _ _ _ _ => trivial)⟩⟩ rfl rfl hl.1 rfl (lv_room (Nat.le_of_ble_eq_true rfl)) dX9_let_54 ⟨Nat.le_of_ble_eq_true rfl, Nat.le_of_ble_eq_true rfl⟩) hS (fun q _ h => hFc q h) hFc (fun r_74 u t H1 locs ht hvm hw hB hz1 hk1 hS => ?_)
          obtain ⟨hP1, hK1, hD1⟩ := hB
          rw [ht] at hP1
          have hr_74 := hw
          obtain ⟨hP, hD⟩ := va_join (wr := [(so, .inl (cso, 60, .inl fso))]) (w1 := [(gt, .inr (9, [.int 5, .ref tp, .int td, .int fk, .int fpl, .ref bk, .int un, .ref mb, .ref mu, .int mk, .ref rd, .ref cm, .ref wk, .ref pp, .ref so, .ref ty]))]) hP hD [0] [1] rfl rfl (by decide) (by decide) hk1 hFc hP1 hD1
          generalize H1 = H at hP hS ⊢
          have hP : va_P (dC, dI) vwCl [(so, .inl (cso, 60, .inl fso)), (gt, .inr (9, [.int 5, .ref tp, .int td, .int fk, .int fpl, .ref bk, .int un, .ref mb, .ref mu, .int mk, .ref rd, .ref cm, .ref wk, .ref pp, .ref so, .ref ty]))] H := hP
          have hD : va_D A [(so, .inl (cso, 60, .inl fso)), (gt, .inr (9, [.int 5, .ref tp, .int td, .int fk, .int fpl, .ref bk, .int un, .ref mb, .ref mu, .int mk, .ref rd, .ref cm, .ref wk, .ref pp, .ref so, .ref ty]))] := hD
          have hQ := q_at hQ0 hQA hS
          have hP9 := hP.sub (ws' := [(gt, .inr (9, [.int 5, .ref tp, .int td, .int fk, .int fpl, .ref bk, .int un, .ref mb, .ref mu, .int mk, .ref rd, .ref cm, .ref wk, .ref pp, .ref so, .ref ty])), (so, .inl (cso, 60, .inl fso))]) [1, 0] rfl
          have hD9 := hD.sub (ws' := [(gt, .inr (9, [.int 5, .ref tp, .int td, .int fk, .int fpl, .ref bk, .int un, .ref mb, .ref mu, .int mk, .ref rd, .ref cm, .ref wk, .ref pp, .ref so, .ref ty])), (so, .inl (cso, 60, .inl fso))]) [1, 0] (by decide) rfl
          have hK9 := hK.sub (tys' := [(cso, .int)]) [0] rfl
          refine W.widen (k := 5) (n := 135) (by omega) (by omega) ?_
          exact W.iret hx hb hr (fun t ht hW => ⟨⟨_, (), rfl, trivial, 5, bk, un, fso, W9, T9, B9, gN.same hB9, hbk, by rw [ht]; exact hQ, va_K.moved hW.alike hKQ, by rw [ht]; exact hP9, va_K.moved hW.alike hK9, hD9⟩, hS.F ht⟩) hS.2.2 dX9_let_57
    · have tk_11 := c_nge (a := i2.toInt) (b := 0) rfl (by decide) k_11
      refine lv_aload_n hx hb dX9_let_11 rfl (lv_at hl 0 rfl) ?_
      refine lv_iconst (v := 1) hx hb dX9_let_12 (by decide) ?_
      have hPc := hP.sub (ws' := [(gt, .inr (9, [.int st9, .ref tp, .int td, .int fk, .int fpl, .ref bk, .int un, .ref mb, .ref mu, .int mk, .ref rd, .ref cm, .ref wk, .ref pp, .ref so, .ref ty]))]) [0] rfl
      have hKc := hK.sub (tys' := []) [] rfl
      have hDc := hD.sub (ws' := [(gt, .inr (9, [.int st9, .ref tp, .int td, .int fk, .int fpl, .ref bk, .int un, .ref mb, .ref mu, .int mk, .ref rd, .ref cm, .ref wk, .ref pp, .ref so, .ref ty]))]) [0] (by decide) rfl
      have hFc := va_free (wc := [(gt, .inr (9, [.int st9, .ref tp, .int td, .int fk, .int fpl, .ref bk, .int un, .ref mb, .ref mu, .int mk, .ref rd, .ref cm, .ref wk, .ref pp, .ref so, .ref ty]))]) hD hS hA [0] rfl
      refine va_calli (va_runV (As := [.int 1]) (rest := []) ⟨hx, hb, hml, hown, hts⟩ (s_refuse l dC dI gt tp bk mb mu rd cm wk pp so ty st9 td fk fpl un mk H.size 1) (cwV 1 hts mg_X9_let_X9_refuse_80 rfl rfl rfl (by decide +kernel) ⟨Nat.le_of_ble_eq_true rfl, Nat.le_of_ble_eq_true rfl⟩) ⟨fun a U g mk q => by obtain ⟨q0, q1, qP, qK, qD⟩ := q; exact ⟨q0, q1, qP, va_K.moved (u := U) (U := U.calling g mk a) (Vm.Alike.refl U.vm) qK, qD⟩, va_recv hKc hPc (ci := 9) (q0 := 0) rfl rfl, fun U hU hW => ⟨rfl, by rw [hU], by rw [hU]; exact hPc, va_K.moved hW.alike hKc, hDc.weaken (fun _ _ _ _ => trivial)⟩⟩ rfl rfl hl.1 rfl (lv_room (Nat.le_of_ble_eq_true rfl)) dX9_let_13 ⟨Nat.le_of_ble_eq_true rfl, Nat.le_of_ble_eq_true rfl⟩) hS (fun q _ h => hFc q h) hFc (fun r_76 u t H1 locs ht hvm hw hB hz1 hk1 hS => ?_)
      obtain ⟨hP1, hK1, hD1⟩ := hB
      rw [ht] at hP1
      have hr_76 := hw
      obtain ⟨hP, hD⟩ := va_join (wr := [(so, .inl (cso, 60, .inl fso))]) (w1 := [(gt, .inr (9, [.int 1, .ref tp, .int td, .int fk, .int fpl, .ref bk, .int un, .ref mb, .ref mu, .int mk, .ref rd, .ref cm, .ref wk, .ref pp, .ref so, .ref ty]))]) hP hD [0] [1] rfl rfl (by decide) (by decide) hk1 hFc hP1 hD1
      generalize H1 = H at hP hS ⊢
      have hP : va_P (dC, dI) vwCl [(so, .inl (cso, 60, .inl fso)), (gt, .inr (9, [.int 1, .ref tp, .int td, .int fk, .int fpl, .ref bk, .int un, .ref mb, .ref mu, .int mk, .ref rd, .ref cm, .ref wk, .ref pp, .ref so, .ref ty]))] H := hP
      have hD : va_D A [(so, .inl (cso, 60, .inl fso)), (gt, .inr (9, [.int 1, .ref tp, .int td, .int fk, .int fpl, .ref bk, .int un, .ref mb, .ref mu, .int mk, .ref rd, .ref cm, .ref wk, .ref pp, .ref so, .ref ty]))] := hD
      have hQ := q_at hQ0 hQA hS
      have hP9 := hP.sub (ws' := [(gt, .inr (9, [.int 1, .ref tp, .int td, .int fk, .int fpl, .ref bk, .int un, .ref mb, .ref mu, .int mk, .ref rd, .ref cm, .ref wk, .ref pp, .ref so, .ref ty])), (so, .inl (cso, 60, .inl fso))]) [1, 0] rfl
      have hD9 := hD.sub (ws' := [(gt, .inr (9, [.int 1, .ref tp, .int td, .int fk, .int fpl, .ref bk, .int un, .ref mb, .ref mu, .int mk, .ref rd, .ref cm, .ref wk, .ref pp, .ref so, .ref ty])), (so, .inl (cso, 60, .inl fso))]) [1, 0] (by decide) rfl
      have hK9 := hK.sub (tys' := [(cso, .int)]) [0] rfl
      refine W.widen (k := 5) (n := 135) (by omega) (by omega) ?_
      exact W.iret hx hb hr (fun t ht hW => ⟨⟨_, (), rfl, trivial, 1, bk, un, fso, W9, T9, B9, gN.same hB9, hbk, by rw [ht]; exact hQ, va_K.moved hW.alike hKQ, by rw [ht]; exact hP9, va_K.moved hW.alike hK9, hD9⟩, hS.F ht⟩) hS.2.2 dX9_let_16
theorem dX9_cut_0 : decode cX9_cut 0 = .ok (.iload_n 2, 1) := by decide +kernel
theorem dX9_cut_1 : decode cX9_cut 1 = .ok (.ifCond .lt 8, 3) := by decide +kernel
theorem dX9_cut_4 : decode cX9_cut 4 = .ok (.iload_n 3, 1) := by decide +kernel
theorem dX9_cut_5 : decode cX9_cut 5 = .ok (.iconst 1, 1) := by decide +kernel
theorem dX9_cut_6 : decode cX9_cut 6 = .ok (.if_icmp .ge 9, 3) := by decide +kernel
theorem dX9_cut_9 : decode cX9_cut 9 = .ok (.aload_n 0, 1) := by decide +kernel
theorem dX9_cut_10 : decode cX9_cut 10 = .ok (.iconst 1, 1) := by decide +kernel
theorem dX9_cut_11 : decode cX9_cut 11 = .ok (.invokevirtual 80, 3) := by decide +kernel
theorem dX9_cut_14 : decode cX9_cut 14 = .ok (.ireturn, 1) := by decide +kernel
theorem dX9_cut_15 : decode cX9_cut 15 = .ok (.aload_n 0, 1) := by decide +kernel
theorem dX9_cut_16 : decode cX9_cut 16 = .ok (.getfield 29, 3) := by decide +kernel
theorem dX9_cut_19 : decode cX9_cut 19 = .ok (.iload_n 1, 1) := by decide +kernel
theorem dX9_cut_20 : decode cX9_cut 20 = .ok (.invokevirtual 123, 3) := by decide +kernel
theorem dX9_cut_23 : decode cX9_cut 23 = .ok (.astore 4, 2) := by decide +kernel
theorem dX9_cut_25 : decode cX9_cut 25 = .ok (.aload 4, 2) := by decide +kernel
theorem dX9_cut_27 : decode cX9_cut 27 = .ok (.ifnonnull 9, 3) := by decide +kernel
theorem dX9_cut_30 : decode cX9_cut 30 = .ok (.aload_n 0, 1) := by decide +kernel
theorem dX9_cut_31 : decode cX9_cut 31 = .ok (.iconst 2, 1) := by decide +kernel
theorem dX9_cut_32 : decode cX9_cut 32 = .ok (.invokevirtual 80, 3) := by decide +kernel
theorem dX9_cut_35 : decode cX9_cut 35 = .ok (.ireturn, 1) := by decide +kernel
theorem dX9_cut_36 : decode cX9_cut 36 = .ok (.aload 4, 2) := by decide +kernel
theorem dX9_cut_38 : decode cX9_cut 38 = .ok (.getfield 127, 3) := by decide +kernel
theorem dX9_cut_41 : decode cX9_cut 41 = .ok (.arraylength, 1) := by decide +kernel
theorem dX9_cut_42 : decode cX9_cut 42 = .ok (.istore 5, 2) := by decide +kernel
theorem dX9_cut_44 : decode cX9_cut 44 = .ok (.iload_n 2, 1) := by decide +kernel
theorem dX9_cut_45 : decode cX9_cut 45 = .ok (.iload 5, 2) := by decide +kernel
theorem dX9_cut_47 : decode cX9_cut 47 = .ok (.if_icmp .ge 11, 3) := by decide +kernel
theorem dX9_cut_50 : decode cX9_cut 50 = .ok (.iload_n 3, 1) := by decide +kernel
theorem dX9_cut_51 : decode cX9_cut 51 = .ok (.iload 5, 2) := by decide +kernel
theorem dX9_cut_53 : decode cX9_cut 53 = .ok (.iload_n 2, 1) := by decide +kernel
theorem dX9_cut_54 : decode cX9_cut 54 = .ok (.isub, 1) := by decide +kernel
theorem dX9_cut_55 : decode cX9_cut 55 = .ok (.if_icmp .le 9, 3) := by decide +kernel
theorem dX9_cut_58 : decode cX9_cut 58 = .ok (.aload_n 0, 1) := by decide +kernel
theorem dX9_cut_59 : decode cX9_cut 59 = .ok (.iconst 5, 1) := by decide +kernel
theorem dX9_cut_60 : decode cX9_cut 60 = .ok (.invokevirtual 80, 3) := by decide +kernel
theorem dX9_cut_63 : decode cX9_cut 63 = .ok (.ireturn, 1) := by decide +kernel
theorem dX9_cut_64 : decode cX9_cut 64 = .ok (.iload 5, 2) := by decide +kernel
theorem dX9_cut_66 : decode cX9_cut 66 = .ok (.iload_n 3, 1) := by decide +kernel
theorem dX9_cut_67 : decode cX9_cut 67 = .ok (.isub, 1) := by decide +kernel
theorem dX9_cut_68 : decode cX9_cut 68 = .ok (.istore 6, 2) := by decide +kernel
theorem dX9_cut_70 : decode cX9_cut 70 = .ok (.iload 6, 2) := by decide +kernel
theorem dX9_cut_72 : decode cX9_cut 72 = .ok (.ifCond .ne 10, 3) := by decide +kernel
theorem dX9_cut_75 : decode cX9_cut 75 = .ok (.aload_n 0, 1) := by decide +kernel
theorem dX9_cut_76 : decode cX9_cut 76 = .ok (.bipush 6, 2) := by decide +kernel
theorem dX9_cut_78 : decode cX9_cut 78 = .ok (.invokevirtual 80, 3) := by decide +kernel
theorem dX9_cut_81 : decode cX9_cut 81 = .ok (.ireturn, 1) := by decide +kernel
theorem dX9_cut_82 : decode cX9_cut 82 = .ok (.iload 6, 2) := by decide +kernel
theorem dX9_cut_84 : decode cX9_cut 84 = .ok (.newarray .int, 2) := by decide +kernel
theorem dX9_cut_86 : decode cX9_cut 86 = .ok (.astore 7, 2) := by decide +kernel
theorem dX9_cut_88 : decode cX9_cut 88 = .ok (.aload 4, 2) := by decide +kernel
theorem dX9_cut_90 : decode cX9_cut 90 = .ok (.getfield 127, 3) := by decide +kernel
theorem dX9_cut_93 : decode cX9_cut 93 = .ok (.iconst 0, 1) := by decide +kernel
theorem dX9_cut_94 : decode cX9_cut 94 = .ok (.aload 7, 2) := by decide +kernel
theorem dX9_cut_96 : decode cX9_cut 96 = .ok (.iconst 0, 1) := by decide +kernel
theorem dX9_cut_97 : decode cX9_cut 97 = .ok (.iload_n 2, 1) := by decide +kernel
theorem dX9_cut_98 : decode cX9_cut 98 = .ok (.invokestatic 255, 3) := by decide +kernel
theorem dX9_cut_101 : decode cX9_cut 101 = .ok (.aload 4, 2) := by decide +kernel
theorem dX9_cut_103 : decode cX9_cut 103 = .ok (.getfield 127, 3) := by decide +kernel
theorem dX9_cut_106 : decode cX9_cut 106 = .ok (.iload_n 2, 1) := by decide +kernel
theorem dX9_cut_107 : decode cX9_cut 107 = .ok (.iload_n 3, 1) := by decide +kernel
theorem dX9_cut_108 : decode cX9_cut 108 = .ok (.iadd, 1) := by decide +kernel
theorem dX9_cut_109 : decode cX9_cut 109 = .ok (.aload 7, 2) := by decide +kernel
theorem dX9_cut_111 : decode cX9_cut 111 = .ok (.iload_n 2, 1) := by decide +kernel
theorem dX9_cut_112 : decode cX9_cut 112 = .ok (.iload 6, 2) := by decide +kernel
theorem dX9_cut_114 : decode cX9_cut 114 = .ok (.iload_n 2, 1) := by decide +kernel
theorem dX9_cut_115 : decode cX9_cut 115 = .ok (.isub, 1) := by decide +kernel
theorem dX9_cut_116 : decode cX9_cut 116 = .ok (.invokestatic 255, 3) := by decide +kernel
theorem dX9_cut_119 : decode cX9_cut 119 = .ok (.aload_n 0, 1) := by decide +kernel
theorem dX9_cut_120 : decode cX9_cut 120 = .ok (.aload_n 0, 1) := by decide +kernel
theorem dX9_cut_121 : decode cX9_cut 121 = .ok (.getfield 29, 3) := by decide +kernel
theorem dX9_cut_124 : decode cX9_cut 124 = .ok (.iload_n 1, 1) := by decide +kernel
theorem dX9_cut_125 : decode cX9_cut 125 = .ok (.aload 7, 2) := by decide +kernel
theorem dX9_cut_127 : decode cX9_cut 127 = .ok (.aload_n 0, 1) := by decide +kernel
theorem dX9_cut_128 : decode cX9_cut 128 = .ok (.getfield 64, 3) := by decide +kernel
theorem dX9_cut_131 : decode cX9_cut 131 = .ok (.invokestatic 247, 3) := by decide +kernel
theorem dX9_cut_134 : decode cX9_cut 134 = .ok (.invokevirtual 251, 3) := by decide +kernel
theorem dX9_cut_137 : decode cX9_cut 137 = .ok (.invokevirtual 92, 3) := by decide +kernel
theorem dX9_cut_140 : decode cX9_cut 140 = .ok (.aload_n 0, 1) := by decide +kernel
theorem dX9_cut_141 : decode cX9_cut 141 = .ok (.iload 6, 2) := by decide +kernel
theorem dX9_cut_143 : decode cX9_cut 143 = .ok (.invokevirtual 100, 3) := by decide +kernel
theorem dX9_cut_146 : decode cX9_cut 146 = .ok (.ireturn, 1) := by decide +kernel
def mwX9_cut : List Cond := .code yX9_cut cX9_cut 8 (some .int) :: (([.methodLink RX9 80 yX9_refuse, .instanceMethod yX9_refuse, .selects RX9 yX9_refuse yX9_refuse, .initialized RX9, .fieldLink RX9 29 "PatternGate" "book" "LPatternGate$Book;", .methodLink RX9 123 yX0_docAt, .instanceMethod yX0_docAt, .selects RX0 yX0_docAt yX0_docAt, .initialized RX0, .fieldLink RX9 127 "PatternGate$Doc" "letters" "[I", .arrayClass .int, .methodLink RX9 255 arraycopyName, .native arraycopyName, .static arraycopyName, .initialized "java/lang/System", .fieldLink RX9 64 "PatternGate" "sorted" "[I", .methodLink RX9 247 yX2_made, .static yX2_made, .initialized RX2, .methodLink RX9 251 yX0_withDoc, .instanceMethod yX0_withDoc, .selects RX0 yX0_withDoc yX0_withDoc, .methodLink RX9 92 yX9_act, .instanceMethod yX9_act, .selects RX9 yX9_act yX9_act, .methodLink RX9 100 yX9_answer, .instanceMethod yX9_answer, .selects RX9 yX9_answer yX9_answer] : List Cond) ++ (wsX90 ++ (wsX20 ++ (mwX9_refuse ++ (mwX0_docAt ++ (mwX2_made ++ (mwX0_withDoc ++ (mwX9_act ++ (mwX9_answer)))))))))
theorem fin_X9_cut_X2 : ∀ w ∈ wsX20, w ∈ mwX9_cut := fun w h => List.mem_cons_of_mem _ (List.mem_append_right _ (List.mem_append_right _ (List.mem_append_left _ h)))
theorem fin_X9_cut_X9 : ∀ w ∈ wsX90, w ∈ mwX9_cut := fun w h => List.mem_cons_of_mem _ (List.mem_append_right _ (List.mem_append_left _ h))
set_option maxRecDepth 20000 in
theorem mg_X9_cut_X9_refuse_80 : GoodIn mwX9_cut (wsV RX9 80 RX9 yX9_refuse mwX9_refuse) := gi_app (A := [.methodLink RX9 80 yX9_refuse, .instanceMethod yX9_refuse, .selects RX9 yX9_refuse yX9_refuse, .initialized RX9]) (goodIn_r _ [1, 2, 3, 4] (by decide +kernel) (by decide +kernel)) (gi_sub gd_mwX9_refuse (fun w h => List.mem_cons_of_mem _ (List.mem_append_right _ (List.mem_append_right _ (List.mem_append_right _ (List.mem_append_left _ h))))))
set_option maxRecDepth 20000 in
theorem mg_X9_cut_X0_docAt_123 : GoodIn mwX9_cut (wsV RX9 123 RX0 yX0_docAt mwX0_docAt) := gi_app (A := [.methodLink RX9 123 yX0_docAt, .instanceMethod yX0_docAt, .selects RX0 yX0_docAt yX0_docAt, .initialized RX0]) (goodIn_r _ [6, 7, 8, 9] (by decide +kernel) (by decide +kernel)) (gi_sub gd_mwX0_docAt (fun w h => List.mem_cons_of_mem _ (List.mem_append_right _ (List.mem_append_right _ (List.mem_append_right _ (List.mem_append_right _ (List.mem_append_left _ h)))))))
set_option maxRecDepth 20000 in
theorem mg_X9_cut_X2_made_247 : GoodIn mwX9_cut (va_wsS RX9 247 yX2_made mwX2_made) := gi_app (A := [.methodLink RX9 247 yX2_made, .static yX2_made, .initialized RX2]) (goodIn_r _ [17, 18, 19] (by decide +kernel) (by decide +kernel)) (gi_sub gd_mwX2_made (fun w h => List.mem_cons_of_mem _ (List.mem_append_right _ (List.mem_append_right _ (List.mem_append_right _ (List.mem_append_right _ (List.mem_append_right _ (List.mem_append_left _ h))))))))
set_option maxRecDepth 20000 in
theorem mg_X9_cut_X0_withDoc_251 : GoodIn mwX9_cut (wsV RX9 251 RX0 yX0_withDoc mwX0_withDoc) := gi_app (A := [.methodLink RX9 251 yX0_withDoc, .instanceMethod yX0_withDoc, .selects RX0 yX0_withDoc yX0_withDoc, .initialized RX0]) (goodIn_r _ [20, 21, 22, 9] (by decide +kernel) (by decide +kernel)) (gi_sub gd_mwX0_withDoc (fun w h => List.mem_cons_of_mem _ (List.mem_append_right _ (List.mem_append_right _ (List.mem_append_right _ (List.mem_append_right _ (List.mem_append_right _ (List.mem_append_right _ (List.mem_append_left _ h)))))))))
set_option maxRecDepth 20000 in
theorem mg_X9_cut_X9_act_92 : GoodIn mwX9_cut (wsV RX9 92 RX9 yX9_act mwX9_act) := gi_app (A := [.methodLink RX9 92 yX9_act, .instanceMethod yX9_act, .selects RX9 yX9_act yX9_act, .initialized RX9]) (goodIn_r _ [23, 24, 25, 4] (by decide +kernel) (by decide +kernel)) (gi_sub gd_mwX9_act (fun w h => List.mem_cons_of_mem _ (List.mem_append_right _ (List.mem_append_right _ (List.mem_append_right _ (List.mem_append_right _ (List.mem_append_right _ (List.mem_append_right _ (List.mem_append_right _ (List.mem_append_left _ h))))))))))
set_option maxRecDepth 20000 in
theorem mg_X9_cut_X9_answer_100 : GoodIn mwX9_cut (wsV RX9 100 RX9 yX9_answer mwX9_answer) := gi_app (A := [.methodLink RX9 100 yX9_answer, .instanceMethod yX9_answer, .selects RX9 yX9_answer yX9_answer, .initialized RX9]) (goodIn_r _ [26, 27, 28, 4] (by decide +kernel) (by decide +kernel)) (gi_sub gd_mwX9_answer (fun w h => List.mem_cons_of_mem _ (List.mem_append_right _ (List.mem_append_right _ (List.mem_append_right _ (List.mem_append_right _ (List.mem_append_right _ (List.mem_append_right _ (List.mem_append_right _ (List.mem_append_right _ (h)))))))))))
set_option maxHeartbeats 4000000 in
set_option maxRecDepth 100000 in
/-- gate: cut -/
theorem s_g_cut (l : Launch) (dC : Nat → ClassId) (dI : Nat → Nat → Nat) (W9 : va_W) (T9 : List (ClassId × FieldType)) (B9 : Nat → Prop) (gt tp bk mb mu rd cm wk pp so ty : Nat) (st9 td fk fpl un mk : Int32) (cso : ClassId) (fso : Nat → Int32) (sz : Nat) (i1 i2 i3 : Int32) (hB9 : gB W9 T9 B9) (hbk : B9 bk) : Met l yX9_cut mwX9_cut ({ frames := 5, cells := 5, slots := 135, locals := 300 }) (va_Pc [.ref gt, .int i1, .int i2, .int i3] (fun U => U.heap.size = sz ∧ va_P (dC, dI) vwCl ([(gt, .inr (9, [.int st9, .ref tp, .int td, .int fk, .int fpl, .ref bk, .int un, .ref mb, .ref mu, .int mk, .ref rd, .ref cm, .ref wk, .ref pp, .ref so, .ref ty])), (so, .inl (cso, 60, .inl fso))]) U.heap ∧ va_K (dC, dI) vwCl ([(cso, .int)]) U ∧ va_D (fun _ => True) ([(gt, .inr (9, [.int st9, .ref tp, .int td, .int fk, .int fpl, .ref bk, .int un, .ref mb, .ref mu, .int mk, .ref rd, .ref cm, .ref wk, .ref pp, .ref so, .ref ty])), (so, .inl (cso, 60, .inl fso))]) ∧ va_Nw (.castable "[I" "java/lang/Cloneable") U ∧ va_Nw (.castable "[LPatternGate$Doc;" "java/lang/Cloneable") U ∧ va_P (dC, dI) vwCl W9 U.heap ∧ va_K (dC, dI) vwCl T9 U ∧ (∀ q ∈ W9, ¬ va_A ([(gt, .inr (9, [.int st9, .ref tp, .int td, .int fk, .int fpl, .ref bk, .int un, .ref mb, .ref mu, .int mk, .ref rd, .ref cm, .ref wk, .ref pp, .ref so, .ref ty])), (so, .inl (cso, 60, .inl fso))]) sz q.1))) (va_Qi (fun (_ : Int32) (_ : Unit) => True) (fun _ t => ∃ (y0 : Int32) (b9 : Nat) (y6 : Int32) (f9 : Nat → Int32) (W2 : va_W) (T2 : List (ClassId × FieldType)) (B2 : Nat → Prop), gN W9 W2 T9 T2 B9 B2 sz ∧ B2 b9 ∧ va_P (dC, dI) vwCl W2 t.heap ∧ va_K (dC, dI) vwCl T2 t ∧ va_P (dC, dI) vwCl [(gt, .inr (9, [.int y0, .ref tp, .int td, .int fk, .int fpl, .ref b9, .int y6, .ref mb, .ref mu, .int mk, .ref rd, .ref cm, .ref wk, .ref pp, .ref so, .ref ty])), (so, .inl (cso, 60, .inl f9))] t.heap ∧ va_K (dC, dI) vwCl [(cso, .int)] t ∧ va_D (va_A ([(gt, .inr (9, [.int st9, .ref tp, .int td, .int fk, .int fpl, .ref bk, .int un, .ref mb, .ref mu, .int mk, .ref rd, .ref cm, .ref wk, .ref pp, .ref so, .ref ty])), (so, .inl (cso, 60, .inl fso))]) sz) [(gt, .inr (9, [.int y0, .ref tp, .int td, .int fk, .int fpl, .ref b9, .int y6, .ref mb, .ref mu, .int mk, .ref rd, .ref cm, .ref wk, .ref pp, .ref so, .ref ty])), (so, .inl (cso, 60, .inl f9))]) (va_A ([(gt, .inr (9, [.int st9, .ref tp, .int td, .int fk, .int fpl, .ref bk, .int un, .ref mb, .ref mu, .int mk, .ref rd, .ref cm, .ref wk, .ref pp, .ref so, .ref ty])), (so, .inl (cso, 60, .inl fso))]) sz)) 5 135 (va_A ([(gt, .inr (9, [.int st9, .ref tp, .int td, .int fk, .int fpl, .ref bk, .int un, .ref mb, .ref mu, .int mk, .ref rd, .ref cm, .ref wk, .ref pp, .ref so, .ref ty])), (so, .inl (cso, 60, .inl fso))]) sz) := by
  refine Met.ofW (cc := cX9_cut) (maxL := 8) (ret := (some .int)) (by decide +kernel) rfl ?_
  intro p e s m args below meth c s₁ B hml hv
  obtain ⟨rfl, hsz, hP, hK, hD0, hcl, hcld, hQ0, hKQ, hQA⟩ := hv
  have hx := B.exec
  have hb := B.bytes
  have hr := B.returns
  have hts := atoms_spec (ws := mwX9_cut) B.pre
  have hown : s.vm.findClass RX9 = some m.cls := findClass_of_methodNamed B.named
  have hlocks := B.notSynchronized
  subst hsz
  have hD := hD0.self (sz := s.heap.size)
  generalize hAe : va_A ([(gt, .inr (9, [.int st9, .ref tp, .int td, .int fk, .int fpl, .ref bk, .int un, .ref mb, .ref mu, .int mk, .ref rd, .ref cm, .ref wk, .ref pp, .ref so, .ref ty])), (so, .inl (cso, 60, .inl fso))]) s.heap.size = A at hD hQA ⊢
  have hA : ∀ q : Nat, s.heap.size ≤ q → A q := fun q h => by rw [← hAe]; exact Or.inr h
  obtain ⟨sz9, hz9⟩ : ∃ n : Nat, n = s.heap.size := ⟨_, rfl⟩
  rw [← hz9]
  have hP : va_P (dC, dI) vwCl [(gt, .inr (9, [.int st9, .ref tp, .int td, .int fk, .int fpl, .ref bk, .int un, .ref mb, .ref mu, .int mk, .ref rd, .ref cm, .ref wk, .ref pp, .ref so, .ref ty])), (so, .inl (cso, 60, .inl fso))] s.heap := hP
  have hD : va_D A [(gt, .inr (9, [.int st9, .ref tp, .int td, .int fk, .int fpl, .ref bk, .int un, .ref mb, .ref mu, .int mk, .ref rd, .ref cm, .ref wk, .ref pp, .ref so, .ref ty])), (so, .inl (cso, 60, .inl fso))] := hD
  have hK : va_K (dC, dI) vwCl [(cso, .int)] s := hK
  generalize hH : s.heap = H at hP ⊢
  have hS : va_S A s.heap H [] := by rw [← hH]; exact va_S.rf
  have hQ := q_at hQ0 hQA hS
  have hl := lv_entry ([.ref gt, .int i1, .int i2, .int i3]) (n := 8) (Nat.le_of_ble_eq_true rfl)
  rw [lg_entry_eq]
  generalize (lg_sl ([.ref gt, .int i1, .int i2, .int i3]) ++ List.replicate (8 - (lg_sl ([.ref gt, .int i1, .int i2, .int i3])).length) Slot.unset).toArray = ls at hl ⊢
  have hl : lv_has ls 8 [(0, .ref gt), (1, .int i1), (2, .int i2), (3, .int i3)] := hl
  have rg_i1 := i_rng i1
  have rg_i2 := i_rng i2
  have rg_i3 := i_rng i3
  obtain ⟨ear, hB3, hear⟩ := hB9 bk hbk
  have hB0 := hB3.poB
  obtain ⟨ds, ps, nd, np, fd, fp, cD, cP, m1, m2, m3, m4, m5, hnd, hnp, hds, hps⟩ := id hB3
  obtain ⟨k_1, hk_1⟩ := List.getElem?_of_mem m1
  obtain ⟨k_2, hk_2⟩ := List.getElem?_of_mem m2
  obtain ⟨j_3, hj_3⟩ := List.getElem?_of_mem m3
  obtain ⟨k_4, hk_4⟩ := List.getElem?_of_mem m4
  obtain ⟨j_5, hj_5⟩ := List.getElem?_of_mem m5
  have r_un := i_rng un
  have r_mk := i_rng mk
  have r_td := i_rng td
  refine lv_iload_n hx hb dX9_cut_0 rfl (lv_at hl 2 rfl) ?_
  refine lv_if_lt (tgt := 9) hx hb dX9_cut_1 (by decide) (fun k_6 => ?_) (fun k_6 => ?_)
  · have tk_6 := c_lt (a := i2.toInt) (b := 0) rfl (by decide) k_6
    refine lv_aload_n hx hb dX9_cut_9 rfl (lv_at hl 0 rfl) ?_
    refine lv_iconst (v := 1) hx hb dX9_cut_10 (by decide) ?_
    have hPc := hP.sub (ws' := [(gt, .inr (9, [.int st9, .ref tp, .int td, .int fk, .int fpl, .ref bk, .int un, .ref mb, .ref mu, .int mk, .ref rd, .ref cm, .ref wk, .ref pp, .ref so, .ref ty]))]) [0] rfl
    have hKc := hK.sub (tys' := []) [] rfl
    have hDc := hD.sub (ws' := [(gt, .inr (9, [.int st9, .ref tp, .int td, .int fk, .int fpl, .ref bk, .int un, .ref mb, .ref mu, .int mk, .ref rd, .ref cm, .ref wk, .ref pp, .ref so, .ref ty]))]) [0] (by decide) rfl
    have hFc := va_free (wc := [(gt, .inr (9, [.int st9, .ref tp, .int td, .int fk, .int fpl, .ref bk, .int un, .ref mb, .ref mu, .int mk, .ref rd, .ref cm, .ref wk, .ref pp, .ref so, .ref ty]))]) hD hS hA [0] rfl
    refine va_calli (va_runV (As := [.int 1]) (rest := []) ⟨hx, hb, hml, hown, hts⟩ (s_refuse l dC dI gt tp bk mb mu rd cm wk pp so ty st9 td fk fpl un mk H.size 1) (cwV 1 hts mg_X9_cut_X9_refuse_80 rfl rfl rfl (by decide +kernel) ⟨Nat.le_of_ble_eq_true rfl, Nat.le_of_ble_eq_true rfl⟩) ⟨fun a U g mk q => by obtain ⟨q0, q1, qP, qK, qD⟩ := q; exact ⟨q0, q1, qP, va_K.moved (u := U) (U := U.calling g mk a) (Vm.Alike.refl U.vm) qK, qD⟩, va_recv hKc hPc (ci := 9) (q0 := 0) rfl rfl, fun U hU hW => ⟨rfl, by rw [hU], by rw [hU]; exact hPc, va_K.moved hW.alike hKc, hDc.weaken (fun _ _ _ _ => trivial)⟩⟩ rfl rfl hl.1 rfl (lv_room (Nat.le_of_ble_eq_true rfl)) dX9_cut_11 ⟨Nat.le_of_ble_eq_true rfl, Nat.le_of_ble_eq_true rfl⟩) hS (fun q _ h => hFc q h) hFc (fun r_8 u t H1 locs ht hvm hw hB hz1 hk1 hS => ?_)
    obtain ⟨hP1, hK1, hD1⟩ := hB
    rw [ht] at hP1
    have hr_8 := hw
    obtain ⟨hP, hD⟩ := va_join (wr := [(so, .inl (cso, 60, .inl fso))]) (w1 := [(gt, .inr (9, [.int 1, .ref tp, .int td, .int fk, .int fpl, .ref bk, .int un, .ref mb, .ref mu, .int mk, .ref rd, .ref cm, .ref wk, .ref pp, .ref so, .ref ty]))]) hP hD [0] [1] rfl rfl (by decide) (by decide) hk1 hFc hP1 hD1
    generalize H1 = H at hP hS ⊢
    have hP : va_P (dC, dI) vwCl [(so, .inl (cso, 60, .inl fso)), (gt, .inr (9, [.int 1, .ref tp, .int td, .int fk, .int fpl, .ref bk, .int un, .ref mb, .ref mu, .int mk, .ref rd, .ref cm, .ref wk, .ref pp, .ref so, .ref ty]))] H := hP
    have hD : va_D A [(so, .inl (cso, 60, .inl fso)), (gt, .inr (9, [.int 1, .ref tp, .int td, .int fk, .int fpl, .ref bk, .int un, .ref mb, .ref mu, .int mk, .ref rd, .ref cm, .ref wk, .ref pp, .ref so, .ref ty]))] := hD
    have hQ := q_at hQ0 hQA hS
    have hP9 := hP.sub (ws' := [(gt, .inr (9, [.int 1, .ref tp, .int td, .int fk, .int fpl, .ref bk, .int un, .ref mb, .ref mu, .int mk, .ref rd, .ref cm, .ref wk, .ref pp, .ref so, .ref ty])), (so, .inl (cso, 60, .inl fso))]) [1, 0] rfl
    have hD9 := hD.sub (ws' := [(gt, .inr (9, [.int 1, .ref tp, .int td, .int fk, .int fpl, .ref bk, .int un, .ref mb, .ref mu, .int mk, .ref rd, .ref cm, .ref wk, .ref pp, .ref so, .ref ty])), (so, .inl (cso, 60, .inl fso))]) [1, 0] (by decide) rfl
    have hK9 := hK.sub (tys' := [(cso, .int)]) [0] rfl
    refine W.widen (k := 5) (n := 135) (by omega) (by omega) ?_
    exact W.iret hx hb hr (fun t ht hW => ⟨⟨_, (), rfl, trivial, 1, bk, un, fso, W9, T9, B9, gN.same hB9, hbk, by rw [ht]; exact hQ, va_K.moved hW.alike hKQ, by rw [ht]; exact hP9, va_K.moved hW.alike hK9, hD9⟩, hS.F ht⟩) hS.2.2 dX9_cut_14
  · have tk_6 := c_nlt (a := i2.toInt) (b := 0) rfl (by decide) k_6
    refine lv_iload_n hx hb dX9_cut_4 rfl (lv_at hl 3 rfl) ?_
    refine lv_iconst (v := 1) hx hb dX9_cut_5 (by decide) ?_
    refine lv_icmp_ge (tgt := 15) hx hb dX9_cut_6 (by decide) (fun k_9 => ?_) (fun k_9 => ?_)
    · have tk_9 := c_ge (a := i3.toInt) (b := 1) rfl (by decide) k_9
      refine lv_aload_n hx hb dX9_cut_15 rfl (lv_at hl 0 rfl) ?_
      refine va_get (D := (dC, dI)) (ci := 9) (v := .ref bk) (C := RX9) (T := TX9) (N := 16) hx hb hts fin_X9_cut_X9 hown hK hP 0 rfl rfl 5 (by decide) (hts (.fieldLink RX9 29 "PatternGate" "book" "LPatternGate$Book;") (List.mem_of_getElem? (i := 5) (by decide +kernel))) (fun _ h9 => h9) rfl dX9_cut_16 ?_
      refine lv_iload_n hx hb dX9_cut_19 rfl (lv_at hl 1 rfl) ?_
      have hPc := hQ
      have hKc := hKQ
      refine va_csq (W.runV (As := [.int i1]) (rest := []) ⟨hx, hb, hml, hown, hts⟩ (s_docAt l dC dI W9 T9 bk i1 hB0) (cwV 1 hts mg_X9_cut_X0_docAt_123 rfl rfl rfl (by decide +kernel) ⟨Nat.le_of_ble_eq_true rfl, Nat.le_of_ble_eq_true rfl⟩) ⟨fun a U g mk q => by obtain ⟨q0, qP, qK⟩ := q; exact ⟨q0, qP, va_K.moved (u := U) (U := U.calling g mk a) (Vm.Alike.refl U.vm) qK⟩, va_recv hKc hPc (ci := 0) (q0 := k_1) rfl hk_1, fun U hU hW => ⟨rfl, by rw [hU]; exact hPc, va_K.moved hW.alike hKc⟩⟩ rfl rfl hl.1 rfl (lv_room (Nat.le_of_ble_eq_true rfl)) dX9_cut_20 ⟨Nat.le_of_ble_eq_true rfl, Nat.le_of_ble_eq_true rfl⟩) (fun r_11 hw => ?_)
      rcases hw with rfl | ⟨d_12, rfl, hd_12⟩
      · refine W.eq (g2 := F0 m 23 ls [.null]) rfl ?_
        refine lv_astoreN (lv' := [(4, .null), (0, .ref gt), (1, .int i1), (2, .int i2), (3, .int i3)]) hx hb dX9_cut_23 hl (by decide) rfl (fun ls hl => ?_)
        refine lv_aloadN hx hb dX9_cut_25 (lv_at hl 0 rfl) ?_
        refine lv_ifnonnullN hx hb dX9_cut_27 ?_
        refine lv_aload_n hx hb dX9_cut_30 rfl (lv_at hl 1 rfl) ?_
        refine lv_iconst (v := 2) hx hb dX9_cut_31 (by decide) ?_
        have hPc := hP.sub (ws' := [(gt, .inr (9, [.int st9, .ref tp, .int td, .int fk, .int fpl, .ref bk, .int un, .ref mb, .ref mu, .int mk, .ref rd, .ref cm, .ref wk, .ref pp, .ref so, .ref ty]))]) [0] rfl
        have hKc := hK.sub (tys' := []) [] rfl
        have hDc := hD.sub (ws' := [(gt, .inr (9, [.int st9, .ref tp, .int td, .int fk, .int fpl, .ref bk, .int un, .ref mb, .ref mu, .int mk, .ref rd, .ref cm, .ref wk, .ref pp, .ref so, .ref ty]))]) [0] (by decide) rfl
        have hFc := va_free (wc := [(gt, .inr (9, [.int st9, .ref tp, .int td, .int fk, .int fpl, .ref bk, .int un, .ref mb, .ref mu, .int mk, .ref rd, .ref cm, .ref wk, .ref pp, .ref so, .ref ty]))]) hD hS hA [0] rfl
        refine va_calli (va_runV (As := [.int 2]) (rest := []) ⟨hx, hb, hml, hown, hts⟩ (s_refuse l dC dI gt tp bk mb mu rd cm wk pp so ty st9 td fk fpl un mk H.size 2) (cwV 1 hts mg_X9_cut_X9_refuse_80 rfl rfl rfl (by decide +kernel) ⟨Nat.le_of_ble_eq_true rfl, Nat.le_of_ble_eq_true rfl⟩) ⟨fun a U g mk q => by obtain ⟨q0, q1, qP, qK, qD⟩ := q; exact ⟨q0, q1, qP, va_K.moved (u := U) (U := U.calling g mk a) (Vm.Alike.refl U.vm) qK, qD⟩, va_recv hKc hPc (ci := 9) (q0 := 0) rfl rfl, fun U hU hW => ⟨rfl, by rw [hU], by rw [hU]; exact hPc, va_K.moved hW.alike hKc, hDc.weaken (fun _ _ _ _ => trivial)⟩⟩ rfl rfl hl.1 rfl (lv_room (Nat.le_of_ble_eq_true rfl)) dX9_cut_32 ⟨Nat.le_of_ble_eq_true rfl, Nat.le_of_ble_eq_true rfl⟩) hS (fun q _ h => hFc q h) hFc (fun r_14 u t H1 locs ht hvm hw hB hz1 hk1 hS => ?_)
        obtain ⟨hP1, hK1, hD1⟩ := hB
        rw [ht] at hP1
        have hr_14 := hw
        obtain ⟨hP, hD⟩ := va_join (wr := [(so, .inl (cso, 60, .inl fso))]) (w1 := [(gt, .inr (9, [.int 2, .ref tp, .int td, .int fk, .int fpl, .ref bk, .int un, .ref mb, .ref mu, .int mk, .ref rd, .ref cm, .ref wk, .ref pp, .ref so, .ref ty]))]) hP hD [0] [1] rfl rfl (by decide) (by decide) hk1 hFc hP1 hD1
        generalize H1 = H at hP hS ⊢
        have hP : va_P (dC, dI) vwCl [(so, .inl (cso, 60, .inl fso)), (gt, .inr (9, [.int 2, .ref tp, .int td, .int fk, .int fpl, .ref bk, .int un, .ref mb, .ref mu, .int mk, .ref rd, .ref cm, .ref wk, .ref pp, .ref so, .ref ty]))] H := hP
        have hD : va_D A [(so, .inl (cso, 60, .inl fso)), (gt, .inr (9, [.int 2, .ref tp, .int td, .int fk, .int fpl, .ref bk, .int un, .ref mb, .ref mu, .int mk, .ref rd, .ref cm, .ref wk, .ref pp, .ref so, .ref ty]))] := hD
        have hQ := q_at hQ0 hQA hS
        have hP9 := hP.sub (ws' := [(gt, .inr (9, [.int 2, .ref tp, .int td, .int fk, .int fpl, .ref bk, .int un, .ref mb, .ref mu, .int mk, .ref rd, .ref cm, .ref wk, .ref pp, .ref so, .ref ty])), (so, .inl (cso, 60, .inl fso))]) [1, 0] rfl
        have hD9 := hD.sub (ws' := [(gt, .inr (9, [.int 2, .ref tp, .int td, .int fk, .int fpl, .ref bk, .int un, .ref mb, .ref mu, .int mk, .ref rd, .ref cm, .ref wk, .ref pp, .ref so, .ref ty])), (so, .inl (cso, 60, .inl fso))]) [1, 0] (by decide) rfl
        have hK9 := hK.sub (tys' := [(cso, .int)]) [0] rfl
        refine W.widen (k := 5) (n := 135) (by omega) (by omega) ?_
        exact W.iret hx hb hr (fun t ht hW => ⟨⟨_, (), rfl, trivial, 2, bk, un, fso, W9, T9, B9, gN.same hB9, hbk, by rw [ht]; exact hQ, va_K.moved hW.alike hKQ, by rw [ht]; exact hP9, va_K.moved hW.alike hK9, hD9⟩, hS.F ht⟩) hS.2.2 dX9_cut_35
      · refine W.eq (g2 := F0 m 23 ls [.ref d_12]) rfl ?_
        have hd_12D := hd_12
        obtain ⟨la_15, ta_16, m_17, n_18, fl_19, ft_20, cI_21, cJ_22, m_23, ⟨m_24, m_25⟩, ⟨m_26, m_27⟩, m_28, m_29⟩ := hd_12
        obtain ⟨k_30, hk_30⟩ := List.getElem?_of_mem m_23
        obtain ⟨k_31, hk_31⟩ := List.getElem?_of_mem m_24
        obtain ⟨j_32, hj_32⟩ := List.getElem?_of_mem m_25
        obtain ⟨k_33, hk_33⟩ := List.getElem?_of_mem m_26
        obtain ⟨j_34, hj_34⟩ := List.getElem?_of_mem m_27
        refine lv_astore (lv' := [(4, .ref d_12), (0, .ref gt), (1, .int i1), (2, .int i2), (3, .int i3)]) hx hb dX9_cut_23 hl (by decide) rfl (fun ls hl => ?_)
        refine lv_aload hx hb dX9_cut_25 (lv_at hl 0 rfl) ?_
        refine lv_ifnonnull (tgt := 36) hx hb dX9_cut_27 (by decide) ?_
        refine lv_aload hx hb dX9_cut_36 (lv_at hl 0 rfl) ?_
        refine va_get (D := (dC, dI)) (ci := 2) (v := .ref la_15) (C := RX2) (T := TX2) (N := 2) hx hb hts fin_X9_cut_X2 hown hKQ hQ k_30 hk_30 rfl 0 (by decide) (hts (.fieldLink RX9 127 "PatternGate$Doc" "letters" "[I") (List.mem_of_getElem? (i := 10) (by decide +kernel))) (fun _ h9 => h9) rfl dX9_cut_38 ?_
        refine va_alen hx hb hKQ hQ k_31 j_32 hk_31 hj_32 rfl dX9_cut_41 ?_
        refine lv_topi (fun y_35 ey_35 => ?_)
        have ty_35 : y_35.toInt = (m_17 : Int) := i_len ey_35 (by omega)
        refine lv_istore (lv' := [(5, .int y_35), (4, .ref d_12), (0, .ref gt), (1, .int i1), (2, .int i2), (3, .int i3)]) hx hb dX9_cut_42 hl (by decide) rfl (fun ls hl => ?_)
        refine lv_iload_n hx hb dX9_cut_44 rfl (lv_at hl 4 rfl) ?_
        refine lv_iload hx hb dX9_cut_45 (lv_at hl 0 rfl) ?_
        refine lv_icmp_ge (tgt := 58) hx hb dX9_cut_47 (by decide) (fun k_36 => ?_) (fun k_36 => ?_)
        · have tk_36 := c_ge (a := i2.toInt) (b := y_35.toInt) rfl rfl k_36
          refine lv_aload_n hx hb dX9_cut_58 rfl (lv_at hl 2 rfl) ?_
          refine lv_iconst (v := 5) hx hb dX9_cut_59 (by decide) ?_
          have hPc := hP.sub (ws' := [(gt, .inr (9, [.int st9, .ref tp, .int td, .int fk, .int fpl, .ref bk, .int un, .ref mb, .ref mu, .int mk, .ref rd, .ref cm, .ref wk, .ref pp, .ref so, .ref ty]))]) [0] rfl
          have hKc := hK.sub (tys' := []) [] rfl
          have hDc := hD.sub (ws' := [(gt, .inr (9, [.int st9, .ref tp, .int td, .int fk, .int fpl, .ref bk, .int un, .ref mb, .ref mu, .int mk, .ref rd, .ref cm, .ref wk, .ref pp, .ref so, .ref ty]))]) [0] (by decide) rfl
          have hFc := va_free (wc := [(gt, .inr (9, [.int st9, .ref tp, .int td, .int fk, .int fpl, .ref bk, .int un, .ref mb, .ref mu, .int mk, .ref rd, .ref cm, .ref wk, .ref pp, .ref so, .ref ty]))]) hD hS hA [0] rfl
          refine va_calli (va_runV (As := [.int 5]) (rest := []) ⟨hx, hb, hml, hown, hts⟩ (s_refuse l dC dI gt tp bk mb mu rd cm wk pp so ty st9 td fk fpl un mk H.size 5) (cwV 1 hts mg_X9_cut_X9_refuse_80 rfl rfl rfl (by decide +kernel) ⟨Nat.le_of_ble_eq_true rfl, Nat.le_of_ble_eq_true rfl⟩) ⟨fun a U g mk q => by obtain ⟨q0, q1, qP, qK, qD⟩ := q; exact ⟨q0, q1, qP, va_K.moved (u := U) (U := U.calling g mk a) (Vm.Alike.refl U.vm) qK, qD⟩, va_recv hKc hPc (ci := 9) (q0 := 0) rfl rfl, fun U hU hW => ⟨rfl, by rw [hU], by rw [hU]; exact hPc, va_K.moved hW.alike hKc, hDc.weaken (fun _ _ _ _ => trivial)⟩⟩ rfl rfl hl.1 rfl (lv_room (Nat.le_of_ble_eq_true rfl)) dX9_cut_60 ⟨Nat.le_of_ble_eq_true rfl, Nat.le_of_ble_eq_true rfl⟩) hS (fun q _ h => hFc q h) hFc (fun r_38 u t H1 locs ht hvm hw hB hz1 hk1 hS => ?_)
          obtain ⟨hP1, hK1, hD1⟩ := hB
          rw [ht] at hP1
          have hr_38 := hw
          obtain ⟨hP, hD⟩ := va_join (wr := [(so, .inl (cso, 60, .inl fso))]) (w1 := [(gt, .inr (9, [.int 5, .ref tp, .int td, .int fk, .int fpl, .ref bk, .int un, .ref mb, .ref mu, .int mk, .ref rd, .ref cm, .ref wk, .ref pp, .ref so, .ref ty]))]) hP hD [0] [1] rfl rfl (by decide) (by decide) hk1 hFc hP1 hD1
          generalize H1 = H at hP hS ⊢
          have hP : va_P (dC, dI) vwCl [(so, .inl (cso, 60, .inl fso)), (gt, .inr (9, [.int 5, .ref tp, .int td, .int fk, .int fpl, .ref bk, .int un, .ref mb, .ref mu, .int mk, .ref rd, .ref cm, .ref wk, .ref pp, .ref so, .ref ty]))] H := hP
          have hD : va_D A [(so, .inl (cso, 60, .inl fso)), (gt, .inr (9, [.int 5, .ref tp, .int td, .int fk, .int fpl, .ref bk, .int un, .ref mb, .ref mu, .int mk, .ref rd, .ref cm, .ref wk, .ref pp, .ref so, .ref ty]))] := hD
          have hQ := q_at hQ0 hQA hS
          have hP9 := hP.sub (ws' := [(gt, .inr (9, [.int 5, .ref tp, .int td, .int fk, .int fpl, .ref bk, .int un, .ref mb, .ref mu, .int mk, .ref rd, .ref cm, .ref wk, .ref pp, .ref so, .ref ty])), (so, .inl (cso, 60, .inl fso))]) [1, 0] rfl
          have hD9 := hD.sub (ws' := [(gt, .inr (9, [.int 5, .ref tp, .int td, .int fk, .int fpl, .ref bk, .int un, .ref mb, .ref mu, .int mk, .ref rd, .ref cm, .ref wk, .ref pp, .ref so, .ref ty])), (so, .inl (cso, 60, .inl fso))]) [1, 0] (by decide) rfl
          have hK9 := hK.sub (tys' := [(cso, .int)]) [0] rfl
          refine W.widen (k := 5) (n := 135) (by omega) (by omega) ?_
          exact W.iret hx hb hr (fun t ht hW => ⟨⟨_, (), rfl, trivial, 5, bk, un, fso, W9, T9, B9, gN.same hB9, hbk, by rw [ht]; exact hQ, va_K.moved hW.alike hKQ, by rw [ht]; exact hP9, va_K.moved hW.alike hK9, hD9⟩, hS.F ht⟩) hS.2.2 dX9_cut_63
        · have tk_36 := c_nge (a := i2.toInt) (b := y_35.toInt) rfl rfl k_36
          refine lv_iload_n hx hb dX9_cut_50 rfl (lv_at hl 5 rfl) ?_
          refine lv_iload hx hb dX9_cut_51 (lv_at hl 0 rfl) ?_
          refine lv_iload_n hx hb dX9_cut_53 rfl (lv_at hl 4 rfl) ?_
          refine lv_isub hx hb dX9_cut_54 ?_
          refine lv_topi (fun y_39 ey_39 => ?_)
          first | have ty_39 := i_sub (a := y_35.toInt) (b := i2.toInt) rfl rfl ey_39 (by omega) (by omega) | skip
          refine lv_icmp_le (tgt := 64) hx hb dX9_cut_55 (by decide) (fun k_40 => ?_) (fun k_40 => ?_)
          · have tk_40 := c_le (a := i3.toInt) (b := y_39.toInt) rfl rfl k_40
            refine lv_iload hx hb dX9_cut_64 (lv_at hl 0 rfl) ?_
            refine lv_iload_n hx hb dX9_cut_66 rfl (lv_at hl 5 rfl) ?_
            refine lv_isub hx hb dX9_cut_67 ?_
            refine lv_topi (fun y_41 ey_41 => ?_)
            first | have ty_41 := i_sub (a := y_35.toInt) (b := i3.toInt) rfl rfl ey_41 (by omega) (by omega) | skip
            refine lv_istore (lv' := [(6, .int y_41), (5, .int y_35), (4, .ref d_12), (0, .ref gt), (1, .int i1), (2, .int i2), (3, .int i3)]) hx hb dX9_cut_68 hl (by decide) rfl (fun ls hl => ?_)
            refine lv_iload hx hb dX9_cut_70 (lv_at hl 0 rfl) ?_
            refine lv_if_ne (tgt := 82) hx hb dX9_cut_72 (by decide) (fun k_42 => ?_) (fun k_42 => ?_)
            · have tk_42 := c_ne (a := y_41.toInt) (b := 0) rfl (by decide) k_42
              refine lv_iload hx hb dX9_cut_82 (lv_at hl 0 rfl) ?_
              obtain ⟨n_45, hn_45, en_45⟩ := nI_of (i_nn (x := y_41) rfl (by omega))
              have tn_45 : y_41.toInt = (n_45 : Int) := by rw [en_45]; exact nI_toInt hn_45
              have un_45 : n_45 ≤ 60 := by omega
              refine va_newa (atype := .int) (ty := .int) (n := y_41) (N' := n_45) (a0 := (n_45, .inl (fun _ => 0))) hx hb (hts (.arrayClass .int) (List.mem_of_getElem? (i := 11) (by decide +kernel))) rfl hK hP hD hS hA (fun _ => rfl) (i_nn rfl (by omega)) (by rw [en_45]; exact nI_clamp hn_45) (by show n_45 * 4 ≤ 536870912; omega) (Nat.le_of_ble_eq_true rfl) (Nat.le_trans (Nat.add_le_add_left un_45 _) (Nat.le_of_ble_eq_true rfl)) dX9_cut_84 (fun q_43 c_44 H hK hP hD hS => ?_)
              have hP : va_P (dC, dI) vwCl [(gt, .inr (9, [.int st9, .ref tp, .int td, .int fk, .int fpl, .ref bk, .int un, .ref mb, .ref mu, .int mk, .ref rd, .ref cm, .ref wk, .ref pp, .ref so, .ref ty])), (so, .inl (cso, 60, .inl fso)), (q_43, .inl (c_44, n_45, .inl (fun _ => 0)))] H := hP
              have hD : va_D A [(gt, .inr (9, [.int st9, .ref tp, .int td, .int fk, .int fpl, .ref bk, .int un, .ref mb, .ref mu, .int mk, .ref rd, .ref cm, .ref wk, .ref pp, .ref so, .ref ty])), (so, .inl (cso, 60, .inl fso)), (q_43, .inl (c_44, n_45, .inl (fun _ => 0)))] := hD
              have hQ := q_at hQ0 hQA hS
              have hK : va_K (dC, dI) vwCl [(cso, .int), (c_44, .int)] s := hK
              refine W.widen (k := 1) (n := 60) (by omega) (by omega) ?_
              refine lv_astore (lv' := [(7, .ref q_43), (6, .int y_41), (5, .int y_35), (4, .ref d_12), (0, .ref gt), (1, .int i1), (2, .int i2), (3, .int i3)]) hx hb dX9_cut_86 hl (by decide) rfl (fun ls hl => ?_)
              refine lv_aload hx hb dX9_cut_88 (lv_at hl 3 rfl) ?_
              refine va_get (D := (dC, dI)) (ci := 2) (v := .ref la_15) (C := RX2) (T := TX2) (N := 2) hx hb hts fin_X9_cut_X2 hown hKQ hQ k_30 hk_30 rfl 0 (by decide) (hts (.fieldLink RX9 127 "PatternGate$Doc" "letters" "[I") (List.mem_of_getElem? (i := 10) (by decide +kernel))) (fun _ h9 => h9) rfl dX9_cut_90 ?_
              refine lv_iconst (v := 0) hx hb dX9_cut_93 (by decide) ?_
              refine lv_aload hx hb dX9_cut_94 (lv_at hl 0 rfl) ?_
              refine lv_iconst (v := 0) hx hb dX9_cut_96 (by decide) ?_
              refine lv_iload_n hx hb dX9_cut_97 rfl (lv_at hl 6 rfl) ?_
              refine q_copyi hx hb (hml.trans hl.1.symm) hown (hts (.methodLink RX9 255 arraycopyName) (List.mem_of_getElem? (i := 12) (by decide +kernel))) (hts (.native arraycopyName) (List.mem_of_getElem? (i := 13) (by decide +kernel))) (hts (.static arraycopyName) (List.mem_of_getElem? (i := 14) (by decide +kernel))) (hts (.initialized "java/lang/System") (List.mem_of_getElem? (i := 15) (by decide +kernel))) hQ hKQ hK hP hD hS k_31 2 j_32 1 hk_31 rfl hj_32 rfl rfl (i_nn (a := 0) (by decide) (by omega)) (i_nn (a := 0) (by decide) (by omega)) (i_nn (a := i2.toInt) rfl (by omega)) (cp_le (a := 0) (b := i2.toInt) (by decide) rfl (by omega) (by omega) (by omega)) (cp_le (a := 0) (b := i2.toInt) (by decide) rfl (by omega) (by omega) (by omega)) (fun _ _ => rfl) (Nat.le_of_ble_eq_true rfl) (by decide +kernel) dX9_cut_98 (fun H locs hP hD hS => ?_)
              generalize hf_f_46 : va_cpy _ _ _ _ _ = f_46 at hP hD
              have hP : va_P (dC, dI) vwCl [(gt, .inr (9, [.int st9, .ref tp, .int td, .int fk, .int fpl, .ref bk, .int un, .ref mb, .ref mu, .int mk, .ref rd, .ref cm, .ref wk, .ref pp, .ref so, .ref ty])), (so, .inl (cso, 60, .inl fso)), (q_43, .inl (c_44, n_45, .inl f_46))] H := hP
              have hD : va_D A [(gt, .inr (9, [.int st9, .ref tp, .int td, .int fk, .int fpl, .ref bk, .int un, .ref mb, .ref mu, .int mk, .ref rd, .ref cm, .ref wk, .ref pp, .ref so, .ref ty])), (so, .inl (cso, 60, .inl fso)), (q_43, .inl (c_44, n_45, .inl f_46))] := hD
              have hQ := q_at hQ0 hQA hS
              refine lv_aload hx hb dX9_cut_101 (lv_at hl 3 rfl) ?_
              refine va_get (D := (dC, dI)) (ci := 2) (v := .ref la_15) (C := RX2) (T := TX2) (N := 2) hx hb hts fin_X9_cut_X2 hown hKQ hQ k_30 hk_30 rfl 0 (by decide) (hts (.fieldLink RX9 127 "PatternGate$Doc" "letters" "[I") (List.mem_of_getElem? (i := 10) (by decide +kernel))) (fun _ h9 => h9) rfl dX9_cut_103 ?_
              refine lv_iload_n hx hb dX9_cut_106 rfl (lv_at hl 6 rfl) ?_
              refine lv_iload_n hx hb dX9_cut_107 rfl (lv_at hl 7 rfl) ?_
              refine lv_iadd hx hb dX9_cut_108 ?_
              refine lv_topi (fun y_47 ey_47 => ?_)
              first | have ty_47 := i_add (a := i2.toInt) (b := i3.toInt) rfl rfl ey_47 (by omega) (by omega) | skip
              refine lv_aload hx hb dX9_cut_109 (lv_at hl 0 rfl) ?_
              refine lv_iload_n hx hb dX9_cut_111 rfl (lv_at hl 6 rfl) ?_
              refine lv_iload hx hb dX9_cut_112 (lv_at hl 1 rfl) ?_
              refine lv_iload_n hx hb dX9_cut_114 rfl (lv_at hl 6 rfl) ?_
              refine lv_isub hx hb dX9_cut_115 ?_
              refine lv_topi (fun y_48 ey_48 => ?_)
              first | have ty_48 := i_sub (a := y_41.toInt) (b := i2.toInt) rfl rfl ey_48 (by omega) (by omega) | skip
              refine q_copyi hx hb (hml.trans hl.1.symm) hown (hts (.methodLink RX9 255 arraycopyName) (List.mem_of_getElem? (i := 12) (by decide +kernel))) (hts (.native arraycopyName) (List.mem_of_getElem? (i := 13) (by decide +kernel))) (hts (.static arraycopyName) (List.mem_of_getElem? (i := 14) (by decide +kernel))) (hts (.initialized "java/lang/System") (List.mem_of_getElem? (i := 15) (by decide +kernel))) hQ hKQ hK hP hD hS k_31 2 j_32 1 hk_31 rfl hj_32 rfl rfl (i_nn (a := y_47.toInt) rfl (by omega)) (i_nn (a := i2.toInt) rfl (by omega)) (i_nn (a := y_48.toInt) rfl (by omega)) (cp_le (a := y_47.toInt) (b := y_48.toInt) rfl rfl (by omega) (by omega) (by omega)) (cp_le (a := i2.toInt) (b := y_48.toInt) rfl rfl (by omega) (by omega) (by omega)) (fun _ _ => rfl) (Nat.le_of_ble_eq_true rfl) (by decide +kernel) dX9_cut_116 (fun H locs hP hD hS => ?_)
              generalize hf_f_49 : va_cpy _ _ _ _ _ = f_49 at hP hD
              have hP : va_P (dC, dI) vwCl [(gt, .inr (9, [.int st9, .ref tp, .int td, .int fk, .int fpl, .ref bk, .int un, .ref mb, .ref mu, .int mk, .ref rd, .ref cm, .ref wk, .ref pp, .ref so, .ref ty])), (so, .inl (cso, 60, .inl fso)), (q_43, .inl (c_44, n_45, .inl f_49))] H := hP
              have hD : va_D A [(gt, .inr (9, [.int st9, .ref tp, .int td, .int fk, .int fpl, .ref bk, .int un, .ref mb, .ref mu, .int mk, .ref rd, .ref cm, .ref wk, .ref pp, .ref so, .ref ty])), (so, .inl (cso, 60, .inl fso)), (q_43, .inl (c_44, n_45, .inl f_49))] := hD
              have hQ := q_at hQ0 hQA hS
              refine lv_aload_n hx hb dX9_cut_119 rfl (lv_at hl 4 rfl) ?_
              refine lv_aload_n hx hb dX9_cut_120 rfl (lv_at hl 4 rfl) ?_
              refine va_get (D := (dC, dI)) (ci := 9) (v := .ref bk) (C := RX9) (T := TX9) (N := 16) hx hb hts fin_X9_cut_X9 hown hK hP 0 rfl rfl 5 (by decide) (hts (.fieldLink RX9 29 "PatternGate" "book" "LPatternGate$Book;") (List.mem_of_getElem? (i := 5) (by decide +kernel))) (fun _ h9 => h9) rfl dX9_cut_121 ?_
              refine lv_iload_n hx hb dX9_cut_124 rfl (lv_at hl 5 rfl) ?_
              refine lv_aload hx hb dX9_cut_125 (lv_at hl 0 rfl) ?_
              refine lv_aload_n hx hb dX9_cut_127 rfl (lv_at hl 4 rfl) ?_
              refine va_get (D := (dC, dI)) (ci := 9) (v := .ref so) (C := RX9) (T := TX9) (N := 16) hx hb hts fin_X9_cut_X9 hown hK hP 0 rfl rfl 14 (by decide) (hts (.fieldLink RX9 64 "PatternGate" "sorted" "[I") (List.mem_of_getElem? (i := 16) (by decide +kernel))) (fun _ h9 => h9) rfl dX9_cut_128 ?_
              have hPc := hP.sub (ws' := [(q_43, .inl (c_44, n_45, .inl f_49)), (so, .inl (cso, 60, .inl fso))]) [2, 1] rfl
              have hKc := hK.sub (tys' := [(c_44, .int), (cso, .int)]) [1, 0] rfl
              have hDc := hD.sub (ws' := [(q_43, .inl (c_44, n_45, .inl f_49)), (so, .inl (cso, 60, .inl fso))]) [2, 1] (by decide) rfl
              have hFc := va_free (wc := [(q_43, .inl (c_44, n_45, .inl f_49)), (so, .inl (cso, 60, .inl fso))]) hD hS hA [2, 1] rfl
              refine va_callr (va_runS (As := [.ref q_43, .ref so]) (rest := [.int i1, .ref bk, .ref gt]) ⟨hx, hb, hml, hown, hts⟩ (s_made l dC dI q_43 so n_45 60 c_44 cso f_49 fso H.size (by omega) (by omega)) (va_cwS 2 hts mg_X9_cut_X2_made_247 rfl rfl rfl (by decide +kernel) ⟨Nat.le_of_ble_eq_true rfl, Nat.le_of_ble_eq_true rfl⟩) ⟨fun a U g mk q => by obtain ⟨q0, q1, qP, qK, qD, qE0⟩ := q; exact ⟨q0, q1, qP, va_K.moved (u := U) (U := U.calling g mk a) (Vm.Alike.refl U.vm) qK, qD, va_Nw.same rfl (u := U) rfl qE0⟩, fun U hU hW => ⟨rfl, by rw [hU], by rw [hU]; exact hPc, va_K.moved hW.alike hKc, hDc.weaken (fun _ _ _ _ => trivial), nw_moved hW.alike hcl⟩⟩ rfl rfl hl.1 rfl (lv_room (Nat.le_of_ble_eq_true rfl)) dX9_cut_131 ⟨Nat.le_of_ble_eq_true rfl, Nat.le_of_ble_eq_true rfl⟩) hS (fun q _ h => hFc q h) hFc (fun u r_51 t H1 locs ht hvm hw hB hz1 hk1 hS => ?_)
              obtain ⟨q_52, n_53, f_54, f_55, c_56, tn_53, hP1, hK1, hD1⟩ := hB
              rw [ht] at hP1
              have hK := hK.app ((va_K.moved hvm.symm hK1).sub (tys' := [(c_56, .int)]) [2] rfl)
              have hK : va_K (dC, dI) vwCl [(cso, .int), (c_44, .int), (c_56, .int)] s := hK
              obtain ⟨hP, hD⟩ := va_join (wr := [(gt, .inr (9, [.int st9, .ref tp, .int td, .int fk, .int fpl, .ref bk, .int un, .ref mb, .ref mu, .int mk, .ref rd, .ref cm, .ref wk, .ref pp, .ref so, .ref ty]))]) (w1 := [(q_43, .inl (c_44, n_45, .inl f_49)), (so, .inl (cso, 60, .inl f_54)), (q_52, .inl (c_56, n_53, .inl f_55)), (r_51, .inr (2, [.ref q_43, .ref q_52]))]) hP hD [2, 1] [0] rfl rfl (by decide) (by decide) hk1 hFc hP1 hD1
              generalize H1 = H at hP hS ⊢
              have hP : va_P (dC, dI) vwCl [(gt, .inr (9, [.int st9, .ref tp, .int td, .int fk, .int fpl, .ref bk, .int un, .ref mb, .ref mu, .int mk, .ref rd, .ref cm, .ref wk, .ref pp, .ref so, .ref ty])), (q_43, .inl (c_44, n_45, .inl f_49)), (so, .inl (cso, 60, .inl f_54)), (q_52, .inl (c_56, n_53, .inl f_55)), (r_51, .inr (2, [.ref q_43, .ref q_52]))] H := hP
              have hD : va_D A [(gt, .inr (9, [.int st9, .ref tp, .int td, .int fk, .int fpl, .ref bk, .int un, .ref mb, .ref mu, .int mk, .ref rd, .ref cm, .ref wk, .ref pp, .ref so, .ref ty])), (q_43, .inl (c_44, n_45, .inl f_49)), (so, .inl (cso, 60, .inl f_54)), (q_52, .inl (c_56, n_53, .inl f_55)), (r_51, .inr (2, [.ref q_43, .ref q_52]))] := hD
              have hQ := q_at hQ0 hQA hS
              have hPc := hP.sub (ws' := [(r_51, .inr (2, [.ref q_43, .ref q_52]))]) [4] rfl
              have hKc := hK.sub (tys' := []) [] rfl
              have hDc := hD.sub (ws' := [(r_51, .inr (2, [.ref q_43, .ref q_52]))]) [4] (by decide) rfl
              have hFc := va_free (wc := [(r_51, .inr (2, [.ref q_43, .ref q_52]))]) hD hS hA [4] rfl
              refine va_callr (va_runV (As := [.int i1, .ref r_51]) (rest := [.ref gt]) ⟨hx, hb, hml, hown, hts⟩ (s_withDoc l dC dI W9 T9 bk ear r_51 q_43 q_52 H.size i1 hB3) (cwV 2 hts mg_X9_cut_X0_withDoc_251 rfl rfl rfl (by decide +kernel) ⟨Nat.le_of_ble_eq_true rfl, Nat.le_of_ble_eq_true rfl⟩) ⟨fun a U g mk q => by obtain ⟨q0, q1, qP, qK, qD, qE0, qE1, qE2, qE3⟩ := q; exact ⟨q0, q1, qP, va_K.moved (u := U) (U := U.calling g mk a) (Vm.Alike.refl U.vm) qK, qD, va_Nw.same rfl (u := U) rfl qE0, qE1, va_K.moved (u := U) (U := U.calling g mk a) (Vm.Alike.refl U.vm) qE2, qE3⟩, va_recv hKQ hQ (ci := 0) (q0 := k_1) rfl hk_1, fun U hU hW => ⟨rfl, by rw [hU], by rw [hU]; exact hPc, va_K.moved hW.alike hKc, hDc.weaken (fun _ _ _ _ => trivial), nw_moved hW.alike hcld, (by rw [hU]; exact hQ), va_K.moved hW.alike hKQ, (fun q hq => qA_sub (hQA q hq) hFc)⟩⟩ rfl rfl hl.1 rfl (lv_room (Nat.le_of_ble_eq_true rfl)) dX9_cut_134 ⟨Nat.le_of_ble_eq_true rfl, Nat.le_of_ble_eq_true rfl⟩) hS (fun q _ h => hFc q h) hFc (fun u r_58 t H1 locs ht hvm hw hB hz1 hk1 hS => ?_)
              obtain ⟨q_59, n_60, q_61, f_62, c_63, h_64, h_65, hP1, hK1, hD1⟩ := hB
              rw [ht] at hP1
              have hK := hK.app (va_K.moved hvm.symm hK1)
              have hK : va_K (dC, dI) vwCl [(cso, .int), (c_44, .int), (c_56, .int), (c_63, .object "PatternGate$Doc")] s := hK
              obtain ⟨hP, hD⟩ := va_join (wr := [(gt, .inr (9, [.int st9, .ref tp, .int td, .int fk, .int fpl, .ref bk, .int un, .ref mb, .ref mu, .int mk, .ref rd, .ref cm, .ref wk, .ref pp, .ref so, .ref ty])), (q_43, .inl (c_44, n_45, .inl f_49)), (so, .inl (cso, 60, .inl f_54)), (q_52, .inl (c_56, n_53, .inl f_55))]) (w1 := [(r_51, .inr (2, [.ref q_43, .ref q_52])), (q_59, .inl (c_63, n_60, .inr (.inr (.inr (.inr f_62))))), (r_58, .inr (0, [.ref q_59, .ref q_61, .ref bk]))]) hP hD [4] [0, 1, 2, 3] rfl rfl (by decide) (by decide) hk1 hFc hP1 hD1
              generalize H1 = H at hP hS ⊢
              have hP : va_P (dC, dI) vwCl [(gt, .inr (9, [.int st9, .ref tp, .int td, .int fk, .int fpl, .ref bk, .int un, .ref mb, .ref mu, .int mk, .ref rd, .ref cm, .ref wk, .ref pp, .ref so, .ref ty])), (q_43, .inl (c_44, n_45, .inl f_49)), (so, .inl (cso, 60, .inl f_54)), (q_52, .inl (c_56, n_53, .inl f_55)), (r_51, .inr (2, [.ref q_43, .ref q_52])), (q_59, .inl (c_63, n_60, .inr (.inr (.inr (.inr f_62))))), (r_58, .inr (0, [.ref q_59, .ref q_61, .ref bk]))] H := hP
              have hD : va_D A [(gt, .inr (9, [.int st9, .ref tp, .int td, .int fk, .int fpl, .ref bk, .int un, .ref mb, .ref mu, .int mk, .ref rd, .ref cm, .ref wk, .ref pp, .ref so, .ref ty])), (q_43, .inl (c_44, n_45, .inl f_49)), (so, .inl (cso, 60, .inl f_54)), (q_52, .inl (c_56, n_53, .inl f_55)), (r_51, .inr (2, [.ref q_43, .ref q_52])), (q_59, .inl (c_63, n_60, .inr (.inr (.inr (.inr f_62))))), (r_58, .inr (0, [.ref q_59, .ref q_61, .ref bk]))] := hD
              have hQ := q_at hQ0 hQA hS
              have hPc := hP.sub (ws' := [(gt, .inr (9, [.int st9, .ref tp, .int td, .int fk, .int fpl, .ref bk, .int un, .ref mb, .ref mu, .int mk, .ref rd, .ref cm, .ref wk, .ref pp, .ref so, .ref ty]))]) [0] rfl
              have hKc := hK.sub (tys' := []) [] rfl
              have hDc := hD.sub (ws' := [(gt, .inr (9, [.int st9, .ref tp, .int td, .int fk, .int fpl, .ref bk, .int un, .ref mb, .ref mu, .int mk, .ref rd, .ref cm, .ref wk, .ref pp, .ref so, .ref ty]))]) [0] (by decide) rfl
              have hFc := va_free (wc := [(gt, .inr (9, [.int st9, .ref tp, .int td, .int fk, .int fpl, .ref bk, .int un, .ref mb, .ref mu, .int mk, .ref rd, .ref cm, .ref wk, .ref pp, .ref so, .ref ty]))]) hD hS hA [0] rfl
              refine va_callv (va_runV (As := [.ref r_58]) (rest := []) ⟨hx, hb, hml, hown, hts⟩ (s_g_act l dC dI gt tp bk mb mu rd cm wk pp so ty st9 td fk fpl un mk r_58 H.size) (cwV 1 hts mg_X9_cut_X9_act_92 rfl rfl rfl (by decide +kernel) ⟨Nat.le_of_ble_eq_true rfl, Nat.le_of_ble_eq_true rfl⟩) ⟨fun a U g mk q => by obtain ⟨q0, q1, qP, qK, qD⟩ := q; exact ⟨q0, q1, qP, va_K.moved (u := U) (U := U.calling g mk a) (Vm.Alike.refl U.vm) qK, qD⟩, va_recv hKc hPc (ci := 9) (q0 := 0) rfl rfl, fun U hU hW => ⟨rfl, by rw [hU], by rw [hU]; exact hPc, va_K.moved hW.alike hKc, hDc.weaken (fun _ _ _ _ => trivial)⟩⟩ rfl rfl hl.1 rfl (lv_room (Nat.le_of_ble_eq_true rfl)) dX9_cut_137 ⟨Nat.le_of_ble_eq_true rfl, Nat.le_of_ble_eq_true rfl⟩) hS (fun q _ h => hFc q h) hFc (fun u t H1 locs ht hvm hw hB hz1 hk1 hS => ?_)
              obtain ⟨y_68, hP1, hK1, hD1⟩ := hB
              rw [ht] at hP1
              obtain ⟨hP, hD⟩ := va_join (wr := [(q_43, .inl (c_44, n_45, .inl f_49)), (so, .inl (cso, 60, .inl f_54)), (q_52, .inl (c_56, n_53, .inl f_55)), (r_51, .inr (2, [.ref q_43, .ref q_52])), (q_59, .inl (c_63, n_60, .inr (.inr (.inr (.inr f_62))))), (r_58, .inr (0, [.ref q_59, .ref q_61, .ref bk]))]) (w1 := [(gt, .inr (9, [.int st9, .ref tp, .int td, .int fk, .int fpl, .ref r_58, .int y_68, .ref mb, .ref mu, .int mk, .ref rd, .ref cm, .ref wk, .ref pp, .ref so, .ref ty]))]) hP hD [0] [1, 2, 3, 4, 5, 6] rfl rfl (by decide) (by decide) hk1 hFc hP1 hD1
              generalize H1 = H at hP hS ⊢
              have hP : va_P (dC, dI) vwCl [(q_43, .inl (c_44, n_45, .inl f_49)), (so, .inl (cso, 60, .inl f_54)), (q_52, .inl (c_56, n_53, .inl f_55)), (r_51, .inr (2, [.ref q_43, .ref q_52])), (q_59, .inl (c_63, n_60, .inr (.inr (.inr (.inr f_62))))), (r_58, .inr (0, [.ref q_59, .ref q_61, .ref bk])), (gt, .inr (9, [.int st9, .ref tp, .int td, .int fk, .int fpl, .ref r_58, .int y_68, .ref mb, .ref mu, .int mk, .ref rd, .ref cm, .ref wk, .ref pp, .ref so, .ref ty]))] H := hP
              have hD : va_D A [(q_43, .inl (c_44, n_45, .inl f_49)), (so, .inl (cso, 60, .inl f_54)), (q_52, .inl (c_56, n_53, .inl f_55)), (r_51, .inr (2, [.ref q_43, .ref q_52])), (q_59, .inl (c_63, n_60, .inr (.inr (.inr (.inr f_62))))), (r_58, .inr (0, [.ref q_59, .ref q_61, .ref bk])), (gt, .inr (9, [.int st9, .ref tp, .int td, .int fk, .int fpl, .ref r_58, .int y_68, .ref mb, .ref mu, .int mk, .ref rd, .ref cm, .ref wk, .ref pp, .ref so, .ref ty]))] := hD
              have hQ := q_at hQ0 hQA hS
              refine lv_aload_n hx hb dX9_cut_140 rfl (lv_at hl 4 rfl) ?_
              refine lv_iload hx hb dX9_cut_141 (lv_at hl 1 rfl) ?_
              have hPc := hP.sub (ws' := [(gt, .inr (9, [.int st9, .ref tp, .int td, .int fk, .int fpl, .ref r_58, .int y_68, .ref mb, .ref mu, .int mk, .ref rd, .ref cm, .ref wk, .ref pp, .ref so, .ref ty]))]) [6] rfl
              have hKc := hK.sub (tys' := []) [] rfl
              have hDc := hD.sub (ws' := [(gt, .inr (9, [.int st9, .ref tp, .int td, .int fk, .int fpl, .ref r_58, .int y_68, .ref mb, .ref mu, .int mk, .ref rd, .ref cm, .ref wk, .ref pp, .ref so, .ref ty]))]) [6] (by decide) rfl
              have hFc := va_free (wc := [(gt, .inr (9, [.int st9, .ref tp, .int td, .int fk, .int fpl, .ref r_58, .int y_68, .ref mb, .ref mu, .int mk, .ref rd, .ref cm, .ref wk, .ref pp, .ref so, .ref ty]))]) hD hS hA [6] rfl
              refine va_calli (va_runV (As := [.int y_41]) (rest := []) ⟨hx, hb, hml, hown, hts⟩ (s_answer l dC dI gt tp r_58 mb mu rd cm wk pp so ty st9 td fk fpl y_68 mk H.size y_41) (cwV 1 hts mg_X9_cut_X9_answer_100 rfl rfl rfl (by decide +kernel) ⟨Nat.le_of_ble_eq_true rfl, Nat.le_of_ble_eq_true rfl⟩) ⟨fun a U g mk q => by obtain ⟨q0, q1, qP, qK, qD⟩ := q; exact ⟨q0, q1, qP, va_K.moved (u := U) (U := U.calling g mk a) (Vm.Alike.refl U.vm) qK, qD⟩, va_recv hKc hPc (ci := 9) (q0 := 0) rfl rfl, fun U hU hW => ⟨rfl, by rw [hU], by rw [hU]; exact hPc, va_K.moved hW.alike hKc, hDc.weaken (fun _ _ _ _ => trivial)⟩⟩ rfl rfl hl.1 rfl (lv_room (Nat.le_of_ble_eq_true rfl)) dX9_cut_143 ⟨Nat.le_of_ble_eq_true rfl, Nat.le_of_ble_eq_true rfl⟩) hS (fun q _ h => hFc q h) hFc (fun r_70 u t H1 locs ht hvm hw hB hz1 hk1 hS => ?_)
              obtain ⟨hP1, hK1, hD1⟩ := hB
              rw [ht] at hP1
              have hr_70 := hw
              obtain ⟨hP, hD⟩ := va_join (wr := [(q_43, .inl (c_44, n_45, .inl f_49)), (so, .inl (cso, 60, .inl f_54)), (q_52, .inl (c_56, n_53, .inl f_55)), (r_51, .inr (2, [.ref q_43, .ref q_52])), (q_59, .inl (c_63, n_60, .inr (.inr (.inr (.inr f_62))))), (r_58, .inr (0, [.ref q_59, .ref q_61, .ref bk]))]) (w1 := [(gt, .inr (9, [.int 0, .ref tp, .int td, .int fk, .int fpl, .ref r_58, .int y_68, .ref mb, .ref mu, .int mk, .ref rd, .ref cm, .ref wk, .ref pp, .ref so, .ref ty]))]) hP hD [6] [0, 1, 2, 3, 4, 5] rfl rfl (by decide) (by decide) hk1 hFc hP1 hD1
              generalize H1 = H at hP hS ⊢
              have hP : va_P (dC, dI) vwCl [(q_43, .inl (c_44, n_45, .inl f_49)), (so, .inl (cso, 60, .inl f_54)), (q_52, .inl (c_56, n_53, .inl f_55)), (r_51, .inr (2, [.ref q_43, .ref q_52])), (q_59, .inl (c_63, n_60, .inr (.inr (.inr (.inr f_62))))), (r_58, .inr (0, [.ref q_59, .ref q_61, .ref bk])), (gt, .inr (9, [.int 0, .ref tp, .int td, .int fk, .int fpl, .ref r_58, .int y_68, .ref mb, .ref mu, .int mk, .ref rd, .ref cm, .ref wk, .ref pp, .ref so, .ref ty]))] H := hP
              have hD : va_D A [(q_43, .inl (c_44, n_45, .inl f_49)), (so, .inl (cso, 60, .inl f_54)), (q_52, .inl (c_56, n_53, .inl f_55)), (r_51, .inr (2, [.ref q_43, .ref q_52])), (q_59, .inl (c_63, n_60, .inr (.inr (.inr (.inr f_62))))), (r_58, .inr (0, [.ref q_59, .ref q_61, .ref bk])), (gt, .inr (9, [.int 0, .ref tp, .int td, .int fk, .int fpl, .ref r_58, .int y_68, .ref mb, .ref mu, .int mk, .ref rd, .ref cm, .ref wk, .ref pp, .ref so, .ref ty]))] := hD
              have hQ := q_at hQ0 hQA hS
              have hP9 := hP.sub (ws' := [(gt, .inr (9, [.int 0, .ref tp, .int td, .int fk, .int fpl, .ref r_58, .int y_68, .ref mb, .ref mu, .int mk, .ref rd, .ref cm, .ref wk, .ref pp, .ref so, .ref ty])), (so, .inl (cso, 60, .inl f_54))]) [6, 1] rfl
              have hD9 := hD.sub (ws' := [(gt, .inr (9, [.int 0, .ref tp, .int td, .int fk, .int fpl, .ref r_58, .int y_68, .ref mb, .ref mu, .int mk, .ref rd, .ref cm, .ref wk, .ref pp, .ref so, .ref ty])), (so, .inl (cso, 60, .inl f_54))]) [6, 1] (by decide) rfl
              have hK9 := hK.sub (tys' := [(cso, .int)]) [0] rfl
              refine W.widen (k := 5) (n := 135) (by omega) (by omega) ?_
              have hPn := hP.sub (ws' := [(q_43, .inl (c_44, n_45, .inl f_49)), (q_52, .inl (c_56, n_53, .inl f_55)), (r_51, .inr (2, [.ref q_43, .ref q_52])), (q_59, .inl (c_63, n_60, .inr (.inr (.inr (.inr f_62))))), (r_58, .inr (0, [.ref q_59, .ref q_61, .ref bk]))]) [0, 2, 3, 4, 5] rfl
              have hDz := hD.sub (ws' := [(gt, .inr (9, [.int 0, .ref tp, .int td, .int fk, .int fpl, .ref r_58, .int y_68, .ref mb, .ref mu, .int mk, .ref rd, .ref cm, .ref wk, .ref pp, .ref so, .ref ty])), (so, .inl (cso, 60, .inl f_54)), (q_43, .inl (c_44, n_45, .inl f_49)), (q_52, .inl (c_56, n_53, .inl f_55)), (r_51, .inr (2, [.ref q_43, .ref q_52])), (q_59, .inl (c_63, n_60, .inr (.inr (.inr (.inr f_62))))), (r_58, .inr (0, [.ref q_59, .ref q_61, .ref bk]))]) [6, 1, 0, 2, 3, 4, 5] (by decide) rfl
              rw [← hAe] at hDz
              have hge := nw_ge (W1 := [(gt, .inr (9, [.int 0, .ref tp, .int td, .int fk, .int fpl, .ref r_58, .int y_68, .ref mb, .ref mu, .int mk, .ref rd, .ref cm, .ref wk, .ref pp, .ref so, .ref ty])), (so, .inl (cso, 60, .inl f_54))]) (X := [(q_43, .inl (c_44, n_45, .inl f_49)), (q_52, .inl (c_56, n_53, .inl f_55)), (r_51, .inr (2, [.ref q_43, .ref q_52])), (q_59, .inl (c_63, n_60, .inr (.inr (.inr (.inr f_62))))), (r_58, .inr (0, [.ref q_59, .ref q_61, .ref bk]))]) hDz rfl
              rw [← hz9] at hge
              have hKn := hK.sub (tys' := [(c_44, .int), (c_56, .int), (c_63, .object "PatternGate$Doc")]) [1, 2, 3] rfl
              have hnb : poB3 (W9 ++ [(q_43, .inl (c_44, n_45, .inl f_49)), (q_52, .inl (c_56, n_53, .inl f_55)), (r_51, .inr (2, [.ref q_43, .ref q_52])), (q_59, .inl (c_63, n_60, .inr (.inr (.inr (.inr f_62))))), (r_58, .inr (0, [.ref q_59, .ref q_61, .ref bk]))]) (T9 ++ [(c_44, .int), (c_56, .int), (c_63, .object "PatternGate$Doc")]) r_58 (some bk) := h_64 _ _ (fun _ h => List.mem_append_left _ h) (fun _ h => List.mem_append_left _ h) (List.mem_append_right _ (List.mem_of_getElem? (i := 3) rfl)) (List.mem_append_right _ (List.mem_of_getElem? (i := 2) rfl)) (List.mem_append_right _ (List.mem_of_getElem? (i := 4) rfl)) (fun x hx => by subst hx; exact ⟨q_43, q_52, n_45, n_53, f_49, f_55, c_44, c_56, (List.mem_append_right _ (List.mem_of_getElem? (i := 2) rfl)), ⟨(List.mem_append_right _ (List.mem_of_getElem? (i := 0) rfl)), (List.mem_append_right _ (List.mem_of_getElem? (i := 0) rfl))⟩, ⟨(List.mem_append_right _ (List.mem_of_getElem? (i := 1) rfl)), (List.mem_append_right _ (List.mem_of_getElem? (i := 1) rfl))⟩, by omega, by omega⟩)
              exact W.iret hx hb hr (fun t ht hW => ⟨⟨_, (), rfl, trivial, 0, r_58, y_68, f_54, _, _, _, gN.act hB9 hbk hnb hge, Or.inr rfl, by rw [ht]; exact hQ.app hPn, (va_K.moved hW.alike hKQ).app (va_K.moved hW.alike hKn), by rw [ht]; exact hP9, va_K.moved hW.alike hK9, hD9⟩, hS.F ht⟩) hS.2.2 dX9_cut_146
            · have tk_42 := c_eq (a := y_41.toInt) (b := 0) rfl (by decide) k_42
              refine lv_aload_n hx hb dX9_cut_75 rfl (lv_at hl 3 rfl) ?_
              refine lv_bipush (v := 6) hx hb dX9_cut_76 (by decide) ?_
              have hPc := hP.sub (ws' := [(gt, .inr (9, [.int st9, .ref tp, .int td, .int fk, .int fpl, .ref bk, .int un, .ref mb, .ref mu, .int mk, .ref rd, .ref cm, .ref wk, .ref pp, .ref so, .ref ty]))]) [0] rfl
              have hKc := hK.sub (tys' := []) [] rfl
              have hDc := hD.sub (ws' := [(gt, .inr (9, [.int st9, .ref tp, .int td, .int fk, .int fpl, .ref bk, .int un, .ref mb, .ref mu, .int mk, .ref rd, .ref cm, .ref wk, .ref pp, .ref so, .ref ty]))]) [0] (by decide) rfl
              have hFc := va_free (wc := [(gt, .inr (9, [.int st9, .ref tp, .int td, .int fk, .int fpl, .ref bk, .int un, .ref mb, .ref mu, .int mk, .ref rd, .ref cm, .ref wk, .ref pp, .ref so, .ref ty]))]) hD hS hA [0] rfl
              refine va_calli (va_runV (As := [.int 6]) (rest := []) ⟨hx, hb, hml, hown, hts⟩ (s_refuse l dC dI gt tp bk mb mu rd cm wk pp so ty st9 td fk fpl un mk H.size 6) (cwV 1 hts mg_X9_cut_X9_refuse_80 rfl rfl rfl (by decide +kernel) ⟨Nat.le_of_ble_eq_true rfl, Nat.le_of_ble_eq_true rfl⟩) ⟨fun a U g mk q => by obtain ⟨q0, q1, qP, qK, qD⟩ := q; exact ⟨q0, q1, qP, va_K.moved (u := U) (U := U.calling g mk a) (Vm.Alike.refl U.vm) qK, qD⟩, va_recv hKc hPc (ci := 9) (q0 := 0) rfl rfl, fun U hU hW => ⟨rfl, by rw [hU], by rw [hU]; exact hPc, va_K.moved hW.alike hKc, hDc.weaken (fun _ _ _ _ => trivial)⟩⟩ rfl rfl hl.1 rfl (lv_room (Nat.le_of_ble_eq_true rfl)) dX9_cut_78 ⟨Nat.le_of_ble_eq_true rfl, Nat.le_of_ble_eq_true rfl⟩) hS (fun q _ h => hFc q h) hFc (fun r_72 u t H1 locs ht hvm hw hB hz1 hk1 hS => ?_)
              obtain ⟨hP1, hK1, hD1⟩ := hB
              rw [ht] at hP1
              have hr_72 := hw
              obtain ⟨hP, hD⟩ := va_join (wr := [(so, .inl (cso, 60, .inl fso))]) (w1 := [(gt, .inr (9, [.int 6, .ref tp, .int td, .int fk, .int fpl, .ref bk, .int un, .ref mb, .ref mu, .int mk, .ref rd, .ref cm, .ref wk, .ref pp, .ref so, .ref ty]))]) hP hD [0] [1] rfl rfl (by decide) (by decide) hk1 hFc hP1 hD1
              generalize H1 = H at hP hS ⊢
              have hP : va_P (dC, dI) vwCl [(so, .inl (cso, 60, .inl fso)), (gt, .inr (9, [.int 6, .ref tp, .int td, .int fk, .int fpl, .ref bk, .int un, .ref mb, .ref mu, .int mk, .ref rd, .ref cm, .ref wk, .ref pp, .ref so, .ref ty]))] H := hP
              have hD : va_D A [(so, .inl (cso, 60, .inl fso)), (gt, .inr (9, [.int 6, .ref tp, .int td, .int fk, .int fpl, .ref bk, .int un, .ref mb, .ref mu, .int mk, .ref rd, .ref cm, .ref wk, .ref pp, .ref so, .ref ty]))] := hD
              have hQ := q_at hQ0 hQA hS
              have hP9 := hP.sub (ws' := [(gt, .inr (9, [.int 6, .ref tp, .int td, .int fk, .int fpl, .ref bk, .int un, .ref mb, .ref mu, .int mk, .ref rd, .ref cm, .ref wk, .ref pp, .ref so, .ref ty])), (so, .inl (cso, 60, .inl fso))]) [1, 0] rfl
              have hD9 := hD.sub (ws' := [(gt, .inr (9, [.int 6, .ref tp, .int td, .int fk, .int fpl, .ref bk, .int un, .ref mb, .ref mu, .int mk, .ref rd, .ref cm, .ref wk, .ref pp, .ref so, .ref ty])), (so, .inl (cso, 60, .inl fso))]) [1, 0] (by decide) rfl
              have hK9 := hK.sub (tys' := [(cso, .int)]) [0] rfl
              refine W.widen (k := 5) (n := 135) (by omega) (by omega) ?_
              exact W.iret hx hb hr (fun t ht hW => ⟨⟨_, (), rfl, trivial, 6, bk, un, fso, W9, T9, B9, gN.same hB9, hbk, by rw [ht]; exact hQ, va_K.moved hW.alike hKQ, by rw [ht]; exact hP9, va_K.moved hW.alike hK9, hD9⟩, hS.F ht⟩) hS.2.2 dX9_cut_81
          · have tk_40 := c_nle (a := i3.toInt) (b := y_39.toInt) rfl rfl k_40
            refine lv_aload_n hx hb dX9_cut_58 rfl (lv_at hl 2 rfl) ?_
            refine lv_iconst (v := 5) hx hb dX9_cut_59 (by decide) ?_
            have hPc := hP.sub (ws' := [(gt, .inr (9, [.int st9, .ref tp, .int td, .int fk, .int fpl, .ref bk, .int un, .ref mb, .ref mu, .int mk, .ref rd, .ref cm, .ref wk, .ref pp, .ref so, .ref ty]))]) [0] rfl
            have hKc := hK.sub (tys' := []) [] rfl
            have hDc := hD.sub (ws' := [(gt, .inr (9, [.int st9, .ref tp, .int td, .int fk, .int fpl, .ref bk, .int un, .ref mb, .ref mu, .int mk, .ref rd, .ref cm, .ref wk, .ref pp, .ref so, .ref ty]))]) [0] (by decide) rfl
            have hFc := va_free (wc := [(gt, .inr (9, [.int st9, .ref tp, .int td, .int fk, .int fpl, .ref bk, .int un, .ref mb, .ref mu, .int mk, .ref rd, .ref cm, .ref wk, .ref pp, .ref so, .ref ty]))]) hD hS hA [0] rfl
            refine va_calli (va_runV (As := [.int 5]) (rest := []) ⟨hx, hb, hml, hown, hts⟩ (s_refuse l dC dI gt tp bk mb mu rd cm wk pp so ty st9 td fk fpl un mk H.size 5) (cwV 1 hts mg_X9_cut_X9_refuse_80 rfl rfl rfl (by decide +kernel) ⟨Nat.le_of_ble_eq_true rfl, Nat.le_of_ble_eq_true rfl⟩) ⟨fun a U g mk q => by obtain ⟨q0, q1, qP, qK, qD⟩ := q; exact ⟨q0, q1, qP, va_K.moved (u := U) (U := U.calling g mk a) (Vm.Alike.refl U.vm) qK, qD⟩, va_recv hKc hPc (ci := 9) (q0 := 0) rfl rfl, fun U hU hW => ⟨rfl, by rw [hU], by rw [hU]; exact hPc, va_K.moved hW.alike hKc, hDc.weaken (fun _ _ _ _ => trivial)⟩⟩ rfl rfl hl.1 rfl (lv_room (Nat.le_of_ble_eq_true rfl)) dX9_cut_60 ⟨Nat.le_of_ble_eq_true rfl, Nat.le_of_ble_eq_true rfl⟩) hS (fun q _ h => hFc q h) hFc (fun r_74 u t H1 locs ht hvm hw hB hz1 hk1 hS => ?_)
            obtain ⟨hP1, hK1, hD1⟩ := hB
            rw [ht] at hP1
            have hr_74 := hw
            obtain ⟨hP, hD⟩ := va_join (wr := [(so, .inl (cso, 60, .inl fso))]) (w1 := [(gt, .inr (9, [.int 5, .ref tp, .int td, .int fk, .int fpl, .ref bk, .int un, .ref mb, .ref mu, .int mk, .ref rd, .ref cm, .ref wk, .ref pp, .ref so, .ref ty]))]) hP hD [0] [1] rfl rfl (by decide) (by decide) hk1 hFc hP1 hD1
            generalize H1 = H at hP hS ⊢
            have hP : va_P (dC, dI) vwCl [(so, .inl (cso, 60, .inl fso)), (gt, .inr (9, [.int 5, .ref tp, .int td, .int fk, .int fpl, .ref bk, .int un, .ref mb, .ref mu, .int mk, .ref rd, .ref cm, .ref wk, .ref pp, .ref so, .ref ty]))] H := hP
            have hD : va_D A [(so, .inl (cso, 60, .inl fso)), (gt, .inr (9, [.int 5, .ref tp, .int td, .int fk, .int fpl, .ref bk, .int un, .ref mb, .ref mu, .int mk, .ref rd, .ref cm, .ref wk, .ref pp, .ref so, .ref ty]))] := hD
            have hQ := q_at hQ0 hQA hS
            have hP9 := hP.sub (ws' := [(gt, .inr (9, [.int 5, .ref tp, .int td, .int fk, .int fpl, .ref bk, .int un, .ref mb, .ref mu, .int mk, .ref rd, .ref cm, .ref wk, .ref pp, .ref so, .ref ty])), (so, .inl (cso, 60, .inl fso))]) [1, 0] rfl
            have hD9 := hD.sub (ws' := [(gt, .inr (9, [.int 5, .ref tp, .int td, .int fk, .int fpl, .ref bk, .int un, .ref mb, .ref mu, .int mk, .ref rd, .ref cm, .ref wk, .ref pp, .ref so, .ref ty])), (so, .inl (cso, 60, .inl fso))]) [1, 0] (by decide) rfl
            have hK9 := hK.sub (tys' := [(cso, .int)]) [0] rfl
            refine W.widen (k := 5) (n := 135) (by omega) (by omega) ?_
            exact W.iret hx hb hr (fun t ht hW => ⟨⟨_, (), rfl, trivial, 5, bk, un, fso, W9, T9, B9, gN.same hB9, hbk, by rw [ht]; exact hQ, va_K.moved hW.alike hKQ, by rw [ht]; exact hP9, va_K.moved hW.alike hK9, hD9⟩, hS.F ht⟩) hS.2.2 dX9_cut_63
    · have tk_9 := c_nge (a := i3.toInt) (b := 1) rfl (by decide) k_9
      refine lv_aload_n hx hb dX9_cut_9 rfl (lv_at hl 0 rfl) ?_
      refine lv_iconst (v := 1) hx hb dX9_cut_10 (by decide) ?_
      have hPc := hP.sub (ws' := [(gt, .inr (9, [.int st9, .ref tp, .int td, .int fk, .int fpl, .ref bk, .int un, .ref mb, .ref mu, .int mk, .ref rd, .ref cm, .ref wk, .ref pp, .ref so, .ref ty]))]) [0] rfl
      have hKc := hK.sub (tys' := []) [] rfl
      have hDc := hD.sub (ws' := [(gt, .inr (9, [.int st9, .ref tp, .int td, .int fk, .int fpl, .ref bk, .int un, .ref mb, .ref mu, .int mk, .ref rd, .ref cm, .ref wk, .ref pp, .ref so, .ref ty]))]) [0] (by decide) rfl
      have hFc := va_free (wc := [(gt, .inr (9, [.int st9, .ref tp, .int td, .int fk, .int fpl, .ref bk, .int un, .ref mb, .ref mu, .int mk, .ref rd, .ref cm, .ref wk, .ref pp, .ref so, .ref ty]))]) hD hS hA [0] rfl
      refine va_calli (va_runV (As := [.int 1]) (rest := []) ⟨hx, hb, hml, hown, hts⟩ (s_refuse l dC dI gt tp bk mb mu rd cm wk pp so ty st9 td fk fpl un mk H.size 1) (cwV 1 hts mg_X9_cut_X9_refuse_80 rfl rfl rfl (by decide +kernel) ⟨Nat.le_of_ble_eq_true rfl, Nat.le_of_ble_eq_true rfl⟩) ⟨fun a U g mk q => by obtain ⟨q0, q1, qP, qK, qD⟩ := q; exact ⟨q0, q1, qP, va_K.moved (u := U) (U := U.calling g mk a) (Vm.Alike.refl U.vm) qK, qD⟩, va_recv hKc hPc (ci := 9) (q0 := 0) rfl rfl, fun U hU hW => ⟨rfl, by rw [hU], by rw [hU]; exact hPc, va_K.moved hW.alike hKc, hDc.weaken (fun _ _ _ _ => trivial)⟩⟩ rfl rfl hl.1 rfl (lv_room (Nat.le_of_ble_eq_true rfl)) dX9_cut_11 ⟨Nat.le_of_ble_eq_true rfl, Nat.le_of_ble_eq_true rfl⟩) hS (fun q _ h => hFc q h) hFc (fun r_76 u t H1 locs ht hvm hw hB hz1 hk1 hS => ?_)
      obtain ⟨hP1, hK1, hD1⟩ := hB
      rw [ht] at hP1
      have hr_76 := hw
      obtain ⟨hP, hD⟩ := va_join (wr := [(so, .inl (cso, 60, .inl fso))]) (w1 := [(gt, .inr (9, [.int 1, .ref tp, .int td, .int fk, .int fpl, .ref bk, .int un, .ref mb, .ref mu, .int mk, .ref rd, .ref cm, .ref wk, .ref pp, .ref so, .ref ty]))]) hP hD [0] [1] rfl rfl (by decide) (by decide) hk1 hFc hP1 hD1
      generalize H1 = H at hP hS ⊢
      have hP : va_P (dC, dI) vwCl [(so, .inl (cso, 60, .inl fso)), (gt, .inr (9, [.int 1, .ref tp, .int td, .int fk, .int fpl, .ref bk, .int un, .ref mb, .ref mu, .int mk, .ref rd, .ref cm, .ref wk, .ref pp, .ref so, .ref ty]))] H := hP
      have hD : va_D A [(so, .inl (cso, 60, .inl fso)), (gt, .inr (9, [.int 1, .ref tp, .int td, .int fk, .int fpl, .ref bk, .int un, .ref mb, .ref mu, .int mk, .ref rd, .ref cm, .ref wk, .ref pp, .ref so, .ref ty]))] := hD
      have hQ := q_at hQ0 hQA hS
      have hP9 := hP.sub (ws' := [(gt, .inr (9, [.int 1, .ref tp, .int td, .int fk, .int fpl, .ref bk, .int un, .ref mb, .ref mu, .int mk, .ref rd, .ref cm, .ref wk, .ref pp, .ref so, .ref ty])), (so, .inl (cso, 60, .inl fso))]) [1, 0] rfl
      have hD9 := hD.sub (ws' := [(gt, .inr (9, [.int 1, .ref tp, .int td, .int fk, .int fpl, .ref bk, .int un, .ref mb, .ref mu, .int mk, .ref rd, .ref cm, .ref wk, .ref pp, .ref so, .ref ty])), (so, .inl (cso, 60, .inl fso))]) [1, 0] (by decide) rfl
      have hK9 := hK.sub (tys' := [(cso, .int)]) [0] rfl
      refine W.widen (k := 5) (n := 135) (by omega) (by omega) ?_
      exact W.iret hx hb hr (fun t ht hW => ⟨⟨_, (), rfl, trivial, 1, bk, un, fso, W9, T9, B9, gN.same hB9, hbk, by rw [ht]; exact hQ, va_K.moved hW.alike hKQ, by rw [ht]; exact hP9, va_K.moved hW.alike hK9, hD9⟩, hS.F ht⟩) hS.2.2 dX9_cut_14

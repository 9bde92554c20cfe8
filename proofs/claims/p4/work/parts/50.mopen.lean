theorem OKd.n0 {f : Nat → Int32} (h : OKd f 0) : 0 ≤ vI f 0 ∧ vI f 0 ≤ 10 := h.1
section MAST
variable {p : Program} {l : Launch} {e : Env} {R : Room} {s : State} {m : MethodId} {args : Array Value} {below : List Frame} {meth : Method} {c : Code} {H : Heap} {locs : List Loc} {cells slots : Nat} {Q : State → Prop}
variable {cc : ByteArray} {pc : Nat} {ls : Array Slot} {rest : List Value} {D : va_G} {cl : List vw_C} {A : Nat → Prop} {a : Nat} {tys : List (ClassId × FieldType)} {ws : va_W} {H0 : Heap}
/-- a row of numbers is put into a row of such rows -/
theorem m_aast (hexec : p.tables.exec = Jvm.exec) (hb : c.code = cc) (hK : va_K D cl tys s) (hP : va_P D cl ws H) (hD : va_D A ws) (hS : va_S A H0 H locs) (q0 t0 qv tv : Nat) {cA cV : ClassId} {n nV v : Nat} {f : Nat → Option Nat} {g : Nat → Int32} (ha : ws[q0]? = some (a, .inl (cA, n, .inr (.inr (.inr (.inr f)))))) (ht : tys[t0]? = some (cA, .array .int)) (hv : ws[qv]? = some (v, .inl (cV, nV, .inl g))) (htv : tys[tv]? = some (cV, .int)) (hov : (Cond.arrayOver (.array .int)).before args s = true) {i : Int32} (hin : vp_in i n) (hdg : decode cc pc = .ok (.aastore, 1))
    (kk : ∀ (H1 : Heap) (locs1 : List Loc), va_P D cl (ws.set q0 (a, .inl (cA, n, .inr (.inr (.inr (.inr (va_up f i.toNatClampNeg (some v)))))))) H1 → va_D A (ws.set q0 (a, .inl (cA, n, .inr (.inr (.inr (.inr (va_up f i.toNatClampNeg (some v)))))))) → va_S A H0 H1 locs1 → W p l e R s m args below meth c H1 locs1 cells slots Q (F0 m (pc + 1) ls rest)) : W p l e R s m args below meth c H locs cells slots Q (F0 m pc ls (.ref v :: .int i :: .ref a :: rest)) := by
  have hlt : i.toNatClampNeg < n := Nat.not_le.mp fun q => hin (Or.inr q)
  have h0 : ¬ i < 0 := fun q => hin (Or.inl q)
  obtain ⟨comp, c9, k9, e1, e2, e3, e4, e5⟩ := arrayOverA_spec hov
  have hA : s.vm.findClass ("[" ++ (FieldType.array .int).toString) = some cA := (hK.2 t0 _ ht).2
  have hc9 : c9 = cA := Option.some.inj (e5.symm.trans hA)
  subst hc9
  have hV : s.vm.findClass (FieldType.array .int).toString = some cV := (hK.2 tv _ htv).2
  have hcV : comp = cV := Option.some.inj (e1.symm.trans hV)
  subst hcV
  obtain ⟨-, kV, hkV, -⟩ := (hK.2 tv _ htv).1 nV (fun j => .int (g j))
  refine W.aast hexec hb (hP q0 _ ha) (fun q h => by cases h) (fun h => by cases h) e3 e4 rfl hkV ⟨h0, by show _ < (arrV _ _ _).slots.size; rw [arrV_size]; exact hlt⟩ (hP qv _ hv) (fun q h => by cases h) hkV (va_asg _ _) rfl rfl hdg fun H1 e z oq => ?_
  refine kk H1 _ (hP.set hD ha ?_ oq) (hD.set ha) (hS.put z oq (hD.2 q0 _ ha))
  show H1[a]? = some (vp_cell _ _)
  rw [e]
  rw [vp_cell_q, vp_cell_q, arrV_store]
  congr 2
  funext q
  by_cases hq : q = i.toNatClampNeg
  · subst hq
    simp [updV, va_up, va_rf]
  · simp [updV, va_up, hq]
end MAST
theorem m_upP {ad : Nat → Nat} {k j x : Nat} {p : Nat → Nat} : va_up (fun i => some (ad (300 + (12 * k + p i)))) j (some (ad (300 + (12 * k + x)))) = fun i => some (ad (300 + (12 * k + va_up p j x i))) := by
  funext i
  unfold va_up
  by_cases h : i = j
  · rw [if_pos h, if_pos h]
  · rw [if_neg h, if_neg h]
/-- two rows of the first need change places -/
def swP (P P' : Nat → Nat → Nat) (a b : Nat) : Prop := P' 0 a = P 0 b ∧ P' 0 b = P 0 a ∧ (∀ i, i ≠ a → i ≠ b → P' 0 i = P 0 i) ∧ ∀ n, n ≠ 0 → P' n = P n
theorem swP.of {P P1 P2 : Nat → Nat → Nat} {a b : Nat} (h1 : uF P 0 (va_up (P 0) a (P 0 b)) = P1) (h2 : uF P1 0 (va_up (P1 0) b (P 0 a)) = P2) (hab : a ≠ b) : swP P P2 a b := by
  have e1 := uF_s h1
  have e2 := uF_s h2
  refine ⟨?_, ?_, fun i ha hb => ?_, fun n hn => (uF_n h2 hn).trans (uF_n h1 hn)⟩
  · rw [e2, va_up_ne _ _ hab, e1, va_up_self]
  · rw [e2, va_up_self]
  · rw [e2, va_up_ne _ _ hb, e1, va_up_ne _ _ ha]
theorem swP.pi {P P' : Nat → Nat → Nat} {a b : Nat} (h : swP P P' a b) (hP : PI P) (ha : a < 12) (hb : b < 12) (hab : a ≠ b) : PI P' := by
  obtain ⟨h1, h2, h3, h4⟩ := h
  intro n i hi
  by_cases hn : n = 0
  · subst hn
    have key : ∀ i, i < 12 → ∃ j, j < 12 ∧ P' 0 i = P 0 j ∧ ((i = a ∧ j = b) ∨ (i = b ∧ j = a) ∨ (i ≠ a ∧ i ≠ b ∧ j = i)) := by
      intro i hi
      by_cases c1 : i = a
      · exact ⟨b, hb, by rw [c1]; exact h1, Or.inl ⟨c1, rfl⟩⟩
      · by_cases c2 : i = b
        · exact ⟨a, ha, by rw [c2]; exact h2, Or.inr (Or.inl ⟨c2, rfl⟩)⟩
        · exact ⟨i, hi, h3 i c1 c2, Or.inr (Or.inr ⟨c1, c2, rfl⟩)⟩
    obtain ⟨j, j1, j2, j3⟩ := key i hi
    refine ⟨by rw [j2]; exact (hP 0 j j1).1, fun i' hi' he => ?_⟩
    obtain ⟨k, k1, k2, k3⟩ := key i' hi'
    rw [j2, k2] at he
    have := (hP 0 j j1).2 k k1 he
    omega
  · rw [h4 n hn]
    exact hP n i hi
theorem nOK.swap {R : Nat → Nat → Int32} {P P' : Nat → Nat → Nat} {nm : Nat → Int32} {a b : Nat} {c : Int} (h : nOK R P nm 0 c) (hs : swP P P' a b) (ha : (a : Int) < vI nm 0) (hb : (b : Int) < vI nm 0) : nOK R P' nm 0 c := by
  obtain ⟨a1, a2, a3⟩ := h
  obtain ⟨h1, h2, h3, -⟩ := hs
  refine ⟨a1, a2, fun i hi => ?_⟩
  show 0 ≤ vI (R (300 + (12 * 0 + P' 0 i))) 0 ∧ vI (R (300 + (12 * 0 + P' 0 i))) 0 ≤ c
  by_cases c1 : i = a
  · subst c1
    rw [h1]; exact a3 b hb
  · by_cases c2 : i = b
    · subst c2
      rw [h2]; exact a3 a ha
    · rw [h3 i c1 c2]; exact a3 i hi
/-- two rows of a set change places -/
theorem sOK.sw {L L1 L2 : Nat → Nat → Int64} {rm : Nat → Int32} {c b : Int} {i j : Nat} {w x : Int64} (h : sOK L rm 0 c b) (h1 : uF L 0 (vp_updL (L 0) i x) = L1) (h2 : uF L1 0 (vp_updL (L1 0) j w) = L2) (hx : x = L 0 j) (hw : w = L 0 i) (hi : (i : Int) < vI rm 0) (hj : (j : Int) < vI rm 0) : sOK L2 rm 0 c b := by
  obtain ⟨a1, a2, a3⟩ := h
  refine ⟨a1, a2, fun k hk => ?_⟩
  show ∃ n : Nat, (n : Int) ≤ b ∧ n ≤ 8 ∧ rLen (L2 0 k) n
  rw [uF_s h2]
  by_cases c1 : k = j
  · subst c1
    rw [pk_uLs, hw]; exact a3 i hi
  · rw [pk_uLn c1, uF_s h1]
    by_cases c2 : k = i
    · subst c2
      rw [pk_uLs, hx]; exact a3 j hj
    · rw [pk_uLn c2]; exact a3 k hk
theorem dX10_opens_0 : decode cX10_opens 0 = .ok (.aload_n 0, 1) := by decide +kernel
theorem dX10_opens_1 : decode cX10_opens 1 = .ok (.iload_n 1, 1) := by decide +kernel
theorem dX10_opens_2 : decode cX10_opens 2 = .ok (.putfield 220, 3) := by decide +kernel
theorem dX10_opens_5 : decode cX10_opens 5 = .ok (.aload_n 0, 1) := by decide +kernel
theorem dX10_opens_6 : decode cX10_opens 6 = .ok (.iconst 0, 1) := by decide +kernel
theorem dX10_opens_7 : decode cX10_opens 7 = .ok (.putfield 217, 3) := by decide +kernel
theorem dX10_opens_10 : decode cX10_opens 10 = .ok (.aload_n 0, 1) := by decide +kernel
theorem dX10_opens_11 : decode cX10_opens 11 = .ok (.iconst 0, 1) := by decide +kernel
theorem dX10_opens_12 : decode cX10_opens 12 = .ok (.putfield 223, 3) := by decide +kernel
theorem dX10_opens_15 : decode cX10_opens 15 = .ok (.aload_n 0, 1) := by decide +kernel
theorem dX10_opens_16 : decode cX10_opens 16 = .ok (.iconst 0, 1) := by decide +kernel
theorem dX10_opens_17 : decode cX10_opens 17 = .ok (.putfield 248, 3) := by decide +kernel
theorem dX10_opens_20 : decode cX10_opens 20 = .ok (.aload_n 0, 1) := by decide +kernel
theorem dX10_opens_21 : decode cX10_opens 21 = .ok (.invokevirtual 242, 3) := by decide +kernel
theorem dX10_opens_24 : decode cX10_opens 24 = .ok (.ireturn, 1) := by decide +kernel
def mwX10_opensm : List Cond := .code yX10_opens cX10_opens 2 (some .int) :: ([.fieldLink RX10 220 "PatternGateModel" "pattern0" "I", .fieldLink RX10 217 "PatternGateModel" "reached" "I", .fieldLink RX10 223 "PatternGateModel" "knots" "I", .fieldLink RX10 248 "PatternGateModel" "spotMany" "I", .code yX10_patternKnot cX10_patternKnot 3 (some .int), .code yX10_knot cX10_knot 2 (some .int), .fieldLink RX10 28 "PatternGateModel" "kind" "[I", .fieldLink RX10 31 "PatternGateModel" "first" "[I", .fieldLink RX10 34 "PatternGateModel" "next" "[I", .fieldLink RX10 43 "PatternGateModel" "sign" "[I", .methodLink RX10 226 yX10_knot, .instanceMethod yX10_knot, .selects RX10 yX10_knot yX10_knot, .initialized RX10, .code yX10_branchKnot cX10_branchKnot 3 (some .int), .code yX10_signAt cX10_signAt 1 (some .int), .fieldLink RX10 8 "PatternGateModel" "all" "[I", .methodLink RX10 236 yX10_signAt, .instanceMethod yX10_signAt, .selects RX10 yX10_signAt yX10_signAt, .code yX10_itemKnot cX10_itemKnot 4 (some .int), .code yX10_spotKnot cX10_spotKnot 3 (some .int), .fieldLink RX10 40 "PatternGateModel" "spot" "[I", .fieldLink RX10 37 "PatternGateModel" "letters" "[I", .constant RX10 251 (67108863), .methodLink RX10 245 yX10_spotKnot, .instanceMethod yX10_spotKnot, .selects RX10 yX10_spotKnot yX10_spotKnot, .code yX10_joins cX10_joins 4 (some .int), .methodLink RX10 232 yX10_joins, .instanceMethod yX10_joins, .selects RX10 yX10_joins yX10_joins, .methodLink RX10 239 yX10_itemKnot, .instanceMethod yX10_itemKnot, .selects RX10 yX10_itemKnot yX10_itemKnot, .methodLink RX10 229 yX10_branchKnot, .instanceMethod yX10_branchKnot, .selects RX10 yX10_branchKnot yX10_branchKnot, .methodLink RX10 242 yX10_patternKnot, .instanceMethod yX10_patternKnot, .selects RX10 yX10_patternKnot yX10_patternKnot] ++ wsX100)
theorem fin_X10_opensm_X10 : ∀ w ∈ wsX100, w ∈ mwX10_opensm := fun w h => List.mem_cons_of_mem _ (List.mem_append_right _ h)
set_option maxRecDepth 20000 in
theorem mg_X10_opensm_X10_patternKnot_242 : GoodIn mwX10_opensm (wsV RX10 242 RX10 yX10_patternKnot mwX10_patternKnotmk5) := goodIn_r _ [39, 40, 41, 14, 5, 6, 7, 3, 8, 9, 10, 11, 12, 13, 14, 15, 16, 2, 17, 1, 18, 19, 20, 21, 22, 23, 4, 24, 25, 26, 27, 28, 29, 30, 31, 32, 5, 33, 34, 35, 36, 37, 38, 39, 40, 41, 42, 43, 44, 45, 46, 47, 48, 49, 50, 51, 52, 53, 54, 55, 56, 57, 58, 59, 60, 61, 62, 63, 64, 65, 66, 67, 68, 69, 70, 71, 72, 73, 74, 75, 76, 77, 78, 79, 80, 81, 82, 83, 84, 85, 86, 87, 88, 89] (by decide +kernel) (by decide +kernel)
set_option maxHeartbeats 4000000 in
set_option maxRecDepth 100000 in
theorem m_opens (l : Launch) (dC : Nat → ClassId) (dI : Nat → Nat → Nat) (ad : Nat → Nat) (kc : Nat → ClassId) (x0 x1 x2 x3 x4 x5 x6 x7 x8 x9 x10 x11 x12 x13 x14 x15 x16 x17 x18 x19 x20 x21 : Int32) (f0 f1 f2 f3 f4 f5 f6 f7 f8 f9 f10 f11 f12 f13 f14 f15 f16 f17 f18 f19 f20 f21 : Nat → Int32) (fL : Nat → Nat → Int64) (fN : Nat → Nat → Int32) (fP : Nat → Nat → Nat) (fM : Nat → Nat → Int32) (fO : Nat → Nat → Int32) (sz : Nat) (i1 : Int32) (q0 : OKd f0 0) (q1 : 0 ≤ i1.toInt ∧ i1.toInt < vI f0 611) : Met l yX10_opens mwX10_opensm ({ frames := 20, cells := 0, slots := 0, locals := 1200 }) (va_Pc [.ref (ad 0), .int i1] (fun U => U.heap.size = sz ∧ va_P (dC, dI) vwCl (mW ad kc x0 x1 x2 x3 x4 x5 x6 x7 x8 x9 x10 x11 x12 x13 x14 x15 x16 x17 x18 x19 x20 x21 f0 f1 f2 f3 f4 f5 f6 f7 f8 f9 f10 f11 f12 f13 f14 f15 f16 f17 f18 f19 f20 f21 fL fN fP fM fO) U.heap ∧ va_K (dC, dI) vwCl (mT kc) U ∧ va_D (fun _ => True) (mW ad kc x0 x1 x2 x3 x4 x5 x6 x7 x8 x9 x10 x11 x12 x13 x14 x15 x16 x17 x18 x19 x20 x21 f0 f1 f2 f3 f4 f5 f6 f7 f8 f9 f10 f11 f12 f13 f14 f15 f16 f17 f18 f19 f20 f21 fL fN fP fM fO))) (va_Qi (fun (o9 u9 : Int32) => o9 = u9) (fun (o9 : Int32) t => ∃ (y12 y13 y14 y15 : Int32) (g3 g4 g5 g6 g7 g8 : Nat → Int32) (mm9 : Int), (o9.toInt = 0) ∧ (1 ≤ mm9 ∧ mm9 ≤ 24) ∧ (tPat (mV g3 g4 g5 g7) 5 0 y12.toInt mm9) ∧ (y12.toInt ≤ 1600) ∧ (y15.toInt = mm9) ∧ (2 ≤ y12.toInt) ∧ va_P (dC, dI) vwCl (mW ad kc x0 x1 x2 x3 x4 x5 x6 x7 x8 x9 x10 x11 y12 y13 y14 y15 x16 x17 x18 x19 x20 x21 f0 f1 f2 g3 g4 g5 g6 g7 g8 f9 f10 f11 f12 f13 f14 f15 f16 f17 f18 f19 f20 f21 fL fN fP fM fO) t.heap ∧ va_K (dC, dI) vwCl (mT kc) t ∧ va_D (va_A (mW ad kc x0 x1 x2 x3 x4 x5 x6 x7 x8 x9 x10 x11 x12 x13 x14 x15 x16 x17 x18 x19 x20 x21 f0 f1 f2 f3 f4 f5 f6 f7 f8 f9 f10 f11 f12 f13 f14 f15 f16 f17 f18 f19 f20 f21 fL fN fP fM fO) sz) (mW ad kc x0 x1 x2 x3 x4 x5 x6 x7 x8 x9 x10 x11 y12 y13 y14 y15 x16 x17 x18 x19 x20 x21 f0 f1 f2 g3 g4 g5 g6 g7 g8 f9 f10 f11 f12 f13 f14 f15 f16 f17 f18 f19 f20 f21 fL fN fP fM fO)) (va_A (mW ad kc x0 x1 x2 x3 x4 x5 x6 x7 x8 x9 x10 x11 x12 x13 x14 x15 x16 x17 x18 x19 x20 x21 f0 f1 f2 f3 f4 f5 f6 f7 f8 f9 f10 f11 f12 f13 f14 f15 f16 f17 f18 f19 f20 f21 fL fN fP fM fO) sz)) 0 0 (va_A (mW ad kc x0 x1 x2 x3 x4 x5 x6 x7 x8 x9 x10 x11 x12 x13 x14 x15 x16 x17 x18 x19 x20 x21 f0 f1 f2 f3 f4 f5 f6 f7 f8 f9 f10 f11 f12 f13 f14 f15 f16 f17 f18 f19 f20 f21 fL fN fP fM fO) sz) := by
  refine Met.ofW (cc := cX10_opens) (maxL := 2) (ret := (some .int)) (by decide +kernel) rfl ?_
  intro p e s m args below meth c s₁ B hml hv
  obtain ⟨rfl, hsz, hP, hK, hD0⟩ := hv
  have hx := B.exec
  have hb := B.bytes
  have hr := B.returns
  have hts := atoms_spec (ws := mwX10_opensm) B.pre
  have hown : s.vm.findClass RX10 = some m.cls := findClass_of_methodNamed B.named
  have hlocks := B.notSynchronized
  subst hsz
  have hD := hD0.self (sz := s.heap.size)
  generalize hAe : va_A (mW ad kc x0 x1 x2 x3 x4 x5 x6 x7 x8 x9 x10 x11 x12 x13 x14 x15 x16 x17 x18 x19 x20 x21 f0 f1 f2 f3 f4 f5 f6 f7 f8 f9 f10 f11 f12 f13 f14 f15 f16 f17 f18 f19 f20 f21 fL fN fP fM fO) s.heap.size = A at hD ⊢
  have hA : ∀ q : Nat, s.heap.size ≤ q → A q := fun q h => by rw [← hAe]; exact Or.inr h
  have hP : va_P (dC, dI) vwCl (mW ad kc x0 x1 x2 x3 x4 x5 x6 x7 x8 x9 x10 x11 x12 x13 x14 x15 x16 x17 x18 x19 x20 x21 f0 f1 f2 f3 f4 f5 f6 f7 f8 f9 f10 f11 f12 f13 f14 f15 f16 f17 f18 f19 f20 f21 fL fN fP fM fO) s.heap := hP
  have hD : va_D A (mW ad kc x0 x1 x2 x3 x4 x5 x6 x7 x8 x9 x10 x11 x12 x13 x14 x15 x16 x17 x18 x19 x20 x21 f0 f1 f2 f3 f4 f5 f6 f7 f8 f9 f10 f11 f12 f13 f14 f15 f16 f17 f18 f19 f20 f21 fL fN fP fM fO) := hD
  have hK : va_K (dC, dI) vwCl (mT kc) s := hK
  generalize hH : s.heap = H at hP ⊢
  have hS : va_S A s.heap H [] := by rw [← hH]; exact va_S.rf
  have hl := lv_entry ([.ref (ad 0), .int i1]) (n := 2) (Nat.le_of_ble_eq_true rfl)
  rw [lg_entry_eq]
  generalize (lg_sl ([.ref (ad 0), .int i1]) ++ List.replicate (2 - (lg_sl ([.ref (ad 0), .int i1])).length) Slot.unset).toArray = ls at hl ⊢
  have hl : lv_has ls 2 [(0, .ref (ad 0)), (1, .int i1)] := hl
  have rg_i1 := i_rng i1
  obtain ⟨⟨hn1, hn2⟩, mm9, hm1, hm2, hpp⟩ := q0.pt (p := i1.toInt) (by omega) (by omega)
  have hq0 := q0.P0
  have hend : isEn (tp f0 i1.toInt (vI f0 (612 + i1.toInt))) := Or.inl (by unfold tp pLa; rw [if_neg (by omega)])
  refine lv_aload_n hx hb dX10_opens_0 rfl (lv_at hl 0 rfl) ?_
  refine lv_iload_n hx hb dX10_opens_1 rfl (lv_at hl 1 rfl) ?_
  refine va_put (D := (dC, dI)) (ci := 10) (v := .int i1) (ty := .int) (C := RX10) (T := TX10) (N := 48) hx hb hts fin_X10_opensm_X10 tyX10 tyX10_ok nmX10 hown hK hP hD hS 0 rfl rfl 23 (by decide) (hts (.fieldLink RX10 220 "PatternGateModel" "pattern0" "I") (List.mem_of_getElem? (i := 1) (by decide +kernel))) (fun _ h9 => h9) rfl (by decide +kernel) rfl rfl (Nat.le_of_ble_eq_true rfl) dX10_opens_2 (fun H locs hP hD hS => ?_)
  have hP : va_P (dC, dI) vwCl (mW ad kc x0 x1 x2 x3 x4 x5 x6 x7 x8 x9 x10 x11 x12 x13 i1 x15 x16 x17 x18 x19 x20 x21 f0 f1 f2 f3 f4 f5 f6 f7 f8 f9 f10 f11 f12 f13 f14 f15 f16 f17 f18 f19 f20 f21 fL fN fP fM fO) H := hP
  have hD : va_D A (mW ad kc x0 x1 x2 x3 x4 x5 x6 x7 x8 x9 x10 x11 x12 x13 i1 x15 x16 x17 x18 x19 x20 x21 f0 f1 f2 f3 f4 f5 f6 f7 f8 f9 f10 f11 f12 f13 f14 f15 f16 f17 f18 f19 f20 f21 fL fN fP fM fO) := hD
  refine lv_aload_n hx hb dX10_opens_5 rfl (lv_at hl 0 rfl) ?_
  refine lv_iconst (v := 0) hx hb dX10_opens_6 (by decide) ?_
  refine va_put (D := (dC, dI)) (ci := 10) (v := .int 0) (ty := .int) (C := RX10) (T := TX10) (N := 48) hx hb hts fin_X10_opensm_X10 tyX10 tyX10_ok nmX10 hown hK hP hD hS 0 rfl rfl 22 (by decide) (hts (.fieldLink RX10 217 "PatternGateModel" "reached" "I") (List.mem_of_getElem? (i := 2) (by decide +kernel))) (fun _ h9 => h9) rfl (by decide +kernel) rfl rfl (Nat.le_of_ble_eq_true rfl) dX10_opens_7 (fun H locs hP hD hS => ?_)
  have hP : va_P (dC, dI) vwCl (mW ad kc x0 x1 x2 x3 x4 x5 x6 x7 x8 x9 x10 x11 x12 0 i1 x15 x16 x17 x18 x19 x20 x21 f0 f1 f2 f3 f4 f5 f6 f7 f8 f9 f10 f11 f12 f13 f14 f15 f16 f17 f18 f19 f20 f21 fL fN fP fM fO) H := hP
  have hD : va_D A (mW ad kc x0 x1 x2 x3 x4 x5 x6 x7 x8 x9 x10 x11 x12 0 i1 x15 x16 x17 x18 x19 x20 x21 f0 f1 f2 f3 f4 f5 f6 f7 f8 f9 f10 f11 f12 f13 f14 f15 f16 f17 f18 f19 f20 f21 fL fN fP fM fO) := hD
  have lit_0 : (0 : Int32).toInt = 0 := by decide
  refine lv_aload_n hx hb dX10_opens_10 rfl (lv_at hl 0 rfl) ?_
  refine lv_iconst (v := 0) hx hb dX10_opens_11 (by decide) ?_
  refine va_put (D := (dC, dI)) (ci := 10) (v := .int 0) (ty := .int) (C := RX10) (T := TX10) (N := 48) hx hb hts fin_X10_opensm_X10 tyX10 tyX10_ok nmX10 hown hK hP hD hS 0 rfl rfl 21 (by decide) (hts (.fieldLink RX10 223 "PatternGateModel" "knots" "I") (List.mem_of_getElem? (i := 3) (by decide +kernel))) (fun _ h9 => h9) rfl (by decide +kernel) rfl rfl (Nat.le_of_ble_eq_true rfl) dX10_opens_12 (fun H locs hP hD hS => ?_)
  have hP : va_P (dC, dI) vwCl (mW ad kc x0 x1 x2 x3 x4 x5 x6 x7 x8 x9 x10 x11 0 0 i1 x15 x16 x17 x18 x19 x20 x21 f0 f1 f2 f3 f4 f5 f6 f7 f8 f9 f10 f11 f12 f13 f14 f15 f16 f17 f18 f19 f20 f21 fL fN fP fM fO) H := hP
  have hD : va_D A (mW ad kc x0 x1 x2 x3 x4 x5 x6 x7 x8 x9 x10 x11 0 0 i1 x15 x16 x17 x18 x19 x20 x21 f0 f1 f2 f3 f4 f5 f6 f7 f8 f9 f10 f11 f12 f13 f14 f15 f16 f17 f18 f19 f20 f21 fL fN fP fM fO) := hD
  have lit_1 : (0 : Int32).toInt = 0 := by decide
  refine lv_aload_n hx hb dX10_opens_15 rfl (lv_at hl 0 rfl) ?_
  refine lv_iconst (v := 0) hx hb dX10_opens_16 (by decide) ?_
  refine va_put (D := (dC, dI)) (ci := 10) (v := .int 0) (ty := .int) (C := RX10) (T := TX10) (N := 48) hx hb hts fin_X10_opensm_X10 tyX10 tyX10_ok nmX10 hown hK hP hD hS 0 rfl rfl 24 (by decide) (hts (.fieldLink RX10 248 "PatternGateModel" "spotMany" "I") (List.mem_of_getElem? (i := 4) (by decide +kernel))) (fun _ h9 => h9) rfl (by decide +kernel) rfl rfl (Nat.le_of_ble_eq_true rfl) dX10_opens_17 (fun H locs hP hD hS => ?_)
  have hP : va_P (dC, dI) vwCl (mW ad kc x0 x1 x2 x3 x4 x5 x6 x7 x8 x9 x10 x11 0 0 i1 0 x16 x17 x18 x19 x20 x21 f0 f1 f2 f3 f4 f5 f6 f7 f8 f9 f10 f11 f12 f13 f14 f15 f16 f17 f18 f19 f20 f21 fL fN fP fM fO) H := hP
  have hD : va_D A (mW ad kc x0 x1 x2 x3 x4 x5 x6 x7 x8 x9 x10 x11 0 0 i1 0 x16 x17 x18 x19 x20 x21 f0 f1 f2 f3 f4 f5 f6 f7 f8 f9 f10 f11 f12 f13 f14 f15 f16 f17 f18 f19 f20 f21 fL fN fP fM fO) := hD
  have lit_2 : (0 : Int32).toInt = 0 := by decide
  refine lv_aload_n hx hb dX10_opens_20 rfl (lv_at hl 0 rfl) ?_
  have hFc := m_free hD hS hA
  refine va_calli (va_runV (As := []) (rest := []) ⟨hx, hb, hml, hown, hts⟩ (m_patternKnot5 l dC dI ad kc x0 x1 x2 x3 x4 x5 x6 x7 x8 x9 x10 x11 0 0 i1 0 x16 x17 x18 x19 x20 x21 f0 f1 f2 f3 f4 f5 f6 f7 f8 f9 f10 f11 f12 f13 f14 f15 f16 f17 f18 f19 f20 f21 fL fN fP fM fO H.size (vI f0 (612 + i1.toInt)) mm9 (by first | omega | assumption | decide | (have l0 := Int32.toInt_zero; omega)) (by first | omega | assumption | decide | (have l0 := Int32.toInt_zero; omega)) (by first | omega | assumption | decide | (have l0 := Int32.toInt_zero; omega)) (by first | omega | assumption | decide | (have l0 := Int32.toInt_zero; omega)) (by first | omega | assumption | decide | (have l0 := Int32.toInt_zero; omega)) (by first | omega | assumption | decide | (have l0 := Int32.toInt_zero; omega)) (by first | omega | assumption | decide | (have l0 := Int32.toInt_zero; omega)) (by first | omega | assumption | decide | (have l0 := Int32.toInt_zero; omega)) (by first | omega | assumption | decide | (have l0 := Int32.toInt_zero; omega)) (by first | omega | assumption | decide | (have l0 := Int32.toInt_zero; omega)) (by first | omega | assumption | decide | (have l0 := Int32.toInt_zero; omega))) (cwV 0 hts mg_X10_opensm_X10_patternKnot_242 rfl rfl rfl (by decide +kernel) ⟨Nat.le_of_ble_eq_true rfl, Nat.le_of_ble_eq_true rfl⟩) ⟨fun a U g mk q => by obtain ⟨q0, q1, qP, qK, qD⟩ := q; exact ⟨q0, q1, qP, va_K.moved (u := U) (U := U.calling g mk a) (Vm.Alike.refl U.vm) qK, qD⟩, va_recv hK hP (ci := 10) (q0 := 0) rfl rfl, fun U hU hW => ⟨rfl, by rw [hU], by rw [hU]; exact hP, va_K.moved hW.alike hK, hD.weaken (fun _ _ _ _ => trivial)⟩⟩ rfl rfl hl.1 rfl (lv_room (Nat.le_of_ble_eq_true rfl)) dX10_opens_21 ⟨Nat.le_of_ble_eq_true rfl, Nat.le_of_ble_eq_true rfl⟩) hS (fun q _ h => hFc q h) hFc (fun r_4 u t H1 locs ht hvm hw hB hz1 hk1 hS => ?_)
  subst hw
  obtain ⟨x_5, x_6, x_7, f_8, f_9, f_10, f_11, f_12, f_13, hr_4_0, hr_4_1, hr_4_2, hr_4_3, hr_4_4, hr_4_5, hr_4_6, hP, hK1, hD1⟩ := hB
  rw [ht] at hP
  have hD := hD1.weaken (fun k q _ h => hFc q.1 h)
  clear hz1 hk1 hFc hD1 hK1 hvm
  generalize H1 = H at hP hS ⊢
  have rg_x_5 := i_rng x_5
  have rg_x_6 := i_rng x_6
  have rg_x_7 := i_rng x_7
  have rg_r_4 := i_rng r_4
  have hP : va_P (dC, dI) vwCl (mW ad kc x0 x1 x2 x3 x4 x5 x6 x7 x8 x9 x10 x11 x_5 x_6 i1 x_7 x16 x17 x18 x19 x20 x21 f0 f1 f2 f_8 f_9 f_10 f_11 f_12 f_13 f9 f10 f11 f12 f13 f14 f15 f16 f17 f18 f19 f20 f21 fL fN fP fM fO) H := hP
  have hD : va_D A (mW ad kc x0 x1 x2 x3 x4 x5 x6 x7 x8 x9 x10 x11 x_5 x_6 i1 x_7 x16 x17 x18 x19 x20 x21 f0 f1 f2 f_8 f_9 f_10 f_11 f_12 f_13 f9 f10 f11 f12 f13 f14 f15 f16 f17 f18 f19 f20 f21 fL fN fP fM fO) := hD
  exact W.iret hx hb hr (fun t ht hW => ⟨⟨_, _, rfl, rfl, x_5, x_6, i1, x_7, f_8, f_9, f_10, f_11, f_12, f_13, mm9, (by first | omega | assumption | rfl | decide), (by first | omega | assumption | rfl | decide), (by have h9 := hr_4_4; rw [show (0 : Int32).toInt = 0 by decide] at h9; exact h9), (by first | omega | assumption | rfl | decide), (by first | omega | assumption | rfl | decide), (by first | omega | assumption | rfl | decide), by rw [ht]; exact hP, va_K.moved hW.alike hK, hD⟩, hS.F ht⟩) hS.2.2 dX10_opens_24
theorem dX10_links_0 : decode cX10_links 0 = .ok (.iconst 0, 1) := by decide +kernel
theorem dX10_links_1 : decode cX10_links 1 = .ok (.istore_n 3, 1) := by decide +kernel
theorem dX10_links_2 : decode cX10_links 2 = .ok (.iload_n 3, 1) := by decide +kernel
theorem dX10_links_3 : decode cX10_links 3 = .ok (.bipush 24, 2) := by decide +kernel
theorem dX10_links_5 : decode cX10_links 5 = .ok (.if_icmp .ge 27, 3) := by decide +kernel
theorem dX10_links_8 : decode cX10_links 8 = .ok (.iload_n 1, 1) := by decide +kernel
theorem dX10_links_9 : decode cX10_links 9 = .ok (.iload_n 3, 1) := by decide +kernel
theorem dX10_links_10 : decode cX10_links 10 = .ok (.invokestatic 170, 3) := by decide +kernel
theorem dX10_links_13 : decode cX10_links 13 = .ok (.ifCond .eq 13, 3) := by decide +kernel
theorem dX10_links_16 : decode cX10_links 16 = .ok (.aload_n 0, 1) := by decide +kernel
theorem dX10_links_17 : decode cX10_links 17 = .ok (.getfield 86, 3) := by decide +kernel
theorem dX10_links_20 : decode cX10_links 20 = .ok (.iload_n 3, 1) := by decide +kernel
theorem dX10_links_21 : decode cX10_links 21 = .ok (.dup2, 1) := by decide +kernel
theorem dX10_links_22 : decode cX10_links 22 = .ok (.iaload, 1) := by decide +kernel
theorem dX10_links_23 : decode cX10_links 23 = .ok (.iload_n 2, 1) := by decide +kernel
theorem dX10_links_24 : decode cX10_links 24 = .ok (.ior, 1) := by decide +kernel
theorem dX10_links_25 : decode cX10_links 25 = .ok (.iastore, 1) := by decide +kernel
theorem dX10_links_26 : decode cX10_links 26 = .ok (.iinc 3 1, 3) := by decide +kernel
theorem dX10_links_29 : decode cX10_links 29 = .ok (.goto (-27), 3) := by decide +kernel
theorem dX10_links_32 : decode cX10_links 32 = .ok (.return_, 1) := by decide +kernel
def mwX10_linksm : List Cond := .code yX10_links cX10_links 4 none :: ([.code yX10_has cX10_has 2 (some .boolean), .methodLink RX10 170 yX10_has, .static yX10_has, .initialized RX10, .fieldLink RX10 86 "PatternGateModel" "follow" "[I"] ++ wsX100)
theorem fin_X10_linksm_X10 : ∀ w ∈ wsX100, w ∈ mwX10_linksm := fun w h => List.mem_cons_of_mem _ (List.mem_append_right _ h)
set_option maxRecDepth 20000 in
theorem mg_X10_linksm_X10_has_170 : GoodIn mwX10_linksm (va_wsS RX10 170 yX10_has mwX10_hasm) := goodIn_r _ [2, 3, 4, 1] (by decide +kernel) (by decide +kernel)
set_option maxHeartbeats 4000000 in
set_option maxRecDepth 100000 in
theorem m_links (l : Launch) (dC : Nat → ClassId) (dI : Nat → Nat → Nat) (ad : Nat → Nat) (kc : Nat → ClassId) (x0 x1 x2 x3 x4 x5 x6 x7 x8 x9 x10 x11 x12 x13 x14 x15 x16 x17 x18 x19 x20 x21 : Int32) (f0 f1 f2 f3 f4 f5 f6 f7 f8 f9 f10 f11 f12 f13 f14 f15 f16 f17 f18 f19 f20 f21 : Nat → Int32) (fL : Nat → Nat → Int64) (fN : Nat → Nat → Int32) (fP : Nat → Nat → Nat) (fM : Nat → Nat → Int32) (fO : Nat → Nat → Int32) (sz : Nat) (i1 i2 : Int32) : Met l yX10_links mwX10_linksm ({ frames := 1, cells := 0, slots := 0, locals := 60 }) (va_Pc [.ref (ad 0), .int i1, .int i2] (fun U => U.heap.size = sz ∧ va_P (dC, dI) vwCl (mW ad kc x0 x1 x2 x3 x4 x5 x6 x7 x8 x9 x10 x11 x12 x13 x14 x15 x16 x17 x18 x19 x20 x21 f0 f1 f2 f3 f4 f5 f6 f7 f8 f9 f10 f11 f12 f13 f14 f15 f16 f17 f18 f19 f20 f21 fL fN fP fM fO) U.heap ∧ va_K (dC, dI) vwCl (mT kc) U ∧ va_D (fun _ => True) (mW ad kc x0 x1 x2 x3 x4 x5 x6 x7 x8 x9 x10 x11 x12 x13 x14 x15 x16 x17 x18 x19 x20 x21 f0 f1 f2 f3 f4 f5 f6 f7 f8 f9 f10 f11 f12 f13 f14 f15 f16 f17 f18 f19 f20 f21 fL fN fP fM fO))) (va_Qv (fun (_ : Unit) => True) (fun _ t => ∃ (g17 : Nat → Int32), va_P (dC, dI) vwCl (mW ad kc x0 x1 x2 x3 x4 x5 x6 x7 x8 x9 x10 x11 x12 x13 x14 x15 x16 x17 x18 x19 x20 x21 f0 f1 f2 f3 f4 f5 f6 f7 f8 f9 f10 f11 f12 f13 f14 f15 f16 g17 f18 f19 f20 f21 fL fN fP fM fO) t.heap ∧ va_K (dC, dI) vwCl (mT kc) t ∧ va_D (va_A (mW ad kc x0 x1 x2 x3 x4 x5 x6 x7 x8 x9 x10 x11 x12 x13 x14 x15 x16 x17 x18 x19 x20 x21 f0 f1 f2 f3 f4 f5 f6 f7 f8 f9 f10 f11 f12 f13 f14 f15 f16 f17 f18 f19 f20 f21 fL fN fP fM fO) sz) (mW ad kc x0 x1 x2 x3 x4 x5 x6 x7 x8 x9 x10 x11 x12 x13 x14 x15 x16 x17 x18 x19 x20 x21 f0 f1 f2 f3 f4 f5 f6 f7 f8 f9 f10 f11 f12 f13 f14 f15 f16 g17 f18 f19 f20 f21 fL fN fP fM fO)) (va_A (mW ad kc x0 x1 x2 x3 x4 x5 x6 x7 x8 x9 x10 x11 x12 x13 x14 x15 x16 x17 x18 x19 x20 x21 f0 f1 f2 f3 f4 f5 f6 f7 f8 f9 f10 f11 f12 f13 f14 f15 f16 f17 f18 f19 f20 f21 fL fN fP fM fO) sz)) 0 0 (va_A (mW ad kc x0 x1 x2 x3 x4 x5 x6 x7 x8 x9 x10 x11 x12 x13 x14 x15 x16 x17 x18 x19 x20 x21 f0 f1 f2 f3 f4 f5 f6 f7 f8 f9 f10 f11 f12 f13 f14 f15 f16 f17 f18 f19 f20 f21 fL fN fP fM fO) sz) := by
  refine Met.ofW (cc := cX10_links) (maxL := 4) (ret := none) (by decide +kernel) rfl ?_
  intro p e s m args below meth c s₁ B hml hv
  obtain ⟨rfl, hsz, hP, hK, hD0⟩ := hv
  have hx := B.exec
  have hb := B.bytes
  have hr := B.returns
  have hts := atoms_spec (ws := mwX10_linksm) B.pre
  have hown : s.vm.findClass RX10 = some m.cls := findClass_of_methodNamed B.named
  have hlocks := B.notSynchronized
  subst hsz
  have hD := hD0.self (sz := s.heap.size)
  generalize hAe : va_A (mW ad kc x0 x1 x2 x3 x4 x5 x6 x7 x8 x9 x10 x11 x12 x13 x14 x15 x16 x17 x18 x19 x20 x21 f0 f1 f2 f3 f4 f5 f6 f7 f8 f9 f10 f11 f12 f13 f14 f15 f16 f17 f18 f19 f20 f21 fL fN fP fM fO) s.heap.size = A at hD ⊢
  have hA : ∀ q : Nat, s.heap.size ≤ q → A q := fun q h => by rw [← hAe]; exact Or.inr h
  have hP : va_P (dC, dI) vwCl (mW ad kc x0 x1 x2 x3 x4 x5 x6 x7 x8 x9 x10 x11 x12 x13 x14 x15 x16 x17 x18 x19 x20 x21 f0 f1 f2 f3 f4 f5 f6 f7 f8 f9 f10 f11 f12 f13 f14 f15 f16 f17 f18 f19 f20 f21 fL fN fP fM fO) s.heap := hP
  have hD : va_D A (mW ad kc x0 x1 x2 x3 x4 x5 x6 x7 x8 x9 x10 x11 x12 x13 x14 x15 x16 x17 x18 x19 x20 x21 f0 f1 f2 f3 f4 f5 f6 f7 f8 f9 f10 f11 f12 f13 f14 f15 f16 f17 f18 f19 f20 f21 fL fN fP fM fO) := hD
  have hK : va_K (dC, dI) vwCl (mT kc) s := hK
  generalize hH : s.heap = H at hP ⊢
  have hS : va_S A s.heap H [] := by rw [← hH]; exact va_S.rf
  have hl := lv_entry ([.ref (ad 0), .int i1, .int i2]) (n := 4) (Nat.le_of_ble_eq_true rfl)
  rw [lg_entry_eq]
  generalize (lg_sl ([.ref (ad 0), .int i1, .int i2]) ++ List.replicate (4 - (lg_sl ([.ref (ad 0), .int i1, .int i2])).length) Slot.unset).toArray = ls at hl ⊢
  have hl : lv_has ls 4 [(0, .ref (ad 0)), (1, .int i1), (2, .int i2)] := hl
  have rg_i1 := i_rng i1
  have rg_i2 := i_rng i2
  refine lv_iconst (v := 0) hx hb dX10_links_0 (by decide) ?_
  refine lv_istore_n (lv' := [(3, .int 0), (0, .ref (ad 0)), (1, .int i1), (2, .int i2)]) hx hb dX10_links_1 rfl hl (by decide) rfl (fun ls hl => ?_)
  have loop2 : ∀ (lm2 : Nat) (kk : Int32) (ga : Nat → Int32), (0 ≤ kk.toInt) → (kk.toInt ≤ 24) → ((24 - kk.toInt).toNat) < lm2 → ∀ (H : Heap) (locs : List Loc) (ls : Array Slot), va_P (dC, dI) vwCl (mW ad kc x0 x1 x2 x3 x4 x5 x6 x7 x8 x9 x10 x11 x12 x13 x14 x15 x16 x17 x18 x19 x20 x21 f0 f1 f2 f3 f4 f5 f6 f7 f8 f9 f10 f11 f12 f13 f14 f15 f16 ga f18 f19 f20 f21 fL fN fP fM fO) H → va_D A (mW ad kc x0 x1 x2 x3 x4 x5 x6 x7 x8 x9 x10 x11 x12 x13 x14 x15 x16 x17 x18 x19 x20 x21 f0 f1 f2 f3 f4 f5 f6 f7 f8 f9 f10 f11 f12 f13 f14 f15 f16 ga f18 f19 f20 f21 fL fN fP fM fO) → va_S A s.heap H locs → lv_has ls 4 [(3, .int kk), (0, .ref (ad 0)), (1, .int i1), (2, .int i2)] → W p l e (headSpec mwX10_linksm ({ frames := 1, cells := 0, slots := 0, locals := 60 })).room s m ([.ref (ad 0), .int i1, .int i2]).toArray below meth c H locs 0 0 (MQ below (va_Qv (fun (_ : Unit) => True) (fun _ t => ∃ (g17 : Nat → Int32), va_P (dC, dI) vwCl (mW ad kc x0 x1 x2 x3 x4 x5 x6 x7 x8 x9 x10 x11 x12 x13 x14 x15 x16 x17 x18 x19 x20 x21 f0 f1 f2 f3 f4 f5 f6 f7 f8 f9 f10 f11 f12 f13 f14 f15 f16 g17 f18 f19 f20 f21 fL fN fP fM fO) t.heap ∧ va_K (dC, dI) vwCl (mT kc) t ∧ va_D A (mW ad kc x0 x1 x2 x3 x4 x5 x6 x7 x8 x9 x10 x11 x12 x13 x14 x15 x16 x17 x18 x19 x20 x21 f0 f1 f2 f3 f4 f5 f6 f7 f8 f9 f10 f11 f12 f13 f14 f15 f16 g17 f18 f19 f20 f21 fL fN fP fM fO)) A) ([.ref (ad 0), .int i1, .int i2]).toArray s 0 0 A) (F0 m 2 ls []) := by
    intro lm2
    induction lm2 with
    | zero => intro kk ga v2_0 v2_1 hm2; exact absurd hm2 (Nat.not_lt_zero _)
    | succ lm2 ih2 =>
      intro kk ga v2_0 v2_1 hm2 H locs ls hP hD hS hl
      have rg_kk := i_rng kk
      refine lv_iload_n hx hb dX10_links_2 rfl (lv_at hl 0 rfl) ?_
      refine lv_bipush (v := 24) hx hb dX10_links_3 (by decide) ?_
      refine lv_icmp_ge (tgt := 32) hx hb dX10_links_5 (by decide) (fun k_1 => ?_) (fun k_1 => ?_)
      · have tk_1 := c_ge (a := kk.toInt) (b := 24) rfl (by decide) k_1
        exact W.vret hx hb hr (fun t ht hW => ⟨⟨(), rfl, trivial, ga, by rw [ht]; exact hP, va_K.moved hW.alike hK, hD⟩, hS.F ht⟩) hS.2.2 dX10_links_32
      · have tk_1 := c_nge (a := kk.toInt) (b := 24) rfl (by decide) k_1
        refine lv_iload_n hx hb dX10_links_8 rfl (lv_at hl 2 rfl) ?_
        refine lv_iload_n hx hb dX10_links_9 rfl (lv_at hl 0 rfl) ?_
        refine vp_callSi (W.runS (As := [.int i1, .int kk]) (rest := []) ⟨hx, hb, hml, hown, hts⟩ (m_has l dC dI  i1 kk ) (va_cwS 2 hts mg_X10_linksm_X10_has_170 rfl rfl rfl (by decide +kernel) ⟨Nat.le_of_ble_eq_true rfl, Nat.le_of_ble_eq_true rfl⟩) ⟨fun a U g mk q => ⟨q.1, trivial⟩, fun U hU hW => ⟨rfl, trivial⟩⟩ rfl rfl hl.1 rfl (lv_room (Nat.le_of_ble_eq_true rfl)) dX10_links_10 ⟨Nat.le_of_ble_eq_true rfl, Nat.le_of_ble_eq_true rfl⟩) (fun r_2 hr_2 => ?_)
        have rg_r_2 := i_rng r_2
        refine lv_if_eq (tgt := 26) hx hb dX10_links_13 (by decide) (fun k_3 => ?_) (fun k_3 => ?_)
        · have tk_3 := c_eq (a := r_2.toInt) (b := 0) rfl (by decide) k_3
          obtain ⟨y_4, ey_4⟩ : ∃ y : Int32, y = kk + 1 := ⟨_, rfl⟩
          first | have ty_4 := i_add (a := kk.toInt) (b := 1) rfl (by decide) ey_4 (by omega) (by omega) | skip
          refine lv_iinc (v := y_4) (lv' := [(3, .int y_4), (0, .ref (ad 0)), (1, .int i1), (2, .int i2)]) hx hb dX10_links_26 hl (k := 0) rfl (by rw [ey_4]; rfl) (by decide) rfl (fun ls hl => ?_)
          refine lv_goto (tgt := 2) hx hb dX10_links_29 (by decide) ?_
          exact ih2 y_4 ga (by first | omega | assumption | decide) (by first | omega | assumption | decide) (by omega) _ _ ls hP hD hS (lv_sub hl [0, 1, 2, 3] rfl)
        · have tk_3 := c_ne (a := r_2.toInt) (b := 0) rfl (by decide) k_3
          refine lv_aload_n hx hb dX10_links_16 rfl (lv_at hl 1 rfl) ?_
          refine va_get (D := (dC, dI)) (ci := 10) (v := .ref (ad 18)) (C := RX10) (T := TX10) (N := 48) hx hb hts fin_X10_linksm_X10 hown hK hP 0 rfl rfl 40 (by decide) (hts (.fieldLink RX10 86 "PatternGateModel" "follow" "[I") (List.mem_of_getElem? (i := 5) (by decide +kernel))) (fun _ h9 => h9) rfl dX10_links_17 ?_
          refine lv_iload_n hx hb dX10_links_20 rfl (lv_at hl 0 rfl) ?_
          refine lv_dup2_11 hx hb dX10_links_21 rfl rfl ?_
          refine va_iald hx hb hK hP 18 17 rfl rfl (i := kk) (vp_of (a := kk.toInt) rfl (by omega) (by omega)) dX10_links_22 ?_
          refine lv_topi (fun y_5 ey_5 => ?_)
          have rg_y_5 := i_rng y_5
          refine lv_iload_n hx hb dX10_links_23 rfl (lv_at hl 3 rfl) ?_
          refine lv_ior hx hb dX10_links_24 ?_
          refine lv_topi (fun y_6 ey_6 => ?_)
          have rg_y_6 := i_rng y_6
          refine va_iast hx hb hK hP hD hS 18 17 rfl rfl (i := kk) (vp_of (a := kk.toInt) rfl (by omega) (by omega)) dX10_links_25 (fun H locs hP hD hS => ?_)
          generalize hf_f_7 : upd ga _ _ = f_7 at hP hD
          have hP : va_P (dC, dI) vwCl (mW ad kc x0 x1 x2 x3 x4 x5 x6 x7 x8 x9 x10 x11 x12 x13 x14 x15 x16 x17 x18 x19 x20 x21 f0 f1 f2 f3 f4 f5 f6 f7 f8 f9 f10 f11 f12 f13 f14 f15 f16 f_7 f18 f19 f20 f21 fL fN fP fM fO) H := hP
          have hD : va_D A (mW ad kc x0 x1 x2 x3 x4 x5 x6 x7 x8 x9 x10 x11 x12 x13 x14 x15 x16 x17 x18 x19 x20 x21 f0 f1 f2 f3 f4 f5 f6 f7 f8 f9 f10 f11 f12 f13 f14 f15 f16 f_7 f18 f19 f20 f21 fL fN fP fM fO) := hD
          obtain ⟨y_8, ey_8⟩ : ∃ y : Int32, y = kk + 1 := ⟨_, rfl⟩
          first | have ty_8 := i_add (a := kk.toInt) (b := 1) rfl (by decide) ey_8 (by omega) (by omega) | skip
          refine lv_iinc (v := y_8) (lv' := [(3, .int y_8), (0, .ref (ad 0)), (1, .int i1), (2, .int i2)]) hx hb dX10_links_26 hl (k := 0) rfl (by rw [ey_8]; rfl) (by decide) rfl (fun ls hl => ?_)
          refine lv_goto (tgt := 2) hx hb dX10_links_29 (by decide) ?_
          exact ih2 y_8 f_7 (by first | omega | assumption | decide) (by first | omega | assumption | decide) (by omega) _ _ ls hP hD hS (lv_sub hl [0, 1, 2, 3] rfl)
  have lit_8 : (0 : Int32).toInt = 0 := by decide
  exact loop2 _ 0 f17 (by first | omega | assumption | decide) (by first | omega | assumption | decide) (Nat.lt_succ_self _) _ _ ls hP hD hS (lv_sub hl [0, 1, 2, 3] rfl)
theorem dX10_walksItem_0 : decode cX10_walksItem 0 = .ok (.aload_n 0, 1) := by decide +kernel
theorem dX10_walksItem_1 : decode cX10_walksItem 1 = .ok (.getfield 43, 3) := by decide +kernel
theorem dX10_walksItem_4 : decode cX10_walksItem 4 = .ok (.iload_n 1, 1) := by decide +kernel
theorem dX10_walksItem_5 : decode cX10_walksItem 5 = .ok (.iaload, 1) := by decide +kernel
theorem dX10_walksItem_6 : decode cX10_walksItem 6 = .ok (.bipush 42, 2) := by decide +kernel
theorem dX10_walksItem_8 : decode cX10_walksItem 8 = .ok (.if_icmp .eq 14, 3) := by decide +kernel
theorem dX10_walksItem_11 : decode cX10_walksItem 11 = .ok (.aload_n 0, 1) := by decide +kernel
theorem dX10_walksItem_12 : decode cX10_walksItem 12 = .ok (.getfield 43, 3) := by decide +kernel
theorem dX10_walksItem_15 : decode cX10_walksItem 15 = .ok (.iload_n 1, 1) := by decide +kernel
theorem dX10_walksItem_16 : decode cX10_walksItem 16 = .ok (.iaload, 1) := by decide +kernel
theorem dX10_walksItem_17 : decode cX10_walksItem 17 = .ok (.bipush 63, 2) := by decide +kernel
theorem dX10_walksItem_19 : decode cX10_walksItem 19 = .ok (.if_icmp .ne 7, 3) := by decide +kernel
theorem dX10_walksItem_22 : decode cX10_walksItem 22 = .ok (.iconst 1, 1) := by decide +kernel
theorem dX10_walksItem_23 : decode cX10_walksItem 23 = .ok (.goto 4, 3) := by decide +kernel
theorem dX10_walksItem_26 : decode cX10_walksItem 26 = .ok (.iconst 0, 1) := by decide +kernel
theorem dX10_walksItem_27 : decode cX10_walksItem 27 = .ok (.istore_n 3, 1) := by decide +kernel
theorem dX10_walksItem_28 : decode cX10_walksItem 28 = .ok (.aload_n 0, 1) := by decide +kernel
theorem dX10_walksItem_29 : decode cX10_walksItem 29 = .ok (.getfield 71, 3) := by decide +kernel
theorem dX10_walksItem_32 : decode cX10_walksItem 32 = .ok (.iload_n 1, 1) := by decide +kernel
theorem dX10_walksItem_33 : decode cX10_walksItem 33 = .ok (.iload_n 3, 1) := by decide +kernel
theorem dX10_walksItem_34 : decode cX10_walksItem 34 = .ok (.ifCond .eq 7, 3) := by decide +kernel
theorem dX10_walksItem_37 : decode cX10_walksItem 37 = .ok (.iconst 1, 1) := by decide +kernel
theorem dX10_walksItem_38 : decode cX10_walksItem 38 = .ok (.goto 9, 3) := by decide +kernel
theorem dX10_walksItem_41 : decode cX10_walksItem 41 = .ok (.aload_n 0, 1) := by decide +kernel
theorem dX10_walksItem_42 : decode cX10_walksItem 42 = .ok (.getfield 71, 3) := by decide +kernel
theorem dX10_walksItem_45 : decode cX10_walksItem 45 = .ok (.iload_n 2, 1) := by decide +kernel
theorem dX10_walksItem_46 : decode cX10_walksItem 46 = .ok (.iaload, 1) := by decide +kernel
theorem dX10_walksItem_47 : decode cX10_walksItem 47 = .ok (.iastore, 1) := by decide +kernel
theorem dX10_walksItem_48 : decode cX10_walksItem 48 = .ok (.aload_n 0, 1) := by decide +kernel
theorem dX10_walksItem_49 : decode cX10_walksItem 49 = .ok (.getfield 74, 3) := by decide +kernel
theorem dX10_walksItem_52 : decode cX10_walksItem 52 = .ok (.iload_n 1, 1) := by decide +kernel
theorem dX10_walksItem_53 : decode cX10_walksItem 53 = .ok (.aload_n 0, 1) := by decide +kernel
theorem dX10_walksItem_54 : decode cX10_walksItem 54 = .ok (.getfield 74, 3) := by decide +kernel
theorem dX10_walksItem_57 : decode cX10_walksItem 57 = .ok (.iload_n 2, 1) := by decide +kernel
theorem dX10_walksItem_58 : decode cX10_walksItem 58 = .ok (.iaload, 1) := by decide +kernel
theorem dX10_walksItem_59 : decode cX10_walksItem 59 = .ok (.iastore, 1) := by decide +kernel
theorem dX10_walksItem_60 : decode cX10_walksItem 60 = .ok (.aload_n 0, 1) := by decide +kernel
theorem dX10_walksItem_61 : decode cX10_walksItem 61 = .ok (.getfield 77, 3) := by decide +kernel
theorem dX10_walksItem_64 : decode cX10_walksItem 64 = .ok (.iload_n 1, 1) := by decide +kernel
theorem dX10_walksItem_65 : decode cX10_walksItem 65 = .ok (.aload_n 0, 1) := by decide +kernel
theorem dX10_walksItem_66 : decode cX10_walksItem 66 = .ok (.getfield 77, 3) := by decide +kernel
theorem dX10_walksItem_69 : decode cX10_walksItem 69 = .ok (.iload_n 2, 1) := by decide +kernel
theorem dX10_walksItem_70 : decode cX10_walksItem 70 = .ok (.iaload, 1) := by decide +kernel
theorem dX10_walksItem_71 : decode cX10_walksItem 71 = .ok (.iastore, 1) := by decide +kernel
theorem dX10_walksItem_72 : decode cX10_walksItem 72 = .ok (.aload_n 0, 1) := by decide +kernel
theorem dX10_walksItem_73 : decode cX10_walksItem 73 = .ok (.getfield 80, 3) := by decide +kernel
theorem dX10_walksItem_76 : decode cX10_walksItem 76 = .ok (.iload_n 1, 1) := by decide +kernel
theorem dX10_walksItem_77 : decode cX10_walksItem 77 = .ok (.iload_n 3, 1) := by decide +kernel
theorem dX10_walksItem_78 : decode cX10_walksItem 78 = .ok (.ifCond .eq 7, 3) := by decide +kernel
theorem dX10_walksItem_81 : decode cX10_walksItem 81 = .ok (.iconst 0, 1) := by decide +kernel
theorem dX10_walksItem_82 : decode cX10_walksItem 82 = .ok (.goto 9, 3) := by decide +kernel
theorem dX10_walksItem_85 : decode cX10_walksItem 85 = .ok (.aload_n 0, 1) := by decide +kernel
theorem dX10_walksItem_86 : decode cX10_walksItem 86 = .ok (.getfield 80, 3) := by decide +kernel
theorem dX10_walksItem_89 : decode cX10_walksItem 89 = .ok (.iload_n 2, 1) := by decide +kernel
theorem dX10_walksItem_90 : decode cX10_walksItem 90 = .ok (.iaload, 1) := by decide +kernel
theorem dX10_walksItem_91 : decode cX10_walksItem 91 = .ok (.iastore, 1) := by decide +kernel
theorem dX10_walksItem_92 : decode cX10_walksItem 92 = .ok (.aload_n 0, 1) := by decide +kernel
theorem dX10_walksItem_93 : decode cX10_walksItem 93 = .ok (.getfield 83, 3) := by decide +kernel
theorem dX10_walksItem_96 : decode cX10_walksItem 96 = .ok (.iload_n 1, 1) := by decide +kernel
theorem dX10_walksItem_97 : decode cX10_walksItem 97 = .ok (.aload_n 0, 1) := by decide +kernel
theorem dX10_walksItem_98 : decode cX10_walksItem 98 = .ok (.getfield 83, 3) := by decide +kernel
theorem dX10_walksItem_101 : decode cX10_walksItem 101 = .ok (.iload_n 2, 1) := by decide +kernel
theorem dX10_walksItem_102 : decode cX10_walksItem 102 = .ok (.iaload, 1) := by decide +kernel
theorem dX10_walksItem_103 : decode cX10_walksItem 103 = .ok (.aload_n 0, 1) := by decide +kernel
theorem dX10_walksItem_104 : decode cX10_walksItem 104 = .ok (.getfield 43, 3) := by decide +kernel
theorem dX10_walksItem_107 : decode cX10_walksItem 107 = .ok (.iload_n 1, 1) := by decide +kernel
theorem dX10_walksItem_108 : decode cX10_walksItem 108 = .ok (.iaload, 1) := by decide +kernel
theorem dX10_walksItem_109 : decode cX10_walksItem 109 = .ok (.iconst (-1), 1) := by decide +kernel
theorem dX10_walksItem_110 : decode cX10_walksItem 110 = .ok (.if_icmp .ne 7, 3) := by decide +kernel
theorem dX10_walksItem_113 : decode cX10_walksItem 113 = .ok (.iconst 0, 1) := by decide +kernel
theorem dX10_walksItem_114 : decode cX10_walksItem 114 = .ok (.goto 4, 3) := by decide +kernel
theorem dX10_walksItem_117 : decode cX10_walksItem 117 = .ok (.iconst 1, 1) := by decide +kernel
theorem dX10_walksItem_118 : decode cX10_walksItem 118 = .ok (.iadd, 1) := by decide +kernel
theorem dX10_walksItem_119 : decode cX10_walksItem 119 = .ok (.iastore, 1) := by decide +kernel
theorem dX10_walksItem_120 : decode cX10_walksItem 120 = .ok (.aload_n 0, 1) := by decide +kernel
theorem dX10_walksItem_121 : decode cX10_walksItem 121 = .ok (.getfield 43, 3) := by decide +kernel
theorem dX10_walksItem_124 : decode cX10_walksItem 124 = .ok (.iload_n 1, 1) := by decide +kernel
theorem dX10_walksItem_125 : decode cX10_walksItem 125 = .ok (.iaload, 1) := by decide +kernel
theorem dX10_walksItem_126 : decode cX10_walksItem 126 = .ok (.bipush 42, 2) := by decide +kernel
theorem dX10_walksItem_128 : decode cX10_walksItem 128 = .ok (.if_icmp .eq 14, 3) := by decide +kernel
theorem dX10_walksItem_131 : decode cX10_walksItem 131 = .ok (.aload_n 0, 1) := by decide +kernel
theorem dX10_walksItem_132 : decode cX10_walksItem 132 = .ok (.getfield 43, 3) := by decide +kernel
theorem dX10_walksItem_135 : decode cX10_walksItem 135 = .ok (.iload_n 1, 1) := by decide +kernel
theorem dX10_walksItem_136 : decode cX10_walksItem 136 = .ok (.iaload, 1) := by decide +kernel
theorem dX10_walksItem_137 : decode cX10_walksItem 137 = .ok (.bipush 43, 2) := by decide +kernel
theorem dX10_walksItem_139 : decode cX10_walksItem 139 = .ok (.if_icmp .ne 19, 3) := by decide +kernel
theorem dX10_walksItem_142 : decode cX10_walksItem 142 = .ok (.aload_n 0, 1) := by decide +kernel
theorem dX10_walksItem_143 : decode cX10_walksItem 143 = .ok (.aload_n 0, 1) := by decide +kernel
theorem dX10_walksItem_144 : decode cX10_walksItem 144 = .ok (.getfield 77, 3) := by decide +kernel
theorem dX10_walksItem_147 : decode cX10_walksItem 147 = .ok (.iload_n 2, 1) := by decide +kernel
theorem dX10_walksItem_148 : decode cX10_walksItem 148 = .ok (.iaload, 1) := by decide +kernel
theorem dX10_walksItem_149 : decode cX10_walksItem 149 = .ok (.aload_n 0, 1) := by decide +kernel
theorem dX10_walksItem_150 : decode cX10_walksItem 150 = .ok (.getfield 74, 3) := by decide +kernel
theorem dX10_walksItem_153 : decode cX10_walksItem 153 = .ok (.iload_n 2, 1) := by decide +kernel
theorem dX10_walksItem_154 : decode cX10_walksItem 154 = .ok (.iaload, 1) := by decide +kernel
theorem dX10_walksItem_155 : decode cX10_walksItem 155 = .ok (.invokevirtual 387, 3) := by decide +kernel
theorem dX10_walksItem_158 : decode cX10_walksItem 158 = .ok (.return_, 1) := by decide +kernel
def mwX10_walksItemm : List Cond := .code yX10_walksItem cX10_walksItem 4 none :: ([.fieldLink RX10 43 "PatternGateModel" "sign" "[I", .fieldLink RX10 71 "PatternGateModel" "nullable" "[I", .fieldLink RX10 74 "PatternGateModel" "heads" "[I", .fieldLink RX10 77 "PatternGateModel" "tails" "[I", .fieldLink RX10 80 "PatternGateModel" "fewest" "[I", .fieldLink RX10 83 "PatternGateModel" "deep" "[I", .code yX10_links cX10_links 4 none, .code yX10_has cX10_has 2 (some .boolean), .methodLink RX10 170 yX10_has, .static yX10_has, .initialized RX10, .fieldLink RX10 86 "PatternGateModel" "follow" "[I", .methodLink RX10 387 yX10_links, .instanceMethod yX10_links, .selects RX10 yX10_links yX10_links] ++ wsX100)
theorem fin_X10_walksItemm_X10 : ∀ w ∈ wsX100, w ∈ mwX10_walksItemm := fun w h => List.mem_cons_of_mem _ (List.mem_append_right _ h)
set_option maxRecDepth 20000 in
theorem mg_X10_walksItemm_X10_links_387 : GoodIn mwX10_walksItemm (wsV RX10 387 RX10 yX10_links mwX10_linksm) := goodIn_r _ [13, 14, 15, 11, 7, 8, 9, 10, 11, 12, 16, 17, 18, 19, 20, 21, 22, 23, 24, 25, 26, 27, 28, 29, 30, 31, 32, 33, 34, 35, 36, 37, 38, 39, 40, 41, 42, 43, 44, 45, 46, 47, 48, 49, 50, 51, 52, 53, 54, 55, 56, 57, 58, 59, 60, 61, 62, 63] (by decide +kernel) (by decide +kernel)
set_option maxHeartbeats 4000000 in
set_option maxRecDepth 100000 in
theorem m_walksItem (l : Launch) (dC : Nat → ClassId) (dI : Nat → Nat → Nat) (ad : Nat → Nat) (kc : Nat → ClassId) (x0 x1 x2 x3 x4 x5 x6 x7 x8 x9 x10 x11 x12 x13 x14 x15 x16 x17 x18 x19 x20 x21 : Int32) (f0 f1 f2 f3 f4 f5 f6 f7 f8 f9 f10 f11 f12 f13 f14 f15 f16 f17 f18 f19 f20 f21 : Nat → Int32) (fL : Nat → Nat → Int64) (fN : Nat → Nat → Int32) (fP : Nat → Nat → Nat) (fM : Nat → Nat → Int32) (fO : Nat → Nat → Int32) (sz : Nat) (i1 i2 : Int32) (q0 : 0 ≤ i1.toInt ∧ i1.toInt < 1600) (q1 : 0 ≤ i2.toInt ∧ i2.toInt < 1600) : Met l yX10_walksItem mwX10_walksItemm ({ frames := 2, cells := 0, slots := 0, locals := 120 }) (va_Pc [.ref (ad 0), .int i1, .int i2] (fun U => U.heap.size = sz ∧ va_P (dC, dI) vwCl (mW ad kc x0 x1 x2 x3 x4 x5 x6 x7 x8 x9 x10 x11 x12 x13 x14 x15 x16 x17 x18 x19 x20 x21 f0 f1 f2 f3 f4 f5 f6 f7 f8 f9 f10 f11 f12 f13 f14 f15 f16 f17 f18 f19 f20 f21 fL fN fP fM fO) U.heap ∧ va_K (dC, dI) vwCl (mT kc) U ∧ va_D (fun _ => True) (mW ad kc x0 x1 x2 x3 x4 x5 x6 x7 x8 x9 x10 x11 x12 x13 x14 x15 x16 x17 x18 x19 x20 x21 f0 f1 f2 f3 f4 f5 f6 f7 f8 f9 f10 f11 f12 f13 f14 f15 f16 f17 f18 f19 f20 f21 fL fN fP fM fO))) (va_Qv (fun (_ : Unit) => True) (fun _ t => ∃ (g12 g13 g14 g15 g16 g17 g18 : Nat → Int32), va_P (dC, dI) vwCl (mW ad kc x0 x1 x2 x3 x4 x5 x6 x7 x8 x9 x10 x11 x12 x13 x14 x15 x16 x17 x18 x19 x20 x21 f0 f1 f2 f3 f4 f5 f6 f7 f8 f9 f10 f11 g12 g13 g14 g15 g16 g17 g18 f19 f20 f21 fL fN fP fM fO) t.heap ∧ va_K (dC, dI) vwCl (mT kc) t ∧ va_D (va_A (mW ad kc x0 x1 x2 x3 x4 x5 x6 x7 x8 x9 x10 x11 x12 x13 x14 x15 x16 x17 x18 x19 x20 x21 f0 f1 f2 f3 f4 f5 f6 f7 f8 f9 f10 f11 f12 f13 f14 f15 f16 f17 f18 f19 f20 f21 fL fN fP fM fO) sz) (mW ad kc x0 x1 x2 x3 x4 x5 x6 x7 x8 x9 x10 x11 x12 x13 x14 x15 x16 x17 x18 x19 x20 x21 f0 f1 f2 f3 f4 f5 f6 f7 f8 f9 f10 f11 g12 g13 g14 g15 g16 g17 g18 f19 f20 f21 fL fN fP fM fO)) (va_A (mW ad kc x0 x1 x2 x3 x4 x5 x6 x7 x8 x9 x10 x11 x12 x13 x14 x15 x16 x17 x18 x19 x20 x21 f0 f1 f2 f3 f4 f5 f6 f7 f8 f9 f10 f11 f12 f13 f14 f15 f16 f17 f18 f19 f20 f21 fL fN fP fM fO) sz)) 0 0 (va_A (mW ad kc x0 x1 x2 x3 x4 x5 x6 x7 x8 x9 x10 x11 x12 x13 x14 x15 x16 x17 x18 x19 x20 x21 f0 f1 f2 f3 f4 f5 f6 f7 f8 f9 f10 f11 f12 f13 f14 f15 f16 f17 f18 f19 f20 f21 fL fN fP fM fO) sz) := by
  refine Met.ofW (cc := cX10_walksItem) (maxL := 4) (ret := none) (by decide +kernel) rfl ?_
  intro p e s m args below meth c s₁ B hml hv
  obtain ⟨rfl, hsz, hP, hK, hD0⟩ := hv
  have hx := B.exec
  have hb := B.bytes
  have hr := B.returns
  have hts := atoms_spec (ws := mwX10_walksItemm) B.pre
  have hown : s.vm.findClass RX10 = some m.cls := findClass_of_methodNamed B.named
  have hlocks := B.notSynchronized
  subst hsz
  have hD := hD0.self (sz := s.heap.size)
  generalize hAe : va_A (mW ad kc x0 x1 x2 x3 x4 x5 x6 x7 x8 x9 x10 x11 x12 x13 x14 x15 x16 x17 x18 x19 x20 x21 f0 f1 f2 f3 f4 f5 f6 f7 f8 f9 f10 f11 f12 f13 f14 f15 f16 f17 f18 f19 f20 f21 fL fN fP fM fO) s.heap.size = A at hD ⊢
  have hA : ∀ q : Nat, s.heap.size ≤ q → A q := fun q h => by rw [← hAe]; exact Or.inr h
  have hP : va_P (dC, dI) vwCl (mW ad kc x0 x1 x2 x3 x4 x5 x6 x7 x8 x9 x10 x11 x12 x13 x14 x15 x16 x17 x18 x19 x20 x21 f0 f1 f2 f3 f4 f5 f6 f7 f8 f9 f10 f11 f12 f13 f14 f15 f16 f17 f18 f19 f20 f21 fL fN fP fM fO) s.heap := hP
  have hD : va_D A (mW ad kc x0 x1 x2 x3 x4 x5 x6 x7 x8 x9 x10 x11 x12 x13 x14 x15 x16 x17 x18 x19 x20 x21 f0 f1 f2 f3 f4 f5 f6 f7 f8 f9 f10 f11 f12 f13 f14 f15 f16 f17 f18 f19 f20 f21 fL fN fP fM fO) := hD
  have hK : va_K (dC, dI) vwCl (mT kc) s := hK
  generalize hH : s.heap = H at hP ⊢
  have hS : va_S A s.heap H [] := by rw [← hH]; exact va_S.rf
  have hl := lv_entry ([.ref (ad 0), .int i1, .int i2]) (n := 4) (Nat.le_of_ble_eq_true rfl)
  rw [lg_entry_eq]
  generalize (lg_sl ([.ref (ad 0), .int i1, .int i2]) ++ List.replicate (4 - (lg_sl ([.ref (ad 0), .int i1, .int i2])).length) Slot.unset).toArray = ls at hl ⊢
  have hl : lv_has ls 4 [(0, .ref (ad 0)), (1, .int i1), (2, .int i2)] := hl
  have rg_i1 := i_rng i1
  have rg_i2 := i_rng i2
  refine lv_aload_n hx hb dX10_walksItem_0 rfl (lv_at hl 0 rfl) ?_
  refine va_get (D := (dC, dI)) (ci := 10) (v := .ref (ad 9)) (C := RX10) (T := TX10) (N := 48) hx hb hts fin_X10_walksItemm_X10 hown hK hP 0 rfl rfl 20 (by decide) (hts (.fieldLink RX10 43 "PatternGateModel" "sign" "[I") (List.mem_of_getElem? (i := 1) (by decide +kernel))) (fun _ h9 => h9) rfl dX10_walksItem_1 ?_
  refine lv_iload_n hx hb dX10_walksItem_4 rfl (lv_at hl 1 rfl) ?_
  refine va_iald hx hb hK hP 9 8 rfl rfl (i := i1) (vp_of (a := i1.toInt) rfl (by omega) (by omega)) dX10_walksItem_5 ?_
  refine lv_topi (fun y_1 ey_1 => ?_)
  have rg_y_1 := i_rng y_1
  refine lv_bipush (v := 42) hx hb dX10_walksItem_6 (by decide) ?_
  refine lv_icmp_eq (tgt := 22) hx hb dX10_walksItem_8 (by decide) (fun k_2 => ?_) (fun k_2 => ?_)
  · have tk_2 := c_eq (a := y_1.toInt) (b := 42) rfl (by decide) k_2
    refine lv_iconst (v := 1) hx hb dX10_walksItem_22 (by decide) ?_
    refine lv_goto (tgt := 27) hx hb dX10_walksItem_23 (by decide) ?_
    refine lv_istore_n (lv' := [(3, .int 1), (0, .ref (ad 0)), (1, .int i1), (2, .int i2)]) hx hb dX10_walksItem_27 rfl hl (by decide) rfl (fun ls hl => ?_)
    refine lv_aload_n hx hb dX10_walksItem_28 rfl (lv_at hl 1 rfl) ?_
    refine va_get (D := (dC, dI)) (ci := 10) (v := .ref (ad 13)) (C := RX10) (T := TX10) (N := 48) hx hb hts fin_X10_walksItemm_X10 hown hK hP 0 rfl rfl 35 (by decide) (hts (.fieldLink RX10 71 "PatternGateModel" "nullable" "[I") (List.mem_of_getElem? (i := 2) (by decide +kernel))) (fun _ h9 => h9) rfl dX10_walksItem_29 ?_
    refine lv_iload_n hx hb dX10_walksItem_32 rfl (lv_at hl 2 rfl) ?_
    refine lv_iload_n hx hb dX10_walksItem_33 rfl (lv_at hl 0 rfl) ?_
    refine lv_if_eq (tgt := 41) hx hb dX10_walksItem_34 (by decide) (fun k_3 => absurd k_3 (by decide)) (fun k_3 => ?_)
    have tk_3 := c_ne (a := 1) (b := 0) (by decide) (by decide) k_3
    refine lv_iconst (v := 1) hx hb dX10_walksItem_37 (by decide) ?_
    refine lv_goto (tgt := 47) hx hb dX10_walksItem_38 (by decide) ?_
    refine va_iast hx hb hK hP hD hS 13 12 rfl rfl (i := i1) (vp_of (a := i1.toInt) rfl (by omega) (by omega)) dX10_walksItem_47 (fun H locs hP hD hS => ?_)
    generalize hf_f_4 : upd f12 _ _ = f_4 at hP hD
    have hP : va_P (dC, dI) vwCl (mW ad kc x0 x1 x2 x3 x4 x5 x6 x7 x8 x9 x10 x11 x12 x13 x14 x15 x16 x17 x18 x19 x20 x21 f0 f1 f2 f3 f4 f5 f6 f7 f8 f9 f10 f11 f_4 f13 f14 f15 f16 f17 f18 f19 f20 f21 fL fN fP fM fO) H := hP
    have hD : va_D A (mW ad kc x0 x1 x2 x3 x4 x5 x6 x7 x8 x9 x10 x11 x12 x13 x14 x15 x16 x17 x18 x19 x20 x21 f0 f1 f2 f3 f4 f5 f6 f7 f8 f9 f10 f11 f_4 f13 f14 f15 f16 f17 f18 f19 f20 f21 fL fN fP fM fO) := hD
    refine lv_aload_n hx hb dX10_walksItem_48 rfl (lv_at hl 1 rfl) ?_
    refine va_get (D := (dC, dI)) (ci := 10) (v := .ref (ad 14)) (C := RX10) (T := TX10) (N := 48) hx hb hts fin_X10_walksItemm_X10 hown hK hP 0 rfl rfl 36 (by decide) (hts (.fieldLink RX10 74 "PatternGateModel" "heads" "[I") (List.mem_of_getElem? (i := 3) (by decide +kernel))) (fun _ h9 => h9) rfl dX10_walksItem_49 ?_
    refine lv_iload_n hx hb dX10_walksItem_52 rfl (lv_at hl 2 rfl) ?_
    refine lv_aload_n hx hb dX10_walksItem_53 rfl (lv_at hl 1 rfl) ?_
    refine va_get (D := (dC, dI)) (ci := 10) (v := .ref (ad 14)) (C := RX10) (T := TX10) (N := 48) hx hb hts fin_X10_walksItemm_X10 hown hK hP 0 rfl rfl 36 (by decide) (hts (.fieldLink RX10 74 "PatternGateModel" "heads" "[I") (List.mem_of_getElem? (i := 3) (by decide +kernel))) (fun _ h9 => h9) rfl dX10_walksItem_54 ?_
    refine lv_iload_n hx hb dX10_walksItem_57 rfl (lv_at hl 3 rfl) ?_
    refine va_iald hx hb hK hP 14 13 rfl rfl (i := i2) (vp_of (a := i2.toInt) rfl (by omega) (by omega)) dX10_walksItem_58 ?_
    refine lv_topi (fun y_5 ey_5 => ?_)
    have rg_y_5 := i_rng y_5
    refine va_iast hx hb hK hP hD hS 14 13 rfl rfl (i := i1) (vp_of (a := i1.toInt) rfl (by omega) (by omega)) dX10_walksItem_59 (fun H locs hP hD hS => ?_)
    generalize hf_f_6 : upd f13 _ _ = f_6 at hP hD
    have hP : va_P (dC, dI) vwCl (mW ad kc x0 x1 x2 x3 x4 x5 x6 x7 x8 x9 x10 x11 x12 x13 x14 x15 x16 x17 x18 x19 x20 x21 f0 f1 f2 f3 f4 f5 f6 f7 f8 f9 f10 f11 f_4 f_6 f14 f15 f16 f17 f18 f19 f20 f21 fL fN fP fM fO) H := hP
    have hD : va_D A (mW ad kc x0 x1 x2 x3 x4 x5 x6 x7 x8 x9 x10 x11 x12 x13 x14 x15 x16 x17 x18 x19 x20 x21 f0 f1 f2 f3 f4 f5 f6 f7 f8 f9 f10 f11 f_4 f_6 f14 f15 f16 f17 f18 f19 f20 f21 fL fN fP fM fO) := hD
    refine lv_aload_n hx hb dX10_walksItem_60 rfl (lv_at hl 1 rfl) ?_
    refine va_get (D := (dC, dI)) (ci := 10) (v := .ref (ad 15)) (C := RX10) (T := TX10) (N := 48) hx hb hts fin_X10_walksItemm_X10 hown hK hP 0 rfl rfl 37 (by decide) (hts (.fieldLink RX10 77 "PatternGateModel" "tails" "[I") (List.mem_of_getElem? (i := 4) (by decide +kernel))) (fun _ h9 => h9) rfl dX10_walksItem_61 ?_
    refine lv_iload_n hx hb dX10_walksItem_64 rfl (lv_at hl 2 rfl) ?_
    refine lv_aload_n hx hb dX10_walksItem_65 rfl (lv_at hl 1 rfl) ?_
    refine va_get (D := (dC, dI)) (ci := 10) (v := .ref (ad 15)) (C := RX10) (T := TX10) (N := 48) hx hb hts fin_X10_walksItemm_X10 hown hK hP 0 rfl rfl 37 (by decide) (hts (.fieldLink RX10 77 "PatternGateModel" "tails" "[I") (List.mem_of_getElem? (i := 4) (by decide +kernel))) (fun _ h9 => h9) rfl dX10_walksItem_66 ?_
    refine lv_iload_n hx hb dX10_walksItem_69 rfl (lv_at hl 3 rfl) ?_
    refine va_iald hx hb hK hP 15 14 rfl rfl (i := i2) (vp_of (a := i2.toInt) rfl (by omega) (by omega)) dX10_walksItem_70 ?_
    refine lv_topi (fun y_7 ey_7 => ?_)
    have rg_y_7 := i_rng y_7
    refine va_iast hx hb hK hP hD hS 15 14 rfl rfl (i := i1) (vp_of (a := i1.toInt) rfl (by omega) (by omega)) dX10_walksItem_71 (fun H locs hP hD hS => ?_)
    generalize hf_f_8 : upd f14 _ _ = f_8 at hP hD
    have hP : va_P (dC, dI) vwCl (mW ad kc x0 x1 x2 x3 x4 x5 x6 x7 x8 x9 x10 x11 x12 x13 x14 x15 x16 x17 x18 x19 x20 x21 f0 f1 f2 f3 f4 f5 f6 f7 f8 f9 f10 f11 f_4 f_6 f_8 f15 f16 f17 f18 f19 f20 f21 fL fN fP fM fO) H := hP
    have hD : va_D A (mW ad kc x0 x1 x2 x3 x4 x5 x6 x7 x8 x9 x10 x11 x12 x13 x14 x15 x16 x17 x18 x19 x20 x21 f0 f1 f2 f3 f4 f5 f6 f7 f8 f9 f10 f11 f_4 f_6 f_8 f15 f16 f17 f18 f19 f20 f21 fL fN fP fM fO) := hD
    refine lv_aload_n hx hb dX10_walksItem_72 rfl (lv_at hl 1 rfl) ?_
    refine va_get (D := (dC, dI)) (ci := 10) (v := .ref (ad 16)) (C := RX10) (T := TX10) (N := 48) hx hb hts fin_X10_walksItemm_X10 hown hK hP 0 rfl rfl 38 (by decide) (hts (.fieldLink RX10 80 "PatternGateModel" "fewest" "[I") (List.mem_of_getElem? (i := 5) (by decide +kernel))) (fun _ h9 => h9) rfl dX10_walksItem_73 ?_
    refine lv_iload_n hx hb dX10_walksItem_76 rfl (lv_at hl 2 rfl) ?_
    refine lv_iload_n hx hb dX10_walksItem_77 rfl (lv_at hl 0 rfl) ?_
    refine lv_if_eq (tgt := 85) hx hb dX10_walksItem_78 (by decide) (fun k_9 => absurd k_9 (by decide)) (fun k_9 => ?_)
    have tk_9 := c_ne (a := 1) (b := 0) (by decide) (by decide) k_9
    refine lv_iconst (v := 0) hx hb dX10_walksItem_81 (by decide) ?_
    refine lv_goto (tgt := 91) hx hb dX10_walksItem_82 (by decide) ?_
    refine va_iast hx hb hK hP hD hS 16 15 rfl rfl (i := i1) (vp_of (a := i1.toInt) rfl (by omega) (by omega)) dX10_walksItem_91 (fun H locs hP hD hS => ?_)
    generalize hf_f_10 : upd f15 _ _ = f_10 at hP hD
    have hP : va_P (dC, dI) vwCl (mW ad kc x0 x1 x2 x3 x4 x5 x6 x7 x8 x9 x10 x11 x12 x13 x14 x15 x16 x17 x18 x19 x20 x21 f0 f1 f2 f3 f4 f5 f6 f7 f8 f9 f10 f11 f_4 f_6 f_8 f_10 f16 f17 f18 f19 f20 f21 fL fN fP fM fO) H := hP
    have hD : va_D A (mW ad kc x0 x1 x2 x3 x4 x5 x6 x7 x8 x9 x10 x11 x12 x13 x14 x15 x16 x17 x18 x19 x20 x21 f0 f1 f2 f3 f4 f5 f6 f7 f8 f9 f10 f11 f_4 f_6 f_8 f_10 f16 f17 f18 f19 f20 f21 fL fN fP fM fO) := hD
    refine lv_aload_n hx hb dX10_walksItem_92 rfl (lv_at hl 1 rfl) ?_
    refine va_get (D := (dC, dI)) (ci := 10) (v := .ref (ad 17)) (C := RX10) (T := TX10) (N := 48) hx hb hts fin_X10_walksItemm_X10 hown hK hP 0 rfl rfl 39 (by decide) (hts (.fieldLink RX10 83 "PatternGateModel" "deep" "[I") (List.mem_of_getElem? (i := 6) (by decide +kernel))) (fun _ h9 => h9) rfl dX10_walksItem_93 ?_
    refine lv_iload_n hx hb dX10_walksItem_96 rfl (lv_at hl 2 rfl) ?_
    refine lv_aload_n hx hb dX10_walksItem_97 rfl (lv_at hl 1 rfl) ?_
    refine va_get (D := (dC, dI)) (ci := 10) (v := .ref (ad 17)) (C := RX10) (T := TX10) (N := 48) hx hb hts fin_X10_walksItemm_X10 hown hK hP 0 rfl rfl 39 (by decide) (hts (.fieldLink RX10 83 "PatternGateModel" "deep" "[I") (List.mem_of_getElem? (i := 6) (by decide +kernel))) (fun _ h9 => h9) rfl dX10_walksItem_98 ?_
    refine lv_iload_n hx hb dX10_walksItem_101 rfl (lv_at hl 3 rfl) ?_
    refine va_iald hx hb hK hP 17 16 rfl rfl (i := i2) (vp_of (a := i2.toInt) rfl (by omega) (by omega)) dX10_walksItem_102 ?_
    refine lv_topi (fun y_11 ey_11 => ?_)
    have rg_y_11 := i_rng y_11
    refine lv_aload_n hx hb dX10_walksItem_103 rfl (lv_at hl 1 rfl) ?_
    refine va_get (D := (dC, dI)) (ci := 10) (v := .ref (ad 9)) (C := RX10) (T := TX10) (N := 48) hx hb hts fin_X10_walksItemm_X10 hown hK hP 0 rfl rfl 20 (by decide) (hts (.fieldLink RX10 43 "PatternGateModel" "sign" "[I") (List.mem_of_getElem? (i := 1) (by decide +kernel))) (fun _ h9 => h9) rfl dX10_walksItem_104 ?_
    refine lv_iload_n hx hb dX10_walksItem_107 rfl (lv_at hl 2 rfl) ?_
    refine va_iald hx hb hK hP 9 8 rfl rfl (i := i1) (vp_of (a := i1.toInt) rfl (by omega) (by omega)) dX10_walksItem_108 ?_
    refine lv_topi (fun y_12 ey_12 => ?_)
    have rg_y_12 := i_rng y_12
    refine lv_iconst (v := (-1)) hx hb dX10_walksItem_109 (by decide) ?_
    refine lv_icmp_ne (tgt := 117) hx hb dX10_walksItem_110 (by decide) (fun k_13 => ?_) (fun k_13 => ?_)
    · have tk_13 := c_ne (a := y_12.toInt) (b := (-1)) rfl (by decide) k_13
      refine lv_iconst (v := 1) hx hb dX10_walksItem_117 (by decide) ?_
      refine lv_iadd hx hb dX10_walksItem_118 ?_
      refine lv_topi (fun y_14 ey_14 => ?_)
      first | have ty_14 := i_add (a := y_11.toInt) (b := 1) rfl (by decide) ey_14 (by omega) (by omega) | skip
      refine va_iast hx hb hK hP hD hS 17 16 rfl rfl (i := i1) (vp_of (a := i1.toInt) rfl (by omega) (by omega)) dX10_walksItem_119 (fun H locs hP hD hS => ?_)
      generalize hf_f_15 : upd f16 _ _ = f_15 at hP hD
      have hP : va_P (dC, dI) vwCl (mW ad kc x0 x1 x2 x3 x4 x5 x6 x7 x8 x9 x10 x11 x12 x13 x14 x15 x16 x17 x18 x19 x20 x21 f0 f1 f2 f3 f4 f5 f6 f7 f8 f9 f10 f11 f_4 f_6 f_8 f_10 f_15 f17 f18 f19 f20 f21 fL fN fP fM fO) H := hP
      have hD : va_D A (mW ad kc x0 x1 x2 x3 x4 x5 x6 x7 x8 x9 x10 x11 x12 x13 x14 x15 x16 x17 x18 x19 x20 x21 f0 f1 f2 f3 f4 f5 f6 f7 f8 f9 f10 f11 f_4 f_6 f_8 f_10 f_15 f17 f18 f19 f20 f21 fL fN fP fM fO) := hD
      refine lv_aload_n hx hb dX10_walksItem_120 rfl (lv_at hl 1 rfl) ?_
      refine va_get (D := (dC, dI)) (ci := 10) (v := .ref (ad 9)) (C := RX10) (T := TX10) (N := 48) hx hb hts fin_X10_walksItemm_X10 hown hK hP 0 rfl rfl 20 (by decide) (hts (.fieldLink RX10 43 "PatternGateModel" "sign" "[I") (List.mem_of_getElem? (i := 1) (by decide +kernel))) (fun _ h9 => h9) rfl dX10_walksItem_121 ?_
      refine lv_iload_n hx hb dX10_walksItem_124 rfl (lv_at hl 2 rfl) ?_
      refine va_iald hx hb hK hP 9 8 rfl rfl (i := i1) (vp_of (a := i1.toInt) rfl (by omega) (by omega)) dX10_walksItem_125 ?_
      refine lv_topi (fun y_16 ey_16 => ?_)
      have rg_y_16 := i_rng y_16
      refine lv_bipush (v := 42) hx hb dX10_walksItem_126 (by decide) ?_
      refine lv_icmp_eq (tgt := 142) hx hb dX10_walksItem_128 (by decide) (fun k_17 => ?_) (fun k_17 => ?_)
      · have tk_17 := c_eq (a := y_16.toInt) (b := 42) rfl (by decide) k_17
        refine lv_aload_n hx hb dX10_walksItem_142 rfl (lv_at hl 1 rfl) ?_
        refine lv_aload_n hx hb dX10_walksItem_143 rfl (lv_at hl 1 rfl) ?_
        refine va_get (D := (dC, dI)) (ci := 10) (v := .ref (ad 15)) (C := RX10) (T := TX10) (N := 48) hx hb hts fin_X10_walksItemm_X10 hown hK hP 0 rfl rfl 37 (by decide) (hts (.fieldLink RX10 77 "PatternGateModel" "tails" "[I") (List.mem_of_getElem? (i := 4) (by decide +kernel))) (fun _ h9 => h9) rfl dX10_walksItem_144 ?_
        refine lv_iload_n hx hb dX10_walksItem_147 rfl (lv_at hl 3 rfl) ?_
        refine va_iald hx hb hK hP 15 14 rfl rfl (i := i2) (vp_of (a := i2.toInt) rfl (by omega) (by omega)) dX10_walksItem_148 ?_
        refine lv_topi (fun y_18 ey_18 => ?_)
        have rg_y_18 := i_rng y_18
        refine lv_aload_n hx hb dX10_walksItem_149 rfl (lv_at hl 1 rfl) ?_
        refine va_get (D := (dC, dI)) (ci := 10) (v := .ref (ad 14)) (C := RX10) (T := TX10) (N := 48) hx hb hts fin_X10_walksItemm_X10 hown hK hP 0 rfl rfl 36 (by decide) (hts (.fieldLink RX10 74 "PatternGateModel" "heads" "[I") (List.mem_of_getElem? (i := 3) (by decide +kernel))) (fun _ h9 => h9) rfl dX10_walksItem_150 ?_
        refine lv_iload_n hx hb dX10_walksItem_153 rfl (lv_at hl 3 rfl) ?_
        refine va_iald hx hb hK hP 14 13 rfl rfl (i := i2) (vp_of (a := i2.toInt) rfl (by omega) (by omega)) dX10_walksItem_154 ?_
        refine lv_topi (fun y_19 ey_19 => ?_)
        have rg_y_19 := i_rng y_19
        have hFc := m_free hD hS hA
        refine va_callv (va_runV (As := [.int y_18, .int y_19]) (rest := []) ⟨hx, hb, hml, hown, hts⟩ (m_links l dC dI ad kc x0 x1 x2 x3 x4 x5 x6 x7 x8 x9 x10 x11 x12 x13 x14 x15 x16 x17 x18 x19 x20 x21 f0 f1 f2 f3 f4 f5 f6 f7 f8 f9 f10 f11 f_4 f_6 f_8 f_10 f_15 f17 f18 f19 f20 f21 fL fN fP fM fO H.size y_18 y_19 ) (cwV 2 hts mg_X10_walksItemm_X10_links_387 rfl rfl rfl (by decide +kernel) ⟨Nat.le_of_ble_eq_true rfl, Nat.le_of_ble_eq_true rfl⟩) ⟨fun a U g mk q => by obtain ⟨q0, q1, qP, qK, qD⟩ := q; exact ⟨q0, q1, qP, va_K.moved (u := U) (U := U.calling g mk a) (Vm.Alike.refl U.vm) qK, qD⟩, va_recv hK hP (ci := 10) (q0 := 0) rfl rfl, fun U hU hW => ⟨rfl, by rw [hU], by rw [hU]; exact hP, va_K.moved hW.alike hK, hD.weaken (fun _ _ _ _ => trivial)⟩⟩ rfl rfl hl.1 rfl (lv_room (Nat.le_of_ble_eq_true rfl)) dX10_walksItem_155 ⟨Nat.le_of_ble_eq_true rfl, Nat.le_of_ble_eq_true rfl⟩) hS (fun q _ h => hFc q h) hFc (fun u t H1 locs ht hvm hw hB hz1 hk1 hS => ?_)
        obtain ⟨f_21, hP, hK1, hD1⟩ := hB
        rw [ht] at hP
        have hD := hD1.weaken (fun k q _ h => hFc q.1 h)
        clear hz1 hk1 hFc hD1 hK1 hvm
        generalize H1 = H at hP hS ⊢
        have hP : va_P (dC, dI) vwCl (mW ad kc x0 x1 x2 x3 x4 x5 x6 x7 x8 x9 x10 x11 x12 x13 x14 x15 x16 x17 x18 x19 x20 x21 f0 f1 f2 f3 f4 f5 f6 f7 f8 f9 f10 f11 f_4 f_6 f_8 f_10 f_15 f_21 f18 f19 f20 f21 fL fN fP fM fO) H := hP
        have hD : va_D A (mW ad kc x0 x1 x2 x3 x4 x5 x6 x7 x8 x9 x10 x11 x12 x13 x14 x15 x16 x17 x18 x19 x20 x21 f0 f1 f2 f3 f4 f5 f6 f7 f8 f9 f10 f11 f_4 f_6 f_8 f_10 f_15 f_21 f18 f19 f20 f21 fL fN fP fM fO) := hD
        exact W.vret hx hb hr (fun t ht hW => ⟨⟨(), rfl, trivial, f_4, f_6, f_8, f_10, f_15, f_21, f18, by rw [ht]; exact hP, va_K.moved hW.alike hK, hD⟩, hS.F ht⟩) hS.2.2 dX10_walksItem_158
      · have tk_17 := c_ne (a := y_16.toInt) (b := 42) rfl (by decide) k_17
        refine lv_aload_n hx hb dX10_walksItem_131 rfl (lv_at hl 1 rfl) ?_
        refine va_get (D := (dC, dI)) (ci := 10) (v := .ref (ad 9)) (C := RX10) (T := TX10) (N := 48) hx hb hts fin_X10_walksItemm_X10 hown hK hP 0 rfl rfl 20 (by decide) (hts (.fieldLink RX10 43 "PatternGateModel" "sign" "[I") (List.mem_of_getElem? (i := 1) (by decide +kernel))) (fun _ h9 => h9) rfl dX10_walksItem_132 ?_
        refine lv_iload_n hx hb dX10_walksItem_135 rfl (lv_at hl 2 rfl) ?_
        refine va_iald hx hb hK hP 9 8 rfl rfl (i := i1) (vp_of (a := i1.toInt) rfl (by omega) (by omega)) dX10_walksItem_136 ?_
        refine lv_topi (fun y_22 ey_22 => ?_)
        have rg_y_22 := i_rng y_22
        refine lv_bipush (v := 43) hx hb dX10_walksItem_137 (by decide) ?_
        refine lv_icmp_ne (tgt := 158) hx hb dX10_walksItem_139 (by decide) (fun k_23 => ?_) (fun k_23 => ?_)
        · have tk_23 := c_ne (a := y_22.toInt) (b := 43) rfl (by decide) k_23
          exact W.vret hx hb hr (fun t ht hW => ⟨⟨(), rfl, trivial, f_4, f_6, f_8, f_10, f_15, f17, f18, by rw [ht]; exact hP, va_K.moved hW.alike hK, hD⟩, hS.F ht⟩) hS.2.2 dX10_walksItem_158
        · have tk_23 := c_eq (a := y_22.toInt) (b := 43) rfl (by decide) k_23
          refine lv_aload_n hx hb dX10_walksItem_142 rfl (lv_at hl 1 rfl) ?_
          refine lv_aload_n hx hb dX10_walksItem_143 rfl (lv_at hl 1 rfl) ?_
          refine va_get (D := (dC, dI)) (ci := 10) (v := .ref (ad 15)) (C := RX10) (T := TX10) (N := 48) hx hb hts fin_X10_walksItemm_X10 hown hK hP 0 rfl rfl 37 (by decide) (hts (.fieldLink RX10 77 "PatternGateModel" "tails" "[I") (List.mem_of_getElem? (i := 4) (by decide +kernel))) (fun _ h9 => h9) rfl dX10_walksItem_144 ?_
          refine lv_iload_n hx hb dX10_walksItem_147 rfl (lv_at hl 3 rfl) ?_
          refine va_iald hx hb hK hP 15 14 rfl rfl (i := i2) (vp_of (a := i2.toInt) rfl (by omega) (by omega)) dX10_walksItem_148 ?_
          refine lv_topi (fun y_24 ey_24 => ?_)
          have rg_y_24 := i_rng y_24
          refine lv_aload_n hx hb dX10_walksItem_149 rfl (lv_at hl 1 rfl) ?_
          refine va_get (D := (dC, dI)) (ci := 10) (v := .ref (ad 14)) (C := RX10) (T := TX10) (N := 48) hx hb hts fin_X10_walksItemm_X10 hown hK hP 0 rfl rfl 36 (by decide) (hts (.fieldLink RX10 74 "PatternGateModel" "heads" "[I") (List.mem_of_getElem? (i := 3) (by decide +kernel))) (fun _ h9 => h9) rfl dX10_walksItem_150 ?_
          refine lv_iload_n hx hb dX10_walksItem_153 rfl (lv_at hl 3 rfl) ?_
          refine va_iald hx hb hK hP 14 13 rfl rfl (i := i2) (vp_of (a := i2.toInt) rfl (by omega) (by omega)) dX10_walksItem_154 ?_
          refine lv_topi (fun y_25 ey_25 => ?_)
          have rg_y_25 := i_rng y_25
          have hFc := m_free hD hS hA
          refine va_callv (va_runV (As := [.int y_24, .int y_25]) (rest := []) ⟨hx, hb, hml, hown, hts⟩ (m_links l dC dI ad kc x0 x1 x2 x3 x4 x5 x6 x7 x8 x9 x10 x11 x12 x13 x14 x15 x16 x17 x18 x19 x20 x21 f0 f1 f2 f3 f4 f5 f6 f7 f8 f9 f10 f11 f_4 f_6 f_8 f_10 f_15 f17 f18 f19 f20 f21 fL fN fP fM fO H.size y_24 y_25 ) (cwV 2 hts mg_X10_walksItemm_X10_links_387 rfl rfl rfl (by decide +kernel) ⟨Nat.le_of_ble_eq_true rfl, Nat.le_of_ble_eq_true rfl⟩) ⟨fun a U g mk q => by obtain ⟨q0, q1, qP, qK, qD⟩ := q; exact ⟨q0, q1, qP, va_K.moved (u := U) (U := U.calling g mk a) (Vm.Alike.refl U.vm) qK, qD⟩, va_recv hK hP (ci := 10) (q0 := 0) rfl rfl, fun U hU hW => ⟨rfl, by rw [hU], by rw [hU]; exact hP, va_K.moved hW.alike hK, hD.weaken (fun _ _ _ _ => trivial)⟩⟩ rfl rfl hl.1 rfl (lv_room (Nat.le_of_ble_eq_true rfl)) dX10_walksItem_155 ⟨Nat.le_of_ble_eq_true rfl, Nat.le_of_ble_eq_true rfl⟩) hS (fun q _ h => hFc q h) hFc (fun u t H1 locs ht hvm hw hB hz1 hk1 hS => ?_)
          obtain ⟨f_27, hP, hK1, hD1⟩ := hB
          rw [ht] at hP
          have hD := hD1.weaken (fun k q _ h => hFc q.1 h)
          clear hz1 hk1 hFc hD1 hK1 hvm
          generalize H1 = H at hP hS ⊢
          have hP : va_P (dC, dI) vwCl (mW ad kc x0 x1 x2 x3 x4 x5 x6 x7 x8 x9 x10 x11 x12 x13 x14 x15 x16 x17 x18 x19 x20 x21 f0 f1 f2 f3 f4 f5 f6 f7 f8 f9 f10 f11 f_4 f_6 f_8 f_10 f_15 f_27 f18 f19 f20 f21 fL fN fP fM fO) H := hP
          have hD : va_D A (mW ad kc x0 x1 x2 x3 x4 x5 x6 x7 x8 x9 x10 x11 x12 x13 x14 x15 x16 x17 x18 x19 x20 x21 f0 f1 f2 f3 f4 f5 f6 f7 f8 f9 f10 f11 f_4 f_6 f_8 f_10 f_15 f_27 f18 f19 f20 f21 fL fN fP fM fO) := hD
          exact W.vret hx hb hr (fun t ht hW => ⟨⟨(), rfl, trivial, f_4, f_6, f_8, f_10, f_15, f_27, f18, by rw [ht]; exact hP, va_K.moved hW.alike hK, hD⟩, hS.F ht⟩) hS.2.2 dX10_walksItem_158
    · have tk_13 := c_eq (a := y_12.toInt) (b := (-1)) rfl (by decide) k_13
      refine lv_iconst (v := 0) hx hb dX10_walksItem_113 (by decide) ?_
      refine lv_goto (tgt := 118) hx hb dX10_walksItem_114 (by decide) ?_
      refine lv_iadd hx hb dX10_walksItem_118 ?_
      refine lv_topi (fun y_28 ey_28 => ?_)
      first | have ty_28 := i_add (a := y_11.toInt) (b := 0) rfl (by decide) ey_28 (by omega) (by omega) | skip
      refine va_iast hx hb hK hP hD hS 17 16 rfl rfl (i := i1) (vp_of (a := i1.toInt) rfl (by omega) (by omega)) dX10_walksItem_119 (fun H locs hP hD hS => ?_)
      generalize hf_f_29 : upd f16 _ _ = f_29 at hP hD
      have hP : va_P (dC, dI) vwCl (mW ad kc x0 x1 x2 x3 x4 x5 x6 x7 x8 x9 x10 x11 x12 x13 x14 x15 x16 x17 x18 x19 x20 x21 f0 f1 f2 f3 f4 f5 f6 f7 f8 f9 f10 f11 f_4 f_6 f_8 f_10 f_29 f17 f18 f19 f20 f21 fL fN fP fM fO) H := hP
      have hD : va_D A (mW ad kc x0 x1 x2 x3 x4 x5 x6 x7 x8 x9 x10 x11 x12 x13 x14 x15 x16 x17 x18 x19 x20 x21 f0 f1 f2 f3 f4 f5 f6 f7 f8 f9 f10 f11 f_4 f_6 f_8 f_10 f_29 f17 f18 f19 f20 f21 fL fN fP fM fO) := hD
      refine lv_aload_n hx hb dX10_walksItem_120 rfl (lv_at hl 1 rfl) ?_
      refine va_get (D := (dC, dI)) (ci := 10) (v := .ref (ad 9)) (C := RX10) (T := TX10) (N := 48) hx hb hts fin_X10_walksItemm_X10 hown hK hP 0 rfl rfl 20 (by decide) (hts (.fieldLink RX10 43 "PatternGateModel" "sign" "[I") (List.mem_of_getElem? (i := 1) (by decide +kernel))) (fun _ h9 => h9) rfl dX10_walksItem_121 ?_
      refine lv_iload_n hx hb dX10_walksItem_124 rfl (lv_at hl 2 rfl) ?_
      refine va_iald hx hb hK hP 9 8 rfl rfl (i := i1) (vp_of (a := i1.toInt) rfl (by omega) (by omega)) dX10_walksItem_125 ?_
      refine lv_topi (fun y_30 ey_30 => ?_)
      have rg_y_30 := i_rng y_30
      refine lv_bipush (v := 42) hx hb dX10_walksItem_126 (by decide) ?_
      refine lv_icmp_eq (tgt := 142) hx hb dX10_walksItem_128 (by decide) (fun k_31 => ?_) (fun k_31 => ?_)
      · have tk_31 := c_eq (a := y_30.toInt) (b := 42) rfl (by decide) k_31
        refine lv_aload_n hx hb dX10_walksItem_142 rfl (lv_at hl 1 rfl) ?_
        refine lv_aload_n hx hb dX10_walksItem_143 rfl (lv_at hl 1 rfl) ?_
        refine va_get (D := (dC, dI)) (ci := 10) (v := .ref (ad 15)) (C := RX10) (T := TX10) (N := 48) hx hb hts fin_X10_walksItemm_X10 hown hK hP 0 rfl rfl 37 (by decide) (hts (.fieldLink RX10 77 "PatternGateModel" "tails" "[I") (List.mem_of_getElem? (i := 4) (by decide +kernel))) (fun _ h9 => h9) rfl dX10_walksItem_144 ?_
        refine lv_iload_n hx hb dX10_walksItem_147 rfl (lv_at hl 3 rfl) ?_
        refine va_iald hx hb hK hP 15 14 rfl rfl (i := i2) (vp_of (a := i2.toInt) rfl (by omega) (by omega)) dX10_walksItem_148 ?_
        refine lv_topi (fun y_32 ey_32 => ?_)
        have rg_y_32 := i_rng y_32
        refine lv_aload_n hx hb dX10_walksItem_149 rfl (lv_at hl 1 rfl) ?_
        refine va_get (D := (dC, dI)) (ci := 10) (v := .ref (ad 14)) (C := RX10) (T := TX10) (N := 48) hx hb hts fin_X10_walksItemm_X10 hown hK hP 0 rfl rfl 36 (by decide) (hts (.fieldLink RX10 74 "PatternGateModel" "heads" "[I") (List.mem_of_getElem? (i := 3) (by decide +kernel))) (fun _ h9 => h9) rfl dX10_walksItem_150 ?_
        refine lv_iload_n hx hb dX10_walksItem_153 rfl (lv_at hl 3 rfl) ?_
        refine va_iald hx hb hK hP 14 13 rfl rfl (i := i2) (vp_of (a := i2.toInt) rfl (by omega) (by omega)) dX10_walksItem_154 ?_
        refine lv_topi (fun y_33 ey_33 => ?_)
        have rg_y_33 := i_rng y_33
        have hFc := m_free hD hS hA
        refine va_callv (va_runV (As := [.int y_32, .int y_33]) (rest := []) ⟨hx, hb, hml, hown, hts⟩ (m_links l dC dI ad kc x0 x1 x2 x3 x4 x5 x6 x7 x8 x9 x10 x11 x12 x13 x14 x15 x16 x17 x18 x19 x20 x21 f0 f1 f2 f3 f4 f5 f6 f7 f8 f9 f10 f11 f_4 f_6 f_8 f_10 f_29 f17 f18 f19 f20 f21 fL fN fP fM fO H.size y_32 y_33 ) (cwV 2 hts mg_X10_walksItemm_X10_links_387 rfl rfl rfl (by decide +kernel) ⟨Nat.le_of_ble_eq_true rfl, Nat.le_of_ble_eq_true rfl⟩) ⟨fun a U g mk q => by obtain ⟨q0, q1, qP, qK, qD⟩ := q; exact ⟨q0, q1, qP, va_K.moved (u := U) (U := U.calling g mk a) (Vm.Alike.refl U.vm) qK, qD⟩, va_recv hK hP (ci := 10) (q0 := 0) rfl rfl, fun U hU hW => ⟨rfl, by rw [hU], by rw [hU]; exact hP, va_K.moved hW.alike hK, hD.weaken (fun _ _ _ _ => trivial)⟩⟩ rfl rfl hl.1 rfl (lv_room (Nat.le_of_ble_eq_true rfl)) dX10_walksItem_155 ⟨Nat.le_of_ble_eq_true rfl, Nat.le_of_ble_eq_true rfl⟩) hS (fun q _ h => hFc q h) hFc (fun u t H1 locs ht hvm hw hB hz1 hk1 hS => ?_)
        obtain ⟨f_35, hP, hK1, hD1⟩ := hB
        rw [ht] at hP
        have hD := hD1.weaken (fun k q _ h => hFc q.1 h)
        clear hz1 hk1 hFc hD1 hK1 hvm
        generalize H1 = H at hP hS ⊢
        have hP : va_P (dC, dI) vwCl (mW ad kc x0 x1 x2 x3 x4 x5 x6 x7 x8 x9 x10 x11 x12 x13 x14 x15 x16 x17 x18 x19 x20 x21 f0 f1 f2 f3 f4 f5 f6 f7 f8 f9 f10 f11 f_4 f_6 f_8 f_10 f_29 f_35 f18 f19 f20 f21 fL fN fP fM fO) H := hP
        have hD : va_D A (mW ad kc x0 x1 x2 x3 x4 x5 x6 x7 x8 x9 x10 x11 x12 x13 x14 x15 x16 x17 x18 x19 x20 x21 f0 f1 f2 f3 f4 f5 f6 f7 f8 f9 f10 f11 f_4 f_6 f_8 f_10 f_29 f_35 f18 f19 f20 f21 fL fN fP fM fO) := hD
        exact W.vret hx hb hr (fun t ht hW => ⟨⟨(), rfl, trivial, f_4, f_6, f_8, f_10, f_29, f_35, f18, by rw [ht]; exact hP, va_K.moved hW.alike hK, hD⟩, hS.F ht⟩) hS.2.2 dX10_walksItem_158
      · have tk_31 := c_ne (a := y_30.toInt) (b := 42) rfl (by decide) k_31
        refine lv_aload_n hx hb dX10_walksItem_131 rfl (lv_at hl 1 rfl) ?_
        refine va_get (D := (dC, dI)) (ci := 10) (v := .ref (ad 9)) (C := RX10) (T := TX10) (N := 48) hx hb hts fin_X10_walksItemm_X10 hown hK hP 0 rfl rfl 20 (by decide) (hts (.fieldLink RX10 43 "PatternGateModel" "sign" "[I") (List.mem_of_getElem? (i := 1) (by decide +kernel))) (fun _ h9 => h9) rfl dX10_walksItem_132 ?_
        refine lv_iload_n hx hb dX10_walksItem_135 rfl (lv_at hl 2 rfl) ?_
        refine va_iald hx hb hK hP 9 8 rfl rfl (i := i1) (vp_of (a := i1.toInt) rfl (by omega) (by omega)) dX10_walksItem_136 ?_
        refine lv_topi (fun y_36 ey_36 => ?_)
        have rg_y_36 := i_rng y_36
        refine lv_bipush (v := 43) hx hb dX10_walksItem_137 (by decide) ?_
        refine lv_icmp_ne (tgt := 158) hx hb dX10_walksItem_139 (by decide) (fun k_37 => ?_) (fun k_37 => ?_)
        · have tk_37 := c_ne (a := y_36.toInt) (b := 43) rfl (by decide) k_37
          exact W.vret hx hb hr (fun t ht hW => ⟨⟨(), rfl, trivial, f_4, f_6, f_8, f_10, f_29, f17, f18, by rw [ht]; exact hP, va_K.moved hW.alike hK, hD⟩, hS.F ht⟩) hS.2.2 dX10_walksItem_158
        · have tk_37 := c_eq (a := y_36.toInt) (b := 43) rfl (by decide) k_37
          refine lv_aload_n hx hb dX10_walksItem_142 rfl (lv_at hl 1 rfl) ?_
          refine lv_aload_n hx hb dX10_walksItem_143 rfl (lv_at hl 1 rfl) ?_
          refine va_get (D := (dC, dI)) (ci := 10) (v := .ref (ad 15)) (C := RX10) (T := TX10) (N := 48) hx hb hts fin_X10_walksItemm_X10 hown hK hP 0 rfl rfl 37 (by decide) (hts (.fieldLink RX10 77 "PatternGateModel" "tails" "[I") (List.mem_of_getElem? (i := 4) (by decide +kernel))) (fun _ h9 => h9) rfl dX10_walksItem_144 ?_
          refine lv_iload_n hx hb dX10_walksItem_147 rfl (lv_at hl 3 rfl) ?_
          refine va_iald hx hb hK hP 15 14 rfl rfl (i := i2) (vp_of (a := i2.toInt) rfl (by omega) (by omega)) dX10_walksItem_148 ?_
          refine lv_topi (fun y_38 ey_38 => ?_)
          have rg_y_38 := i_rng y_38
          refine lv_aload_n hx hb dX10_walksItem_149 rfl (lv_at hl 1 rfl) ?_
          refine va_get (D := (dC, dI)) (ci := 10) (v := .ref (ad 14)) (C := RX10) (T := TX10) (N := 48) hx hb hts fin_X10_walksItemm_X10 hown hK hP 0 rfl rfl 36 (by decide) (hts (.fieldLink RX10 74 "PatternGateModel" "heads" "[I") (List.mem_of_getElem? (i := 3) (by decide +kernel))) (fun _ h9 => h9) rfl dX10_walksItem_150 ?_
          refine lv_iload_n hx hb dX10_walksItem_153 rfl (lv_at hl 3 rfl) ?_
          refine va_iald hx hb hK hP 14 13 rfl rfl (i := i2) (vp_of (a := i2.toInt) rfl (by omega) (by omega)) dX10_walksItem_154 ?_
          refine lv_topi (fun y_39 ey_39 => ?_)
          have rg_y_39 := i_rng y_39
          have hFc := m_free hD hS hA
          refine va_callv (va_runV (As := [.int y_38, .int y_39]) (rest := []) ⟨hx, hb, hml, hown, hts⟩ (m_links l dC dI ad kc x0 x1 x2 x3 x4 x5 x6 x7 x8 x9 x10 x11 x12 x13 x14 x15 x16 x17 x18 x19 x20 x21 f0 f1 f2 f3 f4 f5 f6 f7 f8 f9 f10 f11 f_4 f_6 f_8 f_10 f_29 f17 f18 f19 f20 f21 fL fN fP fM fO H.size y_38 y_39 ) (cwV 2 hts mg_X10_walksItemm_X10_links_387 rfl rfl rfl (by decide +kernel) ⟨Nat.le_of_ble_eq_true rfl, Nat.le_of_ble_eq_true rfl⟩) ⟨fun a U g mk q => by obtain ⟨q0, q1, qP, qK, qD⟩ := q; exact ⟨q0, q1, qP, va_K.moved (u := U) (U := U.calling g mk a) (Vm.Alike.refl U.vm) qK, qD⟩, va_recv hK hP (ci := 10) (q0 := 0) rfl rfl, fun U hU hW => ⟨rfl, by rw [hU], by rw [hU]; exact hP, va_K.moved hW.alike hK, hD.weaken (fun _ _ _ _ => trivial)⟩⟩ rfl rfl hl.1 rfl (lv_room (Nat.le_of_ble_eq_true rfl)) dX10_walksItem_155 ⟨Nat.le_of_ble_eq_true rfl, Nat.le_of_ble_eq_true rfl⟩) hS (fun q _ h => hFc q h) hFc (fun u t H1 locs ht hvm hw hB hz1 hk1 hS => ?_)
          obtain ⟨f_41, hP, hK1, hD1⟩ := hB
          rw [ht] at hP
          have hD := hD1.weaken (fun k q _ h => hFc q.1 h)
          clear hz1 hk1 hFc hD1 hK1 hvm
          generalize H1 = H at hP hS ⊢
          have hP : va_P (dC, dI) vwCl (mW ad kc x0 x1 x2 x3 x4 x5 x6 x7 x8 x9 x10 x11 x12 x13 x14 x15 x16 x17 x18 x19 x20 x21 f0 f1 f2 f3 f4 f5 f6 f7 f8 f9 f10 f11 f_4 f_6 f_8 f_10 f_29 f_41 f18 f19 f20 f21 fL fN fP fM fO) H := hP
          have hD : va_D A (mW ad kc x0 x1 x2 x3 x4 x5 x6 x7 x8 x9 x10 x11 x12 x13 x14 x15 x16 x17 x18 x19 x20 x21 f0 f1 f2 f3 f4 f5 f6 f7 f8 f9 f10 f11 f_4 f_6 f_8 f_10 f_29 f_41 f18 f19 f20 f21 fL fN fP fM fO) := hD
          exact W.vret hx hb hr (fun t ht hW => ⟨⟨(), rfl, trivial, f_4, f_6, f_8, f_10, f_29, f_41, f18, by rw [ht]; exact hP, va_K.moved hW.alike hK, hD⟩, hS.F ht⟩) hS.2.2 dX10_walksItem_158
  · have tk_2 := c_ne (a := y_1.toInt) (b := 42) rfl (by decide) k_2
    refine lv_aload_n hx hb dX10_walksItem_11 rfl (lv_at hl 0 rfl) ?_
    refine va_get (D := (dC, dI)) (ci := 10) (v := .ref (ad 9)) (C := RX10) (T := TX10) (N := 48) hx hb hts fin_X10_walksItemm_X10 hown hK hP 0 rfl rfl 20 (by decide) (hts (.fieldLink RX10 43 "PatternGateModel" "sign" "[I") (List.mem_of_getElem? (i := 1) (by decide +kernel))) (fun _ h9 => h9) rfl dX10_walksItem_12 ?_
    refine lv_iload_n hx hb dX10_walksItem_15 rfl (lv_at hl 1 rfl) ?_
    refine va_iald hx hb hK hP 9 8 rfl rfl (i := i1) (vp_of (a := i1.toInt) rfl (by omega) (by omega)) dX10_walksItem_16 ?_
    refine lv_topi (fun y_42 ey_42 => ?_)
    have rg_y_42 := i_rng y_42
    refine lv_bipush (v := 63) hx hb dX10_walksItem_17 (by decide) ?_
    refine lv_icmp_ne (tgt := 26) hx hb dX10_walksItem_19 (by decide) (fun k_43 => ?_) (fun k_43 => ?_)
    · have tk_43 := c_ne (a := y_42.toInt) (b := 63) rfl (by decide) k_43
      refine lv_iconst (v := 0) hx hb dX10_walksItem_26 (by decide) ?_
      refine lv_istore_n (lv' := [(3, .int 0), (0, .ref (ad 0)), (1, .int i1), (2, .int i2)]) hx hb dX10_walksItem_27 rfl hl (by decide) rfl (fun ls hl => ?_)
      refine lv_aload_n hx hb dX10_walksItem_28 rfl (lv_at hl 1 rfl) ?_
      refine va_get (D := (dC, dI)) (ci := 10) (v := .ref (ad 13)) (C := RX10) (T := TX10) (N := 48) hx hb hts fin_X10_walksItemm_X10 hown hK hP 0 rfl rfl 35 (by decide) (hts (.fieldLink RX10 71 "PatternGateModel" "nullable" "[I") (List.mem_of_getElem? (i := 2) (by decide +kernel))) (fun _ h9 => h9) rfl dX10_walksItem_29 ?_
      refine lv_iload_n hx hb dX10_walksItem_32 rfl (lv_at hl 2 rfl) ?_
      refine lv_iload_n hx hb dX10_walksItem_33 rfl (lv_at hl 0 rfl) ?_
      refine lv_if_eq (tgt := 41) hx hb dX10_walksItem_34 (by decide) (fun k_44 => ?_) (fun k_44 => absurd (by decide) k_44)
      have tk_44 := c_eq (a := 0) (b := 0) (by decide) (by decide) k_44
      refine lv_aload_n hx hb dX10_walksItem_41 rfl (lv_at hl 1 rfl) ?_
      refine va_get (D := (dC, dI)) (ci := 10) (v := .ref (ad 13)) (C := RX10) (T := TX10) (N := 48) hx hb hts fin_X10_walksItemm_X10 hown hK hP 0 rfl rfl 35 (by decide) (hts (.fieldLink RX10 71 "PatternGateModel" "nullable" "[I") (List.mem_of_getElem? (i := 2) (by decide +kernel))) (fun _ h9 => h9) rfl dX10_walksItem_42 ?_
      refine lv_iload_n hx hb dX10_walksItem_45 rfl (lv_at hl 3 rfl) ?_
      refine va_iald hx hb hK hP 13 12 rfl rfl (i := i2) (vp_of (a := i2.toInt) rfl (by omega) (by omega)) dX10_walksItem_46 ?_
      refine lv_topi (fun y_45 ey_45 => ?_)
      have rg_y_45 := i_rng y_45
      refine va_iast hx hb hK hP hD hS 13 12 rfl rfl (i := i1) (vp_of (a := i1.toInt) rfl (by omega) (by omega)) dX10_walksItem_47 (fun H locs hP hD hS => ?_)
      generalize hf_f_46 : upd f12 _ _ = f_46 at hP hD
      have hP : va_P (dC, dI) vwCl (mW ad kc x0 x1 x2 x3 x4 x5 x6 x7 x8 x9 x10 x11 x12 x13 x14 x15 x16 x17 x18 x19 x20 x21 f0 f1 f2 f3 f4 f5 f6 f7 f8 f9 f10 f11 f_46 f13 f14 f15 f16 f17 f18 f19 f20 f21 fL fN fP fM fO) H := hP
      have hD : va_D A (mW ad kc x0 x1 x2 x3 x4 x5 x6 x7 x8 x9 x10 x11 x12 x13 x14 x15 x16 x17 x18 x19 x20 x21 f0 f1 f2 f3 f4 f5 f6 f7 f8 f9 f10 f11 f_46 f13 f14 f15 f16 f17 f18 f19 f20 f21 fL fN fP fM fO) := hD
      refine lv_aload_n hx hb dX10_walksItem_48 rfl (lv_at hl 1 rfl) ?_
      refine va_get (D := (dC, dI)) (ci := 10) (v := .ref (ad 14)) (C := RX10) (T := TX10) (N := 48) hx hb hts fin_X10_walksItemm_X10 hown hK hP 0 rfl rfl 36 (by decide) (hts (.fieldLink RX10 74 "PatternGateModel" "heads" "[I") (List.mem_of_getElem? (i := 3) (by decide +kernel))) (fun _ h9 => h9) rfl dX10_walksItem_49 ?_
      refine lv_iload_n hx hb dX10_walksItem_52 rfl (lv_at hl 2 rfl) ?_
      refine lv_aload_n hx hb dX10_walksItem_53 rfl (lv_at hl 1 rfl) ?_
      refine va_get (D := (dC, dI)) (ci := 10) (v := .ref (ad 14)) (C := RX10) (T := TX10) (N := 48) hx hb hts fin_X10_walksItemm_X10 hown hK hP 0 rfl rfl 36 (by decide) (hts (.fieldLink RX10 74 "PatternGateModel" "heads" "[I") (List.mem_of_getElem? (i := 3) (by decide +kernel))) (fun _ h9 => h9) rfl dX10_walksItem_54 ?_
      refine lv_iload_n hx hb dX10_walksItem_57 rfl (lv_at hl 3 rfl) ?_
      refine va_iald hx hb hK hP 14 13 rfl rfl (i := i2) (vp_of (a := i2.toInt) rfl (by omega) (by omega)) dX10_walksItem_58 ?_
      refine lv_topi (fun y_47 ey_47 => ?_)
      have rg_y_47 := i_rng y_47
      refine va_iast hx hb hK hP hD hS 14 13 rfl rfl (i := i1) (vp_of (a := i1.toInt) rfl (by omega) (by omega)) dX10_walksItem_59 (fun H locs hP hD hS => ?_)
      generalize hf_f_48 : upd f13 _ _ = f_48 at hP hD
      have hP : va_P (dC, dI) vwCl (mW ad kc x0 x1 x2 x3 x4 x5 x6 x7 x8 x9 x10 x11 x12 x13 x14 x15 x16 x17 x18 x19 x20 x21 f0 f1 f2 f3 f4 f5 f6 f7 f8 f9 f10 f11 f_46 f_48 f14 f15 f16 f17 f18 f19 f20 f21 fL fN fP fM fO) H := hP
      have hD : va_D A (mW ad kc x0 x1 x2 x3 x4 x5 x6 x7 x8 x9 x10 x11 x12 x13 x14 x15 x16 x17 x18 x19 x20 x21 f0 f1 f2 f3 f4 f5 f6 f7 f8 f9 f10 f11 f_46 f_48 f14 f15 f16 f17 f18 f19 f20 f21 fL fN fP fM fO) := hD
      refine lv_aload_n hx hb dX10_walksItem_60 rfl (lv_at hl 1 rfl) ?_
      refine va_get (D := (dC, dI)) (ci := 10) (v := .ref (ad 15)) (C := RX10) (T := TX10) (N := 48) hx hb hts fin_X10_walksItemm_X10 hown hK hP 0 rfl rfl 37 (by decide) (hts (.fieldLink RX10 77 "PatternGateModel" "tails" "[I") (List.mem_of_getElem? (i := 4) (by decide +kernel))) (fun _ h9 => h9) rfl dX10_walksItem_61 ?_
      refine lv_iload_n hx hb dX10_walksItem_64 rfl (lv_at hl 2 rfl) ?_
      refine lv_aload_n hx hb dX10_walksItem_65 rfl (lv_at hl 1 rfl) ?_
      refine va_get (D := (dC, dI)) (ci := 10) (v := .ref (ad 15)) (C := RX10) (T := TX10) (N := 48) hx hb hts fin_X10_walksItemm_X10 hown hK hP 0 rfl rfl 37 (by decide) (hts (.fieldLink RX10 77 "PatternGateModel" "tails" "[I") (List.mem_of_getElem? (i := 4) (by decide +kernel))) (fun _ h9 => h9) rfl dX10_walksItem_66 ?_
      refine lv_iload_n hx hb dX10_walksItem_69 rfl (lv_at hl 3 rfl) ?_
      refine va_iald hx hb hK hP 15 14 rfl rfl (i := i2) (vp_of (a := i2.toInt) rfl (by omega) (by omega)) dX10_walksItem_70 ?_
      refine lv_topi (fun y_49 ey_49 => ?_)
      have rg_y_49 := i_rng y_49
      refine va_iast hx hb hK hP hD hS 15 14 rfl rfl (i := i1) (vp_of (a := i1.toInt) rfl (by omega) (by omega)) dX10_walksItem_71 (fun H locs hP hD hS => ?_)
      generalize hf_f_50 : upd f14 _ _ = f_50 at hP hD
      have hP : va_P (dC, dI) vwCl (mW ad kc x0 x1 x2 x3 x4 x5 x6 x7 x8 x9 x10 x11 x12 x13 x14 x15 x16 x17 x18 x19 x20 x21 f0 f1 f2 f3 f4 f5 f6 f7 f8 f9 f10 f11 f_46 f_48 f_50 f15 f16 f17 f18 f19 f20 f21 fL fN fP fM fO) H := hP
      have hD : va_D A (mW ad kc x0 x1 x2 x3 x4 x5 x6 x7 x8 x9 x10 x11 x12 x13 x14 x15 x16 x17 x18 x19 x20 x21 f0 f1 f2 f3 f4 f5 f6 f7 f8 f9 f10 f11 f_46 f_48 f_50 f15 f16 f17 f18 f19 f20 f21 fL fN fP fM fO) := hD
      refine lv_aload_n hx hb dX10_walksItem_72 rfl (lv_at hl 1 rfl) ?_
      refine va_get (D := (dC, dI)) (ci := 10) (v := .ref (ad 16)) (C := RX10) (T := TX10) (N := 48) hx hb hts fin_X10_walksItemm_X10 hown hK hP 0 rfl rfl 38 (by decide) (hts (.fieldLink RX10 80 "PatternGateModel" "fewest" "[I") (List.mem_of_getElem? (i := 5) (by decide +kernel))) (fun _ h9 => h9) rfl dX10_walksItem_73 ?_
      refine lv_iload_n hx hb dX10_walksItem_76 rfl (lv_at hl 2 rfl) ?_
      refine lv_iload_n hx hb dX10_walksItem_77 rfl (lv_at hl 0 rfl) ?_
      refine lv_if_eq (tgt := 85) hx hb dX10_walksItem_78 (by decide) (fun k_51 => ?_) (fun k_51 => absurd (by decide) k_51)
      have tk_51 := c_eq (a := 0) (b := 0) (by decide) (by decide) k_51
      refine lv_aload_n hx hb dX10_walksItem_85 rfl (lv_at hl 1 rfl) ?_
      refine va_get (D := (dC, dI)) (ci := 10) (v := .ref (ad 16)) (C := RX10) (T := TX10) (N := 48) hx hb hts fin_X10_walksItemm_X10 hown hK hP 0 rfl rfl 38 (by decide) (hts (.fieldLink RX10 80 "PatternGateModel" "fewest" "[I") (List.mem_of_getElem? (i := 5) (by decide +kernel))) (fun _ h9 => h9) rfl dX10_walksItem_86 ?_
      refine lv_iload_n hx hb dX10_walksItem_89 rfl (lv_at hl 3 rfl) ?_
      refine va_iald hx hb hK hP 16 15 rfl rfl (i := i2) (vp_of (a := i2.toInt) rfl (by omega) (by omega)) dX10_walksItem_90 ?_
      refine lv_topi (fun y_52 ey_52 => ?_)
      have rg_y_52 := i_rng y_52
      refine va_iast hx hb hK hP hD hS 16 15 rfl rfl (i := i1) (vp_of (a := i1.toInt) rfl (by omega) (by omega)) dX10_walksItem_91 (fun H locs hP hD hS => ?_)
      generalize hf_f_53 : upd f15 _ _ = f_53 at hP hD
      have hP : va_P (dC, dI) vwCl (mW ad kc x0 x1 x2 x3 x4 x5 x6 x7 x8 x9 x10 x11 x12 x13 x14 x15 x16 x17 x18 x19 x20 x21 f0 f1 f2 f3 f4 f5 f6 f7 f8 f9 f10 f11 f_46 f_48 f_50 f_53 f16 f17 f18 f19 f20 f21 fL fN fP fM fO) H := hP
      have hD : va_D A (mW ad kc x0 x1 x2 x3 x4 x5 x6 x7 x8 x9 x10 x11 x12 x13 x14 x15 x16 x17 x18 x19 x20 x21 f0 f1 f2 f3 f4 f5 f6 f7 f8 f9 f10 f11 f_46 f_48 f_50 f_53 f16 f17 f18 f19 f20 f21 fL fN fP fM fO) := hD
      refine lv_aload_n hx hb dX10_walksItem_92 rfl (lv_at hl 1 rfl) ?_
      refine va_get (D := (dC, dI)) (ci := 10) (v := .ref (ad 17)) (C := RX10) (T := TX10) (N := 48) hx hb hts fin_X10_walksItemm_X10 hown hK hP 0 rfl rfl 39 (by decide) (hts (.fieldLink RX10 83 "PatternGateModel" "deep" "[I") (List.mem_of_getElem? (i := 6) (by decide +kernel))) (fun _ h9 => h9) rfl dX10_walksItem_93 ?_
      refine lv_iload_n hx hb dX10_walksItem_96 rfl (lv_at hl 2 rfl) ?_
      refine lv_aload_n hx hb dX10_walksItem_97 rfl (lv_at hl 1 rfl) ?_
      refine va_get (D := (dC, dI)) (ci := 10) (v := .ref (ad 17)) (C := RX10) (T := TX10) (N := 48) hx hb hts fin_X10_walksItemm_X10 hown hK hP 0 rfl rfl 39 (by decide) (hts (.fieldLink RX10 83 "PatternGateModel" "deep" "[I") (List.mem_of_getElem? (i := 6) (by decide +kernel))) (fun _ h9 => h9) rfl dX10_walksItem_98 ?_
      refine lv_iload_n hx hb dX10_walksItem_101 rfl (lv_at hl 3 rfl) ?_
      refine va_iald hx hb hK hP 17 16 rfl rfl (i := i2) (vp_of (a := i2.toInt) rfl (by omega) (by omega)) dX10_walksItem_102 ?_
      refine lv_topi (fun y_54 ey_54 => ?_)
      have rg_y_54 := i_rng y_54
      refine lv_aload_n hx hb dX10_walksItem_103 rfl (lv_at hl 1 rfl) ?_
      refine va_get (D := (dC, dI)) (ci := 10) (v := .ref (ad 9)) (C := RX10) (T := TX10) (N := 48) hx hb hts fin_X10_walksItemm_X10 hown hK hP 0 rfl rfl 20 (by decide) (hts (.fieldLink RX10 43 "PatternGateModel" "sign" "[I") (List.mem_of_getElem? (i := 1) (by decide +kernel))) (fun _ h9 => h9) rfl dX10_walksItem_104 ?_
      refine lv_iload_n hx hb dX10_walksItem_107 rfl (lv_at hl 2 rfl) ?_
      refine va_iald hx hb hK hP 9 8 rfl rfl (i := i1) (vp_of (a := i1.toInt) rfl (by omega) (by omega)) dX10_walksItem_108 ?_
      refine lv_topi (fun y_55 ey_55 => ?_)
      have rg_y_55 := i_rng y_55
      refine lv_iconst (v := (-1)) hx hb dX10_walksItem_109 (by decide) ?_
      refine lv_icmp_ne (tgt := 117) hx hb dX10_walksItem_110 (by decide) (fun k_56 => ?_) (fun k_56 => ?_)
      · have tk_56 := c_ne (a := y_55.toInt) (b := (-1)) rfl (by decide) k_56
        refine lv_iconst (v := 1) hx hb dX10_walksItem_117 (by decide) ?_
        refine lv_iadd hx hb dX10_walksItem_118 ?_
        refine lv_topi (fun y_57 ey_57 => ?_)
        first | have ty_57 := i_add (a := y_54.toInt) (b := 1) rfl (by decide) ey_57 (by omega) (by omega) | skip
        refine va_iast hx hb hK hP hD hS 17 16 rfl rfl (i := i1) (vp_of (a := i1.toInt) rfl (by omega) (by omega)) dX10_walksItem_119 (fun H locs hP hD hS => ?_)
        generalize hf_f_58 : upd f16 _ _ = f_58 at hP hD
        have hP : va_P (dC, dI) vwCl (mW ad kc x0 x1 x2 x3 x4 x5 x6 x7 x8 x9 x10 x11 x12 x13 x14 x15 x16 x17 x18 x19 x20 x21 f0 f1 f2 f3 f4 f5 f6 f7 f8 f9 f10 f11 f_46 f_48 f_50 f_53 f_58 f17 f18 f19 f20 f21 fL fN fP fM fO) H := hP
        have hD : va_D A (mW ad kc x0 x1 x2 x3 x4 x5 x6 x7 x8 x9 x10 x11 x12 x13 x14 x15 x16 x17 x18 x19 x20 x21 f0 f1 f2 f3 f4 f5 f6 f7 f8 f9 f10 f11 f_46 f_48 f_50 f_53 f_58 f17 f18 f19 f20 f21 fL fN fP fM fO) := hD
        refine lv_aload_n hx hb dX10_walksItem_120 rfl (lv_at hl 1 rfl) ?_
        refine va_get (D := (dC, dI)) (ci := 10) (v := .ref (ad 9)) (C := RX10) (T := TX10) (N := 48) hx hb hts fin_X10_walksItemm_X10 hown hK hP 0 rfl rfl 20 (by decide) (hts (.fieldLink RX10 43 "PatternGateModel" "sign" "[I") (List.mem_of_getElem? (i := 1) (by decide +kernel))) (fun _ h9 => h9) rfl dX10_walksItem_121 ?_
        refine lv_iload_n hx hb dX10_walksItem_124 rfl (lv_at hl 2 rfl) ?_
        refine va_iald hx hb hK hP 9 8 rfl rfl (i := i1) (vp_of (a := i1.toInt) rfl (by omega) (by omega)) dX10_walksItem_125 ?_
        refine lv_topi (fun y_59 ey_59 => ?_)
        have rg_y_59 := i_rng y_59
        refine lv_bipush (v := 42) hx hb dX10_walksItem_126 (by decide) ?_
        refine lv_icmp_eq (tgt := 142) hx hb dX10_walksItem_128 (by decide) (fun k_60 => ?_) (fun k_60 => ?_)
        · have tk_60 := c_eq (a := y_59.toInt) (b := 42) rfl (by decide) k_60
          refine lv_aload_n hx hb dX10_walksItem_142 rfl (lv_at hl 1 rfl) ?_
          refine lv_aload_n hx hb dX10_walksItem_143 rfl (lv_at hl 1 rfl) ?_
          refine va_get (D := (dC, dI)) (ci := 10) (v := .ref (ad 15)) (C := RX10) (T := TX10) (N := 48) hx hb hts fin_X10_walksItemm_X10 hown hK hP 0 rfl rfl 37 (by decide) (hts (.fieldLink RX10 77 "PatternGateModel" "tails" "[I") (List.mem_of_getElem? (i := 4) (by decide +kernel))) (fun _ h9 => h9) rfl dX10_walksItem_144 ?_
          refine lv_iload_n hx hb dX10_walksItem_147 rfl (lv_at hl 3 rfl) ?_
          refine va_iald hx hb hK hP 15 14 rfl rfl (i := i2) (vp_of (a := i2.toInt) rfl (by omega) (by omega)) dX10_walksItem_148 ?_
          refine lv_topi (fun y_61 ey_61 => ?_)
          have rg_y_61 := i_rng y_61
          refine lv_aload_n hx hb dX10_walksItem_149 rfl (lv_at hl 1 rfl) ?_
          refine va_get (D := (dC, dI)) (ci := 10) (v := .ref (ad 14)) (C := RX10) (T := TX10) (N := 48) hx hb hts fin_X10_walksItemm_X10 hown hK hP 0 rfl rfl 36 (by decide) (hts (.fieldLink RX10 74 "PatternGateModel" "heads" "[I") (List.mem_of_getElem? (i := 3) (by decide +kernel))) (fun _ h9 => h9) rfl dX10_walksItem_150 ?_
          refine lv_iload_n hx hb dX10_walksItem_153 rfl (lv_at hl 3 rfl) ?_
          refine va_iald hx hb hK hP 14 13 rfl rfl (i := i2) (vp_of (a := i2.toInt) rfl (by omega) (by omega)) dX10_walksItem_154 ?_
          refine lv_topi (fun y_62 ey_62 => ?_)
          have rg_y_62 := i_rng y_62
          have hFc := m_free hD hS hA
          refine va_callv (va_runV (As := [.int y_61, .int y_62]) (rest := []) ⟨hx, hb, hml, hown, hts⟩ (m_links l dC dI ad kc x0 x1 x2 x3 x4 x5 x6 x7 x8 x9 x10 x11 x12 x13 x14 x15 x16 x17 x18 x19 x20 x21 f0 f1 f2 f3 f4 f5 f6 f7 f8 f9 f10 f11 f_46 f_48 f_50 f_53 f_58 f17 f18 f19 f20 f21 fL fN fP fM fO H.size y_61 y_62 ) (cwV 2 hts mg_X10_walksItemm_X10_links_387 rfl rfl rfl (by decide +kernel) ⟨Nat.le_of_ble_eq_true rfl, Nat.le_of_ble_eq_true rfl⟩) ⟨fun a U g mk q => by obtain ⟨q0, q1, qP, qK, qD⟩ := q; exact ⟨q0, q1, qP, va_K.moved (u := U) (U := U.calling g mk a) (Vm.Alike.refl U.vm) qK, qD⟩, va_recv hK hP (ci := 10) (q0 := 0) rfl rfl, fun U hU hW => ⟨rfl, by rw [hU], by rw [hU]; exact hP, va_K.moved hW.alike hK, hD.weaken (fun _ _ _ _ => trivial)⟩⟩ rfl rfl hl.1 rfl (lv_room (Nat.le_of_ble_eq_true rfl)) dX10_walksItem_155 ⟨Nat.le_of_ble_eq_true rfl, Nat.le_of_ble_eq_true rfl⟩) hS (fun q _ h => hFc q h) hFc (fun u t H1 locs ht hvm hw hB hz1 hk1 hS => ?_)
          obtain ⟨f_64, hP, hK1, hD1⟩ := hB
          rw [ht] at hP
          have hD := hD1.weaken (fun k q _ h => hFc q.1 h)
          clear hz1 hk1 hFc hD1 hK1 hvm
          generalize H1 = H at hP hS ⊢
          have hP : va_P (dC, dI) vwCl (mW ad kc x0 x1 x2 x3 x4 x5 x6 x7 x8 x9 x10 x11 x12 x13 x14 x15 x16 x17 x18 x19 x20 x21 f0 f1 f2 f3 f4 f5 f6 f7 f8 f9 f10 f11 f_46 f_48 f_50 f_53 f_58 f_64 f18 f19 f20 f21 fL fN fP fM fO) H := hP
          have hD : va_D A (mW ad kc x0 x1 x2 x3 x4 x5 x6 x7 x8 x9 x10 x11 x12 x13 x14 x15 x16 x17 x18 x19 x20 x21 f0 f1 f2 f3 f4 f5 f6 f7 f8 f9 f10 f11 f_46 f_48 f_50 f_53 f_58 f_64 f18 f19 f20 f21 fL fN fP fM fO) := hD
          exact W.vret hx hb hr (fun t ht hW => ⟨⟨(), rfl, trivial, f_46, f_48, f_50, f_53, f_58, f_64, f18, by rw [ht]; exact hP, va_K.moved hW.alike hK, hD⟩, hS.F ht⟩) hS.2.2 dX10_walksItem_158
        · have tk_60 := c_ne (a := y_59.toInt) (b := 42) rfl (by decide) k_60
          refine lv_aload_n hx hb dX10_walksItem_131 rfl (lv_at hl 1 rfl) ?_
          refine va_get (D := (dC, dI)) (ci := 10) (v := .ref (ad 9)) (C := RX10) (T := TX10) (N := 48) hx hb hts fin_X10_walksItemm_X10 hown hK hP 0 rfl rfl 20 (by decide) (hts (.fieldLink RX10 43 "PatternGateModel" "sign" "[I") (List.mem_of_getElem? (i := 1) (by decide +kernel))) (fun _ h9 => h9) rfl dX10_walksItem_132 ?_
          refine lv_iload_n hx hb dX10_walksItem_135 rfl (lv_at hl 2 rfl) ?_
          refine va_iald hx hb hK hP 9 8 rfl rfl (i := i1) (vp_of (a := i1.toInt) rfl (by omega) (by omega)) dX10_walksItem_136 ?_
          refine lv_topi (fun y_65 ey_65 => ?_)
          have rg_y_65 := i_rng y_65
          refine lv_bipush (v := 43) hx hb dX10_walksItem_137 (by decide) ?_
          refine lv_icmp_ne (tgt := 158) hx hb dX10_walksItem_139 (by decide) (fun k_66 => ?_) (fun k_66 => ?_)
          · have tk_66 := c_ne (a := y_65.toInt) (b := 43) rfl (by decide) k_66
            exact W.vret hx hb hr (fun t ht hW => ⟨⟨(), rfl, trivial, f_46, f_48, f_50, f_53, f_58, f17, f18, by rw [ht]; exact hP, va_K.moved hW.alike hK, hD⟩, hS.F ht⟩) hS.2.2 dX10_walksItem_158
          · have tk_66 := c_eq (a := y_65.toInt) (b := 43) rfl (by decide) k_66
            refine lv_aload_n hx hb dX10_walksItem_142 rfl (lv_at hl 1 rfl) ?_
            refine lv_aload_n hx hb dX10_walksItem_143 rfl (lv_at hl 1 rfl) ?_
            refine va_get (D := (dC, dI)) (ci := 10) (v := .ref (ad 15)) (C := RX10) (T := TX10) (N := 48) hx hb hts fin_X10_walksItemm_X10 hown hK hP 0 rfl rfl 37 (by decide) (hts (.fieldLink RX10 77 "PatternGateModel" "tails" "[I") (List.mem_of_getElem? (i := 4) (by decide +kernel))) (fun _ h9 => h9) rfl dX10_walksItem_144 ?_
            refine lv_iload_n hx hb dX10_walksItem_147 rfl (lv_at hl 3 rfl) ?_
            refine va_iald hx hb hK hP 15 14 rfl rfl (i := i2) (vp_of (a := i2.toInt) rfl (by omega) (by omega)) dX10_walksItem_148 ?_
            refine lv_topi (fun y_67 ey_67 => ?_)
            have rg_y_67 := i_rng y_67
            refine lv_aload_n hx hb dX10_walksItem_149 rfl (lv_at hl 1 rfl) ?_
            refine va_get (D := (dC, dI)) (ci := 10) (v := .ref (ad 14)) (C := RX10) (T := TX10) (N := 48) hx hb hts fin_X10_walksItemm_X10 hown hK hP 0 rfl rfl 36 (by decide) (hts (.fieldLink RX10 74 "PatternGateModel" "heads" "[I") (List.mem_of_getElem? (i := 3) (by decide +kernel))) (fun _ h9 => h9) rfl dX10_walksItem_150 ?_
            refine lv_iload_n hx hb dX10_walksItem_153 rfl (lv_at hl 3 rfl) ?_
            refine va_iald hx hb hK hP 14 13 rfl rfl (i := i2) (vp_of (a := i2.toInt) rfl (by omega) (by omega)) dX10_walksItem_154 ?_
            refine lv_topi (fun y_68 ey_68 => ?_)
            have rg_y_68 := i_rng y_68
            have hFc := m_free hD hS hA
            refine va_callv (va_runV (As := [.int y_67, .int y_68]) (rest := []) ⟨hx, hb, hml, hown, hts⟩ (m_links l dC dI ad kc x0 x1 x2 x3 x4 x5 x6 x7 x8 x9 x10 x11 x12 x13 x14 x15 x16 x17 x18 x19 x20 x21 f0 f1 f2 f3 f4 f5 f6 f7 f8 f9 f10 f11 f_46 f_48 f_50 f_53 f_58 f17 f18 f19 f20 f21 fL fN fP fM fO H.size y_67 y_68 ) (cwV 2 hts mg_X10_walksItemm_X10_links_387 rfl rfl rfl (by decide +kernel) ⟨Nat.le_of_ble_eq_true rfl, Nat.le_of_ble_eq_true rfl⟩) ⟨fun a U g mk q => by obtain ⟨q0, q1, qP, qK, qD⟩ := q; exact ⟨q0, q1, qP, va_K.moved (u := U) (U := U.calling g mk a) (Vm.Alike.refl U.vm) qK, qD⟩, va_recv hK hP (ci := 10) (q0 := 0) rfl rfl, fun U hU hW => ⟨rfl, by rw [hU], by rw [hU]; exact hP, va_K.moved hW.alike hK, hD.weaken (fun _ _ _ _ => trivial)⟩⟩ rfl rfl hl.1 rfl (lv_room (Nat.le_of_ble_eq_true rfl)) dX10_walksItem_155 ⟨Nat.le_of_ble_eq_true rfl, Nat.le_of_ble_eq_true rfl⟩) hS (fun q _ h => hFc q h) hFc (fun u t H1 locs ht hvm hw hB hz1 hk1 hS => ?_)
            obtain ⟨f_70, hP, hK1, hD1⟩ := hB
            rw [ht] at hP
            have hD := hD1.weaken (fun k q _ h => hFc q.1 h)
            clear hz1 hk1 hFc hD1 hK1 hvm
            generalize H1 = H at hP hS ⊢
            have hP : va_P (dC, dI) vwCl (mW ad kc x0 x1 x2 x3 x4 x5 x6 x7 x8 x9 x10 x11 x12 x13 x14 x15 x16 x17 x18 x19 x20 x21 f0 f1 f2 f3 f4 f5 f6 f7 f8 f9 f10 f11 f_46 f_48 f_50 f_53 f_58 f_70 f18 f19 f20 f21 fL fN fP fM fO) H := hP
            have hD : va_D A (mW ad kc x0 x1 x2 x3 x4 x5 x6 x7 x8 x9 x10 x11 x12 x13 x14 x15 x16 x17 x18 x19 x20 x21 f0 f1 f2 f3 f4 f5 f6 f7 f8 f9 f10 f11 f_46 f_48 f_50 f_53 f_58 f_70 f18 f19 f20 f21 fL fN fP fM fO) := hD
            exact W.vret hx hb hr (fun t ht hW => ⟨⟨(), rfl, trivial, f_46, f_48, f_50, f_53, f_58, f_70, f18, by rw [ht]; exact hP, va_K.moved hW.alike hK, hD⟩, hS.F ht⟩) hS.2.2 dX10_walksItem_158
      · have tk_56 := c_eq (a := y_55.toInt) (b := (-1)) rfl (by decide) k_56
        refine lv_iconst (v := 0) hx hb dX10_walksItem_113 (by decide) ?_
        refine lv_goto (tgt := 118) hx hb dX10_walksItem_114 (by decide) ?_
        refine lv_iadd hx hb dX10_walksItem_118 ?_
        refine lv_topi (fun y_71 ey_71 => ?_)
        first | have ty_71 := i_add (a := y_54.toInt) (b := 0) rfl (by decide) ey_71 (by omega) (by omega) | skip
        refine va_iast hx hb hK hP hD hS 17 16 rfl rfl (i := i1) (vp_of (a := i1.toInt) rfl (by omega) (by omega)) dX10_walksItem_119 (fun H locs hP hD hS => ?_)
        generalize hf_f_72 : upd f16 _ _ = f_72 at hP hD
        have hP : va_P (dC, dI) vwCl (mW ad kc x0 x1 x2 x3 x4 x5 x6 x7 x8 x9 x10 x11 x12 x13 x14 x15 x16 x17 x18 x19 x20 x21 f0 f1 f2 f3 f4 f5 f6 f7 f8 f9 f10 f11 f_46 f_48 f_50 f_53 f_72 f17 f18 f19 f20 f21 fL fN fP fM fO) H := hP
        have hD : va_D A (mW ad kc x0 x1 x2 x3 x4 x5 x6 x7 x8 x9 x10 x11 x12 x13 x14 x15 x16 x17 x18 x19 x20 x21 f0 f1 f2 f3 f4 f5 f6 f7 f8 f9 f10 f11 f_46 f_48 f_50 f_53 f_72 f17 f18 f19 f20 f21 fL fN fP fM fO) := hD
        refine lv_aload_n hx hb dX10_walksItem_120 rfl (lv_at hl 1 rfl) ?_
        refine va_get (D := (dC, dI)) (ci := 10) (v := .ref (ad 9)) (C := RX10) (T := TX10) (N := 48) hx hb hts fin_X10_walksItemm_X10 hown hK hP 0 rfl rfl 20 (by decide) (hts (.fieldLink RX10 43 "PatternGateModel" "sign" "[I") (List.mem_of_getElem? (i := 1) (by decide +kernel))) (fun _ h9 => h9) rfl dX10_walksItem_121 ?_
        refine lv_iload_n hx hb dX10_walksItem_124 rfl (lv_at hl 2 rfl) ?_
        refine va_iald hx hb hK hP 9 8 rfl rfl (i := i1) (vp_of (a := i1.toInt) rfl (by omega) (by omega)) dX10_walksItem_125 ?_
        refine lv_topi (fun y_73 ey_73 => ?_)
        have rg_y_73 := i_rng y_73
        refine lv_bipush (v := 42) hx hb dX10_walksItem_126 (by decide) ?_
        refine lv_icmp_eq (tgt := 142) hx hb dX10_walksItem_128 (by decide) (fun k_74 => ?_) (fun k_74 => ?_)
        · have tk_74 := c_eq (a := y_73.toInt) (b := 42) rfl (by decide) k_74
          refine lv_aload_n hx hb dX10_walksItem_142 rfl (lv_at hl 1 rfl) ?_
          refine lv_aload_n hx hb dX10_walksItem_143 rfl (lv_at hl 1 rfl) ?_
          refine va_get (D := (dC, dI)) (ci := 10) (v := .ref (ad 15)) (C := RX10) (T := TX10) (N := 48) hx hb hts fin_X10_walksItemm_X10 hown hK hP 0 rfl rfl 37 (by decide) (hts (.fieldLink RX10 77 "PatternGateModel" "tails" "[I") (List.mem_of_getElem? (i := 4) (by decide +kernel))) (fun _ h9 => h9) rfl dX10_walksItem_144 ?_
          refine lv_iload_n hx hb dX10_walksItem_147 rfl (lv_at hl 3 rfl) ?_
          refine va_iald hx hb hK hP 15 14 rfl rfl (i := i2) (vp_of (a := i2.toInt) rfl (by omega) (by omega)) dX10_walksItem_148 ?_
          refine lv_topi (fun y_75 ey_75 => ?_)
          have rg_y_75 := i_rng y_75
          refine lv_aload_n hx hb dX10_walksItem_149 rfl (lv_at hl 1 rfl) ?_
          refine va_get (D := (dC, dI)) (ci := 10) (v := .ref (ad 14)) (C := RX10) (T := TX10) (N := 48) hx hb hts fin_X10_walksItemm_X10 hown hK hP 0 rfl rfl 36 (by decide) (hts (.fieldLink RX10 74 "PatternGateModel" "heads" "[I") (List.mem_of_getElem? (i := 3) (by decide +kernel))) (fun _ h9 => h9) rfl dX10_walksItem_150 ?_
          refine lv_iload_n hx hb dX10_walksItem_153 rfl (lv_at hl 3 rfl) ?_
          refine va_iald hx hb hK hP 14 13 rfl rfl (i := i2) (vp_of (a := i2.toInt) rfl (by omega) (by omega)) dX10_walksItem_154 ?_
          refine lv_topi (fun y_76 ey_76 => ?_)
          have rg_y_76 := i_rng y_76
          have hFc := m_free hD hS hA
          refine va_callv (va_runV (As := [.int y_75, .int y_76]) (rest := []) ⟨hx, hb, hml, hown, hts⟩ (m_links l dC dI ad kc x0 x1 x2 x3 x4 x5 x6 x7 x8 x9 x10 x11 x12 x13 x14 x15 x16 x17 x18 x19 x20 x21 f0 f1 f2 f3 f4 f5 f6 f7 f8 f9 f10 f11 f_46 f_48 f_50 f_53 f_72 f17 f18 f19 f20 f21 fL fN fP fM fO H.size y_75 y_76 ) (cwV 2 hts mg_X10_walksItemm_X10_links_387 rfl rfl rfl (by decide +kernel) ⟨Nat.le_of_ble_eq_true rfl, Nat.le_of_ble_eq_true rfl⟩) ⟨fun a U g mk q => by obtain ⟨q0, q1, qP, qK, qD⟩ := q; exact ⟨q0, q1, qP, va_K.moved (u := U) (U := U.calling g mk a) (Vm.Alike.refl U.vm) qK, qD⟩, va_recv hK hP (ci := 10) (q0 := 0) rfl rfl, fun U hU hW => ⟨rfl, by rw [hU], by rw [hU]; exact hP, va_K.moved hW.alike hK, hD.weaken (fun _ _ _ _ => trivial)⟩⟩ rfl rfl hl.1 rfl (lv_room (Nat.le_of_ble_eq_true rfl)) dX10_walksItem_155 ⟨Nat.le_of_ble_eq_true rfl, Nat.le_of_ble_eq_true rfl⟩) hS (fun q _ h => hFc q h) hFc (fun u t H1 locs ht hvm hw hB hz1 hk1 hS => ?_)
          obtain ⟨f_78, hP, hK1, hD1⟩ := hB
          rw [ht] at hP
          have hD := hD1.weaken (fun k q _ h => hFc q.1 h)
          clear hz1 hk1 hFc hD1 hK1 hvm
          generalize H1 = H at hP hS ⊢
          have hP : va_P (dC, dI) vwCl (mW ad kc x0 x1 x2 x3 x4 x5 x6 x7 x8 x9 x10 x11 x12 x13 x14 x15 x16 x17 x18 x19 x20 x21 f0 f1 f2 f3 f4 f5 f6 f7 f8 f9 f10 f11 f_46 f_48 f_50 f_53 f_72 f_78 f18 f19 f20 f21 fL fN fP fM fO) H := hP
          have hD : va_D A (mW ad kc x0 x1 x2 x3 x4 x5 x6 x7 x8 x9 x10 x11 x12 x13 x14 x15 x16 x17 x18 x19 x20 x21 f0 f1 f2 f3 f4 f5 f6 f7 f8 f9 f10 f11 f_46 f_48 f_50 f_53 f_72 f_78 f18 f19 f20 f21 fL fN fP fM fO) := hD
          exact W.vret hx hb hr (fun t ht hW => ⟨⟨(), rfl, trivial, f_46, f_48, f_50, f_53, f_72, f_78, f18, by rw [ht]; exact hP, va_K.moved hW.alike hK, hD⟩, hS.F ht⟩) hS.2.2 dX10_walksItem_158
        · have tk_74 := c_ne (a := y_73.toInt) (b := 42) rfl (by decide) k_74
          refine lv_aload_n hx hb dX10_walksItem_131 rfl (lv_at hl 1 rfl) ?_
          refine va_get (D := (dC, dI)) (ci := 10) (v := .ref (ad 9)) (C := RX10) (T := TX10) (N := 48) hx hb hts fin_X10_walksItemm_X10 hown hK hP 0 rfl rfl 20 (by decide) (hts (.fieldLink RX10 43 "PatternGateModel" "sign" "[I") (List.mem_of_getElem? (i := 1) (by decide +kernel))) (fun _ h9 => h9) rfl dX10_walksItem_132 ?_
          refine lv_iload_n hx hb dX10_walksItem_135 rfl (lv_at hl 2 rfl) ?_
          refine va_iald hx hb hK hP 9 8 rfl rfl (i := i1) (vp_of (a := i1.toInt) rfl (by omega) (by omega)) dX10_walksItem_136 ?_
          refine lv_topi (fun y_79 ey_79 => ?_)
          have rg_y_79 := i_rng y_79
          refine lv_bipush (v := 43) hx hb dX10_walksItem_137 (by decide) ?_
          refine lv_icmp_ne (tgt := 158) hx hb dX10_walksItem_139 (by decide) (fun k_80 => ?_) (fun k_80 => ?_)
          · have tk_80 := c_ne (a := y_79.toInt) (b := 43) rfl (by decide) k_80
            exact W.vret hx hb hr (fun t ht hW => ⟨⟨(), rfl, trivial, f_46, f_48, f_50, f_53, f_72, f17, f18, by rw [ht]; exact hP, va_K.moved hW.alike hK, hD⟩, hS.F ht⟩) hS.2.2 dX10_walksItem_158
          · have tk_80 := c_eq (a := y_79.toInt) (b := 43) rfl (by decide) k_80
            refine lv_aload_n hx hb dX10_walksItem_142 rfl (lv_at hl 1 rfl) ?_
            refine lv_aload_n hx hb dX10_walksItem_143 rfl (lv_at hl 1 rfl) ?_
            refine va_get (D := (dC, dI)) (ci := 10) (v := .ref (ad 15)) (C := RX10) (T := TX10) (N := 48) hx hb hts fin_X10_walksItemm_X10 hown hK hP 0 rfl rfl 37 (by decide) (hts (.fieldLink RX10 77 "PatternGateModel" "tails" "[I") (List.mem_of_getElem? (i := 4) (by decide +kernel))) (fun _ h9 => h9) rfl dX10_walksItem_144 ?_
            refine lv_iload_n hx hb dX10_walksItem_147 rfl (lv_at hl 3 rfl) ?_
            refine va_iald hx hb hK hP 15 14 rfl rfl (i := i2) (vp_of (a := i2.toInt) rfl (by omega) (by omega)) dX10_walksItem_148 ?_
            refine lv_topi (fun y_81 ey_81 => ?_)
            have rg_y_81 := i_rng y_81
            refine lv_aload_n hx hb dX10_walksItem_149 rfl (lv_at hl 1 rfl) ?_
            refine va_get (D := (dC, dI)) (ci := 10) (v := .ref (ad 14)) (C := RX10) (T := TX10) (N := 48) hx hb hts fin_X10_walksItemm_X10 hown hK hP 0 rfl rfl 36 (by decide) (hts (.fieldLink RX10 74 "PatternGateModel" "heads" "[I") (List.mem_of_getElem? (i := 3) (by decide +kernel))) (fun _ h9 => h9) rfl dX10_walksItem_150 ?_
            refine lv_iload_n hx hb dX10_walksItem_153 rfl (lv_at hl 3 rfl) ?_
            refine va_iald hx hb hK hP 14 13 rfl rfl (i := i2) (vp_of (a := i2.toInt) rfl (by omega) (by omega)) dX10_walksItem_154 ?_
            refine lv_topi (fun y_82 ey_82 => ?_)
            have rg_y_82 := i_rng y_82
            have hFc := m_free hD hS hA
            refine va_callv (va_runV (As := [.int y_81, .int y_82]) (rest := []) ⟨hx, hb, hml, hown, hts⟩ (m_links l dC dI ad kc x0 x1 x2 x3 x4 x5 x6 x7 x8 x9 x10 x11 x12 x13 x14 x15 x16 x17 x18 x19 x20 x21 f0 f1 f2 f3 f4 f5 f6 f7 f8 f9 f10 f11 f_46 f_48 f_50 f_53 f_72 f17 f18 f19 f20 f21 fL fN fP fM fO H.size y_81 y_82 ) (cwV 2 hts mg_X10_walksItemm_X10_links_387 rfl rfl rfl (by decide +kernel) ⟨Nat.le_of_ble_eq_true rfl, Nat.le_of_ble_eq_true rfl⟩) ⟨fun a U g mk q => by obtain ⟨q0, q1, qP, qK, qD⟩ := q; exact ⟨q0, q1, qP, va_K.moved (u := U) (U := U.calling g mk a) (Vm.Alike.refl U.vm) qK, qD⟩, va_recv hK hP (ci := 10) (q0 := 0) rfl rfl, fun U hU hW => ⟨rfl, by rw [hU], by rw [hU]; exact hP, va_K.moved hW.alike hK, hD.weaken (fun _ _ _ _ => trivial)⟩⟩ rfl rfl hl.1 rfl (lv_room (Nat.le_of_ble_eq_true rfl)) dX10_walksItem_155 ⟨Nat.le_of_ble_eq_true rfl, Nat.le_of_ble_eq_true rfl⟩) hS (fun q _ h => hFc q h) hFc (fun u t H1 locs ht hvm hw hB hz1 hk1 hS => ?_)
            obtain ⟨f_84, hP, hK1, hD1⟩ := hB
            rw [ht] at hP
            have hD := hD1.weaken (fun k q _ h => hFc q.1 h)
            clear hz1 hk1 hFc hD1 hK1 hvm
            generalize H1 = H at hP hS ⊢
            have hP : va_P (dC, dI) vwCl (mW ad kc x0 x1 x2 x3 x4 x5 x6 x7 x8 x9 x10 x11 x12 x13 x14 x15 x16 x17 x18 x19 x20 x21 f0 f1 f2 f3 f4 f5 f6 f7 f8 f9 f10 f11 f_46 f_48 f_50 f_53 f_72 f_84 f18 f19 f20 f21 fL fN fP fM fO) H := hP
            have hD : va_D A (mW ad kc x0 x1 x2 x3 x4 x5 x6 x7 x8 x9 x10 x11 x12 x13 x14 x15 x16 x17 x18 x19 x20 x21 f0 f1 f2 f3 f4 f5 f6 f7 f8 f9 f10 f11 f_46 f_48 f_50 f_53 f_72 f_84 f18 f19 f20 f21 fL fN fP fM fO) := hD
            exact W.vret hx hb hr (fun t ht hW => ⟨⟨(), rfl, trivial, f_46, f_48, f_50, f_53, f_72, f_84, f18, by rw [ht]; exact hP, va_K.moved hW.alike hK, hD⟩, hS.F ht⟩) hS.2.2 dX10_walksItem_158
    · have tk_43 := c_eq (a := y_42.toInt) (b := 63) rfl (by decide) k_43
      refine lv_iconst (v := 1) hx hb dX10_walksItem_22 (by decide) ?_
      refine lv_goto (tgt := 27) hx hb dX10_walksItem_23 (by decide) ?_
      refine lv_istore_n (lv' := [(3, .int 1), (0, .ref (ad 0)), (1, .int i1), (2, .int i2)]) hx hb dX10_walksItem_27 rfl hl (by decide) rfl (fun ls hl => ?_)
      refine lv_aload_n hx hb dX10_walksItem_28 rfl (lv_at hl 1 rfl) ?_
      refine va_get (D := (dC, dI)) (ci := 10) (v := .ref (ad 13)) (C := RX10) (T := TX10) (N := 48) hx hb hts fin_X10_walksItemm_X10 hown hK hP 0 rfl rfl 35 (by decide) (hts (.fieldLink RX10 71 "PatternGateModel" "nullable" "[I") (List.mem_of_getElem? (i := 2) (by decide +kernel))) (fun _ h9 => h9) rfl dX10_walksItem_29 ?_
      refine lv_iload_n hx hb dX10_walksItem_32 rfl (lv_at hl 2 rfl) ?_
      refine lv_iload_n hx hb dX10_walksItem_33 rfl (lv_at hl 0 rfl) ?_
      refine lv_if_eq (tgt := 41) hx hb dX10_walksItem_34 (by decide) (fun k_85 => absurd k_85 (by decide)) (fun k_85 => ?_)
      have tk_85 := c_ne (a := 1) (b := 0) (by decide) (by decide) k_85
      refine lv_iconst (v := 1) hx hb dX10_walksItem_37 (by decide) ?_
      refine lv_goto (tgt := 47) hx hb dX10_walksItem_38 (by decide) ?_
      refine va_iast hx hb hK hP hD hS 13 12 rfl rfl (i := i1) (vp_of (a := i1.toInt) rfl (by omega) (by omega)) dX10_walksItem_47 (fun H locs hP hD hS => ?_)
      generalize hf_f_86 : upd f12 _ _ = f_86 at hP hD
      have hP : va_P (dC, dI) vwCl (mW ad kc x0 x1 x2 x3 x4 x5 x6 x7 x8 x9 x10 x11 x12 x13 x14 x15 x16 x17 x18 x19 x20 x21 f0 f1 f2 f3 f4 f5 f6 f7 f8 f9 f10 f11 f_86 f13 f14 f15 f16 f17 f18 f19 f20 f21 fL fN fP fM fO) H := hP
      have hD : va_D A (mW ad kc x0 x1 x2 x3 x4 x5 x6 x7 x8 x9 x10 x11 x12 x13 x14 x15 x16 x17 x18 x19 x20 x21 f0 f1 f2 f3 f4 f5 f6 f7 f8 f9 f10 f11 f_86 f13 f14 f15 f16 f17 f18 f19 f20 f21 fL fN fP fM fO) := hD
      refine lv_aload_n hx hb dX10_walksItem_48 rfl (lv_at hl 1 rfl) ?_
      refine va_get (D := (dC, dI)) (ci := 10) (v := .ref (ad 14)) (C := RX10) (T := TX10) (N := 48) hx hb hts fin_X10_walksItemm_X10 hown hK hP 0 rfl rfl 36 (by decide) (hts (.fieldLink RX10 74 "PatternGateModel" "heads" "[I") (List.mem_of_getElem? (i := 3) (by decide +kernel))) (fun _ h9 => h9) rfl dX10_walksItem_49 ?_
      refine lv_iload_n hx hb dX10_walksItem_52 rfl (lv_at hl 2 rfl) ?_
      refine lv_aload_n hx hb dX10_walksItem_53 rfl (lv_at hl 1 rfl) ?_
      refine va_get (D := (dC, dI)) (ci := 10) (v := .ref (ad 14)) (C := RX10) (T := TX10) (N := 48) hx hb hts fin_X10_walksItemm_X10 hown hK hP 0 rfl rfl 36 (by decide) (hts (.fieldLink RX10 74 "PatternGateModel" "heads" "[I") (List.mem_of_getElem? (i := 3) (by decide +kernel))) (fun _ h9 => h9) rfl dX10_walksItem_54 ?_
      refine lv_iload_n hx hb dX10_walksItem_57 rfl (lv_at hl 3 rfl) ?_
      refine va_iald hx hb hK hP 14 13 rfl rfl (i := i2) (vp_of (a := i2.toInt) rfl (by omega) (by omega)) dX10_walksItem_58 ?_
      refine lv_topi (fun y_87 ey_87 => ?_)
      have rg_y_87 := i_rng y_87
      refine va_iast hx hb hK hP hD hS 14 13 rfl rfl (i := i1) (vp_of (a := i1.toInt) rfl (by omega) (by omega)) dX10_walksItem_59 (fun H locs hP hD hS => ?_)
      generalize hf_f_88 : upd f13 _ _ = f_88 at hP hD
      have hP : va_P (dC, dI) vwCl (mW ad kc x0 x1 x2 x3 x4 x5 x6 x7 x8 x9 x10 x11 x12 x13 x14 x15 x16 x17 x18 x19 x20 x21 f0 f1 f2 f3 f4 f5 f6 f7 f8 f9 f10 f11 f_86 f_88 f14 f15 f16 f17 f18 f19 f20 f21 fL fN fP fM fO) H := hP
      have hD : va_D A (mW ad kc x0 x1 x2 x3 x4 x5 x6 x7 x8 x9 x10 x11 x12 x13 x14 x15 x16 x17 x18 x19 x20 x21 f0 f1 f2 f3 f4 f5 f6 f7 f8 f9 f10 f11 f_86 f_88 f14 f15 f16 f17 f18 f19 f20 f21 fL fN fP fM fO) := hD
      refine lv_aload_n hx hb dX10_walksItem_60 rfl (lv_at hl 1 rfl) ?_
      refine va_get (D := (dC, dI)) (ci := 10) (v := .ref (ad 15)) (C := RX10) (T := TX10) (N := 48) hx hb hts fin_X10_walksItemm_X10 hown hK hP 0 rfl rfl 37 (by decide) (hts (.fieldLink RX10 77 "PatternGateModel" "tails" "[I") (List.mem_of_getElem? (i := 4) (by decide +kernel))) (fun _ h9 => h9) rfl dX10_walksItem_61 ?_
      refine lv_iload_n hx hb dX10_walksItem_64 rfl (lv_at hl 2 rfl) ?_
      refine lv_aload_n hx hb dX10_walksItem_65 rfl (lv_at hl 1 rfl) ?_
      refine va_get (D := (dC, dI)) (ci := 10) (v := .ref (ad 15)) (C := RX10) (T := TX10) (N := 48) hx hb hts fin_X10_walksItemm_X10 hown hK hP 0 rfl rfl 37 (by decide) (hts (.fieldLink RX10 77 "PatternGateModel" "tails" "[I") (List.mem_of_getElem? (i := 4) (by decide +kernel))) (fun _ h9 => h9) rfl dX10_walksItem_66 ?_
      refine lv_iload_n hx hb dX10_walksItem_69 rfl (lv_at hl 3 rfl) ?_
      refine va_iald hx hb hK hP 15 14 rfl rfl (i := i2) (vp_of (a := i2.toInt) rfl (by omega) (by omega)) dX10_walksItem_70 ?_
      refine lv_topi (fun y_89 ey_89 => ?_)
      have rg_y_89 := i_rng y_89
      refine va_iast hx hb hK hP hD hS 15 14 rfl rfl (i := i1) (vp_of (a := i1.toInt) rfl (by omega) (by omega)) dX10_walksItem_71 (fun H locs hP hD hS => ?_)
      generalize hf_f_90 : upd f14 _ _ = f_90 at hP hD
      have hP : va_P (dC, dI) vwCl (mW ad kc x0 x1 x2 x3 x4 x5 x6 x7 x8 x9 x10 x11 x12 x13 x14 x15 x16 x17 x18 x19 x20 x21 f0 f1 f2 f3 f4 f5 f6 f7 f8 f9 f10 f11 f_86 f_88 f_90 f15 f16 f17 f18 f19 f20 f21 fL fN fP fM fO) H := hP
      have hD : va_D A (mW ad kc x0 x1 x2 x3 x4 x5 x6 x7 x8 x9 x10 x11 x12 x13 x14 x15 x16 x17 x18 x19 x20 x21 f0 f1 f2 f3 f4 f5 f6 f7 f8 f9 f10 f11 f_86 f_88 f_90 f15 f16 f17 f18 f19 f20 f21 fL fN fP fM fO) := hD
      refine lv_aload_n hx hb dX10_walksItem_72 rfl (lv_at hl 1 rfl) ?_
      refine va_get (D := (dC, dI)) (ci := 10) (v := .ref (ad 16)) (C := RX10) (T := TX10) (N := 48) hx hb hts fin_X10_walksItemm_X10 hown hK hP 0 rfl rfl 38 (by decide) (hts (.fieldLink RX10 80 "PatternGateModel" "fewest" "[I") (List.mem_of_getElem? (i := 5) (by decide +kernel))) (fun _ h9 => h9) rfl dX10_walksItem_73 ?_
      refine lv_iload_n hx hb dX10_walksItem_76 rfl (lv_at hl 2 rfl) ?_
      refine lv_iload_n hx hb dX10_walksItem_77 rfl (lv_at hl 0 rfl) ?_
      refine lv_if_eq (tgt := 85) hx hb dX10_walksItem_78 (by decide) (fun k_91 => absurd k_91 (by decide)) (fun k_91 => ?_)
      have tk_91 := c_ne (a := 1) (b := 0) (by decide) (by decide) k_91
      refine lv_iconst (v := 0) hx hb dX10_walksItem_81 (by decide) ?_
      refine lv_goto (tgt := 91) hx hb dX10_walksItem_82 (by decide) ?_
      refine va_iast hx hb hK hP hD hS 16 15 rfl rfl (i := i1) (vp_of (a := i1.toInt) rfl (by omega) (by omega)) dX10_walksItem_91 (fun H locs hP hD hS => ?_)
      generalize hf_f_92 : upd f15 _ _ = f_92 at hP hD
      have hP : va_P (dC, dI) vwCl (mW ad kc x0 x1 x2 x3 x4 x5 x6 x7 x8 x9 x10 x11 x12 x13 x14 x15 x16 x17 x18 x19 x20 x21 f0 f1 f2 f3 f4 f5 f6 f7 f8 f9 f10 f11 f_86 f_88 f_90 f_92 f16 f17 f18 f19 f20 f21 fL fN fP fM fO) H := hP
      have hD : va_D A (mW ad kc x0 x1 x2 x3 x4 x5 x6 x7 x8 x9 x10 x11 x12 x13 x14 x15 x16 x17 x18 x19 x20 x21 f0 f1 f2 f3 f4 f5 f6 f7 f8 f9 f10 f11 f_86 f_88 f_90 f_92 f16 f17 f18 f19 f20 f21 fL fN fP fM fO) := hD
      refine lv_aload_n hx hb dX10_walksItem_92 rfl (lv_at hl 1 rfl) ?_
      refine va_get (D := (dC, dI)) (ci := 10) (v := .ref (ad 17)) (C := RX10) (T := TX10) (N := 48) hx hb hts fin_X10_walksItemm_X10 hown hK hP 0 rfl rfl 39 (by decide) (hts (.fieldLink RX10 83 "PatternGateModel" "deep" "[I") (List.mem_of_getElem? (i := 6) (by decide +kernel))) (fun _ h9 => h9) rfl dX10_walksItem_93 ?_
      refine lv_iload_n hx hb dX10_walksItem_96 rfl (lv_at hl 2 rfl) ?_
      refine lv_aload_n hx hb dX10_walksItem_97 rfl (lv_at hl 1 rfl) ?_
      refine va_get (D := (dC, dI)) (ci := 10) (v := .ref (ad 17)) (C := RX10) (T := TX10) (N := 48) hx hb hts fin_X10_walksItemm_X10 hown hK hP 0 rfl rfl 39 (by decide) (hts (.fieldLink RX10 83 "PatternGateModel" "deep" "[I") (List.mem_of_getElem? (i := 6) (by decide +kernel))) (fun _ h9 => h9) rfl dX10_walksItem_98 ?_
      refine lv_iload_n hx hb dX10_walksItem_101 rfl (lv_at hl 3 rfl) ?_
      refine va_iald hx hb hK hP 17 16 rfl rfl (i := i2) (vp_of (a := i2.toInt) rfl (by omega) (by omega)) dX10_walksItem_102 ?_
      refine lv_topi (fun y_93 ey_93 => ?_)
      have rg_y_93 := i_rng y_93
      refine lv_aload_n hx hb dX10_walksItem_103 rfl (lv_at hl 1 rfl) ?_
      refine va_get (D := (dC, dI)) (ci := 10) (v := .ref (ad 9)) (C := RX10) (T := TX10) (N := 48) hx hb hts fin_X10_walksItemm_X10 hown hK hP 0 rfl rfl 20 (by decide) (hts (.fieldLink RX10 43 "PatternGateModel" "sign" "[I") (List.mem_of_getElem? (i := 1) (by decide +kernel))) (fun _ h9 => h9) rfl dX10_walksItem_104 ?_
      refine lv_iload_n hx hb dX10_walksItem_107 rfl (lv_at hl 2 rfl) ?_
      refine va_iald hx hb hK hP 9 8 rfl rfl (i := i1) (vp_of (a := i1.toInt) rfl (by omega) (by omega)) dX10_walksItem_108 ?_
      refine lv_topi (fun y_94 ey_94 => ?_)
      have rg_y_94 := i_rng y_94
      refine lv_iconst (v := (-1)) hx hb dX10_walksItem_109 (by decide) ?_
      refine lv_icmp_ne (tgt := 117) hx hb dX10_walksItem_110 (by decide) (fun k_95 => ?_) (fun k_95 => ?_)
      · have tk_95 := c_ne (a := y_94.toInt) (b := (-1)) rfl (by decide) k_95
        refine lv_iconst (v := 1) hx hb dX10_walksItem_117 (by decide) ?_
        refine lv_iadd hx hb dX10_walksItem_118 ?_
        refine lv_topi (fun y_96 ey_96 => ?_)
        first | have ty_96 := i_add (a := y_93.toInt) (b := 1) rfl (by decide) ey_96 (by omega) (by omega) | skip
        refine va_iast hx hb hK hP hD hS 17 16 rfl rfl (i := i1) (vp_of (a := i1.toInt) rfl (by omega) (by omega)) dX10_walksItem_119 (fun H locs hP hD hS => ?_)
        generalize hf_f_97 : upd f16 _ _ = f_97 at hP hD
        have hP : va_P (dC, dI) vwCl (mW ad kc x0 x1 x2 x3 x4 x5 x6 x7 x8 x9 x10 x11 x12 x13 x14 x15 x16 x17 x18 x19 x20 x21 f0 f1 f2 f3 f4 f5 f6 f7 f8 f9 f10 f11 f_86 f_88 f_90 f_92 f_97 f17 f18 f19 f20 f21 fL fN fP fM fO) H := hP
        have hD : va_D A (mW ad kc x0 x1 x2 x3 x4 x5 x6 x7 x8 x9 x10 x11 x12 x13 x14 x15 x16 x17 x18 x19 x20 x21 f0 f1 f2 f3 f4 f5 f6 f7 f8 f9 f10 f11 f_86 f_88 f_90 f_92 f_97 f17 f18 f19 f20 f21 fL fN fP fM fO) := hD
        refine lv_aload_n hx hb dX10_walksItem_120 rfl (lv_at hl 1 rfl) ?_
        refine va_get (D := (dC, dI)) (ci := 10) (v := .ref (ad 9)) (C := RX10) (T := TX10) (N := 48) hx hb hts fin_X10_walksItemm_X10 hown hK hP 0 rfl rfl 20 (by decide) (hts (.fieldLink RX10 43 "PatternGateModel" "sign" "[I") (List.mem_of_getElem? (i := 1) (by decide +kernel))) (fun _ h9 => h9) rfl dX10_walksItem_121 ?_
        refine lv_iload_n hx hb dX10_walksItem_124 rfl (lv_at hl 2 rfl) ?_
        refine va_iald hx hb hK hP 9 8 rfl rfl (i := i1) (vp_of (a := i1.toInt) rfl (by omega) (by omega)) dX10_walksItem_125 ?_
        refine lv_topi (fun y_98 ey_98 => ?_)
        have rg_y_98 := i_rng y_98
        refine lv_bipush (v := 42) hx hb dX10_walksItem_126 (by decide) ?_
        refine lv_icmp_eq (tgt := 142) hx hb dX10_walksItem_128 (by decide) (fun k_99 => ?_) (fun k_99 => ?_)
        · have tk_99 := c_eq (a := y_98.toInt) (b := 42) rfl (by decide) k_99
          refine lv_aload_n hx hb dX10_walksItem_142 rfl (lv_at hl 1 rfl) ?_
          refine lv_aload_n hx hb dX10_walksItem_143 rfl (lv_at hl 1 rfl) ?_
          refine va_get (D := (dC, dI)) (ci := 10) (v := .ref (ad 15)) (C := RX10) (T := TX10) (N := 48) hx hb hts fin_X10_walksItemm_X10 hown hK hP 0 rfl rfl 37 (by decide) (hts (.fieldLink RX10 77 "PatternGateModel" "tails" "[I") (List.mem_of_getElem? (i := 4) (by decide +kernel))) (fun _ h9 => h9) rfl dX10_walksItem_144 ?_
          refine lv_iload_n hx hb dX10_walksItem_147 rfl (lv_at hl 3 rfl) ?_
          refine va_iald hx hb hK hP 15 14 rfl rfl (i := i2) (vp_of (a := i2.toInt) rfl (by omega) (by omega)) dX10_walksItem_148 ?_
          refine lv_topi (fun y_100 ey_100 => ?_)
          have rg_y_100 := i_rng y_100
          refine lv_aload_n hx hb dX10_walksItem_149 rfl (lv_at hl 1 rfl) ?_
          refine va_get (D := (dC, dI)) (ci := 10) (v := .ref (ad 14)) (C := RX10) (T := TX10) (N := 48) hx hb hts fin_X10_walksItemm_X10 hown hK hP 0 rfl rfl 36 (by decide) (hts (.fieldLink RX10 74 "PatternGateModel" "heads" "[I") (List.mem_of_getElem? (i := 3) (by decide +kernel))) (fun _ h9 => h9) rfl dX10_walksItem_150 ?_
          refine lv_iload_n hx hb dX10_walksItem_153 rfl (lv_at hl 3 rfl) ?_
          refine va_iald hx hb hK hP 14 13 rfl rfl (i := i2) (vp_of (a := i2.toInt) rfl (by omega) (by omega)) dX10_walksItem_154 ?_
          refine lv_topi (fun y_101 ey_101 => ?_)
          have rg_y_101 := i_rng y_101
          have hFc := m_free hD hS hA
          refine va_callv (va_runV (As := [.int y_100, .int y_101]) (rest := []) ⟨hx, hb, hml, hown, hts⟩ (m_links l dC dI ad kc x0 x1 x2 x3 x4 x5 x6 x7 x8 x9 x10 x11 x12 x13 x14 x15 x16 x17 x18 x19 x20 x21 f0 f1 f2 f3 f4 f5 f6 f7 f8 f9 f10 f11 f_86 f_88 f_90 f_92 f_97 f17 f18 f19 f20 f21 fL fN fP fM fO H.size y_100 y_101 ) (cwV 2 hts mg_X10_walksItemm_X10_links_387 rfl rfl rfl (by decide +kernel) ⟨Nat.le_of_ble_eq_true rfl, Nat.le_of_ble_eq_true rfl⟩) ⟨fun a U g mk q => by obtain ⟨q0, q1, qP, qK, qD⟩ := q; exact ⟨q0, q1, qP, va_K.moved (u := U) (U := U.calling g mk a) (Vm.Alike.refl U.vm) qK, qD⟩, va_recv hK hP (ci := 10) (q0 := 0) rfl rfl, fun U hU hW => ⟨rfl, by rw [hU], by rw [hU]; exact hP, va_K.moved hW.alike hK, hD.weaken (fun _ _ _ _ => trivial)⟩⟩ rfl rfl hl.1 rfl (lv_room (Nat.le_of_ble_eq_true rfl)) dX10_walksItem_155 ⟨Nat.le_of_ble_eq_true rfl, Nat.le_of_ble_eq_true rfl⟩) hS (fun q _ h => hFc q h) hFc (fun u t H1 locs ht hvm hw hB hz1 hk1 hS => ?_)
          obtain ⟨f_103, hP, hK1, hD1⟩ := hB
          rw [ht] at hP
          have hD := hD1.weaken (fun k q _ h => hFc q.1 h)
          clear hz1 hk1 hFc hD1 hK1 hvm
          generalize H1 = H at hP hS ⊢
          have hP : va_P (dC, dI) vwCl (mW ad kc x0 x1 x2 x3 x4 x5 x6 x7 x8 x9 x10 x11 x12 x13 x14 x15 x16 x17 x18 x19 x20 x21 f0 f1 f2 f3 f4 f5 f6 f7 f8 f9 f10 f11 f_86 f_88 f_90 f_92 f_97 f_103 f18 f19 f20 f21 fL fN fP fM fO) H := hP
          have hD : va_D A (mW ad kc x0 x1 x2 x3 x4 x5 x6 x7 x8 x9 x10 x11 x12 x13 x14 x15 x16 x17 x18 x19 x20 x21 f0 f1 f2 f3 f4 f5 f6 f7 f8 f9 f10 f11 f_86 f_88 f_90 f_92 f_97 f_103 f18 f19 f20 f21 fL fN fP fM fO) := hD
          exact W.vret hx hb hr (fun t ht hW => ⟨⟨(), rfl, trivial, f_86, f_88, f_90, f_92, f_97, f_103, f18, by rw [ht]; exact hP, va_K.moved hW.alike hK, hD⟩, hS.F ht⟩) hS.2.2 dX10_walksItem_158
        · have tk_99 := c_ne (a := y_98.toInt) (b := 42) rfl (by decide) k_99
          refine lv_aload_n hx hb dX10_walksItem_131 rfl (lv_at hl 1 rfl) ?_
          refine va_get (D := (dC, dI)) (ci := 10) (v := .ref (ad 9)) (C := RX10) (T := TX10) (N := 48) hx hb hts fin_X10_walksItemm_X10 hown hK hP 0 rfl rfl 20 (by decide) (hts (.fieldLink RX10 43 "PatternGateModel" "sign" "[I") (List.mem_of_getElem? (i := 1) (by decide +kernel))) (fun _ h9 => h9) rfl dX10_walksItem_132 ?_
          refine lv_iload_n hx hb dX10_walksItem_135 rfl (lv_at hl 2 rfl) ?_
          refine va_iald hx hb hK hP 9 8 rfl rfl (i := i1) (vp_of (a := i1.toInt) rfl (by omega) (by omega)) dX10_walksItem_136 ?_
          refine lv_topi (fun y_104 ey_104 => ?_)
          have rg_y_104 := i_rng y_104
          refine lv_bipush (v := 43) hx hb dX10_walksItem_137 (by decide) ?_
          refine lv_icmp_ne (tgt := 158) hx hb dX10_walksItem_139 (by decide) (fun k_105 => ?_) (fun k_105 => ?_)
          · have tk_105 := c_ne (a := y_104.toInt) (b := 43) rfl (by decide) k_105
            exact W.vret hx hb hr (fun t ht hW => ⟨⟨(), rfl, trivial, f_86, f_88, f_90, f_92, f_97, f17, f18, by rw [ht]; exact hP, va_K.moved hW.alike hK, hD⟩, hS.F ht⟩) hS.2.2 dX10_walksItem_158
          · have tk_105 := c_eq (a := y_104.toInt) (b := 43) rfl (by decide) k_105
            refine lv_aload_n hx hb dX10_walksItem_142 rfl (lv_at hl 1 rfl) ?_
            refine lv_aload_n hx hb dX10_walksItem_143 rfl (lv_at hl 1 rfl) ?_
            refine va_get (D := (dC, dI)) (ci := 10) (v := .ref (ad 15)) (C := RX10) (T := TX10) (N := 48) hx hb hts fin_X10_walksItemm_X10 hown hK hP 0 rfl rfl 37 (by decide) (hts (.fieldLink RX10 77 "PatternGateModel" "tails" "[I") (List.mem_of_getElem? (i := 4) (by decide +kernel))) (fun _ h9 => h9) rfl dX10_walksItem_144 ?_
            refine lv_iload_n hx hb dX10_walksItem_147 rfl (lv_at hl 3 rfl) ?_
            refine va_iald hx hb hK hP 15 14 rfl rfl (i := i2) (vp_of (a := i2.toInt) rfl (by omega) (by omega)) dX10_walksItem_148 ?_
            refine lv_topi (fun y_106 ey_106 => ?_)
            have rg_y_106 := i_rng y_106
            refine lv_aload_n hx hb dX10_walksItem_149 rfl (lv_at hl 1 rfl) ?_
            refine va_get (D := (dC, dI)) (ci := 10) (v := .ref (ad 14)) (C := RX10) (T := TX10) (N := 48) hx hb hts fin_X10_walksItemm_X10 hown hK hP 0 rfl rfl 36 (by decide) (hts (.fieldLink RX10 74 "PatternGateModel" "heads" "[I") (List.mem_of_getElem? (i := 3) (by decide +kernel))) (fun _ h9 => h9) rfl dX10_walksItem_150 ?_
            refine lv_iload_n hx hb dX10_walksItem_153 rfl (lv_at hl 3 rfl) ?_
            refine va_iald hx hb hK hP 14 13 rfl rfl (i := i2) (vp_of (a := i2.toInt) rfl (by omega) (by omega)) dX10_walksItem_154 ?_
            refine lv_topi (fun y_107 ey_107 => ?_)
            have rg_y_107 := i_rng y_107
            have hFc := m_free hD hS hA
            refine va_callv (va_runV (As := [.int y_106, .int y_107]) (rest := []) ⟨hx, hb, hml, hown, hts⟩ (m_links l dC dI ad kc x0 x1 x2 x3 x4 x5 x6 x7 x8 x9 x10 x11 x12 x13 x14 x15 x16 x17 x18 x19 x20 x21 f0 f1 f2 f3 f4 f5 f6 f7 f8 f9 f10 f11 f_86 f_88 f_90 f_92 f_97 f17 f18 f19 f20 f21 fL fN fP fM fO H.size y_106 y_107 ) (cwV 2 hts mg_X10_walksItemm_X10_links_387 rfl rfl rfl (by decide +kernel) ⟨Nat.le_of_ble_eq_true rfl, Nat.le_of_ble_eq_true rfl⟩) ⟨fun a U g mk q => by obtain ⟨q0, q1, qP, qK, qD⟩ := q; exact ⟨q0, q1, qP, va_K.moved (u := U) (U := U.calling g mk a) (Vm.Alike.refl U.vm) qK, qD⟩, va_recv hK hP (ci := 10) (q0 := 0) rfl rfl, fun U hU hW => ⟨rfl, by rw [hU], by rw [hU]; exact hP, va_K.moved hW.alike hK, hD.weaken (fun _ _ _ _ => trivial)⟩⟩ rfl rfl hl.1 rfl (lv_room (Nat.le_of_ble_eq_true rfl)) dX10_walksItem_155 ⟨Nat.le_of_ble_eq_true rfl, Nat.le_of_ble_eq_true rfl⟩) hS (fun q _ h => hFc q h) hFc (fun u t H1 locs ht hvm hw hB hz1 hk1 hS => ?_)
            obtain ⟨f_109, hP, hK1, hD1⟩ := hB
            rw [ht] at hP
            have hD := hD1.weaken (fun k q _ h => hFc q.1 h)
            clear hz1 hk1 hFc hD1 hK1 hvm
            generalize H1 = H at hP hS ⊢
            have hP : va_P (dC, dI) vwCl (mW ad kc x0 x1 x2 x3 x4 x5 x6 x7 x8 x9 x10 x11 x12 x13 x14 x15 x16 x17 x18 x19 x20 x21 f0 f1 f2 f3 f4 f5 f6 f7 f8 f9 f10 f11 f_86 f_88 f_90 f_92 f_97 f_109 f18 f19 f20 f21 fL fN fP fM fO) H := hP
            have hD : va_D A (mW ad kc x0 x1 x2 x3 x4 x5 x6 x7 x8 x9 x10 x11 x12 x13 x14 x15 x16 x17 x18 x19 x20 x21 f0 f1 f2 f3 f4 f5 f6 f7 f8 f9 f10 f11 f_86 f_88 f_90 f_92 f_97 f_109 f18 f19 f20 f21 fL fN fP fM fO) := hD
            exact W.vret hx hb hr (fun t ht hW => ⟨⟨(), rfl, trivial, f_86, f_88, f_90, f_92, f_97, f_109, f18, by rw [ht]; exact hP, va_K.moved hW.alike hK, hD⟩, hS.F ht⟩) hS.2.2 dX10_walksItem_158
      · have tk_95 := c_eq (a := y_94.toInt) (b := (-1)) rfl (by decide) k_95
        refine lv_iconst (v := 0) hx hb dX10_walksItem_113 (by decide) ?_
        refine lv_goto (tgt := 118) hx hb dX10_walksItem_114 (by decide) ?_
        refine lv_iadd hx hb dX10_walksItem_118 ?_
        refine lv_topi (fun y_110 ey_110 => ?_)
        first | have ty_110 := i_add (a := y_93.toInt) (b := 0) rfl (by decide) ey_110 (by omega) (by omega) | skip
        refine va_iast hx hb hK hP hD hS 17 16 rfl rfl (i := i1) (vp_of (a := i1.toInt) rfl (by omega) (by omega)) dX10_walksItem_119 (fun H locs hP hD hS => ?_)
        generalize hf_f_111 : upd f16 _ _ = f_111 at hP hD
        have hP : va_P (dC, dI) vwCl (mW ad kc x0 x1 x2 x3 x4 x5 x6 x7 x8 x9 x10 x11 x12 x13 x14 x15 x16 x17 x18 x19 x20 x21 f0 f1 f2 f3 f4 f5 f6 f7 f8 f9 f10 f11 f_86 f_88 f_90 f_92 f_111 f17 f18 f19 f20 f21 fL fN fP fM fO) H := hP
        have hD : va_D A (mW ad kc x0 x1 x2 x3 x4 x5 x6 x7 x8 x9 x10 x11 x12 x13 x14 x15 x16 x17 x18 x19 x20 x21 f0 f1 f2 f3 f4 f5 f6 f7 f8 f9 f10 f11 f_86 f_88 f_90 f_92 f_111 f17 f18 f19 f20 f21 fL fN fP fM fO) := hD
        refine lv_aload_n hx hb dX10_walksItem_120 rfl (lv_at hl 1 rfl) ?_
        refine va_get (D := (dC, dI)) (ci := 10) (v := .ref (ad 9)) (C := RX10) (T := TX10) (N := 48) hx hb hts fin_X10_walksItemm_X10 hown hK hP 0 rfl rfl 20 (by decide) (hts (.fieldLink RX10 43 "PatternGateModel" "sign" "[I") (List.mem_of_getElem? (i := 1) (by decide +kernel))) (fun _ h9 => h9) rfl dX10_walksItem_121 ?_
        refine lv_iload_n hx hb dX10_walksItem_124 rfl (lv_at hl 2 rfl) ?_
        refine va_iald hx hb hK hP 9 8 rfl rfl (i := i1) (vp_of (a := i1.toInt) rfl (by omega) (by omega)) dX10_walksItem_125 ?_
        refine lv_topi (fun y_112 ey_112 => ?_)
        have rg_y_112 := i_rng y_112
        refine lv_bipush (v := 42) hx hb dX10_walksItem_126 (by decide) ?_
        refine lv_icmp_eq (tgt := 142) hx hb dX10_walksItem_128 (by decide) (fun k_113 => ?_) (fun k_113 => ?_)
        · have tk_113 := c_eq (a := y_112.toInt) (b := 42) rfl (by decide) k_113
          refine lv_aload_n hx hb dX10_walksItem_142 rfl (lv_at hl 1 rfl) ?_
          refine lv_aload_n hx hb dX10_walksItem_143 rfl (lv_at hl 1 rfl) ?_
          refine va_get (D := (dC, dI)) (ci := 10) (v := .ref (ad 15)) (C := RX10) (T := TX10) (N := 48) hx hb hts fin_X10_walksItemm_X10 hown hK hP 0 rfl rfl 37 (by decide) (hts (.fieldLink RX10 77 "PatternGateModel" "tails" "[I") (List.mem_of_getElem? (i := 4) (by decide +kernel))) (fun _ h9 => h9) rfl dX10_walksItem_144 ?_
          refine lv_iload_n hx hb dX10_walksItem_147 rfl (lv_at hl 3 rfl) ?_
          refine va_iald hx hb hK hP 15 14 rfl rfl (i := i2) (vp_of (a := i2.toInt) rfl (by omega) (by omega)) dX10_walksItem_148 ?_
          refine lv_topi (fun y_114 ey_114 => ?_)
          have rg_y_114 := i_rng y_114
          refine lv_aload_n hx hb dX10_walksItem_149 rfl (lv_at hl 1 rfl) ?_
          refine va_get (D := (dC, dI)) (ci := 10) (v := .ref (ad 14)) (C := RX10) (T := TX10) (N := 48) hx hb hts fin_X10_walksItemm_X10 hown hK hP 0 rfl rfl 36 (by decide) (hts (.fieldLink RX10 74 "PatternGateModel" "heads" "[I") (List.mem_of_getElem? (i := 3) (by decide +kernel))) (fun _ h9 => h9) rfl dX10_walksItem_150 ?_
          refine lv_iload_n hx hb dX10_walksItem_153 rfl (lv_at hl 3 rfl) ?_
          refine va_iald hx hb hK hP 14 13 rfl rfl (i := i2) (vp_of (a := i2.toInt) rfl (by omega) (by omega)) dX10_walksItem_154 ?_
          refine lv_topi (fun y_115 ey_115 => ?_)
          have rg_y_115 := i_rng y_115
          have hFc := m_free hD hS hA
          refine va_callv (va_runV (As := [.int y_114, .int y_115]) (rest := []) ⟨hx, hb, hml, hown, hts⟩ (m_links l dC dI ad kc x0 x1 x2 x3 x4 x5 x6 x7 x8 x9 x10 x11 x12 x13 x14 x15 x16 x17 x18 x19 x20 x21 f0 f1 f2 f3 f4 f5 f6 f7 f8 f9 f10 f11 f_86 f_88 f_90 f_92 f_111 f17 f18 f19 f20 f21 fL fN fP fM fO H.size y_114 y_115 ) (cwV 2 hts mg_X10_walksItemm_X10_links_387 rfl rfl rfl (by decide +kernel) ⟨Nat.le_of_ble_eq_true rfl, Nat.le_of_ble_eq_true rfl⟩) ⟨fun a U g mk q => by obtain ⟨q0, q1, qP, qK, qD⟩ := q; exact ⟨q0, q1, qP, va_K.moved (u := U) (U := U.calling g mk a) (Vm.Alike.refl U.vm) qK, qD⟩, va_recv hK hP (ci := 10) (q0 := 0) rfl rfl, fun U hU hW => ⟨rfl, by rw [hU], by rw [hU]; exact hP, va_K.moved hW.alike hK, hD.weaken (fun _ _ _ _ => trivial)⟩⟩ rfl rfl hl.1 rfl (lv_room (Nat.le_of_ble_eq_true rfl)) dX10_walksItem_155 ⟨Nat.le_of_ble_eq_true rfl, Nat.le_of_ble_eq_true rfl⟩) hS (fun q _ h => hFc q h) hFc (fun u t H1 locs ht hvm hw hB hz1 hk1 hS => ?_)
          obtain ⟨f_117, hP, hK1, hD1⟩ := hB
          rw [ht] at hP
          have hD := hD1.weaken (fun k q _ h => hFc q.1 h)
          clear hz1 hk1 hFc hD1 hK1 hvm
          generalize H1 = H at hP hS ⊢
          have hP : va_P (dC, dI) vwCl (mW ad kc x0 x1 x2 x3 x4 x5 x6 x7 x8 x9 x10 x11 x12 x13 x14 x15 x16 x17 x18 x19 x20 x21 f0 f1 f2 f3 f4 f5 f6 f7 f8 f9 f10 f11 f_86 f_88 f_90 f_92 f_111 f_117 f18 f19 f20 f21 fL fN fP fM fO) H := hP
          have hD : va_D A (mW ad kc x0 x1 x2 x3 x4 x5 x6 x7 x8 x9 x10 x11 x12 x13 x14 x15 x16 x17 x18 x19 x20 x21 f0 f1 f2 f3 f4 f5 f6 f7 f8 f9 f10 f11 f_86 f_88 f_90 f_92 f_111 f_117 f18 f19 f20 f21 fL fN fP fM fO) := hD
          exact W.vret hx hb hr (fun t ht hW => ⟨⟨(), rfl, trivial, f_86, f_88, f_90, f_92, f_111, f_117, f18, by rw [ht]; exact hP, va_K.moved hW.alike hK, hD⟩, hS.F ht⟩) hS.2.2 dX10_walksItem_158
        · have tk_113 := c_ne (a := y_112.toInt) (b := 42) rfl (by decide) k_113
          refine lv_aload_n hx hb dX10_walksItem_131 rfl (lv_at hl 1 rfl) ?_
          refine va_get (D := (dC, dI)) (ci := 10) (v := .ref (ad 9)) (C := RX10) (T := TX10) (N := 48) hx hb hts fin_X10_walksItemm_X10 hown hK hP 0 rfl rfl 20 (by decide) (hts (.fieldLink RX10 43 "PatternGateModel" "sign" "[I") (List.mem_of_getElem? (i := 1) (by decide +kernel))) (fun _ h9 => h9) rfl dX10_walksItem_132 ?_
          refine lv_iload_n hx hb dX10_walksItem_135 rfl (lv_at hl 2 rfl) ?_
          refine va_iald hx hb hK hP 9 8 rfl rfl (i := i1) (vp_of (a := i1.toInt) rfl (by omega) (by omega)) dX10_walksItem_136 ?_
          refine lv_topi (fun y_118 ey_118 => ?_)
          have rg_y_118 := i_rng y_118
          refine lv_bipush (v := 43) hx hb dX10_walksItem_137 (by decide) ?_
          refine lv_icmp_ne (tgt := 158) hx hb dX10_walksItem_139 (by decide) (fun k_119 => ?_) (fun k_119 => ?_)
          · have tk_119 := c_ne (a := y_118.toInt) (b := 43) rfl (by decide) k_119
            exact W.vret hx hb hr (fun t ht hW => ⟨⟨(), rfl, trivial, f_86, f_88, f_90, f_92, f_111, f17, f18, by rw [ht]; exact hP, va_K.moved hW.alike hK, hD⟩, hS.F ht⟩) hS.2.2 dX10_walksItem_158
          · have tk_119 := c_eq (a := y_118.toInt) (b := 43) rfl (by decide) k_119
            refine lv_aload_n hx hb dX10_walksItem_142 rfl (lv_at hl 1 rfl) ?_
            refine lv_aload_n hx hb dX10_walksItem_143 rfl (lv_at hl 1 rfl) ?_
            refine va_get (D := (dC, dI)) (ci := 10) (v := .ref (ad 15)) (C := RX10) (T := TX10) (N := 48) hx hb hts fin_X10_walksItemm_X10 hown hK hP 0 rfl rfl 37 (by decide) (hts (.fieldLink RX10 77 "PatternGateModel" "tails" "[I") (List.mem_of_getElem? (i := 4) (by decide +kernel))) (fun _ h9 => h9) rfl dX10_walksItem_144 ?_
            refine lv_iload_n hx hb dX10_walksItem_147 rfl (lv_at hl 3 rfl) ?_
            refine va_iald hx hb hK hP 15 14 rfl rfl (i := i2) (vp_of (a := i2.toInt) rfl (by omega) (by omega)) dX10_walksItem_148 ?_
            refine lv_topi (fun y_120 ey_120 => ?_)
            have rg_y_120 := i_rng y_120
            refine lv_aload_n hx hb dX10_walksItem_149 rfl (lv_at hl 1 rfl) ?_
            refine va_get (D := (dC, dI)) (ci := 10) (v := .ref (ad 14)) (C := RX10) (T := TX10) (N := 48) hx hb hts fin_X10_walksItemm_X10 hown hK hP 0 rfl rfl 36 (by decide) (hts (.fieldLink RX10 74 "PatternGateModel" "heads" "[I") (List.mem_of_getElem? (i := 3) (by decide +kernel))) (fun _ h9 => h9) rfl dX10_walksItem_150 ?_
            refine lv_iload_n hx hb dX10_walksItem_153 rfl (lv_at hl 3 rfl) ?_
            refine va_iald hx hb hK hP 14 13 rfl rfl (i := i2) (vp_of (a := i2.toInt) rfl (by omega) (by omega)) dX10_walksItem_154 ?_
            refine lv_topi (fun y_121 ey_121 => ?_)
            have rg_y_121 := i_rng y_121
            have hFc := m_free hD hS hA
            refine va_callv (va_runV (As := [.int y_120, .int y_121]) (rest := []) ⟨hx, hb, hml, hown, hts⟩ (m_links l dC dI ad kc x0 x1 x2 x3 x4 x5 x6 x7 x8 x9 x10 x11 x12 x13 x14 x15 x16 x17 x18 x19 x20 x21 f0 f1 f2 f3 f4 f5 f6 f7 f8 f9 f10 f11 f_86 f_88 f_90 f_92 f_111 f17 f18 f19 f20 f21 fL fN fP fM fO H.size y_120 y_121 ) (cwV 2 hts mg_X10_walksItemm_X10_links_387 rfl rfl rfl (by decide +kernel) ⟨Nat.le_of_ble_eq_true rfl, Nat.le_of_ble_eq_true rfl⟩) ⟨fun a U g mk q => by obtain ⟨q0, q1, qP, qK, qD⟩ := q; exact ⟨q0, q1, qP, va_K.moved (u := U) (U := U.calling g mk a) (Vm.Alike.refl U.vm) qK, qD⟩, va_recv hK hP (ci := 10) (q0 := 0) rfl rfl, fun U hU hW => ⟨rfl, by rw [hU], by rw [hU]; exact hP, va_K.moved hW.alike hK, hD.weaken (fun _ _ _ _ => trivial)⟩⟩ rfl rfl hl.1 rfl (lv_room (Nat.le_of_ble_eq_true rfl)) dX10_walksItem_155 ⟨Nat.le_of_ble_eq_true rfl, Nat.le_of_ble_eq_true rfl⟩) hS (fun q _ h => hFc q h) hFc (fun u t H1 locs ht hvm hw hB hz1 hk1 hS => ?_)
            obtain ⟨f_123, hP, hK1, hD1⟩ := hB
            rw [ht] at hP
            have hD := hD1.weaken (fun k q _ h => hFc q.1 h)
            clear hz1 hk1 hFc hD1 hK1 hvm
            generalize H1 = H at hP hS ⊢
            have hP : va_P (dC, dI) vwCl (mW ad kc x0 x1 x2 x3 x4 x5 x6 x7 x8 x9 x10 x11 x12 x13 x14 x15 x16 x17 x18 x19 x20 x21 f0 f1 f2 f3 f4 f5 f6 f7 f8 f9 f10 f11 f_86 f_88 f_90 f_92 f_111 f_123 f18 f19 f20 f21 fL fN fP fM fO) H := hP
            have hD : va_D A (mW ad kc x0 x1 x2 x3 x4 x5 x6 x7 x8 x9 x10 x11 x12 x13 x14 x15 x16 x17 x18 x19 x20 x21 f0 f1 f2 f3 f4 f5 f6 f7 f8 f9 f10 f11 f_86 f_88 f_90 f_92 f_111 f_123 f18 f19 f20 f21 fL fN fP fM fO) := hD
            exact W.vret hx hb hr (fun t ht hW => ⟨⟨(), rfl, trivial, f_86, f_88, f_90, f_92, f_111, f_123, f18, by rw [ht]; exact hP, va_K.moved hW.alike hK, hD⟩, hS.F ht⟩) hS.2.2 dX10_walksItem_158
/-- a chain of knots -/
def knC (V : Nat → Int → Int) (k hi : Int) : Prop := ∃ (R : Int → Int → Int → Prop) (m : Int), (∀ a b c, R a b c → a < b) ∧ (∀ a b c, R a b c → 1 ≤ c) ∧ tsI V R k hi m
theorem knC.nx {V : Nat → Int → Int} {k hi : Int} (h : knC V k hi) (hk : k ≠ -1) : 0 ≤ k ∧ k < hi ∧ knC V (V 2 k) hi ∧ (V 2 k = -1 ∨ k < V 2 k) := by
  obtain ⟨R, m, h1, h2, h3⟩ := h
  obtain ⟨a, b, c1, c2, c3, c4, c5, c6, c7⟩ := ts_cont h1 h2 h3 hk
  refine ⟨c2, by omega, ⟨R, m - b, h1, h2, c7⟩, ?_⟩
  rcases h3 with ⟨z, _⟩ | ⟨_, _, _, n, la, z⟩
  · exact absurd z hk
  · cases n with
    | zero => exact Or.inl z.2.2
    | succ n =>
      obtain ⟨k', m1, m2, d1, d2, d3, d4⟩ := z
      have := h1 _ _ _ d1
      right; omega
theorem knC.bd {V : Nat → Int → Int} {k hi : Int} (h : knC V k hi) : k = -1 ∨ (0 ≤ k ∧ k < hi) := by
  obtain ⟨R, m, h1, h2, h3⟩ := h
  rcases h3 with ⟨z, _⟩ | ⟨z1, z2, _⟩
  · exact Or.inl z
  · exact Or.inr ⟨z1, z2⟩
theorem knC.nb {V : Nat → Int → Int} {d : Nat} {k hi m : Int} (h : tBranch V (tSub V d) k hi m) (h0 : 0 ≤ k) : knC V (V 1 k) hi := ⟨_, m, fun a b c => hm_item d V a b c, hp_item V d, ts_init (fun a b c => hm_item d V a b c) (hp_item V d) h0 ⟨h.2.1, h.2.2⟩⟩
theorem knC.np {V : Nat → Int → Int} {d : Nat} {k hi m : Int} (h : tPat V d k hi m) (h0 : 0 ≤ k) : knC V (V 1 k) hi := by
  rw [tPat_eq] at h
  exact ⟨_, m, fun a b c => hm_branch d V a b c, hp_branch V d, ts_init (fun a b c => hm_branch d V a b c) (hp_branch V d) h0 ⟨h.2.1, h.2.2⟩⟩
theorem dX10_walksBranch_0 : decode cX10_walksBranch 0 = .ok (.aload_n 0, 1) := by decide +kernel
theorem dX10_walksBranch_1 : decode cX10_walksBranch 1 = .ok (.getfield 71, 3) := by decide +kernel
theorem dX10_walksBranch_4 : decode cX10_walksBranch 4 = .ok (.iload_n 1, 1) := by decide +kernel
theorem dX10_walksBranch_5 : decode cX10_walksBranch 5 = .ok (.iconst 1, 1) := by decide +kernel
theorem dX10_walksBranch_6 : decode cX10_walksBranch 6 = .ok (.iastore, 1) := by decide +kernel
theorem dX10_walksBranch_7 : decode cX10_walksBranch 7 = .ok (.aload_n 0, 1) := by decide +kernel
theorem dX10_walksBranch_8 : decode cX10_walksBranch 8 = .ok (.getfield 74, 3) := by decide +kernel
theorem dX10_walksBranch_11 : decode cX10_walksBranch 11 = .ok (.iload_n 1, 1) := by decide +kernel
theorem dX10_walksBranch_12 : decode cX10_walksBranch 12 = .ok (.iconst 0, 1) := by decide +kernel
theorem dX10_walksBranch_13 : decode cX10_walksBranch 13 = .ok (.iastore, 1) := by decide +kernel
theorem dX10_walksBranch_14 : decode cX10_walksBranch 14 = .ok (.aload_n 0, 1) := by decide +kernel
theorem dX10_walksBranch_15 : decode cX10_walksBranch 15 = .ok (.getfield 77, 3) := by decide +kernel
theorem dX10_walksBranch_18 : decode cX10_walksBranch 18 = .ok (.iload_n 1, 1) := by decide +kernel
theorem dX10_walksBranch_19 : decode cX10_walksBranch 19 = .ok (.iconst 0, 1) := by decide +kernel
theorem dX10_walksBranch_20 : decode cX10_walksBranch 20 = .ok (.iastore, 1) := by decide +kernel
theorem dX10_walksBranch_21 : decode cX10_walksBranch 21 = .ok (.aload_n 0, 1) := by decide +kernel
theorem dX10_walksBranch_22 : decode cX10_walksBranch 22 = .ok (.getfield 80, 3) := by decide +kernel
theorem dX10_walksBranch_25 : decode cX10_walksBranch 25 = .ok (.iload_n 1, 1) := by decide +kernel
theorem dX10_walksBranch_26 : decode cX10_walksBranch 26 = .ok (.iconst 0, 1) := by decide +kernel
theorem dX10_walksBranch_27 : decode cX10_walksBranch 27 = .ok (.iastore, 1) := by decide +kernel
theorem dX10_walksBranch_28 : decode cX10_walksBranch 28 = .ok (.aload_n 0, 1) := by decide +kernel
theorem dX10_walksBranch_29 : decode cX10_walksBranch 29 = .ok (.getfield 83, 3) := by decide +kernel
theorem dX10_walksBranch_32 : decode cX10_walksBranch 32 = .ok (.iload_n 1, 1) := by decide +kernel
theorem dX10_walksBranch_33 : decode cX10_walksBranch 33 = .ok (.iconst 0, 1) := by decide +kernel
theorem dX10_walksBranch_34 : decode cX10_walksBranch 34 = .ok (.iastore, 1) := by decide +kernel
theorem dX10_walksBranch_35 : decode cX10_walksBranch 35 = .ok (.aload_n 0, 1) := by decide +kernel
theorem dX10_walksBranch_36 : decode cX10_walksBranch 36 = .ok (.getfield 31, 3) := by decide +kernel
theorem dX10_walksBranch_39 : decode cX10_walksBranch 39 = .ok (.iload_n 1, 1) := by decide +kernel
theorem dX10_walksBranch_40 : decode cX10_walksBranch 40 = .ok (.iaload, 1) := by decide +kernel
theorem dX10_walksBranch_41 : decode cX10_walksBranch 41 = .ok (.istore_n 2, 1) := by decide +kernel
theorem dX10_walksBranch_42 : decode cX10_walksBranch 42 = .ok (.iload_n 2, 1) := by decide +kernel
theorem dX10_walksBranch_43 : decode cX10_walksBranch 43 = .ok (.iconst (-1), 1) := by decide +kernel
theorem dX10_walksBranch_44 : decode cX10_walksBranch 44 = .ok (.if_icmp .eq 147, 3) := by decide +kernel
theorem dX10_walksBranch_47 : decode cX10_walksBranch 47 = .ok (.aload_n 0, 1) := by decide +kernel
theorem dX10_walksBranch_48 : decode cX10_walksBranch 48 = .ok (.aload_n 0, 1) := by decide +kernel
theorem dX10_walksBranch_49 : decode cX10_walksBranch 49 = .ok (.getfield 77, 3) := by decide +kernel
theorem dX10_walksBranch_52 : decode cX10_walksBranch 52 = .ok (.iload_n 1, 1) := by decide +kernel
theorem dX10_walksBranch_53 : decode cX10_walksBranch 53 = .ok (.iaload, 1) := by decide +kernel
theorem dX10_walksBranch_54 : decode cX10_walksBranch 54 = .ok (.aload_n 0, 1) := by decide +kernel
theorem dX10_walksBranch_55 : decode cX10_walksBranch 55 = .ok (.getfield 74, 3) := by decide +kernel
theorem dX10_walksBranch_58 : decode cX10_walksBranch 58 = .ok (.iload_n 2, 1) := by decide +kernel
theorem dX10_walksBranch_59 : decode cX10_walksBranch 59 = .ok (.iaload, 1) := by decide +kernel
theorem dX10_walksBranch_60 : decode cX10_walksBranch 60 = .ok (.invokevirtual 387, 3) := by decide +kernel
theorem dX10_walksBranch_63 : decode cX10_walksBranch 63 = .ok (.aload_n 0, 1) := by decide +kernel
theorem dX10_walksBranch_64 : decode cX10_walksBranch 64 = .ok (.getfield 74, 3) := by decide +kernel
theorem dX10_walksBranch_67 : decode cX10_walksBranch 67 = .ok (.iload_n 1, 1) := by decide +kernel
theorem dX10_walksBranch_68 : decode cX10_walksBranch 68 = .ok (.dup2, 1) := by decide +kernel
theorem dX10_walksBranch_69 : decode cX10_walksBranch 69 = .ok (.iaload, 1) := by decide +kernel
theorem dX10_walksBranch_70 : decode cX10_walksBranch 70 = .ok (.aload_n 0, 1) := by decide +kernel
theorem dX10_walksBranch_71 : decode cX10_walksBranch 71 = .ok (.getfield 71, 3) := by decide +kernel
theorem dX10_walksBranch_74 : decode cX10_walksBranch 74 = .ok (.iload_n 1, 1) := by decide +kernel
theorem dX10_walksBranch_75 : decode cX10_walksBranch 75 = .ok (.iaload, 1) := by decide +kernel
theorem dX10_walksBranch_76 : decode cX10_walksBranch 76 = .ok (.iconst 1, 1) := by decide +kernel
theorem dX10_walksBranch_77 : decode cX10_walksBranch 77 = .ok (.if_icmp .ne 12, 3) := by decide +kernel
theorem dX10_walksBranch_80 : decode cX10_walksBranch 80 = .ok (.aload_n 0, 1) := by decide +kernel
theorem dX10_walksBranch_81 : decode cX10_walksBranch 81 = .ok (.getfield 74, 3) := by decide +kernel
theorem dX10_walksBranch_84 : decode cX10_walksBranch 84 = .ok (.iload_n 2, 1) := by decide +kernel
theorem dX10_walksBranch_85 : decode cX10_walksBranch 85 = .ok (.iaload, 1) := by decide +kernel
theorem dX10_walksBranch_86 : decode cX10_walksBranch 86 = .ok (.goto 4, 3) := by decide +kernel
theorem dX10_walksBranch_89 : decode cX10_walksBranch 89 = .ok (.iconst 0, 1) := by decide +kernel
theorem dX10_walksBranch_90 : decode cX10_walksBranch 90 = .ok (.ior, 1) := by decide +kernel
theorem dX10_walksBranch_91 : decode cX10_walksBranch 91 = .ok (.iastore, 1) := by decide +kernel
theorem dX10_walksBranch_92 : decode cX10_walksBranch 92 = .ok (.aload_n 0, 1) := by decide +kernel
theorem dX10_walksBranch_93 : decode cX10_walksBranch 93 = .ok (.getfield 77, 3) := by decide +kernel
theorem dX10_walksBranch_96 : decode cX10_walksBranch 96 = .ok (.iload_n 1, 1) := by decide +kernel
theorem dX10_walksBranch_97 : decode cX10_walksBranch 97 = .ok (.aload_n 0, 1) := by decide +kernel
theorem dX10_walksBranch_98 : decode cX10_walksBranch 98 = .ok (.getfield 71, 3) := by decide +kernel
theorem dX10_walksBranch_101 : decode cX10_walksBranch 101 = .ok (.iload_n 2, 1) := by decide +kernel
theorem dX10_walksBranch_102 : decode cX10_walksBranch 102 = .ok (.iaload, 1) := by decide +kernel
theorem dX10_walksBranch_103 : decode cX10_walksBranch 103 = .ok (.iconst 1, 1) := by decide +kernel
theorem dX10_walksBranch_104 : decode cX10_walksBranch 104 = .ok (.if_icmp .ne 19, 3) := by decide +kernel
theorem dX10_walksBranch_107 : decode cX10_walksBranch 107 = .ok (.aload_n 0, 1) := by decide +kernel
theorem dX10_walksBranch_108 : decode cX10_walksBranch 108 = .ok (.getfield 77, 3) := by decide +kernel
theorem dX10_walksBranch_111 : decode cX10_walksBranch 111 = .ok (.iload_n 1, 1) := by decide +kernel
theorem dX10_walksBranch_112 : decode cX10_walksBranch 112 = .ok (.iaload, 1) := by decide +kernel
theorem dX10_walksBranch_113 : decode cX10_walksBranch 113 = .ok (.aload_n 0, 1) := by decide +kernel
theorem dX10_walksBranch_114 : decode cX10_walksBranch 114 = .ok (.getfield 77, 3) := by decide +kernel
theorem dX10_walksBranch_117 : decode cX10_walksBranch 117 = .ok (.iload_n 2, 1) := by decide +kernel
theorem dX10_walksBranch_118 : decode cX10_walksBranch 118 = .ok (.iaload, 1) := by decide +kernel
theorem dX10_walksBranch_119 : decode cX10_walksBranch 119 = .ok (.ior, 1) := by decide +kernel
theorem dX10_walksBranch_120 : decode cX10_walksBranch 120 = .ok (.goto 9, 3) := by decide +kernel
theorem dX10_walksBranch_123 : decode cX10_walksBranch 123 = .ok (.aload_n 0, 1) := by decide +kernel
theorem dX10_walksBranch_124 : decode cX10_walksBranch 124 = .ok (.getfield 77, 3) := by decide +kernel
theorem dX10_walksBranch_127 : decode cX10_walksBranch 127 = .ok (.iload_n 2, 1) := by decide +kernel
theorem dX10_walksBranch_128 : decode cX10_walksBranch 128 = .ok (.iaload, 1) := by decide +kernel
theorem dX10_walksBranch_129 : decode cX10_walksBranch 129 = .ok (.iastore, 1) := by decide +kernel
theorem dX10_walksBranch_130 : decode cX10_walksBranch 130 = .ok (.aload_n 0, 1) := by decide +kernel
theorem dX10_walksBranch_131 : decode cX10_walksBranch 131 = .ok (.getfield 71, 3) := by decide +kernel
theorem dX10_walksBranch_134 : decode cX10_walksBranch 134 = .ok (.iload_n 1, 1) := by decide +kernel
theorem dX10_walksBranch_135 : decode cX10_walksBranch 135 = .ok (.dup2, 1) := by decide +kernel
theorem dX10_walksBranch_136 : decode cX10_walksBranch 136 = .ok (.iaload, 1) := by decide +kernel
theorem dX10_walksBranch_137 : decode cX10_walksBranch 137 = .ok (.aload_n 0, 1) := by decide +kernel
theorem dX10_walksBranch_138 : decode cX10_walksBranch 138 = .ok (.getfield 71, 3) := by decide +kernel
theorem dX10_walksBranch_141 : decode cX10_walksBranch 141 = .ok (.iload_n 2, 1) := by decide +kernel
theorem dX10_walksBranch_142 : decode cX10_walksBranch 142 = .ok (.iaload, 1) := by decide +kernel
theorem dX10_walksBranch_143 : decode cX10_walksBranch 143 = .ok (.iand, 1) := by decide +kernel
theorem dX10_walksBranch_144 : decode cX10_walksBranch 144 = .ok (.iastore, 1) := by decide +kernel
theorem dX10_walksBranch_145 : decode cX10_walksBranch 145 = .ok (.aload_n 0, 1) := by decide +kernel
theorem dX10_walksBranch_146 : decode cX10_walksBranch 146 = .ok (.getfield 80, 3) := by decide +kernel
theorem dX10_walksBranch_149 : decode cX10_walksBranch 149 = .ok (.iload_n 1, 1) := by decide +kernel
theorem dX10_walksBranch_150 : decode cX10_walksBranch 150 = .ok (.dup2, 1) := by decide +kernel
theorem dX10_walksBranch_151 : decode cX10_walksBranch 151 = .ok (.iaload, 1) := by decide +kernel
theorem dX10_walksBranch_152 : decode cX10_walksBranch 152 = .ok (.aload_n 0, 1) := by decide +kernel
theorem dX10_walksBranch_153 : decode cX10_walksBranch 153 = .ok (.getfield 80, 3) := by decide +kernel
theorem dX10_walksBranch_156 : decode cX10_walksBranch 156 = .ok (.iload_n 2, 1) := by decide +kernel
theorem dX10_walksBranch_157 : decode cX10_walksBranch 157 = .ok (.iaload, 1) := by decide +kernel
theorem dX10_walksBranch_158 : decode cX10_walksBranch 158 = .ok (.iadd, 1) := by decide +kernel
theorem dX10_walksBranch_159 : decode cX10_walksBranch 159 = .ok (.iastore, 1) := by decide +kernel
theorem dX10_walksBranch_160 : decode cX10_walksBranch 160 = .ok (.aload_n 0, 1) := by decide +kernel
theorem dX10_walksBranch_161 : decode cX10_walksBranch 161 = .ok (.getfield 83, 3) := by decide +kernel
theorem dX10_walksBranch_164 : decode cX10_walksBranch 164 = .ok (.iload_n 1, 1) := by decide +kernel
theorem dX10_walksBranch_165 : decode cX10_walksBranch 165 = .ok (.aload_n 0, 1) := by decide +kernel
theorem dX10_walksBranch_166 : decode cX10_walksBranch 166 = .ok (.getfield 83, 3) := by decide +kernel
theorem dX10_walksBranch_169 : decode cX10_walksBranch 169 = .ok (.iload_n 1, 1) := by decide +kernel
theorem dX10_walksBranch_170 : decode cX10_walksBranch 170 = .ok (.iaload, 1) := by decide +kernel
theorem dX10_walksBranch_171 : decode cX10_walksBranch 171 = .ok (.aload_n 0, 1) := by decide +kernel
theorem dX10_walksBranch_172 : decode cX10_walksBranch 172 = .ok (.getfield 83, 3) := by decide +kernel
theorem dX10_walksBranch_175 : decode cX10_walksBranch 175 = .ok (.iload_n 2, 1) := by decide +kernel
theorem dX10_walksBranch_176 : decode cX10_walksBranch 176 = .ok (.iaload, 1) := by decide +kernel
theorem dX10_walksBranch_177 : decode cX10_walksBranch 177 = .ok (.invokestatic 268, 3) := by decide +kernel
theorem dX10_walksBranch_180 : decode cX10_walksBranch 180 = .ok (.iastore, 1) := by decide +kernel
theorem dX10_walksBranch_181 : decode cX10_walksBranch 181 = .ok (.aload_n 0, 1) := by decide +kernel
theorem dX10_walksBranch_182 : decode cX10_walksBranch 182 = .ok (.getfield 34, 3) := by decide +kernel
theorem dX10_walksBranch_185 : decode cX10_walksBranch 185 = .ok (.iload_n 2, 1) := by decide +kernel
theorem dX10_walksBranch_186 : decode cX10_walksBranch 186 = .ok (.iaload, 1) := by decide +kernel
theorem dX10_walksBranch_187 : decode cX10_walksBranch 187 = .ok (.istore_n 2, 1) := by decide +kernel
theorem dX10_walksBranch_188 : decode cX10_walksBranch 188 = .ok (.goto (-146), 3) := by decide +kernel
theorem dX10_walksBranch_191 : decode cX10_walksBranch 191 = .ok (.aload_n 0, 1) := by decide +kernel
theorem dX10_walksBranch_192 : decode cX10_walksBranch 192 = .ok (.getfield 83, 3) := by decide +kernel
theorem dX10_walksBranch_195 : decode cX10_walksBranch 195 = .ok (.iload_n 1, 1) := by decide +kernel
theorem dX10_walksBranch_196 : decode cX10_walksBranch 196 = .ok (.dup2, 1) := by decide +kernel
theorem dX10_walksBranch_197 : decode cX10_walksBranch 197 = .ok (.iaload, 1) := by decide +kernel
theorem dX10_walksBranch_198 : decode cX10_walksBranch 198 = .ok (.iconst 1, 1) := by decide +kernel
theorem dX10_walksBranch_199 : decode cX10_walksBranch 199 = .ok (.iadd, 1) := by decide +kernel
theorem dX10_walksBranch_200 : decode cX10_walksBranch 200 = .ok (.iastore, 1) := by decide +kernel
theorem dX10_walksBranch_201 : decode cX10_walksBranch 201 = .ok (.return_, 1) := by decide +kernel
def mwX10_walksBranchm : List Cond := .code yX10_walksBranch cX10_walksBranch 3 none :: ([.fieldLink RX10 71 "PatternGateModel" "nullable" "[I", .fieldLink RX10 74 "PatternGateModel" "heads" "[I", .fieldLink RX10 77 "PatternGateModel" "tails" "[I", .fieldLink RX10 80 "PatternGateModel" "fewest" "[I", .fieldLink RX10 83 "PatternGateModel" "deep" "[I", .fieldLink RX10 31 "PatternGateModel" "first" "[I", .code yX10_links cX10_links 4 none, .code yX10_has cX10_has 2 (some .boolean), .methodLink RX10 170 yX10_has, .static yX10_has, .initialized RX10, .fieldLink RX10 86 "PatternGateModel" "follow" "[I", .methodLink RX10 387 yX10_links, .instanceMethod yX10_links, .selects RX10 yX10_links yX10_links, .methodLink RX10 268 Lib.Math.max.name, .static Lib.Math.max.name, .initialized "java/lang/Math", .code Lib.Math.max.name Lib.Math.max.code 2 (some .int), .fieldLink RX10 34 "PatternGateModel" "next" "[I"] ++ wsX100)
theorem fin_X10_walksBranchm_X10 : ∀ w ∈ wsX100, w ∈ mwX10_walksBranchm := fun w h => List.mem_cons_of_mem _ (List.mem_append_right _ h)
set_option maxRecDepth 20000 in
theorem mg_X10_walksBranchm_X10_links_387 : GoodIn mwX10_walksBranchm (wsV RX10 387 RX10 yX10_links mwX10_linksm) := goodIn_r _ [13, 14, 15, 11, 7, 8, 9, 10, 11, 12, 21, 22, 23, 24, 25, 26, 27, 28, 29, 30, 31, 32, 33, 34, 35, 36, 37, 38, 39, 40, 41, 42, 43, 44, 45, 46, 47, 48, 49, 50, 51, 52, 53, 54, 55, 56, 57, 58, 59, 60, 61, 62, 63, 64, 65, 66, 67, 68] (by decide +kernel) (by decide +kernel)
set_option maxHeartbeats 4000000 in
set_option maxRecDepth 100000 in
theorem m_walksBranch (l : Launch) (dC : Nat → ClassId) (dI : Nat → Nat → Nat) (ad : Nat → Nat) (kc : Nat → ClassId) (x0 x1 x2 x3 x4 x5 x6 x7 x8 x9 x10 x11 x12 x13 x14 x15 x16 x17 x18 x19 x20 x21 : Int32) (f0 f1 f2 f3 f4 f5 f6 f7 f8 f9 f10 f11 f12 f13 f14 f15 f16 f17 f18 f19 f20 f21 : Nat → Int32) (fL : Nat → Nat → Int64) (fN : Nat → Nat → Int32) (fP : Nat → Nat → Nat) (fM : Nat → Nat → Int32) (fO : Nat → Nat → Int32) (sz : Nat) (i1 : Int32) (hi : Int) (q0 : 0 ≤ i1.toInt ∧ i1.toInt < 1600) (q1 : knC (mV f3 f4 f5 f7) (mV f3 f4 f5 f7 1 i1.toInt) hi) (q2 : hi ≤ 1600) (q3 : mV f3 f4 f5 f7 1 i1.toInt ≠ -1) : Met l yX10_walksBranch mwX10_walksBranchm ({ frames := 2, cells := 0, slots := 0, locals := 120 }) (va_Pc [.ref (ad 0), .int i1] (fun U => U.heap.size = sz ∧ va_P (dC, dI) vwCl (mW ad kc x0 x1 x2 x3 x4 x5 x6 x7 x8 x9 x10 x11 x12 x13 x14 x15 x16 x17 x18 x19 x20 x21 f0 f1 f2 f3 f4 f5 f6 f7 f8 f9 f10 f11 f12 f13 f14 f15 f16 f17 f18 f19 f20 f21 fL fN fP fM fO) U.heap ∧ va_K (dC, dI) vwCl (mT kc) U ∧ va_D (fun _ => True) (mW ad kc x0 x1 x2 x3 x4 x5 x6 x7 x8 x9 x10 x11 x12 x13 x14 x15 x16 x17 x18 x19 x20 x21 f0 f1 f2 f3 f4 f5 f6 f7 f8 f9 f10 f11 f12 f13 f14 f15 f16 f17 f18 f19 f20 f21 fL fN fP fM fO))) (va_Qv (fun (_ : Unit) => True) (fun _ t => ∃ (g12 g13 g14 g15 g16 g17 g18 : Nat → Int32), va_P (dC, dI) vwCl (mW ad kc x0 x1 x2 x3 x4 x5 x6 x7 x8 x9 x10 x11 x12 x13 x14 x15 x16 x17 x18 x19 x20 x21 f0 f1 f2 f3 f4 f5 f6 f7 f8 f9 f10 f11 g12 g13 g14 g15 g16 g17 g18 f19 f20 f21 fL fN fP fM fO) t.heap ∧ va_K (dC, dI) vwCl (mT kc) t ∧ va_D (va_A (mW ad kc x0 x1 x2 x3 x4 x5 x6 x7 x8 x9 x10 x11 x12 x13 x14 x15 x16 x17 x18 x19 x20 x21 f0 f1 f2 f3 f4 f5 f6 f7 f8 f9 f10 f11 f12 f13 f14 f15 f16 f17 f18 f19 f20 f21 fL fN fP fM fO) sz) (mW ad kc x0 x1 x2 x3 x4 x5 x6 x7 x8 x9 x10 x11 x12 x13 x14 x15 x16 x17 x18 x19 x20 x21 f0 f1 f2 f3 f4 f5 f6 f7 f8 f9 f10 f11 g12 g13 g14 g15 g16 g17 g18 f19 f20 f21 fL fN fP fM fO)) (va_A (mW ad kc x0 x1 x2 x3 x4 x5 x6 x7 x8 x9 x10 x11 x12 x13 x14 x15 x16 x17 x18 x19 x20 x21 f0 f1 f2 f3 f4 f5 f6 f7 f8 f9 f10 f11 f12 f13 f14 f15 f16 f17 f18 f19 f20 f21 fL fN fP fM fO) sz)) 0 0 (va_A (mW ad kc x0 x1 x2 x3 x4 x5 x6 x7 x8 x9 x10 x11 x12 x13 x14 x15 x16 x17 x18 x19 x20 x21 f0 f1 f2 f3 f4 f5 f6 f7 f8 f9 f10 f11 f12 f13 f14 f15 f16 f17 f18 f19 f20 f21 fL fN fP fM fO) sz) := by
  refine Met.ofW (cc := cX10_walksBranch) (maxL := 3) (ret := none) (by decide +kernel) rfl ?_
  intro p e s m args below meth c s₁ B hml hv
  obtain ⟨rfl, hsz, hP, hK, hD0⟩ := hv
  have hx := B.exec
  have hb := B.bytes
  have hr := B.returns
  have hts := atoms_spec (ws := mwX10_walksBranchm) B.pre
  have hown : s.vm.findClass RX10 = some m.cls := findClass_of_methodNamed B.named
  have hlocks := B.notSynchronized
  subst hsz
  have hD := hD0.self (sz := s.heap.size)
  generalize hAe : va_A (mW ad kc x0 x1 x2 x3 x4 x5 x6 x7 x8 x9 x10 x11 x12 x13 x14 x15 x16 x17 x18 x19 x20 x21 f0 f1 f2 f3 f4 f5 f6 f7 f8 f9 f10 f11 f12 f13 f14 f15 f16 f17 f18 f19 f20 f21 fL fN fP fM fO) s.heap.size = A at hD ⊢
  have hA : ∀ q : Nat, s.heap.size ≤ q → A q := fun q h => by rw [← hAe]; exact Or.inr h
  have hP : va_P (dC, dI) vwCl (mW ad kc x0 x1 x2 x3 x4 x5 x6 x7 x8 x9 x10 x11 x12 x13 x14 x15 x16 x17 x18 x19 x20 x21 f0 f1 f2 f3 f4 f5 f6 f7 f8 f9 f10 f11 f12 f13 f14 f15 f16 f17 f18 f19 f20 f21 fL fN fP fM fO) s.heap := hP
  have hD : va_D A (mW ad kc x0 x1 x2 x3 x4 x5 x6 x7 x8 x9 x10 x11 x12 x13 x14 x15 x16 x17 x18 x19 x20 x21 f0 f1 f2 f3 f4 f5 f6 f7 f8 f9 f10 f11 f12 f13 f14 f15 f16 f17 f18 f19 f20 f21 fL fN fP fM fO) := hD
  have hK : va_K (dC, dI) vwCl (mT kc) s := hK
  generalize hH : s.heap = H at hP ⊢
  have hS : va_S A s.heap H [] := by rw [← hH]; exact va_S.rf
  have hl := lv_entry ([.ref (ad 0), .int i1]) (n := 3) (Nat.le_of_ble_eq_true rfl)
  rw [lg_entry_eq]
  generalize (lg_sl ([.ref (ad 0), .int i1]) ++ List.replicate (3 - (lg_sl ([.ref (ad 0), .int i1])).length) Slot.unset).toArray = ls at hl ⊢
  have hl : lv_has ls 3 [(0, .ref (ad 0)), (1, .int i1)] := hl
  have rg_i1 := i_rng i1
  refine lv_aload_n hx hb dX10_walksBranch_0 rfl (lv_at hl 0 rfl) ?_
  refine va_get (D := (dC, dI)) (ci := 10) (v := .ref (ad 13)) (C := RX10) (T := TX10) (N := 48) hx hb hts fin_X10_walksBranchm_X10 hown hK hP 0 rfl rfl 35 (by decide) (hts (.fieldLink RX10 71 "PatternGateModel" "nullable" "[I") (List.mem_of_getElem? (i := 1) (by decide +kernel))) (fun _ h9 => h9) rfl dX10_walksBranch_1 ?_
  refine lv_iload_n hx hb dX10_walksBranch_4 rfl (lv_at hl 1 rfl) ?_
  refine lv_iconst (v := 1) hx hb dX10_walksBranch_5 (by decide) ?_
  refine va_iast hx hb hK hP hD hS 13 12 rfl rfl (i := i1) (vp_of (a := i1.toInt) rfl (by omega) (by omega)) dX10_walksBranch_6 (fun H locs hP hD hS => ?_)
  generalize hf_f_1 : upd f12 _ _ = f_1 at hP hD
  have hP : va_P (dC, dI) vwCl (mW ad kc x0 x1 x2 x3 x4 x5 x6 x7 x8 x9 x10 x11 x12 x13 x14 x15 x16 x17 x18 x19 x20 x21 f0 f1 f2 f3 f4 f5 f6 f7 f8 f9 f10 f11 f_1 f13 f14 f15 f16 f17 f18 f19 f20 f21 fL fN fP fM fO) H := hP
  have hD : va_D A (mW ad kc x0 x1 x2 x3 x4 x5 x6 x7 x8 x9 x10 x11 x12 x13 x14 x15 x16 x17 x18 x19 x20 x21 f0 f1 f2 f3 f4 f5 f6 f7 f8 f9 f10 f11 f_1 f13 f14 f15 f16 f17 f18 f19 f20 f21 fL fN fP fM fO) := hD
  refine lv_aload_n hx hb dX10_walksBranch_7 rfl (lv_at hl 0 rfl) ?_
  refine va_get (D := (dC, dI)) (ci := 10) (v := .ref (ad 14)) (C := RX10) (T := TX10) (N := 48) hx hb hts fin_X10_walksBranchm_X10 hown hK hP 0 rfl rfl 36 (by decide) (hts (.fieldLink RX10 74 "PatternGateModel" "heads" "[I") (List.mem_of_getElem? (i := 2) (by decide +kernel))) (fun _ h9 => h9) rfl dX10_walksBranch_8 ?_
  refine lv_iload_n hx hb dX10_walksBranch_11 rfl (lv_at hl 1 rfl) ?_
  refine lv_iconst (v := 0) hx hb dX10_walksBranch_12 (by decide) ?_
  refine va_iast hx hb hK hP hD hS 14 13 rfl rfl (i := i1) (vp_of (a := i1.toInt) rfl (by omega) (by omega)) dX10_walksBranch_13 (fun H locs hP hD hS => ?_)
  generalize hf_f_2 : upd f13 _ _ = f_2 at hP hD
  have hP : va_P (dC, dI) vwCl (mW ad kc x0 x1 x2 x3 x4 x5 x6 x7 x8 x9 x10 x11 x12 x13 x14 x15 x16 x17 x18 x19 x20 x21 f0 f1 f2 f3 f4 f5 f6 f7 f8 f9 f10 f11 f_1 f_2 f14 f15 f16 f17 f18 f19 f20 f21 fL fN fP fM fO) H := hP
  have hD : va_D A (mW ad kc x0 x1 x2 x3 x4 x5 x6 x7 x8 x9 x10 x11 x12 x13 x14 x15 x16 x17 x18 x19 x20 x21 f0 f1 f2 f3 f4 f5 f6 f7 f8 f9 f10 f11 f_1 f_2 f14 f15 f16 f17 f18 f19 f20 f21 fL fN fP fM fO) := hD
  refine lv_aload_n hx hb dX10_walksBranch_14 rfl (lv_at hl 0 rfl) ?_
  refine va_get (D := (dC, dI)) (ci := 10) (v := .ref (ad 15)) (C := RX10) (T := TX10) (N := 48) hx hb hts fin_X10_walksBranchm_X10 hown hK hP 0 rfl rfl 37 (by decide) (hts (.fieldLink RX10 77 "PatternGateModel" "tails" "[I") (List.mem_of_getElem? (i := 3) (by decide +kernel))) (fun _ h9 => h9) rfl dX10_walksBranch_15 ?_
  refine lv_iload_n hx hb dX10_walksBranch_18 rfl (lv_at hl 1 rfl) ?_
  refine lv_iconst (v := 0) hx hb dX10_walksBranch_19 (by decide) ?_
  refine va_iast hx hb hK hP hD hS 15 14 rfl rfl (i := i1) (vp_of (a := i1.toInt) rfl (by omega) (by omega)) dX10_walksBranch_20 (fun H locs hP hD hS => ?_)
  generalize hf_f_3 : upd f14 _ _ = f_3 at hP hD
  have hP : va_P (dC, dI) vwCl (mW ad kc x0 x1 x2 x3 x4 x5 x6 x7 x8 x9 x10 x11 x12 x13 x14 x15 x16 x17 x18 x19 x20 x21 f0 f1 f2 f3 f4 f5 f6 f7 f8 f9 f10 f11 f_1 f_2 f_3 f15 f16 f17 f18 f19 f20 f21 fL fN fP fM fO) H := hP
  have hD : va_D A (mW ad kc x0 x1 x2 x3 x4 x5 x6 x7 x8 x9 x10 x11 x12 x13 x14 x15 x16 x17 x18 x19 x20 x21 f0 f1 f2 f3 f4 f5 f6 f7 f8 f9 f10 f11 f_1 f_2 f_3 f15 f16 f17 f18 f19 f20 f21 fL fN fP fM fO) := hD
  refine lv_aload_n hx hb dX10_walksBranch_21 rfl (lv_at hl 0 rfl) ?_
  refine va_get (D := (dC, dI)) (ci := 10) (v := .ref (ad 16)) (C := RX10) (T := TX10) (N := 48) hx hb hts fin_X10_walksBranchm_X10 hown hK hP 0 rfl rfl 38 (by decide) (hts (.fieldLink RX10 80 "PatternGateModel" "fewest" "[I") (List.mem_of_getElem? (i := 4) (by decide +kernel))) (fun _ h9 => h9) rfl dX10_walksBranch_22 ?_
  refine lv_iload_n hx hb dX10_walksBranch_25 rfl (lv_at hl 1 rfl) ?_
  refine lv_iconst (v := 0) hx hb dX10_walksBranch_26 (by decide) ?_
  refine va_iast hx hb hK hP hD hS 16 15 rfl rfl (i := i1) (vp_of (a := i1.toInt) rfl (by omega) (by omega)) dX10_walksBranch_27 (fun H locs hP hD hS => ?_)
  generalize hf_f_4 : upd f15 _ _ = f_4 at hP hD
  have hP : va_P (dC, dI) vwCl (mW ad kc x0 x1 x2 x3 x4 x5 x6 x7 x8 x9 x10 x11 x12 x13 x14 x15 x16 x17 x18 x19 x20 x21 f0 f1 f2 f3 f4 f5 f6 f7 f8 f9 f10 f11 f_1 f_2 f_3 f_4 f16 f17 f18 f19 f20 f21 fL fN fP fM fO) H := hP
  have hD : va_D A (mW ad kc x0 x1 x2 x3 x4 x5 x6 x7 x8 x9 x10 x11 x12 x13 x14 x15 x16 x17 x18 x19 x20 x21 f0 f1 f2 f3 f4 f5 f6 f7 f8 f9 f10 f11 f_1 f_2 f_3 f_4 f16 f17 f18 f19 f20 f21 fL fN fP fM fO) := hD
  refine lv_aload_n hx hb dX10_walksBranch_28 rfl (lv_at hl 0 rfl) ?_
  refine va_get (D := (dC, dI)) (ci := 10) (v := .ref (ad 17)) (C := RX10) (T := TX10) (N := 48) hx hb hts fin_X10_walksBranchm_X10 hown hK hP 0 rfl rfl 39 (by decide) (hts (.fieldLink RX10 83 "PatternGateModel" "deep" "[I") (List.mem_of_getElem? (i := 5) (by decide +kernel))) (fun _ h9 => h9) rfl dX10_walksBranch_29 ?_
  refine lv_iload_n hx hb dX10_walksBranch_32 rfl (lv_at hl 1 rfl) ?_
  refine lv_iconst (v := 0) hx hb dX10_walksBranch_33 (by decide) ?_
  refine va_iast hx hb hK hP hD hS 17 16 rfl rfl (i := i1) (vp_of (a := i1.toInt) rfl (by omega) (by omega)) dX10_walksBranch_34 (fun H locs hP hD hS => ?_)
  generalize hf_f_5 : upd f16 _ _ = f_5 at hP hD
  have hP : va_P (dC, dI) vwCl (mW ad kc x0 x1 x2 x3 x4 x5 x6 x7 x8 x9 x10 x11 x12 x13 x14 x15 x16 x17 x18 x19 x20 x21 f0 f1 f2 f3 f4 f5 f6 f7 f8 f9 f10 f11 f_1 f_2 f_3 f_4 f_5 f17 f18 f19 f20 f21 fL fN fP fM fO) H := hP
  have hD : va_D A (mW ad kc x0 x1 x2 x3 x4 x5 x6 x7 x8 x9 x10 x11 x12 x13 x14 x15 x16 x17 x18 x19 x20 x21 f0 f1 f2 f3 f4 f5 f6 f7 f8 f9 f10 f11 f_1 f_2 f_3 f_4 f_5 f17 f18 f19 f20 f21 fL fN fP fM fO) := hD
  refine lv_aload_n hx hb dX10_walksBranch_35 rfl (lv_at hl 0 rfl) ?_
  refine va_get (D := (dC, dI)) (ci := 10) (v := .ref (ad 5)) (C := RX10) (T := TX10) (N := 48) hx hb hts fin_X10_walksBranchm_X10 hown hK hP 0 rfl rfl 16 (by decide) (hts (.fieldLink RX10 31 "PatternGateModel" "first" "[I") (List.mem_of_getElem? (i := 6) (by decide +kernel))) (fun _ h9 => h9) rfl dX10_walksBranch_36 ?_
  refine lv_iload_n hx hb dX10_walksBranch_39 rfl (lv_at hl 1 rfl) ?_
  refine va_iald hx hb hK hP 5 4 rfl rfl (i := i1) (vp_of (a := i1.toInt) rfl (by omega) (by omega)) dX10_walksBranch_40 ?_
  refine lv_topi (fun y_6 ey_6 => ?_)
  have rg_y_6 := i_rng y_6
  have vy_6 := vI_lda (f := f4) (i := i1) (a := i1.toInt) ey_6 (by first | omega | decide)
  have rg_y_6 := i_rng y_6
  refine lv_istore_n (lv' := [(2, .int y_6), (0, .ref (ad 0)), (1, .int i1)]) hx hb dX10_walksBranch_41 rfl hl (by decide) rfl (fun ls hl => ?_)
  have loop42 : ∀ (lm42 : Nat) (kk : Int32) (ga gb gc gd ge gf : Nat → Int32), (knC (mV f3 f4 f5 f7) kk.toInt hi) → ((if kk.toInt = -1 then 0 else (hi + 1 - kk.toInt)).toNat) < lm42 → ∀ (H : Heap) (locs : List Loc) (ls : Array Slot), va_P (dC, dI) vwCl (mW ad kc x0 x1 x2 x3 x4 x5 x6 x7 x8 x9 x10 x11 x12 x13 x14 x15 x16 x17 x18 x19 x20 x21 f0 f1 f2 f3 f4 f5 f6 f7 f8 f9 f10 f11 ga gb gc gd ge gf f18 f19 f20 f21 fL fN fP fM fO) H → va_D A (mW ad kc x0 x1 x2 x3 x4 x5 x6 x7 x8 x9 x10 x11 x12 x13 x14 x15 x16 x17 x18 x19 x20 x21 f0 f1 f2 f3 f4 f5 f6 f7 f8 f9 f10 f11 ga gb gc gd ge gf f18 f19 f20 f21 fL fN fP fM fO) → va_S A s.heap H locs → lv_has ls 3 [(2, .int kk), (0, .ref (ad 0)), (1, .int i1)] → W p l e (headSpec mwX10_walksBranchm ({ frames := 2, cells := 0, slots := 0, locals := 120 })).room s m ([.ref (ad 0), .int i1]).toArray below meth c H locs 0 0 (MQ below (va_Qv (fun (_ : Unit) => True) (fun _ t => ∃ (g12 g13 g14 g15 g16 g17 g18 : Nat → Int32), va_P (dC, dI) vwCl (mW ad kc x0 x1 x2 x3 x4 x5 x6 x7 x8 x9 x10 x11 x12 x13 x14 x15 x16 x17 x18 x19 x20 x21 f0 f1 f2 f3 f4 f5 f6 f7 f8 f9 f10 f11 g12 g13 g14 g15 g16 g17 g18 f19 f20 f21 fL fN fP fM fO) t.heap ∧ va_K (dC, dI) vwCl (mT kc) t ∧ va_D A (mW ad kc x0 x1 x2 x3 x4 x5 x6 x7 x8 x9 x10 x11 x12 x13 x14 x15 x16 x17 x18 x19 x20 x21 f0 f1 f2 f3 f4 f5 f6 f7 f8 f9 f10 f11 g12 g13 g14 g15 g16 g17 g18 f19 f20 f21 fL fN fP fM fO)) A) ([.ref (ad 0), .int i1]).toArray s 0 0 A) (F0 m 42 ls []) := by
    intro lm42
    induction lm42 with
    | zero => intro kk ga gb gc gd ge gf v42_0 hm42; exact absurd hm42 (Nat.not_lt_zero _)
    | succ lm42 ih42 =>
      intro kk ga gb gc gd ge gf v42_0 hm42 H locs ls hP hD hS hl
      have rg_kk := i_rng kk
      refine lv_iload_n hx hb dX10_walksBranch_42 rfl (lv_at hl 0 rfl) ?_
      refine lv_iconst (v := (-1)) hx hb dX10_walksBranch_43 (by decide) ?_
      refine lv_icmp_eq (tgt := 191) hx hb dX10_walksBranch_44 (by decide) (fun k_7 => ?_) (fun k_7 => ?_)
      · have tk_7 := c_eq (a := kk.toInt) (b := (-1)) rfl (by decide) k_7
        refine lv_aload_n hx hb dX10_walksBranch_191 rfl (lv_at hl 1 rfl) ?_
        refine va_get (D := (dC, dI)) (ci := 10) (v := .ref (ad 17)) (C := RX10) (T := TX10) (N := 48) hx hb hts fin_X10_walksBranchm_X10 hown hK hP 0 rfl rfl 39 (by decide) (hts (.fieldLink RX10 83 "PatternGateModel" "deep" "[I") (List.mem_of_getElem? (i := 5) (by decide +kernel))) (fun _ h9 => h9) rfl dX10_walksBranch_192 ?_
        refine lv_iload_n hx hb dX10_walksBranch_195 rfl (lv_at hl 2 rfl) ?_
        refine lv_dup2_11 hx hb dX10_walksBranch_196 rfl rfl ?_
        refine va_iald hx hb hK hP 17 16 rfl rfl (i := i1) (vp_of (a := i1.toInt) rfl (by omega) (by omega)) dX10_walksBranch_197 ?_
        refine lv_topi (fun y_8 ey_8 => ?_)
        have rg_y_8 := i_rng y_8
        refine lv_iconst (v := 1) hx hb dX10_walksBranch_198 (by decide) ?_
        refine lv_iadd hx hb dX10_walksBranch_199 ?_
        refine lv_topi (fun y_9 ey_9 => ?_)
        first | have ty_9 := i_add (a := y_8.toInt) (b := 1) rfl (by decide) ey_9 (by omega) (by omega) | skip
        refine va_iast hx hb hK hP hD hS 17 16 rfl rfl (i := i1) (vp_of (a := i1.toInt) rfl (by omega) (by omega)) dX10_walksBranch_200 (fun H locs hP hD hS => ?_)
        generalize hf_f_10 : upd ge _ _ = f_10 at hP hD
        have hP : va_P (dC, dI) vwCl (mW ad kc x0 x1 x2 x3 x4 x5 x6 x7 x8 x9 x10 x11 x12 x13 x14 x15 x16 x17 x18 x19 x20 x21 f0 f1 f2 f3 f4 f5 f6 f7 f8 f9 f10 f11 ga gb gc gd f_10 gf f18 f19 f20 f21 fL fN fP fM fO) H := hP
        have hD : va_D A (mW ad kc x0 x1 x2 x3 x4 x5 x6 x7 x8 x9 x10 x11 x12 x13 x14 x15 x16 x17 x18 x19 x20 x21 f0 f1 f2 f3 f4 f5 f6 f7 f8 f9 f10 f11 ga gb gc gd f_10 gf f18 f19 f20 f21 fL fN fP fM fO) := hD
        exact W.vret hx hb hr (fun t ht hW => ⟨⟨(), rfl, trivial, ga, gb, gc, gd, f_10, gf, f18, by rw [ht]; exact hP, va_K.moved hW.alike hK, hD⟩, hS.F ht⟩) hS.2.2 dX10_walksBranch_201
      · have tk_7 := c_ne (a := kk.toInt) (b := (-1)) rfl (by decide) k_7
        have hC := v42_0.nx tk_7
        obtain ⟨hC1, hC2, hC3, hC4⟩ := hC
        refine lv_aload_n hx hb dX10_walksBranch_47 rfl (lv_at hl 1 rfl) ?_
        refine lv_aload_n hx hb dX10_walksBranch_48 rfl (lv_at hl 1 rfl) ?_
        refine va_get (D := (dC, dI)) (ci := 10) (v := .ref (ad 15)) (C := RX10) (T := TX10) (N := 48) hx hb hts fin_X10_walksBranchm_X10 hown hK hP 0 rfl rfl 37 (by decide) (hts (.fieldLink RX10 77 "PatternGateModel" "tails" "[I") (List.mem_of_getElem? (i := 3) (by decide +kernel))) (fun _ h9 => h9) rfl dX10_walksBranch_49 ?_
        refine lv_iload_n hx hb dX10_walksBranch_52 rfl (lv_at hl 2 rfl) ?_
        refine va_iald hx hb hK hP 15 14 rfl rfl (i := i1) (vp_of (a := i1.toInt) rfl (by omega) (by omega)) dX10_walksBranch_53 ?_
        refine lv_topi (fun y_11 ey_11 => ?_)
        have rg_y_11 := i_rng y_11
        refine lv_aload_n hx hb dX10_walksBranch_54 rfl (lv_at hl 1 rfl) ?_
        refine va_get (D := (dC, dI)) (ci := 10) (v := .ref (ad 14)) (C := RX10) (T := TX10) (N := 48) hx hb hts fin_X10_walksBranchm_X10 hown hK hP 0 rfl rfl 36 (by decide) (hts (.fieldLink RX10 74 "PatternGateModel" "heads" "[I") (List.mem_of_getElem? (i := 2) (by decide +kernel))) (fun _ h9 => h9) rfl dX10_walksBranch_55 ?_
        refine lv_iload_n hx hb dX10_walksBranch_58 rfl (lv_at hl 0 rfl) ?_
        refine va_iald hx hb hK hP 14 13 rfl rfl (i := kk) (vp_of (a := kk.toInt) rfl (by omega) (by omega)) dX10_walksBranch_59 ?_
        refine lv_topi (fun y_12 ey_12 => ?_)
        have rg_y_12 := i_rng y_12
        have hFc := m_free hD hS hA
        refine va_callv (va_runV (As := [.int y_11, .int y_12]) (rest := []) ⟨hx, hb, hml, hown, hts⟩ (m_links l dC dI ad kc x0 x1 x2 x3 x4 x5 x6 x7 x8 x9 x10 x11 x12 x13 x14 x15 x16 x17 x18 x19 x20 x21 f0 f1 f2 f3 f4 f5 f6 f7 f8 f9 f10 f11 ga gb gc gd ge gf f18 f19 f20 f21 fL fN fP fM fO H.size y_11 y_12 ) (cwV 2 hts mg_X10_walksBranchm_X10_links_387 rfl rfl rfl (by decide +kernel) ⟨Nat.le_of_ble_eq_true rfl, Nat.le_of_ble_eq_true rfl⟩) ⟨fun a U g mk q => by obtain ⟨q0, q1, qP, qK, qD⟩ := q; exact ⟨q0, q1, qP, va_K.moved (u := U) (U := U.calling g mk a) (Vm.Alike.refl U.vm) qK, qD⟩, va_recv hK hP (ci := 10) (q0 := 0) rfl rfl, fun U hU hW => ⟨rfl, by rw [hU], by rw [hU]; exact hP, va_K.moved hW.alike hK, hD.weaken (fun _ _ _ _ => trivial)⟩⟩ rfl rfl hl.1 rfl (lv_room (Nat.le_of_ble_eq_true rfl)) dX10_walksBranch_60 ⟨Nat.le_of_ble_eq_true rfl, Nat.le_of_ble_eq_true rfl⟩) hS (fun q _ h => hFc q h) hFc (fun u t H1 locs ht hvm hw hB hz1 hk1 hS => ?_)
        obtain ⟨f_14, hP, hK1, hD1⟩ := hB
        rw [ht] at hP
        have hD := hD1.weaken (fun k q _ h => hFc q.1 h)
        clear hz1 hk1 hFc hD1 hK1 hvm
        generalize H1 = H at hP hS ⊢
        have hP : va_P (dC, dI) vwCl (mW ad kc x0 x1 x2 x3 x4 x5 x6 x7 x8 x9 x10 x11 x12 x13 x14 x15 x16 x17 x18 x19 x20 x21 f0 f1 f2 f3 f4 f5 f6 f7 f8 f9 f10 f11 ga gb gc gd ge f_14 f18 f19 f20 f21 fL fN fP fM fO) H := hP
        have hD : va_D A (mW ad kc x0 x1 x2 x3 x4 x5 x6 x7 x8 x9 x10 x11 x12 x13 x14 x15 x16 x17 x18 x19 x20 x21 f0 f1 f2 f3 f4 f5 f6 f7 f8 f9 f10 f11 ga gb gc gd ge f_14 f18 f19 f20 f21 fL fN fP fM fO) := hD
        refine lv_aload_n hx hb dX10_walksBranch_63 rfl (lv_at hl 1 rfl) ?_
        refine va_get (D := (dC, dI)) (ci := 10) (v := .ref (ad 14)) (C := RX10) (T := TX10) (N := 48) hx hb hts fin_X10_walksBranchm_X10 hown hK hP 0 rfl rfl 36 (by decide) (hts (.fieldLink RX10 74 "PatternGateModel" "heads" "[I") (List.mem_of_getElem? (i := 2) (by decide +kernel))) (fun _ h9 => h9) rfl dX10_walksBranch_64 ?_
        refine lv_iload_n hx hb dX10_walksBranch_67 rfl (lv_at hl 2 rfl) ?_
        refine lv_dup2_11 hx hb dX10_walksBranch_68 rfl rfl ?_
        refine va_iald hx hb hK hP 14 13 rfl rfl (i := i1) (vp_of (a := i1.toInt) rfl (by omega) (by omega)) dX10_walksBranch_69 ?_
        refine lv_topi (fun y_15 ey_15 => ?_)
        have rg_y_15 := i_rng y_15
        refine lv_aload_n hx hb dX10_walksBranch_70 rfl (lv_at hl 1 rfl) ?_
        refine va_get (D := (dC, dI)) (ci := 10) (v := .ref (ad 13)) (C := RX10) (T := TX10) (N := 48) hx hb hts fin_X10_walksBranchm_X10 hown hK hP 0 rfl rfl 35 (by decide) (hts (.fieldLink RX10 71 "PatternGateModel" "nullable" "[I") (List.mem_of_getElem? (i := 1) (by decide +kernel))) (fun _ h9 => h9) rfl dX10_walksBranch_71 ?_
        refine lv_iload_n hx hb dX10_walksBranch_74 rfl (lv_at hl 2 rfl) ?_
        refine va_iald hx hb hK hP 13 12 rfl rfl (i := i1) (vp_of (a := i1.toInt) rfl (by omega) (by omega)) dX10_walksBranch_75 ?_
        refine lv_topi (fun y_16 ey_16 => ?_)
        have rg_y_16 := i_rng y_16
        refine lv_iconst (v := 1) hx hb dX10_walksBranch_76 (by decide) ?_
        refine lv_icmp_ne (tgt := 89) hx hb dX10_walksBranch_77 (by decide) (fun k_17 => ?_) (fun k_17 => ?_)
        · have tk_17 := c_ne (a := y_16.toInt) (b := 1) rfl (by decide) k_17
          refine lv_iconst (v := 0) hx hb dX10_walksBranch_89 (by decide) ?_
          refine lv_ior hx hb dX10_walksBranch_90 ?_
          refine lv_topi (fun y_18 ey_18 => ?_)
          have rg_y_18 := i_rng y_18
          refine va_iast hx hb hK hP hD hS 14 13 rfl rfl (i := i1) (vp_of (a := i1.toInt) rfl (by omega) (by omega)) dX10_walksBranch_91 (fun H locs hP hD hS => ?_)
          generalize hf_f_19 : upd gb _ _ = f_19 at hP hD
          have hP : va_P (dC, dI) vwCl (mW ad kc x0 x1 x2 x3 x4 x5 x6 x7 x8 x9 x10 x11 x12 x13 x14 x15 x16 x17 x18 x19 x20 x21 f0 f1 f2 f3 f4 f5 f6 f7 f8 f9 f10 f11 ga f_19 gc gd ge f_14 f18 f19 f20 f21 fL fN fP fM fO) H := hP
          have hD : va_D A (mW ad kc x0 x1 x2 x3 x4 x5 x6 x7 x8 x9 x10 x11 x12 x13 x14 x15 x16 x17 x18 x19 x20 x21 f0 f1 f2 f3 f4 f5 f6 f7 f8 f9 f10 f11 ga f_19 gc gd ge f_14 f18 f19 f20 f21 fL fN fP fM fO) := hD
          refine lv_aload_n hx hb dX10_walksBranch_92 rfl (lv_at hl 1 rfl) ?_
          refine va_get (D := (dC, dI)) (ci := 10) (v := .ref (ad 15)) (C := RX10) (T := TX10) (N := 48) hx hb hts fin_X10_walksBranchm_X10 hown hK hP 0 rfl rfl 37 (by decide) (hts (.fieldLink RX10 77 "PatternGateModel" "tails" "[I") (List.mem_of_getElem? (i := 3) (by decide +kernel))) (fun _ h9 => h9) rfl dX10_walksBranch_93 ?_
          refine lv_iload_n hx hb dX10_walksBranch_96 rfl (lv_at hl 2 rfl) ?_
          refine lv_aload_n hx hb dX10_walksBranch_97 rfl (lv_at hl 1 rfl) ?_
          refine va_get (D := (dC, dI)) (ci := 10) (v := .ref (ad 13)) (C := RX10) (T := TX10) (N := 48) hx hb hts fin_X10_walksBranchm_X10 hown hK hP 0 rfl rfl 35 (by decide) (hts (.fieldLink RX10 71 "PatternGateModel" "nullable" "[I") (List.mem_of_getElem? (i := 1) (by decide +kernel))) (fun _ h9 => h9) rfl dX10_walksBranch_98 ?_
          refine lv_iload_n hx hb dX10_walksBranch_101 rfl (lv_at hl 0 rfl) ?_
          refine va_iald hx hb hK hP 13 12 rfl rfl (i := kk) (vp_of (a := kk.toInt) rfl (by omega) (by omega)) dX10_walksBranch_102 ?_
          refine lv_topi (fun y_20 ey_20 => ?_)
          have rg_y_20 := i_rng y_20
          refine lv_iconst (v := 1) hx hb dX10_walksBranch_103 (by decide) ?_
          refine lv_icmp_ne (tgt := 123) hx hb dX10_walksBranch_104 (by decide) (fun k_21 => ?_) (fun k_21 => ?_)
          · have tk_21 := c_ne (a := y_20.toInt) (b := 1) rfl (by decide) k_21
            refine lv_aload_n hx hb dX10_walksBranch_123 rfl (lv_at hl 1 rfl) ?_
            refine va_get (D := (dC, dI)) (ci := 10) (v := .ref (ad 15)) (C := RX10) (T := TX10) (N := 48) hx hb hts fin_X10_walksBranchm_X10 hown hK hP 0 rfl rfl 37 (by decide) (hts (.fieldLink RX10 77 "PatternGateModel" "tails" "[I") (List.mem_of_getElem? (i := 3) (by decide +kernel))) (fun _ h9 => h9) rfl dX10_walksBranch_124 ?_
            refine lv_iload_n hx hb dX10_walksBranch_127 rfl (lv_at hl 0 rfl) ?_
            refine va_iald hx hb hK hP 15 14 rfl rfl (i := kk) (vp_of (a := kk.toInt) rfl (by omega) (by omega)) dX10_walksBranch_128 ?_
            refine lv_topi (fun y_22 ey_22 => ?_)
            have rg_y_22 := i_rng y_22
            refine va_iast hx hb hK hP hD hS 15 14 rfl rfl (i := i1) (vp_of (a := i1.toInt) rfl (by omega) (by omega)) dX10_walksBranch_129 (fun H locs hP hD hS => ?_)
            generalize hf_f_23 : upd gc _ _ = f_23 at hP hD
            have hP : va_P (dC, dI) vwCl (mW ad kc x0 x1 x2 x3 x4 x5 x6 x7 x8 x9 x10 x11 x12 x13 x14 x15 x16 x17 x18 x19 x20 x21 f0 f1 f2 f3 f4 f5 f6 f7 f8 f9 f10 f11 ga f_19 f_23 gd ge f_14 f18 f19 f20 f21 fL fN fP fM fO) H := hP
            have hD : va_D A (mW ad kc x0 x1 x2 x3 x4 x5 x6 x7 x8 x9 x10 x11 x12 x13 x14 x15 x16 x17 x18 x19 x20 x21 f0 f1 f2 f3 f4 f5 f6 f7 f8 f9 f10 f11 ga f_19 f_23 gd ge f_14 f18 f19 f20 f21 fL fN fP fM fO) := hD
            refine lv_aload_n hx hb dX10_walksBranch_130 rfl (lv_at hl 1 rfl) ?_
            refine va_get (D := (dC, dI)) (ci := 10) (v := .ref (ad 13)) (C := RX10) (T := TX10) (N := 48) hx hb hts fin_X10_walksBranchm_X10 hown hK hP 0 rfl rfl 35 (by decide) (hts (.fieldLink RX10 71 "PatternGateModel" "nullable" "[I") (List.mem_of_getElem? (i := 1) (by decide +kernel))) (fun _ h9 => h9) rfl dX10_walksBranch_131 ?_
            refine lv_iload_n hx hb dX10_walksBranch_134 rfl (lv_at hl 2 rfl) ?_
            refine lv_dup2_11 hx hb dX10_walksBranch_135 rfl rfl ?_
            refine va_iald hx hb hK hP 13 12 rfl rfl (i := i1) (vp_of (a := i1.toInt) rfl (by omega) (by omega)) dX10_walksBranch_136 ?_
            refine lv_topi (fun y_24 ey_24 => ?_)
            have rg_y_24 := i_rng y_24
            refine lv_aload_n hx hb dX10_walksBranch_137 rfl (lv_at hl 1 rfl) ?_
            refine va_get (D := (dC, dI)) (ci := 10) (v := .ref (ad 13)) (C := RX10) (T := TX10) (N := 48) hx hb hts fin_X10_walksBranchm_X10 hown hK hP 0 rfl rfl 35 (by decide) (hts (.fieldLink RX10 71 "PatternGateModel" "nullable" "[I") (List.mem_of_getElem? (i := 1) (by decide +kernel))) (fun _ h9 => h9) rfl dX10_walksBranch_138 ?_
            refine lv_iload_n hx hb dX10_walksBranch_141 rfl (lv_at hl 0 rfl) ?_
            refine va_iald hx hb hK hP 13 12 rfl rfl (i := kk) (vp_of (a := kk.toInt) rfl (by omega) (by omega)) dX10_walksBranch_142 ?_
            refine lv_topi (fun y_25 ey_25 => ?_)
            have rg_y_25 := i_rng y_25
            refine lv_iand hx hb dX10_walksBranch_143 ?_
            refine lv_topi (fun y_26 ey_26 => ?_)
            have rg_y_26 := i_rng y_26
            refine va_iast hx hb hK hP hD hS 13 12 rfl rfl (i := i1) (vp_of (a := i1.toInt) rfl (by omega) (by omega)) dX10_walksBranch_144 (fun H locs hP hD hS => ?_)
            generalize hf_f_27 : upd ga _ _ = f_27 at hP hD
            have hP : va_P (dC, dI) vwCl (mW ad kc x0 x1 x2 x3 x4 x5 x6 x7 x8 x9 x10 x11 x12 x13 x14 x15 x16 x17 x18 x19 x20 x21 f0 f1 f2 f3 f4 f5 f6 f7 f8 f9 f10 f11 f_27 f_19 f_23 gd ge f_14 f18 f19 f20 f21 fL fN fP fM fO) H := hP
            have hD : va_D A (mW ad kc x0 x1 x2 x3 x4 x5 x6 x7 x8 x9 x10 x11 x12 x13 x14 x15 x16 x17 x18 x19 x20 x21 f0 f1 f2 f3 f4 f5 f6 f7 f8 f9 f10 f11 f_27 f_19 f_23 gd ge f_14 f18 f19 f20 f21 fL fN fP fM fO) := hD
            refine lv_aload_n hx hb dX10_walksBranch_145 rfl (lv_at hl 1 rfl) ?_
            refine va_get (D := (dC, dI)) (ci := 10) (v := .ref (ad 16)) (C := RX10) (T := TX10) (N := 48) hx hb hts fin_X10_walksBranchm_X10 hown hK hP 0 rfl rfl 38 (by decide) (hts (.fieldLink RX10 80 "PatternGateModel" "fewest" "[I") (List.mem_of_getElem? (i := 4) (by decide +kernel))) (fun _ h9 => h9) rfl dX10_walksBranch_146 ?_
            refine lv_iload_n hx hb dX10_walksBranch_149 rfl (lv_at hl 2 rfl) ?_
            refine lv_dup2_11 hx hb dX10_walksBranch_150 rfl rfl ?_
            refine va_iald hx hb hK hP 16 15 rfl rfl (i := i1) (vp_of (a := i1.toInt) rfl (by omega) (by omega)) dX10_walksBranch_151 ?_
            refine lv_topi (fun y_28 ey_28 => ?_)
            have rg_y_28 := i_rng y_28
            refine lv_aload_n hx hb dX10_walksBranch_152 rfl (lv_at hl 1 rfl) ?_
            refine va_get (D := (dC, dI)) (ci := 10) (v := .ref (ad 16)) (C := RX10) (T := TX10) (N := 48) hx hb hts fin_X10_walksBranchm_X10 hown hK hP 0 rfl rfl 38 (by decide) (hts (.fieldLink RX10 80 "PatternGateModel" "fewest" "[I") (List.mem_of_getElem? (i := 4) (by decide +kernel))) (fun _ h9 => h9) rfl dX10_walksBranch_153 ?_
            refine lv_iload_n hx hb dX10_walksBranch_156 rfl (lv_at hl 0 rfl) ?_
            refine va_iald hx hb hK hP 16 15 rfl rfl (i := kk) (vp_of (a := kk.toInt) rfl (by omega) (by omega)) dX10_walksBranch_157 ?_
            refine lv_topi (fun y_29 ey_29 => ?_)
            have rg_y_29 := i_rng y_29
            refine lv_iadd hx hb dX10_walksBranch_158 ?_
            refine lv_topi (fun y_30 ey_30 => ?_)
            first | have ty_30 := i_add (a := y_28.toInt) (b := y_29.toInt) rfl rfl ey_30 (by omega) (by omega) | skip
            refine va_iast hx hb hK hP hD hS 16 15 rfl rfl (i := i1) (vp_of (a := i1.toInt) rfl (by omega) (by omega)) dX10_walksBranch_159 (fun H locs hP hD hS => ?_)
            generalize hf_f_31 : upd gd _ _ = f_31 at hP hD
            have hP : va_P (dC, dI) vwCl (mW ad kc x0 x1 x2 x3 x4 x5 x6 x7 x8 x9 x10 x11 x12 x13 x14 x15 x16 x17 x18 x19 x20 x21 f0 f1 f2 f3 f4 f5 f6 f7 f8 f9 f10 f11 f_27 f_19 f_23 f_31 ge f_14 f18 f19 f20 f21 fL fN fP fM fO) H := hP
            have hD : va_D A (mW ad kc x0 x1 x2 x3 x4 x5 x6 x7 x8 x9 x10 x11 x12 x13 x14 x15 x16 x17 x18 x19 x20 x21 f0 f1 f2 f3 f4 f5 f6 f7 f8 f9 f10 f11 f_27 f_19 f_23 f_31 ge f_14 f18 f19 f20 f21 fL fN fP fM fO) := hD
            refine lv_aload_n hx hb dX10_walksBranch_160 rfl (lv_at hl 1 rfl) ?_
            refine va_get (D := (dC, dI)) (ci := 10) (v := .ref (ad 17)) (C := RX10) (T := TX10) (N := 48) hx hb hts fin_X10_walksBranchm_X10 hown hK hP 0 rfl rfl 39 (by decide) (hts (.fieldLink RX10 83 "PatternGateModel" "deep" "[I") (List.mem_of_getElem? (i := 5) (by decide +kernel))) (fun _ h9 => h9) rfl dX10_walksBranch_161 ?_
            refine lv_iload_n hx hb dX10_walksBranch_164 rfl (lv_at hl 2 rfl) ?_
            refine lv_aload_n hx hb dX10_walksBranch_165 rfl (lv_at hl 1 rfl) ?_
            refine va_get (D := (dC, dI)) (ci := 10) (v := .ref (ad 17)) (C := RX10) (T := TX10) (N := 48) hx hb hts fin_X10_walksBranchm_X10 hown hK hP 0 rfl rfl 39 (by decide) (hts (.fieldLink RX10 83 "PatternGateModel" "deep" "[I") (List.mem_of_getElem? (i := 5) (by decide +kernel))) (fun _ h9 => h9) rfl dX10_walksBranch_166 ?_
            refine lv_iload_n hx hb dX10_walksBranch_169 rfl (lv_at hl 2 rfl) ?_
            refine va_iald hx hb hK hP 17 16 rfl rfl (i := i1) (vp_of (a := i1.toInt) rfl (by omega) (by omega)) dX10_walksBranch_170 ?_
            refine lv_topi (fun y_32 ey_32 => ?_)
            have rg_y_32 := i_rng y_32
            refine lv_aload_n hx hb dX10_walksBranch_171 rfl (lv_at hl 1 rfl) ?_
            refine va_get (D := (dC, dI)) (ci := 10) (v := .ref (ad 17)) (C := RX10) (T := TX10) (N := 48) hx hb hts fin_X10_walksBranchm_X10 hown hK hP 0 rfl rfl 39 (by decide) (hts (.fieldLink RX10 83 "PatternGateModel" "deep" "[I") (List.mem_of_getElem? (i := 5) (by decide +kernel))) (fun _ h9 => h9) rfl dX10_walksBranch_172 ?_
            refine lv_iload_n hx hb dX10_walksBranch_175 rfl (lv_at hl 0 rfl) ?_
            refine va_iald hx hb hK hP 17 16 rfl rfl (i := kk) (vp_of (a := kk.toInt) rfl (by omega) (by omega)) dX10_walksBranch_176 ?_
            refine lv_topi (fun y_33 ey_33 => ?_)
            have rg_y_33 := i_rng y_33
            refine va_mmax hx hb (hml.trans hl.1.symm) hown (hts (.methodLink RX10 268 Lib.Math.max.name) (List.mem_of_getElem? (i := 16) (by decide +kernel))) (hts (.static Lib.Math.max.name) (List.mem_of_getElem? (i := 17) (by decide +kernel))) (hts (.initialized "java/lang/Math") (List.mem_of_getElem? (i := 18) (by decide +kernel))) (hts (.code Lib.Math.max.name Lib.Math.max.code 2 (some .int)) (List.mem_of_getElem? (i := 19) (by decide +kernel))) (Nat.le_of_ble_eq_true rfl) (Nat.le_of_ble_eq_true rfl) (Nat.le_of_ble_eq_true rfl) (Nat.le_of_ble_eq_true rfl) dX10_walksBranch_177 ?_
            refine lv_topi (fun y_34 ey_34 => ?_)
            have ty_34 := i_max (a := y_32.toInt) (b := y_33.toInt) rfl rfl ey_34
            refine va_iast hx hb hK hP hD hS 17 16 rfl rfl (i := i1) (vp_of (a := i1.toInt) rfl (by omega) (by omega)) dX10_walksBranch_180 (fun H locs hP hD hS => ?_)
            generalize hf_f_35 : upd ge _ _ = f_35 at hP hD
            have hP : va_P (dC, dI) vwCl (mW ad kc x0 x1 x2 x3 x4 x5 x6 x7 x8 x9 x10 x11 x12 x13 x14 x15 x16 x17 x18 x19 x20 x21 f0 f1 f2 f3 f4 f5 f6 f7 f8 f9 f10 f11 f_27 f_19 f_23 f_31 f_35 f_14 f18 f19 f20 f21 fL fN fP fM fO) H := hP
            have hD : va_D A (mW ad kc x0 x1 x2 x3 x4 x5 x6 x7 x8 x9 x10 x11 x12 x13 x14 x15 x16 x17 x18 x19 x20 x21 f0 f1 f2 f3 f4 f5 f6 f7 f8 f9 f10 f11 f_27 f_19 f_23 f_31 f_35 f_14 f18 f19 f20 f21 fL fN fP fM fO) := hD
            refine lv_aload_n hx hb dX10_walksBranch_181 rfl (lv_at hl 1 rfl) ?_
            refine va_get (D := (dC, dI)) (ci := 10) (v := .ref (ad 6)) (C := RX10) (T := TX10) (N := 48) hx hb hts fin_X10_walksBranchm_X10 hown hK hP 0 rfl rfl 17 (by decide) (hts (.fieldLink RX10 34 "PatternGateModel" "next" "[I") (List.mem_of_getElem? (i := 20) (by decide +kernel))) (fun _ h9 => h9) rfl dX10_walksBranch_182 ?_
            refine lv_iload_n hx hb dX10_walksBranch_185 rfl (lv_at hl 0 rfl) ?_
            refine va_iald hx hb hK hP 6 5 rfl rfl (i := kk) (vp_of (a := kk.toInt) rfl (by omega) (by omega)) dX10_walksBranch_186 ?_
            refine lv_topi (fun y_36 ey_36 => ?_)
            have rg_y_36 := i_rng y_36
            have vy_36 := vI_lda (f := f5) (i := kk) (a := kk.toInt) ey_36 (by first | omega | decide)
            have rg_y_36 := i_rng y_36
            have hNy : y_36.toInt = mV f3 f4 f5 f7 2 kk.toInt := vy_36
            refine lv_istore_n (lv' := [(2, .int y_36), (0, .ref (ad 0)), (1, .int i1)]) hx hb dX10_walksBranch_187 rfl hl (by decide) rfl (fun ls hl => ?_)
            refine lv_goto (tgt := 42) hx hb dX10_walksBranch_188 (by decide) ?_
            exact ih42 y_36 f_27 f_19 f_23 f_31 f_35 f_14 (by rw [show y_36.toInt = mV f3 f4 f5 f7 2 kk.toInt from vy_36]; exact hC3) (by omega) _ _ ls hP hD hS (lv_sub hl [0, 1, 2] rfl)
          · have tk_21 := c_eq (a := y_20.toInt) (b := 1) rfl (by decide) k_21
            refine lv_aload_n hx hb dX10_walksBranch_107 rfl (lv_at hl 1 rfl) ?_
            refine va_get (D := (dC, dI)) (ci := 10) (v := .ref (ad 15)) (C := RX10) (T := TX10) (N := 48) hx hb hts fin_X10_walksBranchm_X10 hown hK hP 0 rfl rfl 37 (by decide) (hts (.fieldLink RX10 77 "PatternGateModel" "tails" "[I") (List.mem_of_getElem? (i := 3) (by decide +kernel))) (fun _ h9 => h9) rfl dX10_walksBranch_108 ?_
            refine lv_iload_n hx hb dX10_walksBranch_111 rfl (lv_at hl 2 rfl) ?_
            refine va_iald hx hb hK hP 15 14 rfl rfl (i := i1) (vp_of (a := i1.toInt) rfl (by omega) (by omega)) dX10_walksBranch_112 ?_
            refine lv_topi (fun y_37 ey_37 => ?_)
            have rg_y_37 := i_rng y_37
            refine lv_aload_n hx hb dX10_walksBranch_113 rfl (lv_at hl 1 rfl) ?_
            refine va_get (D := (dC, dI)) (ci := 10) (v := .ref (ad 15)) (C := RX10) (T := TX10) (N := 48) hx hb hts fin_X10_walksBranchm_X10 hown hK hP 0 rfl rfl 37 (by decide) (hts (.fieldLink RX10 77 "PatternGateModel" "tails" "[I") (List.mem_of_getElem? (i := 3) (by decide +kernel))) (fun _ h9 => h9) rfl dX10_walksBranch_114 ?_
            refine lv_iload_n hx hb dX10_walksBranch_117 rfl (lv_at hl 0 rfl) ?_
            refine va_iald hx hb hK hP 15 14 rfl rfl (i := kk) (vp_of (a := kk.toInt) rfl (by omega) (by omega)) dX10_walksBranch_118 ?_
            refine lv_topi (fun y_38 ey_38 => ?_)
            have rg_y_38 := i_rng y_38
            refine lv_ior hx hb dX10_walksBranch_119 ?_
            refine lv_topi (fun y_39 ey_39 => ?_)
            have rg_y_39 := i_rng y_39
            refine lv_goto (tgt := 129) hx hb dX10_walksBranch_120 (by decide) ?_
            refine va_iast hx hb hK hP hD hS 15 14 rfl rfl (i := i1) (vp_of (a := i1.toInt) rfl (by omega) (by omega)) dX10_walksBranch_129 (fun H locs hP hD hS => ?_)
            generalize hf_f_40 : upd gc _ _ = f_40 at hP hD
            have hP : va_P (dC, dI) vwCl (mW ad kc x0 x1 x2 x3 x4 x5 x6 x7 x8 x9 x10 x11 x12 x13 x14 x15 x16 x17 x18 x19 x20 x21 f0 f1 f2 f3 f4 f5 f6 f7 f8 f9 f10 f11 ga f_19 f_40 gd ge f_14 f18 f19 f20 f21 fL fN fP fM fO) H := hP
            have hD : va_D A (mW ad kc x0 x1 x2 x3 x4 x5 x6 x7 x8 x9 x10 x11 x12 x13 x14 x15 x16 x17 x18 x19 x20 x21 f0 f1 f2 f3 f4 f5 f6 f7 f8 f9 f10 f11 ga f_19 f_40 gd ge f_14 f18 f19 f20 f21 fL fN fP fM fO) := hD
            refine lv_aload_n hx hb dX10_walksBranch_130 rfl (lv_at hl 1 rfl) ?_
            refine va_get (D := (dC, dI)) (ci := 10) (v := .ref (ad 13)) (C := RX10) (T := TX10) (N := 48) hx hb hts fin_X10_walksBranchm_X10 hown hK hP 0 rfl rfl 35 (by decide) (hts (.fieldLink RX10 71 "PatternGateModel" "nullable" "[I") (List.mem_of_getElem? (i := 1) (by decide +kernel))) (fun _ h9 => h9) rfl dX10_walksBranch_131 ?_
            refine lv_iload_n hx hb dX10_walksBranch_134 rfl (lv_at hl 2 rfl) ?_
            refine lv_dup2_11 hx hb dX10_walksBranch_135 rfl rfl ?_
            refine va_iald hx hb hK hP 13 12 rfl rfl (i := i1) (vp_of (a := i1.toInt) rfl (by omega) (by omega)) dX10_walksBranch_136 ?_
            refine lv_topi (fun y_41 ey_41 => ?_)
            have rg_y_41 := i_rng y_41
            refine lv_aload_n hx hb dX10_walksBranch_137 rfl (lv_at hl 1 rfl) ?_
            refine va_get (D := (dC, dI)) (ci := 10) (v := .ref (ad 13)) (C := RX10) (T := TX10) (N := 48) hx hb hts fin_X10_walksBranchm_X10 hown hK hP 0 rfl rfl 35 (by decide) (hts (.fieldLink RX10 71 "PatternGateModel" "nullable" "[I") (List.mem_of_getElem? (i := 1) (by decide +kernel))) (fun _ h9 => h9) rfl dX10_walksBranch_138 ?_
            refine lv_iload_n hx hb dX10_walksBranch_141 rfl (lv_at hl 0 rfl) ?_
            refine va_iald hx hb hK hP 13 12 rfl rfl (i := kk) (vp_of (a := kk.toInt) rfl (by omega) (by omega)) dX10_walksBranch_142 ?_
            refine lv_topi (fun y_42 ey_42 => ?_)
            have rg_y_42 := i_rng y_42
            refine lv_iand hx hb dX10_walksBranch_143 ?_
            refine lv_topi (fun y_43 ey_43 => ?_)
            have rg_y_43 := i_rng y_43
            refine va_iast hx hb hK hP hD hS 13 12 rfl rfl (i := i1) (vp_of (a := i1.toInt) rfl (by omega) (by omega)) dX10_walksBranch_144 (fun H locs hP hD hS => ?_)
            generalize hf_f_44 : upd ga _ _ = f_44 at hP hD
            have hP : va_P (dC, dI) vwCl (mW ad kc x0 x1 x2 x3 x4 x5 x6 x7 x8 x9 x10 x11 x12 x13 x14 x15 x16 x17 x18 x19 x20 x21 f0 f1 f2 f3 f4 f5 f6 f7 f8 f9 f10 f11 f_44 f_19 f_40 gd ge f_14 f18 f19 f20 f21 fL fN fP fM fO) H := hP
            have hD : va_D A (mW ad kc x0 x1 x2 x3 x4 x5 x6 x7 x8 x9 x10 x11 x12 x13 x14 x15 x16 x17 x18 x19 x20 x21 f0 f1 f2 f3 f4 f5 f6 f7 f8 f9 f10 f11 f_44 f_19 f_40 gd ge f_14 f18 f19 f20 f21 fL fN fP fM fO) := hD
            refine lv_aload_n hx hb dX10_walksBranch_145 rfl (lv_at hl 1 rfl) ?_
            refine va_get (D := (dC, dI)) (ci := 10) (v := .ref (ad 16)) (C := RX10) (T := TX10) (N := 48) hx hb hts fin_X10_walksBranchm_X10 hown hK hP 0 rfl rfl 38 (by decide) (hts (.fieldLink RX10 80 "PatternGateModel" "fewest" "[I") (List.mem_of_getElem? (i := 4) (by decide +kernel))) (fun _ h9 => h9) rfl dX10_walksBranch_146 ?_
            refine lv_iload_n hx hb dX10_walksBranch_149 rfl (lv_at hl 2 rfl) ?_
            refine lv_dup2_11 hx hb dX10_walksBranch_150 rfl rfl ?_
            refine va_iald hx hb hK hP 16 15 rfl rfl (i := i1) (vp_of (a := i1.toInt) rfl (by omega) (by omega)) dX10_walksBranch_151 ?_
            refine lv_topi (fun y_45 ey_45 => ?_)
            have rg_y_45 := i_rng y_45
            refine lv_aload_n hx hb dX10_walksBranch_152 rfl (lv_at hl 1 rfl) ?_
            refine va_get (D := (dC, dI)) (ci := 10) (v := .ref (ad 16)) (C := RX10) (T := TX10) (N := 48) hx hb hts fin_X10_walksBranchm_X10 hown hK hP 0 rfl rfl 38 (by decide) (hts (.fieldLink RX10 80 "PatternGateModel" "fewest" "[I") (List.mem_of_getElem? (i := 4) (by decide +kernel))) (fun _ h9 => h9) rfl dX10_walksBranch_153 ?_
            refine lv_iload_n hx hb dX10_walksBranch_156 rfl (lv_at hl 0 rfl) ?_
            refine va_iald hx hb hK hP 16 15 rfl rfl (i := kk) (vp_of (a := kk.toInt) rfl (by omega) (by omega)) dX10_walksBranch_157 ?_
            refine lv_topi (fun y_46 ey_46 => ?_)
            have rg_y_46 := i_rng y_46
            refine lv_iadd hx hb dX10_walksBranch_158 ?_
            refine lv_topi (fun y_47 ey_47 => ?_)
            first | have ty_47 := i_add (a := y_45.toInt) (b := y_46.toInt) rfl rfl ey_47 (by omega) (by omega) | skip
            refine va_iast hx hb hK hP hD hS 16 15 rfl rfl (i := i1) (vp_of (a := i1.toInt) rfl (by omega) (by omega)) dX10_walksBranch_159 (fun H locs hP hD hS => ?_)
            generalize hf_f_48 : upd gd _ _ = f_48 at hP hD
            have hP : va_P (dC, dI) vwCl (mW ad kc x0 x1 x2 x3 x4 x5 x6 x7 x8 x9 x10 x11 x12 x13 x14 x15 x16 x17 x18 x19 x20 x21 f0 f1 f2 f3 f4 f5 f6 f7 f8 f9 f10 f11 f_44 f_19 f_40 f_48 ge f_14 f18 f19 f20 f21 fL fN fP fM fO) H := hP
            have hD : va_D A (mW ad kc x0 x1 x2 x3 x4 x5 x6 x7 x8 x9 x10 x11 x12 x13 x14 x15 x16 x17 x18 x19 x20 x21 f0 f1 f2 f3 f4 f5 f6 f7 f8 f9 f10 f11 f_44 f_19 f_40 f_48 ge f_14 f18 f19 f20 f21 fL fN fP fM fO) := hD
            refine lv_aload_n hx hb dX10_walksBranch_160 rfl (lv_at hl 1 rfl) ?_
            refine va_get (D := (dC, dI)) (ci := 10) (v := .ref (ad 17)) (C := RX10) (T := TX10) (N := 48) hx hb hts fin_X10_walksBranchm_X10 hown hK hP 0 rfl rfl 39 (by decide) (hts (.fieldLink RX10 83 "PatternGateModel" "deep" "[I") (List.mem_of_getElem? (i := 5) (by decide +kernel))) (fun _ h9 => h9) rfl dX10_walksBranch_161 ?_
            refine lv_iload_n hx hb dX10_walksBranch_164 rfl (lv_at hl 2 rfl) ?_
            refine lv_aload_n hx hb dX10_walksBranch_165 rfl (lv_at hl 1 rfl) ?_
            refine va_get (D := (dC, dI)) (ci := 10) (v := .ref (ad 17)) (C := RX10) (T := TX10) (N := 48) hx hb hts fin_X10_walksBranchm_X10 hown hK hP 0 rfl rfl 39 (by decide) (hts (.fieldLink RX10 83 "PatternGateModel" "deep" "[I") (List.mem_of_getElem? (i := 5) (by decide +kernel))) (fun _ h9 => h9) rfl dX10_walksBranch_166 ?_
            refine lv_iload_n hx hb dX10_walksBranch_169 rfl (lv_at hl 2 rfl) ?_
            refine va_iald hx hb hK hP 17 16 rfl rfl (i := i1) (vp_of (a := i1.toInt) rfl (by omega) (by omega)) dX10_walksBranch_170 ?_
            refine lv_topi (fun y_49 ey_49 => ?_)
            have rg_y_49 := i_rng y_49
            refine lv_aload_n hx hb dX10_walksBranch_171 rfl (lv_at hl 1 rfl) ?_
            refine va_get (D := (dC, dI)) (ci := 10) (v := .ref (ad 17)) (C := RX10) (T := TX10) (N := 48) hx hb hts fin_X10_walksBranchm_X10 hown hK hP 0 rfl rfl 39 (by decide) (hts (.fieldLink RX10 83 "PatternGateModel" "deep" "[I") (List.mem_of_getElem? (i := 5) (by decide +kernel))) (fun _ h9 => h9) rfl dX10_walksBranch_172 ?_
            refine lv_iload_n hx hb dX10_walksBranch_175 rfl (lv_at hl 0 rfl) ?_
            refine va_iald hx hb hK hP 17 16 rfl rfl (i := kk) (vp_of (a := kk.toInt) rfl (by omega) (by omega)) dX10_walksBranch_176 ?_
            refine lv_topi (fun y_50 ey_50 => ?_)
            have rg_y_50 := i_rng y_50
            refine va_mmax hx hb (hml.trans hl.1.symm) hown (hts (.methodLink RX10 268 Lib.Math.max.name) (List.mem_of_getElem? (i := 16) (by decide +kernel))) (hts (.static Lib.Math.max.name) (List.mem_of_getElem? (i := 17) (by decide +kernel))) (hts (.initialized "java/lang/Math") (List.mem_of_getElem? (i := 18) (by decide +kernel))) (hts (.code Lib.Math.max.name Lib.Math.max.code 2 (some .int)) (List.mem_of_getElem? (i := 19) (by decide +kernel))) (Nat.le_of_ble_eq_true rfl) (Nat.le_of_ble_eq_true rfl) (Nat.le_of_ble_eq_true rfl) (Nat.le_of_ble_eq_true rfl) dX10_walksBranch_177 ?_
            refine lv_topi (fun y_51 ey_51 => ?_)
            have ty_51 := i_max (a := y_49.toInt) (b := y_50.toInt) rfl rfl ey_51
            refine va_iast hx hb hK hP hD hS 17 16 rfl rfl (i := i1) (vp_of (a := i1.toInt) rfl (by omega) (by omega)) dX10_walksBranch_180 (fun H locs hP hD hS => ?_)
            generalize hf_f_52 : upd ge _ _ = f_52 at hP hD
            have hP : va_P (dC, dI) vwCl (mW ad kc x0 x1 x2 x3 x4 x5 x6 x7 x8 x9 x10 x11 x12 x13 x14 x15 x16 x17 x18 x19 x20 x21 f0 f1 f2 f3 f4 f5 f6 f7 f8 f9 f10 f11 f_44 f_19 f_40 f_48 f_52 f_14 f18 f19 f20 f21 fL fN fP fM fO) H := hP
            have hD : va_D A (mW ad kc x0 x1 x2 x3 x4 x5 x6 x7 x8 x9 x10 x11 x12 x13 x14 x15 x16 x17 x18 x19 x20 x21 f0 f1 f2 f3 f4 f5 f6 f7 f8 f9 f10 f11 f_44 f_19 f_40 f_48 f_52 f_14 f18 f19 f20 f21 fL fN fP fM fO) := hD
            refine lv_aload_n hx hb dX10_walksBranch_181 rfl (lv_at hl 1 rfl) ?_
            refine va_get (D := (dC, dI)) (ci := 10) (v := .ref (ad 6)) (C := RX10) (T := TX10) (N := 48) hx hb hts fin_X10_walksBranchm_X10 hown hK hP 0 rfl rfl 17 (by decide) (hts (.fieldLink RX10 34 "PatternGateModel" "next" "[I") (List.mem_of_getElem? (i := 20) (by decide +kernel))) (fun _ h9 => h9) rfl dX10_walksBranch_182 ?_
            refine lv_iload_n hx hb dX10_walksBranch_185 rfl (lv_at hl 0 rfl) ?_
            refine va_iald hx hb hK hP 6 5 rfl rfl (i := kk) (vp_of (a := kk.toInt) rfl (by omega) (by omega)) dX10_walksBranch_186 ?_
            refine lv_topi (fun y_53 ey_53 => ?_)
            have rg_y_53 := i_rng y_53
            have vy_53 := vI_lda (f := f5) (i := kk) (a := kk.toInt) ey_53 (by first | omega | decide)
            have rg_y_53 := i_rng y_53
            have hNy : y_53.toInt = mV f3 f4 f5 f7 2 kk.toInt := vy_53
            refine lv_istore_n (lv' := [(2, .int y_53), (0, .ref (ad 0)), (1, .int i1)]) hx hb dX10_walksBranch_187 rfl hl (by decide) rfl (fun ls hl => ?_)
            refine lv_goto (tgt := 42) hx hb dX10_walksBranch_188 (by decide) ?_
            exact ih42 y_53 f_44 f_19 f_40 f_48 f_52 f_14 (by rw [show y_53.toInt = mV f3 f4 f5 f7 2 kk.toInt from vy_53]; exact hC3) (by omega) _ _ ls hP hD hS (lv_sub hl [0, 1, 2] rfl)
        · have tk_17 := c_eq (a := y_16.toInt) (b := 1) rfl (by decide) k_17
          refine lv_aload_n hx hb dX10_walksBranch_80 rfl (lv_at hl 1 rfl) ?_
          refine va_get (D := (dC, dI)) (ci := 10) (v := .ref (ad 14)) (C := RX10) (T := TX10) (N := 48) hx hb hts fin_X10_walksBranchm_X10 hown hK hP 0 rfl rfl 36 (by decide) (hts (.fieldLink RX10 74 "PatternGateModel" "heads" "[I") (List.mem_of_getElem? (i := 2) (by decide +kernel))) (fun _ h9 => h9) rfl dX10_walksBranch_81 ?_
          refine lv_iload_n hx hb dX10_walksBranch_84 rfl (lv_at hl 0 rfl) ?_
          refine va_iald hx hb hK hP 14 13 rfl rfl (i := kk) (vp_of (a := kk.toInt) rfl (by omega) (by omega)) dX10_walksBranch_85 ?_
          refine lv_topi (fun y_54 ey_54 => ?_)
          have rg_y_54 := i_rng y_54
          refine lv_goto (tgt := 90) hx hb dX10_walksBranch_86 (by decide) ?_
          refine lv_ior hx hb dX10_walksBranch_90 ?_
          refine lv_topi (fun y_55 ey_55 => ?_)
          have rg_y_55 := i_rng y_55
          refine va_iast hx hb hK hP hD hS 14 13 rfl rfl (i := i1) (vp_of (a := i1.toInt) rfl (by omega) (by omega)) dX10_walksBranch_91 (fun H locs hP hD hS => ?_)
          generalize hf_f_56 : upd gb _ _ = f_56 at hP hD
          have hP : va_P (dC, dI) vwCl (mW ad kc x0 x1 x2 x3 x4 x5 x6 x7 x8 x9 x10 x11 x12 x13 x14 x15 x16 x17 x18 x19 x20 x21 f0 f1 f2 f3 f4 f5 f6 f7 f8 f9 f10 f11 ga f_56 gc gd ge f_14 f18 f19 f20 f21 fL fN fP fM fO) H := hP
          have hD : va_D A (mW ad kc x0 x1 x2 x3 x4 x5 x6 x7 x8 x9 x10 x11 x12 x13 x14 x15 x16 x17 x18 x19 x20 x21 f0 f1 f2 f3 f4 f5 f6 f7 f8 f9 f10 f11 ga f_56 gc gd ge f_14 f18 f19 f20 f21 fL fN fP fM fO) := hD
          refine lv_aload_n hx hb dX10_walksBranch_92 rfl (lv_at hl 1 rfl) ?_
          refine va_get (D := (dC, dI)) (ci := 10) (v := .ref (ad 15)) (C := RX10) (T := TX10) (N := 48) hx hb hts fin_X10_walksBranchm_X10 hown hK hP 0 rfl rfl 37 (by decide) (hts (.fieldLink RX10 77 "PatternGateModel" "tails" "[I") (List.mem_of_getElem? (i := 3) (by decide +kernel))) (fun _ h9 => h9) rfl dX10_walksBranch_93 ?_
          refine lv_iload_n hx hb dX10_walksBranch_96 rfl (lv_at hl 2 rfl) ?_
          refine lv_aload_n hx hb dX10_walksBranch_97 rfl (lv_at hl 1 rfl) ?_
          refine va_get (D := (dC, dI)) (ci := 10) (v := .ref (ad 13)) (C := RX10) (T := TX10) (N := 48) hx hb hts fin_X10_walksBranchm_X10 hown hK hP 0 rfl rfl 35 (by decide) (hts (.fieldLink RX10 71 "PatternGateModel" "nullable" "[I") (List.mem_of_getElem? (i := 1) (by decide +kernel))) (fun _ h9 => h9) rfl dX10_walksBranch_98 ?_
          refine lv_iload_n hx hb dX10_walksBranch_101 rfl (lv_at hl 0 rfl) ?_
          refine va_iald hx hb hK hP 13 12 rfl rfl (i := kk) (vp_of (a := kk.toInt) rfl (by omega) (by omega)) dX10_walksBranch_102 ?_
          refine lv_topi (fun y_57 ey_57 => ?_)
          have rg_y_57 := i_rng y_57
          refine lv_iconst (v := 1) hx hb dX10_walksBranch_103 (by decide) ?_
          refine lv_icmp_ne (tgt := 123) hx hb dX10_walksBranch_104 (by decide) (fun k_58 => ?_) (fun k_58 => ?_)
          · have tk_58 := c_ne (a := y_57.toInt) (b := 1) rfl (by decide) k_58
            refine lv_aload_n hx hb dX10_walksBranch_123 rfl (lv_at hl 1 rfl) ?_
            refine va_get (D := (dC, dI)) (ci := 10) (v := .ref (ad 15)) (C := RX10) (T := TX10) (N := 48) hx hb hts fin_X10_walksBranchm_X10 hown hK hP 0 rfl rfl 37 (by decide) (hts (.fieldLink RX10 77 "PatternGateModel" "tails" "[I") (List.mem_of_getElem? (i := 3) (by decide +kernel))) (fun _ h9 => h9) rfl dX10_walksBranch_124 ?_
            refine lv_iload_n hx hb dX10_walksBranch_127 rfl (lv_at hl 0 rfl) ?_
            refine va_iald hx hb hK hP 15 14 rfl rfl (i := kk) (vp_of (a := kk.toInt) rfl (by omega) (by omega)) dX10_walksBranch_128 ?_
            refine lv_topi (fun y_59 ey_59 => ?_)
            have rg_y_59 := i_rng y_59
            refine va_iast hx hb hK hP hD hS 15 14 rfl rfl (i := i1) (vp_of (a := i1.toInt) rfl (by omega) (by omega)) dX10_walksBranch_129 (fun H locs hP hD hS => ?_)
            generalize hf_f_60 : upd gc _ _ = f_60 at hP hD
            have hP : va_P (dC, dI) vwCl (mW ad kc x0 x1 x2 x3 x4 x5 x6 x7 x8 x9 x10 x11 x12 x13 x14 x15 x16 x17 x18 x19 x20 x21 f0 f1 f2 f3 f4 f5 f6 f7 f8 f9 f10 f11 ga f_56 f_60 gd ge f_14 f18 f19 f20 f21 fL fN fP fM fO) H := hP
            have hD : va_D A (mW ad kc x0 x1 x2 x3 x4 x5 x6 x7 x8 x9 x10 x11 x12 x13 x14 x15 x16 x17 x18 x19 x20 x21 f0 f1 f2 f3 f4 f5 f6 f7 f8 f9 f10 f11 ga f_56 f_60 gd ge f_14 f18 f19 f20 f21 fL fN fP fM fO) := hD
            refine lv_aload_n hx hb dX10_walksBranch_130 rfl (lv_at hl 1 rfl) ?_
            refine va_get (D := (dC, dI)) (ci := 10) (v := .ref (ad 13)) (C := RX10) (T := TX10) (N := 48) hx hb hts fin_X10_walksBranchm_X10 hown hK hP 0 rfl rfl 35 (by decide) (hts (.fieldLink RX10 71 "PatternGateModel" "nullable" "[I") (List.mem_of_getElem? (i := 1) (by decide +kernel))) (fun _ h9 => h9) rfl dX10_walksBranch_131 ?_
            refine lv_iload_n hx hb dX10_walksBranch_134 rfl (lv_at hl 2 rfl) ?_
            refine lv_dup2_11 hx hb dX10_walksBranch_135 rfl rfl ?_
            refine va_iald hx hb hK hP 13 12 rfl rfl (i := i1) (vp_of (a := i1.toInt) rfl (by omega) (by omega)) dX10_walksBranch_136 ?_
            refine lv_topi (fun y_61 ey_61 => ?_)
            have rg_y_61 := i_rng y_61
            refine lv_aload_n hx hb dX10_walksBranch_137 rfl (lv_at hl 1 rfl) ?_
            refine va_get (D := (dC, dI)) (ci := 10) (v := .ref (ad 13)) (C := RX10) (T := TX10) (N := 48) hx hb hts fin_X10_walksBranchm_X10 hown hK hP 0 rfl rfl 35 (by decide) (hts (.fieldLink RX10 71 "PatternGateModel" "nullable" "[I") (List.mem_of_getElem? (i := 1) (by decide +kernel))) (fun _ h9 => h9) rfl dX10_walksBranch_138 ?_
            refine lv_iload_n hx hb dX10_walksBranch_141 rfl (lv_at hl 0 rfl) ?_
            refine va_iald hx hb hK hP 13 12 rfl rfl (i := kk) (vp_of (a := kk.toInt) rfl (by omega) (by omega)) dX10_walksBranch_142 ?_
            refine lv_topi (fun y_62 ey_62 => ?_)
            have rg_y_62 := i_rng y_62
            refine lv_iand hx hb dX10_walksBranch_143 ?_
            refine lv_topi (fun y_63 ey_63 => ?_)
            have rg_y_63 := i_rng y_63
            refine va_iast hx hb hK hP hD hS 13 12 rfl rfl (i := i1) (vp_of (a := i1.toInt) rfl (by omega) (by omega)) dX10_walksBranch_144 (fun H locs hP hD hS => ?_)
            generalize hf_f_64 : upd ga _ _ = f_64 at hP hD
            have hP : va_P (dC, dI) vwCl (mW ad kc x0 x1 x2 x3 x4 x5 x6 x7 x8 x9 x10 x11 x12 x13 x14 x15 x16 x17 x18 x19 x20 x21 f0 f1 f2 f3 f4 f5 f6 f7 f8 f9 f10 f11 f_64 f_56 f_60 gd ge f_14 f18 f19 f20 f21 fL fN fP fM fO) H := hP
            have hD : va_D A (mW ad kc x0 x1 x2 x3 x4 x5 x6 x7 x8 x9 x10 x11 x12 x13 x14 x15 x16 x17 x18 x19 x20 x21 f0 f1 f2 f3 f4 f5 f6 f7 f8 f9 f10 f11 f_64 f_56 f_60 gd ge f_14 f18 f19 f20 f21 fL fN fP fM fO) := hD
            refine lv_aload_n hx hb dX10_walksBranch_145 rfl (lv_at hl 1 rfl) ?_
            refine va_get (D := (dC, dI)) (ci := 10) (v := .ref (ad 16)) (C := RX10) (T := TX10) (N := 48) hx hb hts fin_X10_walksBranchm_X10 hown hK hP 0 rfl rfl 38 (by decide) (hts (.fieldLink RX10 80 "PatternGateModel" "fewest" "[I") (List.mem_of_getElem? (i := 4) (by decide +kernel))) (fun _ h9 => h9) rfl dX10_walksBranch_146 ?_
            refine lv_iload_n hx hb dX10_walksBranch_149 rfl (lv_at hl 2 rfl) ?_
            refine lv_dup2_11 hx hb dX10_walksBranch_150 rfl rfl ?_
            refine va_iald hx hb hK hP 16 15 rfl rfl (i := i1) (vp_of (a := i1.toInt) rfl (by omega) (by omega)) dX10_walksBranch_151 ?_
            refine lv_topi (fun y_65 ey_65 => ?_)
            have rg_y_65 := i_rng y_65
            refine lv_aload_n hx hb dX10_walksBranch_152 rfl (lv_at hl 1 rfl) ?_
            refine va_get (D := (dC, dI)) (ci := 10) (v := .ref (ad 16)) (C := RX10) (T := TX10) (N := 48) hx hb hts fin_X10_walksBranchm_X10 hown hK hP 0 rfl rfl 38 (by decide) (hts (.fieldLink RX10 80 "PatternGateModel" "fewest" "[I") (List.mem_of_getElem? (i := 4) (by decide +kernel))) (fun _ h9 => h9) rfl dX10_walksBranch_153 ?_
            refine lv_iload_n hx hb dX10_walksBranch_156 rfl (lv_at hl 0 rfl) ?_
            refine va_iald hx hb hK hP 16 15 rfl rfl (i := kk) (vp_of (a := kk.toInt) rfl (by omega) (by omega)) dX10_walksBranch_157 ?_
            refine lv_topi (fun y_66 ey_66 => ?_)
            have rg_y_66 := i_rng y_66
            refine lv_iadd hx hb dX10_walksBranch_158 ?_
            refine lv_topi (fun y_67 ey_67 => ?_)
            first | have ty_67 := i_add (a := y_65.toInt) (b := y_66.toInt) rfl rfl ey_67 (by omega) (by omega) | skip
            refine va_iast hx hb hK hP hD hS 16 15 rfl rfl (i := i1) (vp_of (a := i1.toInt) rfl (by omega) (by omega)) dX10_walksBranch_159 (fun H locs hP hD hS => ?_)
            generalize hf_f_68 : upd gd _ _ = f_68 at hP hD
            have hP : va_P (dC, dI) vwCl (mW ad kc x0 x1 x2 x3 x4 x5 x6 x7 x8 x9 x10 x11 x12 x13 x14 x15 x16 x17 x18 x19 x20 x21 f0 f1 f2 f3 f4 f5 f6 f7 f8 f9 f10 f11 f_64 f_56 f_60 f_68 ge f_14 f18 f19 f20 f21 fL fN fP fM fO) H := hP
            have hD : va_D A (mW ad kc x0 x1 x2 x3 x4 x5 x6 x7 x8 x9 x10 x11 x12 x13 x14 x15 x16 x17 x18 x19 x20 x21 f0 f1 f2 f3 f4 f5 f6 f7 f8 f9 f10 f11 f_64 f_56 f_60 f_68 ge f_14 f18 f19 f20 f21 fL fN fP fM fO) := hD
            refine lv_aload_n hx hb dX10_walksBranch_160 rfl (lv_at hl 1 rfl) ?_
            refine va_get (D := (dC, dI)) (ci := 10) (v := .ref (ad 17)) (C := RX10) (T := TX10) (N := 48) hx hb hts fin_X10_walksBranchm_X10 hown hK hP 0 rfl rfl 39 (by decide) (hts (.fieldLink RX10 83 "PatternGateModel" "deep" "[I") (List.mem_of_getElem? (i := 5) (by decide +kernel))) (fun _ h9 => h9) rfl dX10_walksBranch_161 ?_
            refine lv_iload_n hx hb dX10_walksBranch_164 rfl (lv_at hl 2 rfl) ?_
            refine lv_aload_n hx hb dX10_walksBranch_165 rfl (lv_at hl 1 rfl) ?_
            refine va_get (D := (dC, dI)) (ci := 10) (v := .ref (ad 17)) (C := RX10) (T := TX10) (N := 48) hx hb hts fin_X10_walksBranchm_X10 hown hK hP 0 rfl rfl 39 (by decide) (hts (.fieldLink RX10 83 "PatternGateModel" "deep" "[I") (List.mem_of_getElem? (i := 5) (by decide +kernel))) (fun _ h9 => h9) rfl dX10_walksBranch_166 ?_
            refine lv_iload_n hx hb dX10_walksBranch_169 rfl (lv_at hl 2 rfl) ?_
            refine va_iald hx hb hK hP 17 16 rfl rfl (i := i1) (vp_of (a := i1.toInt) rfl (by omega) (by omega)) dX10_walksBranch_170 ?_
            refine lv_topi (fun y_69 ey_69 => ?_)
            have rg_y_69 := i_rng y_69
            refine lv_aload_n hx hb dX10_walksBranch_171 rfl (lv_at hl 1 rfl) ?_
            refine va_get (D := (dC, dI)) (ci := 10) (v := .ref (ad 17)) (C := RX10) (T := TX10) (N := 48) hx hb hts fin_X10_walksBranchm_X10 hown hK hP 0 rfl rfl 39 (by decide) (hts (.fieldLink RX10 83 "PatternGateModel" "deep" "[I") (List.mem_of_getElem? (i := 5) (by decide +kernel))) (fun _ h9 => h9) rfl dX10_walksBranch_172 ?_
            refine lv_iload_n hx hb dX10_walksBranch_175 rfl (lv_at hl 0 rfl) ?_
            refine va_iald hx hb hK hP 17 16 rfl rfl (i := kk) (vp_of (a := kk.toInt) rfl (by omega) (by omega)) dX10_walksBranch_176 ?_
            refine lv_topi (fun y_70 ey_70 => ?_)
            have rg_y_70 := i_rng y_70
            refine va_mmax hx hb (hml.trans hl.1.symm) hown (hts (.methodLink RX10 268 Lib.Math.max.name) (List.mem_of_getElem? (i := 16) (by decide +kernel))) (hts (.static Lib.Math.max.name) (List.mem_of_getElem? (i := 17) (by decide +kernel))) (hts (.initialized "java/lang/Math") (List.mem_of_getElem? (i := 18) (by decide +kernel))) (hts (.code Lib.Math.max.name Lib.Math.max.code 2 (some .int)) (List.mem_of_getElem? (i := 19) (by decide +kernel))) (Nat.le_of_ble_eq_true rfl) (Nat.le_of_ble_eq_true rfl) (Nat.le_of_ble_eq_true rfl) (Nat.le_of_ble_eq_true rfl) dX10_walksBranch_177 ?_
            refine lv_topi (fun y_71 ey_71 => ?_)
            have ty_71 := i_max (a := y_69.toInt) (b := y_70.toInt) rfl rfl ey_71
            refine va_iast hx hb hK hP hD hS 17 16 rfl rfl (i := i1) (vp_of (a := i1.toInt) rfl (by omega) (by omega)) dX10_walksBranch_180 (fun H locs hP hD hS => ?_)
            generalize hf_f_72 : upd ge _ _ = f_72 at hP hD
            have hP : va_P (dC, dI) vwCl (mW ad kc x0 x1 x2 x3 x4 x5 x6 x7 x8 x9 x10 x11 x12 x13 x14 x15 x16 x17 x18 x19 x20 x21 f0 f1 f2 f3 f4 f5 f6 f7 f8 f9 f10 f11 f_64 f_56 f_60 f_68 f_72 f_14 f18 f19 f20 f21 fL fN fP fM fO) H := hP
            have hD : va_D A (mW ad kc x0 x1 x2 x3 x4 x5 x6 x7 x8 x9 x10 x11 x12 x13 x14 x15 x16 x17 x18 x19 x20 x21 f0 f1 f2 f3 f4 f5 f6 f7 f8 f9 f10 f11 f_64 f_56 f_60 f_68 f_72 f_14 f18 f19 f20 f21 fL fN fP fM fO) := hD
            refine lv_aload_n hx hb dX10_walksBranch_181 rfl (lv_at hl 1 rfl) ?_
            refine va_get (D := (dC, dI)) (ci := 10) (v := .ref (ad 6)) (C := RX10) (T := TX10) (N := 48) hx hb hts fin_X10_walksBranchm_X10 hown hK hP 0 rfl rfl 17 (by decide) (hts (.fieldLink RX10 34 "PatternGateModel" "next" "[I") (List.mem_of_getElem? (i := 20) (by decide +kernel))) (fun _ h9 => h9) rfl dX10_walksBranch_182 ?_
            refine lv_iload_n hx hb dX10_walksBranch_185 rfl (lv_at hl 0 rfl) ?_
            refine va_iald hx hb hK hP 6 5 rfl rfl (i := kk) (vp_of (a := kk.toInt) rfl (by omega) (by omega)) dX10_walksBranch_186 ?_
            refine lv_topi (fun y_73 ey_73 => ?_)
            have rg_y_73 := i_rng y_73
            have vy_73 := vI_lda (f := f5) (i := kk) (a := kk.toInt) ey_73 (by first | omega | decide)
            have rg_y_73 := i_rng y_73
            have hNy : y_73.toInt = mV f3 f4 f5 f7 2 kk.toInt := vy_73
            refine lv_istore_n (lv' := [(2, .int y_73), (0, .ref (ad 0)), (1, .int i1)]) hx hb dX10_walksBranch_187 rfl hl (by decide) rfl (fun ls hl => ?_)
            refine lv_goto (tgt := 42) hx hb dX10_walksBranch_188 (by decide) ?_
            exact ih42 y_73 f_64 f_56 f_60 f_68 f_72 f_14 (by rw [show y_73.toInt = mV f3 f4 f5 f7 2 kk.toInt from vy_73]; exact hC3) (by omega) _ _ ls hP hD hS (lv_sub hl [0, 1, 2] rfl)
          · have tk_58 := c_eq (a := y_57.toInt) (b := 1) rfl (by decide) k_58
            refine lv_aload_n hx hb dX10_walksBranch_107 rfl (lv_at hl 1 rfl) ?_
            refine va_get (D := (dC, dI)) (ci := 10) (v := .ref (ad 15)) (C := RX10) (T := TX10) (N := 48) hx hb hts fin_X10_walksBranchm_X10 hown hK hP 0 rfl rfl 37 (by decide) (hts (.fieldLink RX10 77 "PatternGateModel" "tails" "[I") (List.mem_of_getElem? (i := 3) (by decide +kernel))) (fun _ h9 => h9) rfl dX10_walksBranch_108 ?_
            refine lv_iload_n hx hb dX10_walksBranch_111 rfl (lv_at hl 2 rfl) ?_
            refine va_iald hx hb hK hP 15 14 rfl rfl (i := i1) (vp_of (a := i1.toInt) rfl (by omega) (by omega)) dX10_walksBranch_112 ?_
            refine lv_topi (fun y_74 ey_74 => ?_)
            have rg_y_74 := i_rng y_74
            refine lv_aload_n hx hb dX10_walksBranch_113 rfl (lv_at hl 1 rfl) ?_
            refine va_get (D := (dC, dI)) (ci := 10) (v := .ref (ad 15)) (C := RX10) (T := TX10) (N := 48) hx hb hts fin_X10_walksBranchm_X10 hown hK hP 0 rfl rfl 37 (by decide) (hts (.fieldLink RX10 77 "PatternGateModel" "tails" "[I") (List.mem_of_getElem? (i := 3) (by decide +kernel))) (fun _ h9 => h9) rfl dX10_walksBranch_114 ?_
            refine lv_iload_n hx hb dX10_walksBranch_117 rfl (lv_at hl 0 rfl) ?_
            refine va_iald hx hb hK hP 15 14 rfl rfl (i := kk) (vp_of (a := kk.toInt) rfl (by omega) (by omega)) dX10_walksBranch_118 ?_
            refine lv_topi (fun y_75 ey_75 => ?_)
            have rg_y_75 := i_rng y_75
            refine lv_ior hx hb dX10_walksBranch_119 ?_
            refine lv_topi (fun y_76 ey_76 => ?_)
            have rg_y_76 := i_rng y_76
            refine lv_goto (tgt := 129) hx hb dX10_walksBranch_120 (by decide) ?_
            refine va_iast hx hb hK hP hD hS 15 14 rfl rfl (i := i1) (vp_of (a := i1.toInt) rfl (by omega) (by omega)) dX10_walksBranch_129 (fun H locs hP hD hS => ?_)
            generalize hf_f_77 : upd gc _ _ = f_77 at hP hD
            have hP : va_P (dC, dI) vwCl (mW ad kc x0 x1 x2 x3 x4 x5 x6 x7 x8 x9 x10 x11 x12 x13 x14 x15 x16 x17 x18 x19 x20 x21 f0 f1 f2 f3 f4 f5 f6 f7 f8 f9 f10 f11 ga f_56 f_77 gd ge f_14 f18 f19 f20 f21 fL fN fP fM fO) H := hP
            have hD : va_D A (mW ad kc x0 x1 x2 x3 x4 x5 x6 x7 x8 x9 x10 x11 x12 x13 x14 x15 x16 x17 x18 x19 x20 x21 f0 f1 f2 f3 f4 f5 f6 f7 f8 f9 f10 f11 ga f_56 f_77 gd ge f_14 f18 f19 f20 f21 fL fN fP fM fO) := hD
            refine lv_aload_n hx hb dX10_walksBranch_130 rfl (lv_at hl 1 rfl) ?_
            refine va_get (D := (dC, dI)) (ci := 10) (v := .ref (ad 13)) (C := RX10) (T := TX10) (N := 48) hx hb hts fin_X10_walksBranchm_X10 hown hK hP 0 rfl rfl 35 (by decide) (hts (.fieldLink RX10 71 "PatternGateModel" "nullable" "[I") (List.mem_of_getElem? (i := 1) (by decide +kernel))) (fun _ h9 => h9) rfl dX10_walksBranch_131 ?_
            refine lv_iload_n hx hb dX10_walksBranch_134 rfl (lv_at hl 2 rfl) ?_
            refine lv_dup2_11 hx hb dX10_walksBranch_135 rfl rfl ?_
            refine va_iald hx hb hK hP 13 12 rfl rfl (i := i1) (vp_of (a := i1.toInt) rfl (by omega) (by omega)) dX10_walksBranch_136 ?_
            refine lv_topi (fun y_78 ey_78 => ?_)
            have rg_y_78 := i_rng y_78
            refine lv_aload_n hx hb dX10_walksBranch_137 rfl (lv_at hl 1 rfl) ?_
            refine va_get (D := (dC, dI)) (ci := 10) (v := .ref (ad 13)) (C := RX10) (T := TX10) (N := 48) hx hb hts fin_X10_walksBranchm_X10 hown hK hP 0 rfl rfl 35 (by decide) (hts (.fieldLink RX10 71 "PatternGateModel" "nullable" "[I") (List.mem_of_getElem? (i := 1) (by decide +kernel))) (fun _ h9 => h9) rfl dX10_walksBranch_138 ?_
            refine lv_iload_n hx hb dX10_walksBranch_141 rfl (lv_at hl 0 rfl) ?_
            refine va_iald hx hb hK hP 13 12 rfl rfl (i := kk) (vp_of (a := kk.toInt) rfl (by omega) (by omega)) dX10_walksBranch_142 ?_
            refine lv_topi (fun y_79 ey_79 => ?_)
            have rg_y_79 := i_rng y_79
            refine lv_iand hx hb dX10_walksBranch_143 ?_
            refine lv_topi (fun y_80 ey_80 => ?_)
            have rg_y_80 := i_rng y_80
            refine va_iast hx hb hK hP hD hS 13 12 rfl rfl (i := i1) (vp_of (a := i1.toInt) rfl (by omega) (by omega)) dX10_walksBranch_144 (fun H locs hP hD hS => ?_)
            generalize hf_f_81 : upd ga _ _ = f_81 at hP hD
            have hP : va_P (dC, dI) vwCl (mW ad kc x0 x1 x2 x3 x4 x5 x6 x7 x8 x9 x10 x11 x12 x13 x14 x15 x16 x17 x18 x19 x20 x21 f0 f1 f2 f3 f4 f5 f6 f7 f8 f9 f10 f11 f_81 f_56 f_77 gd ge f_14 f18 f19 f20 f21 fL fN fP fM fO) H := hP
            have hD : va_D A (mW ad kc x0 x1 x2 x3 x4 x5 x6 x7 x8 x9 x10 x11 x12 x13 x14 x15 x16 x17 x18 x19 x20 x21 f0 f1 f2 f3 f4 f5 f6 f7 f8 f9 f10 f11 f_81 f_56 f_77 gd ge f_14 f18 f19 f20 f21 fL fN fP fM fO) := hD
            refine lv_aload_n hx hb dX10_walksBranch_145 rfl (lv_at hl 1 rfl) ?_
            refine va_get (D := (dC, dI)) (ci := 10) (v := .ref (ad 16)) (C := RX10) (T := TX10) (N := 48) hx hb hts fin_X10_walksBranchm_X10 hown hK hP 0 rfl rfl 38 (by decide) (hts (.fieldLink RX10 80 "PatternGateModel" "fewest" "[I") (List.mem_of_getElem? (i := 4) (by decide +kernel))) (fun _ h9 => h9) rfl dX10_walksBranch_146 ?_
            refine lv_iload_n hx hb dX10_walksBranch_149 rfl (lv_at hl 2 rfl) ?_
            refine lv_dup2_11 hx hb dX10_walksBranch_150 rfl rfl ?_
            refine va_iald hx hb hK hP 16 15 rfl rfl (i := i1) (vp_of (a := i1.toInt) rfl (by omega) (by omega)) dX10_walksBranch_151 ?_
            refine lv_topi (fun y_82 ey_82 => ?_)
            have rg_y_82 := i_rng y_82
            refine lv_aload_n hx hb dX10_walksBranch_152 rfl (lv_at hl 1 rfl) ?_
            refine va_get (D := (dC, dI)) (ci := 10) (v := .ref (ad 16)) (C := RX10) (T := TX10) (N := 48) hx hb hts fin_X10_walksBranchm_X10 hown hK hP 0 rfl rfl 38 (by decide) (hts (.fieldLink RX10 80 "PatternGateModel" "fewest" "[I") (List.mem_of_getElem? (i := 4) (by decide +kernel))) (fun _ h9 => h9) rfl dX10_walksBranch_153 ?_
            refine lv_iload_n hx hb dX10_walksBranch_156 rfl (lv_at hl 0 rfl) ?_
            refine va_iald hx hb hK hP 16 15 rfl rfl (i := kk) (vp_of (a := kk.toInt) rfl (by omega) (by omega)) dX10_walksBranch_157 ?_
            refine lv_topi (fun y_83 ey_83 => ?_)
            have rg_y_83 := i_rng y_83
            refine lv_iadd hx hb dX10_walksBranch_158 ?_
            refine lv_topi (fun y_84 ey_84 => ?_)
            first | have ty_84 := i_add (a := y_82.toInt) (b := y_83.toInt) rfl rfl ey_84 (by omega) (by omega) | skip
            refine va_iast hx hb hK hP hD hS 16 15 rfl rfl (i := i1) (vp_of (a := i1.toInt) rfl (by omega) (by omega)) dX10_walksBranch_159 (fun H locs hP hD hS => ?_)
            generalize hf_f_85 : upd gd _ _ = f_85 at hP hD
            have hP : va_P (dC, dI) vwCl (mW ad kc x0 x1 x2 x3 x4 x5 x6 x7 x8 x9 x10 x11 x12 x13 x14 x15 x16 x17 x18 x19 x20 x21 f0 f1 f2 f3 f4 f5 f6 f7 f8 f9 f10 f11 f_81 f_56 f_77 f_85 ge f_14 f18 f19 f20 f21 fL fN fP fM fO) H := hP
            have hD : va_D A (mW ad kc x0 x1 x2 x3 x4 x5 x6 x7 x8 x9 x10 x11 x12 x13 x14 x15 x16 x17 x18 x19 x20 x21 f0 f1 f2 f3 f4 f5 f6 f7 f8 f9 f10 f11 f_81 f_56 f_77 f_85 ge f_14 f18 f19 f20 f21 fL fN fP fM fO) := hD
            refine lv_aload_n hx hb dX10_walksBranch_160 rfl (lv_at hl 1 rfl) ?_
            refine va_get (D := (dC, dI)) (ci := 10) (v := .ref (ad 17)) (C := RX10) (T := TX10) (N := 48) hx hb hts fin_X10_walksBranchm_X10 hown hK hP 0 rfl rfl 39 (by decide) (hts (.fieldLink RX10 83 "PatternGateModel" "deep" "[I") (List.mem_of_getElem? (i := 5) (by decide +kernel))) (fun _ h9 => h9) rfl dX10_walksBranch_161 ?_
            refine lv_iload_n hx hb dX10_walksBranch_164 rfl (lv_at hl 2 rfl) ?_
            refine lv_aload_n hx hb dX10_walksBranch_165 rfl (lv_at hl 1 rfl) ?_
            refine va_get (D := (dC, dI)) (ci := 10) (v := .ref (ad 17)) (C := RX10) (T := TX10) (N := 48) hx hb hts fin_X10_walksBranchm_X10 hown hK hP 0 rfl rfl 39 (by decide) (hts (.fieldLink RX10 83 "PatternGateModel" "deep" "[I") (List.mem_of_getElem? (i := 5) (by decide +kernel))) (fun _ h9 => h9) rfl dX10_walksBranch_166 ?_
            refine lv_iload_n hx hb dX10_walksBranch_169 rfl (lv_at hl 2 rfl) ?_
            refine va_iald hx hb hK hP 17 16 rfl rfl (i := i1) (vp_of (a := i1.toInt) rfl (by omega) (by omega)) dX10_walksBranch_170 ?_
            refine lv_topi (fun y_86 ey_86 => ?_)
            have rg_y_86 := i_rng y_86
            refine lv_aload_n hx hb dX10_walksBranch_171 rfl (lv_at hl 1 rfl) ?_
            refine va_get (D := (dC, dI)) (ci := 10) (v := .ref (ad 17)) (C := RX10) (T := TX10) (N := 48) hx hb hts fin_X10_walksBranchm_X10 hown hK hP 0 rfl rfl 39 (by decide) (hts (.fieldLink RX10 83 "PatternGateModel" "deep" "[I") (List.mem_of_getElem? (i := 5) (by decide +kernel))) (fun _ h9 => h9) rfl dX10_walksBranch_172 ?_
            refine lv_iload_n hx hb dX10_walksBranch_175 rfl (lv_at hl 0 rfl) ?_
            refine va_iald hx hb hK hP 17 16 rfl rfl (i := kk) (vp_of (a := kk.toInt) rfl (by omega) (by omega)) dX10_walksBranch_176 ?_
            refine lv_topi (fun y_87 ey_87 => ?_)
            have rg_y_87 := i_rng y_87
            refine va_mmax hx hb (hml.trans hl.1.symm) hown (hts (.methodLink RX10 268 Lib.Math.max.name) (List.mem_of_getElem? (i := 16) (by decide +kernel))) (hts (.static Lib.Math.max.name) (List.mem_of_getElem? (i := 17) (by decide +kernel))) (hts (.initialized "java/lang/Math") (List.mem_of_getElem? (i := 18) (by decide +kernel))) (hts (.code Lib.Math.max.name Lib.Math.max.code 2 (some .int)) (List.mem_of_getElem? (i := 19) (by decide +kernel))) (Nat.le_of_ble_eq_true rfl) (Nat.le_of_ble_eq_true rfl) (Nat.le_of_ble_eq_true rfl) (Nat.le_of_ble_eq_true rfl) dX10_walksBranch_177 ?_
            refine lv_topi (fun y_88 ey_88 => ?_)
            have ty_88 := i_max (a := y_86.toInt) (b := y_87.toInt) rfl rfl ey_88
            refine va_iast hx hb hK hP hD hS 17 16 rfl rfl (i := i1) (vp_of (a := i1.toInt) rfl (by omega) (by omega)) dX10_walksBranch_180 (fun H locs hP hD hS => ?_)
            generalize hf_f_89 : upd ge _ _ = f_89 at hP hD
            have hP : va_P (dC, dI) vwCl (mW ad kc x0 x1 x2 x3 x4 x5 x6 x7 x8 x9 x10 x11 x12 x13 x14 x15 x16 x17 x18 x19 x20 x21 f0 f1 f2 f3 f4 f5 f6 f7 f8 f9 f10 f11 f_81 f_56 f_77 f_85 f_89 f_14 f18 f19 f20 f21 fL fN fP fM fO) H := hP
            have hD : va_D A (mW ad kc x0 x1 x2 x3 x4 x5 x6 x7 x8 x9 x10 x11 x12 x13 x14 x15 x16 x17 x18 x19 x20 x21 f0 f1 f2 f3 f4 f5 f6 f7 f8 f9 f10 f11 f_81 f_56 f_77 f_85 f_89 f_14 f18 f19 f20 f21 fL fN fP fM fO) := hD
            refine lv_aload_n hx hb dX10_walksBranch_181 rfl (lv_at hl 1 rfl) ?_
            refine va_get (D := (dC, dI)) (ci := 10) (v := .ref (ad 6)) (C := RX10) (T := TX10) (N := 48) hx hb hts fin_X10_walksBranchm_X10 hown hK hP 0 rfl rfl 17 (by decide) (hts (.fieldLink RX10 34 "PatternGateModel" "next" "[I") (List.mem_of_getElem? (i := 20) (by decide +kernel))) (fun _ h9 => h9) rfl dX10_walksBranch_182 ?_
            refine lv_iload_n hx hb dX10_walksBranch_185 rfl (lv_at hl 0 rfl) ?_
            refine va_iald hx hb hK hP 6 5 rfl rfl (i := kk) (vp_of (a := kk.toInt) rfl (by omega) (by omega)) dX10_walksBranch_186 ?_
            refine lv_topi (fun y_90 ey_90 => ?_)
            have rg_y_90 := i_rng y_90
            have vy_90 := vI_lda (f := f5) (i := kk) (a := kk.toInt) ey_90 (by first | omega | decide)
            have rg_y_90 := i_rng y_90
            have hNy : y_90.toInt = mV f3 f4 f5 f7 2 kk.toInt := vy_90
            refine lv_istore_n (lv' := [(2, .int y_90), (0, .ref (ad 0)), (1, .int i1)]) hx hb dX10_walksBranch_187 rfl hl (by decide) rfl (fun ls hl => ?_)
            refine lv_goto (tgt := 42) hx hb dX10_walksBranch_188 (by decide) ?_
            exact ih42 y_90 f_81 f_56 f_77 f_85 f_89 f_14 (by rw [show y_90.toInt = mV f3 f4 f5 f7 2 kk.toInt from vy_90]; exact hC3) (by omega) _ _ ls hP hD hS (lv_sub hl [0, 1, 2] rfl)
  exact loop42 _ y_6 f_1 f_2 f_3 f_4 f_5 f17 (by rw [show y_6.toInt = mV f3 f4 f5 f7 1 i1.toInt from vy_6]; exact q1) (Nat.lt_succ_self _) _ _ ls hP hD hS (lv_sub hl [0, 1, 2] rfl)
theorem dX10_walksPattern_0 : decode cX10_walksPattern 0 = .ok (.aload_n 0, 1) := by decide +kernel
theorem dX10_walksPattern_1 : decode cX10_walksPattern 1 = .ok (.getfield 71, 3) := by decide +kernel
theorem dX10_walksPattern_4 : decode cX10_walksPattern 4 = .ok (.iload_n 1, 1) := by decide +kernel
theorem dX10_walksPattern_5 : decode cX10_walksPattern 5 = .ok (.iconst 0, 1) := by decide +kernel
theorem dX10_walksPattern_6 : decode cX10_walksPattern 6 = .ok (.iastore, 1) := by decide +kernel
theorem dX10_walksPattern_7 : decode cX10_walksPattern 7 = .ok (.aload_n 0, 1) := by decide +kernel
theorem dX10_walksPattern_8 : decode cX10_walksPattern 8 = .ok (.getfield 74, 3) := by decide +kernel
theorem dX10_walksPattern_11 : decode cX10_walksPattern 11 = .ok (.iload_n 1, 1) := by decide +kernel
theorem dX10_walksPattern_12 : decode cX10_walksPattern 12 = .ok (.iconst 0, 1) := by decide +kernel
theorem dX10_walksPattern_13 : decode cX10_walksPattern 13 = .ok (.iastore, 1) := by decide +kernel
theorem dX10_walksPattern_14 : decode cX10_walksPattern 14 = .ok (.aload_n 0, 1) := by decide +kernel
theorem dX10_walksPattern_15 : decode cX10_walksPattern 15 = .ok (.getfield 77, 3) := by decide +kernel
theorem dX10_walksPattern_18 : decode cX10_walksPattern 18 = .ok (.iload_n 1, 1) := by decide +kernel
theorem dX10_walksPattern_19 : decode cX10_walksPattern 19 = .ok (.iconst 0, 1) := by decide +kernel
theorem dX10_walksPattern_20 : decode cX10_walksPattern 20 = .ok (.iastore, 1) := by decide +kernel
theorem dX10_walksPattern_21 : decode cX10_walksPattern 21 = .ok (.aload_n 0, 1) := by decide +kernel
theorem dX10_walksPattern_22 : decode cX10_walksPattern 22 = .ok (.getfield 80, 3) := by decide +kernel
theorem dX10_walksPattern_25 : decode cX10_walksPattern 25 = .ok (.iload_n 1, 1) := by decide +kernel
theorem dX10_walksPattern_26 : decode cX10_walksPattern 26 = .ok (.aload_n 0, 1) := by decide +kernel
theorem dX10_walksPattern_27 : decode cX10_walksPattern 27 = .ok (.getfield 80, 3) := by decide +kernel
theorem dX10_walksPattern_30 : decode cX10_walksPattern 30 = .ok (.aload_n 0, 1) := by decide +kernel
theorem dX10_walksPattern_31 : decode cX10_walksPattern 31 = .ok (.getfield 31, 3) := by decide +kernel
theorem dX10_walksPattern_34 : decode cX10_walksPattern 34 = .ok (.iload_n 1, 1) := by decide +kernel
theorem dX10_walksPattern_35 : decode cX10_walksPattern 35 = .ok (.iaload, 1) := by decide +kernel
theorem dX10_walksPattern_36 : decode cX10_walksPattern 36 = .ok (.iaload, 1) := by decide +kernel
theorem dX10_walksPattern_37 : decode cX10_walksPattern 37 = .ok (.iastore, 1) := by decide +kernel
theorem dX10_walksPattern_38 : decode cX10_walksPattern 38 = .ok (.aload_n 0, 1) := by decide +kernel
theorem dX10_walksPattern_39 : decode cX10_walksPattern 39 = .ok (.getfield 83, 3) := by decide +kernel
theorem dX10_walksPattern_42 : decode cX10_walksPattern 42 = .ok (.iload_n 1, 1) := by decide +kernel
theorem dX10_walksPattern_43 : decode cX10_walksPattern 43 = .ok (.iconst 0, 1) := by decide +kernel
theorem dX10_walksPattern_44 : decode cX10_walksPattern 44 = .ok (.iastore, 1) := by decide +kernel
theorem dX10_walksPattern_45 : decode cX10_walksPattern 45 = .ok (.aload_n 0, 1) := by decide +kernel
theorem dX10_walksPattern_46 : decode cX10_walksPattern 46 = .ok (.getfield 31, 3) := by decide +kernel
theorem dX10_walksPattern_49 : decode cX10_walksPattern 49 = .ok (.iload_n 1, 1) := by decide +kernel
theorem dX10_walksPattern_50 : decode cX10_walksPattern 50 = .ok (.iaload, 1) := by decide +kernel
theorem dX10_walksPattern_51 : decode cX10_walksPattern 51 = .ok (.istore_n 2, 1) := by decide +kernel
theorem dX10_walksPattern_52 : decode cX10_walksPattern 52 = .ok (.iload_n 2, 1) := by decide +kernel
theorem dX10_walksPattern_53 : decode cX10_walksPattern 53 = .ok (.iconst (-1), 1) := by decide +kernel
theorem dX10_walksPattern_54 : decode cX10_walksPattern 54 = .ok (.if_icmp .eq 100, 3) := by decide +kernel
theorem dX10_walksPattern_57 : decode cX10_walksPattern 57 = .ok (.aload_n 0, 1) := by decide +kernel
theorem dX10_walksPattern_58 : decode cX10_walksPattern 58 = .ok (.getfield 74, 3) := by decide +kernel
theorem dX10_walksPattern_61 : decode cX10_walksPattern 61 = .ok (.iload_n 1, 1) := by decide +kernel
theorem dX10_walksPattern_62 : decode cX10_walksPattern 62 = .ok (.dup2, 1) := by decide +kernel
theorem dX10_walksPattern_63 : decode cX10_walksPattern 63 = .ok (.iaload, 1) := by decide +kernel
theorem dX10_walksPattern_64 : decode cX10_walksPattern 64 = .ok (.aload_n 0, 1) := by decide +kernel
theorem dX10_walksPattern_65 : decode cX10_walksPattern 65 = .ok (.getfield 74, 3) := by decide +kernel
theorem dX10_walksPattern_68 : decode cX10_walksPattern 68 = .ok (.iload_n 2, 1) := by decide +kernel
theorem dX10_walksPattern_69 : decode cX10_walksPattern 69 = .ok (.iaload, 1) := by decide +kernel
theorem dX10_walksPattern_70 : decode cX10_walksPattern 70 = .ok (.ior, 1) := by decide +kernel
theorem dX10_walksPattern_71 : decode cX10_walksPattern 71 = .ok (.iastore, 1) := by decide +kernel
theorem dX10_walksPattern_72 : decode cX10_walksPattern 72 = .ok (.aload_n 0, 1) := by decide +kernel
theorem dX10_walksPattern_73 : decode cX10_walksPattern 73 = .ok (.getfield 77, 3) := by decide +kernel
theorem dX10_walksPattern_76 : decode cX10_walksPattern 76 = .ok (.iload_n 1, 1) := by decide +kernel
theorem dX10_walksPattern_77 : decode cX10_walksPattern 77 = .ok (.dup2, 1) := by decide +kernel
theorem dX10_walksPattern_78 : decode cX10_walksPattern 78 = .ok (.iaload, 1) := by decide +kernel
theorem dX10_walksPattern_79 : decode cX10_walksPattern 79 = .ok (.aload_n 0, 1) := by decide +kernel
theorem dX10_walksPattern_80 : decode cX10_walksPattern 80 = .ok (.getfield 77, 3) := by decide +kernel
theorem dX10_walksPattern_83 : decode cX10_walksPattern 83 = .ok (.iload_n 2, 1) := by decide +kernel
theorem dX10_walksPattern_84 : decode cX10_walksPattern 84 = .ok (.iaload, 1) := by decide +kernel
theorem dX10_walksPattern_85 : decode cX10_walksPattern 85 = .ok (.ior, 1) := by decide +kernel
theorem dX10_walksPattern_86 : decode cX10_walksPattern 86 = .ok (.iastore, 1) := by decide +kernel
theorem dX10_walksPattern_87 : decode cX10_walksPattern 87 = .ok (.aload_n 0, 1) := by decide +kernel
theorem dX10_walksPattern_88 : decode cX10_walksPattern 88 = .ok (.getfield 71, 3) := by decide +kernel
theorem dX10_walksPattern_91 : decode cX10_walksPattern 91 = .ok (.iload_n 1, 1) := by decide +kernel
theorem dX10_walksPattern_92 : decode cX10_walksPattern 92 = .ok (.dup2, 1) := by decide +kernel
theorem dX10_walksPattern_93 : decode cX10_walksPattern 93 = .ok (.iaload, 1) := by decide +kernel
theorem dX10_walksPattern_94 : decode cX10_walksPattern 94 = .ok (.aload_n 0, 1) := by decide +kernel
theorem dX10_walksPattern_95 : decode cX10_walksPattern 95 = .ok (.getfield 71, 3) := by decide +kernel
theorem dX10_walksPattern_98 : decode cX10_walksPattern 98 = .ok (.iload_n 2, 1) := by decide +kernel
theorem dX10_walksPattern_99 : decode cX10_walksPattern 99 = .ok (.iaload, 1) := by decide +kernel
theorem dX10_walksPattern_100 : decode cX10_walksPattern 100 = .ok (.ior, 1) := by decide +kernel
theorem dX10_walksPattern_101 : decode cX10_walksPattern 101 = .ok (.iastore, 1) := by decide +kernel
theorem dX10_walksPattern_102 : decode cX10_walksPattern 102 = .ok (.aload_n 0, 1) := by decide +kernel
theorem dX10_walksPattern_103 : decode cX10_walksPattern 103 = .ok (.getfield 80, 3) := by decide +kernel
theorem dX10_walksPattern_106 : decode cX10_walksPattern 106 = .ok (.iload_n 1, 1) := by decide +kernel
theorem dX10_walksPattern_107 : decode cX10_walksPattern 107 = .ok (.aload_n 0, 1) := by decide +kernel
theorem dX10_walksPattern_108 : decode cX10_walksPattern 108 = .ok (.getfield 80, 3) := by decide +kernel
theorem dX10_walksPattern_111 : decode cX10_walksPattern 111 = .ok (.iload_n 1, 1) := by decide +kernel
theorem dX10_walksPattern_112 : decode cX10_walksPattern 112 = .ok (.iaload, 1) := by decide +kernel
theorem dX10_walksPattern_113 : decode cX10_walksPattern 113 = .ok (.aload_n 0, 1) := by decide +kernel
theorem dX10_walksPattern_114 : decode cX10_walksPattern 114 = .ok (.getfield 80, 3) := by decide +kernel
theorem dX10_walksPattern_117 : decode cX10_walksPattern 117 = .ok (.iload_n 2, 1) := by decide +kernel
theorem dX10_walksPattern_118 : decode cX10_walksPattern 118 = .ok (.iaload, 1) := by decide +kernel
theorem dX10_walksPattern_119 : decode cX10_walksPattern 119 = .ok (.invokestatic 390, 3) := by decide +kernel
theorem dX10_walksPattern_122 : decode cX10_walksPattern 122 = .ok (.iastore, 1) := by decide +kernel
theorem dX10_walksPattern_123 : decode cX10_walksPattern 123 = .ok (.aload_n 0, 1) := by decide +kernel
theorem dX10_walksPattern_124 : decode cX10_walksPattern 124 = .ok (.getfield 83, 3) := by decide +kernel
theorem dX10_walksPattern_127 : decode cX10_walksPattern 127 = .ok (.iload_n 1, 1) := by decide +kernel
theorem dX10_walksPattern_128 : decode cX10_walksPattern 128 = .ok (.aload_n 0, 1) := by decide +kernel
theorem dX10_walksPattern_129 : decode cX10_walksPattern 129 = .ok (.getfield 83, 3) := by decide +kernel
theorem dX10_walksPattern_132 : decode cX10_walksPattern 132 = .ok (.iload_n 1, 1) := by decide +kernel
theorem dX10_walksPattern_133 : decode cX10_walksPattern 133 = .ok (.iaload, 1) := by decide +kernel
theorem dX10_walksPattern_134 : decode cX10_walksPattern 134 = .ok (.aload_n 0, 1) := by decide +kernel
theorem dX10_walksPattern_135 : decode cX10_walksPattern 135 = .ok (.getfield 83, 3) := by decide +kernel
theorem dX10_walksPattern_138 : decode cX10_walksPattern 138 = .ok (.iload_n 2, 1) := by decide +kernel
theorem dX10_walksPattern_139 : decode cX10_walksPattern 139 = .ok (.iaload, 1) := by decide +kernel
theorem dX10_walksPattern_140 : decode cX10_walksPattern 140 = .ok (.invokestatic 268, 3) := by decide +kernel
theorem dX10_walksPattern_143 : decode cX10_walksPattern 143 = .ok (.iastore, 1) := by decide +kernel
theorem dX10_walksPattern_144 : decode cX10_walksPattern 144 = .ok (.aload_n 0, 1) := by decide +kernel
theorem dX10_walksPattern_145 : decode cX10_walksPattern 145 = .ok (.getfield 34, 3) := by decide +kernel
theorem dX10_walksPattern_148 : decode cX10_walksPattern 148 = .ok (.iload_n 2, 1) := by decide +kernel
theorem dX10_walksPattern_149 : decode cX10_walksPattern 149 = .ok (.iaload, 1) := by decide +kernel
theorem dX10_walksPattern_150 : decode cX10_walksPattern 150 = .ok (.istore_n 2, 1) := by decide +kernel
theorem dX10_walksPattern_151 : decode cX10_walksPattern 151 = .ok (.goto (-99), 3) := by decide +kernel
theorem dX10_walksPattern_154 : decode cX10_walksPattern 154 = .ok (.aload_n 0, 1) := by decide +kernel
theorem dX10_walksPattern_155 : decode cX10_walksPattern 155 = .ok (.getfield 83, 3) := by decide +kernel
theorem dX10_walksPattern_158 : decode cX10_walksPattern 158 = .ok (.iload_n 1, 1) := by decide +kernel
theorem dX10_walksPattern_159 : decode cX10_walksPattern 159 = .ok (.dup2, 1) := by decide +kernel
theorem dX10_walksPattern_160 : decode cX10_walksPattern 160 = .ok (.iaload, 1) := by decide +kernel
theorem dX10_walksPattern_161 : decode cX10_walksPattern 161 = .ok (.iconst 1, 1) := by decide +kernel
theorem dX10_walksPattern_162 : decode cX10_walksPattern 162 = .ok (.iadd, 1) := by decide +kernel
theorem dX10_walksPattern_163 : decode cX10_walksPattern 163 = .ok (.iastore, 1) := by decide +kernel
theorem dX10_walksPattern_164 : decode cX10_walksPattern 164 = .ok (.return_, 1) := by decide +kernel
def mwX10_walksPatternm : List Cond := .code yX10_walksPattern cX10_walksPattern 3 none :: ([.fieldLink RX10 71 "PatternGateModel" "nullable" "[I", .fieldLink RX10 74 "PatternGateModel" "heads" "[I", .fieldLink RX10 77 "PatternGateModel" "tails" "[I", .fieldLink RX10 80 "PatternGateModel" "fewest" "[I", .fieldLink RX10 31 "PatternGateModel" "first" "[I", .fieldLink RX10 83 "PatternGateModel" "deep" "[I", .methodLink RX10 390 Lib.Math.min.name, .static Lib.Math.min.name, .initialized "java/lang/Math", .code Lib.Math.min.name Lib.Math.min.code 2 (some .int), .methodLink RX10 268 Lib.Math.max.name, .static Lib.Math.max.name, .code Lib.Math.max.name Lib.Math.max.code 2 (some .int), .fieldLink RX10 34 "PatternGateModel" "next" "[I"] ++ wsX100)
theorem fin_X10_walksPatternm_X10 : ∀ w ∈ wsX100, w ∈ mwX10_walksPatternm := fun w h => List.mem_cons_of_mem _ (List.mem_append_right _ h)
set_option maxHeartbeats 4000000 in
set_option maxRecDepth 100000 in
theorem m_walksPattern (l : Launch) (dC : Nat → ClassId) (dI : Nat → Nat → Nat) (ad : Nat → Nat) (kc : Nat → ClassId) (x0 x1 x2 x3 x4 x5 x6 x7 x8 x9 x10 x11 x12 x13 x14 x15 x16 x17 x18 x19 x20 x21 : Int32) (f0 f1 f2 f3 f4 f5 f6 f7 f8 f9 f10 f11 f12 f13 f14 f15 f16 f17 f18 f19 f20 f21 : Nat → Int32) (fL : Nat → Nat → Int64) (fN : Nat → Nat → Int32) (fP : Nat → Nat → Nat) (fM : Nat → Nat → Int32) (fO : Nat → Nat → Int32) (sz : Nat) (i1 : Int32) (hi : Int) (q0 : 0 ≤ i1.toInt ∧ i1.toInt < 1600) (q1 : knC (mV f3 f4 f5 f7) (mV f3 f4 f5 f7 1 i1.toInt) hi) (q2 : hi ≤ 1600) (q3 : mV f3 f4 f5 f7 1 i1.toInt ≠ -1) : Met l yX10_walksPattern mwX10_walksPatternm ({ frames := 2, cells := 0, slots := 0, locals := 120 }) (va_Pc [.ref (ad 0), .int i1] (fun U => U.heap.size = sz ∧ va_P (dC, dI) vwCl (mW ad kc x0 x1 x2 x3 x4 x5 x6 x7 x8 x9 x10 x11 x12 x13 x14 x15 x16 x17 x18 x19 x20 x21 f0 f1 f2 f3 f4 f5 f6 f7 f8 f9 f10 f11 f12 f13 f14 f15 f16 f17 f18 f19 f20 f21 fL fN fP fM fO) U.heap ∧ va_K (dC, dI) vwCl (mT kc) U ∧ va_D (fun _ => True) (mW ad kc x0 x1 x2 x3 x4 x5 x6 x7 x8 x9 x10 x11 x12 x13 x14 x15 x16 x17 x18 x19 x20 x21 f0 f1 f2 f3 f4 f5 f6 f7 f8 f9 f10 f11 f12 f13 f14 f15 f16 f17 f18 f19 f20 f21 fL fN fP fM fO))) (va_Qv (fun (_ : Unit) => True) (fun _ t => ∃ (g12 g13 g14 g15 g16 g17 g18 : Nat → Int32), va_P (dC, dI) vwCl (mW ad kc x0 x1 x2 x3 x4 x5 x6 x7 x8 x9 x10 x11 x12 x13 x14 x15 x16 x17 x18 x19 x20 x21 f0 f1 f2 f3 f4 f5 f6 f7 f8 f9 f10 f11 g12 g13 g14 g15 g16 g17 g18 f19 f20 f21 fL fN fP fM fO) t.heap ∧ va_K (dC, dI) vwCl (mT kc) t ∧ va_D (va_A (mW ad kc x0 x1 x2 x3 x4 x5 x6 x7 x8 x9 x10 x11 x12 x13 x14 x15 x16 x17 x18 x19 x20 x21 f0 f1 f2 f3 f4 f5 f6 f7 f8 f9 f10 f11 f12 f13 f14 f15 f16 f17 f18 f19 f20 f21 fL fN fP fM fO) sz) (mW ad kc x0 x1 x2 x3 x4 x5 x6 x7 x8 x9 x10 x11 x12 x13 x14 x15 x16 x17 x18 x19 x20 x21 f0 f1 f2 f3 f4 f5 f6 f7 f8 f9 f10 f11 g12 g13 g14 g15 g16 g17 g18 f19 f20 f21 fL fN fP fM fO)) (va_A (mW ad kc x0 x1 x2 x3 x4 x5 x6 x7 x8 x9 x10 x11 x12 x13 x14 x15 x16 x17 x18 x19 x20 x21 f0 f1 f2 f3 f4 f5 f6 f7 f8 f9 f10 f11 f12 f13 f14 f15 f16 f17 f18 f19 f20 f21 fL fN fP fM fO) sz)) 0 0 (va_A (mW ad kc x0 x1 x2 x3 x4 x5 x6 x7 x8 x9 x10 x11 x12 x13 x14 x15 x16 x17 x18 x19 x20 x21 f0 f1 f2 f3 f4 f5 f6 f7 f8 f9 f10 f11 f12 f13 f14 f15 f16 f17 f18 f19 f20 f21 fL fN fP fM fO) sz) := by
  refine Met.ofW (cc := cX10_walksPattern) (maxL := 3) (ret := none) (by decide +kernel) rfl ?_
  intro p e s m args below meth c s₁ B hml hv
  obtain ⟨rfl, hsz, hP, hK, hD0⟩ := hv
  have hx := B.exec
  have hb := B.bytes
  have hr := B.returns
  have hts := atoms_spec (ws := mwX10_walksPatternm) B.pre
  have hown : s.vm.findClass RX10 = some m.cls := findClass_of_methodNamed B.named
  have hlocks := B.notSynchronized
  subst hsz
  have hD := hD0.self (sz := s.heap.size)
  generalize hAe : va_A (mW ad kc x0 x1 x2 x3 x4 x5 x6 x7 x8 x9 x10 x11 x12 x13 x14 x15 x16 x17 x18 x19 x20 x21 f0 f1 f2 f3 f4 f5 f6 f7 f8 f9 f10 f11 f12 f13 f14 f15 f16 f17 f18 f19 f20 f21 fL fN fP fM fO) s.heap.size = A at hD ⊢
  have hA : ∀ q : Nat, s.heap.size ≤ q → A q := fun q h => by rw [← hAe]; exact Or.inr h
  have hP : va_P (dC, dI) vwCl (mW ad kc x0 x1 x2 x3 x4 x5 x6 x7 x8 x9 x10 x11 x12 x13 x14 x15 x16 x17 x18 x19 x20 x21 f0 f1 f2 f3 f4 f5 f6 f7 f8 f9 f10 f11 f12 f13 f14 f15 f16 f17 f18 f19 f20 f21 fL fN fP fM fO) s.heap := hP
  have hD : va_D A (mW ad kc x0 x1 x2 x3 x4 x5 x6 x7 x8 x9 x10 x11 x12 x13 x14 x15 x16 x17 x18 x19 x20 x21 f0 f1 f2 f3 f4 f5 f6 f7 f8 f9 f10 f11 f12 f13 f14 f15 f16 f17 f18 f19 f20 f21 fL fN fP fM fO) := hD
  have hK : va_K (dC, dI) vwCl (mT kc) s := hK
  generalize hH : s.heap = H at hP ⊢
  have hS : va_S A s.heap H [] := by rw [← hH]; exact va_S.rf
  have hl := lv_entry ([.ref (ad 0), .int i1]) (n := 3) (Nat.le_of_ble_eq_true rfl)
  rw [lg_entry_eq]
  generalize (lg_sl ([.ref (ad 0), .int i1]) ++ List.replicate (3 - (lg_sl ([.ref (ad 0), .int i1])).length) Slot.unset).toArray = ls at hl ⊢
  have hl : lv_has ls 3 [(0, .ref (ad 0)), (1, .int i1)] := hl
  have rg_i1 := i_rng i1
  refine lv_aload_n hx hb dX10_walksPattern_0 rfl (lv_at hl 0 rfl) ?_
  refine va_get (D := (dC, dI)) (ci := 10) (v := .ref (ad 13)) (C := RX10) (T := TX10) (N := 48) hx hb hts fin_X10_walksPatternm_X10 hown hK hP 0 rfl rfl 35 (by decide) (hts (.fieldLink RX10 71 "PatternGateModel" "nullable" "[I") (List.mem_of_getElem? (i := 1) (by decide +kernel))) (fun _ h9 => h9) rfl dX10_walksPattern_1 ?_
  refine lv_iload_n hx hb dX10_walksPattern_4 rfl (lv_at hl 1 rfl) ?_
  refine lv_iconst (v := 0) hx hb dX10_walksPattern_5 (by decide) ?_
  refine va_iast hx hb hK hP hD hS 13 12 rfl rfl (i := i1) (vp_of (a := i1.toInt) rfl (by omega) (by omega)) dX10_walksPattern_6 (fun H locs hP hD hS => ?_)
  generalize hf_f_1 : upd f12 _ _ = f_1 at hP hD
  have hP : va_P (dC, dI) vwCl (mW ad kc x0 x1 x2 x3 x4 x5 x6 x7 x8 x9 x10 x11 x12 x13 x14 x15 x16 x17 x18 x19 x20 x21 f0 f1 f2 f3 f4 f5 f6 f7 f8 f9 f10 f11 f_1 f13 f14 f15 f16 f17 f18 f19 f20 f21 fL fN fP fM fO) H := hP
  have hD : va_D A (mW ad kc x0 x1 x2 x3 x4 x5 x6 x7 x8 x9 x10 x11 x12 x13 x14 x15 x16 x17 x18 x19 x20 x21 f0 f1 f2 f3 f4 f5 f6 f7 f8 f9 f10 f11 f_1 f13 f14 f15 f16 f17 f18 f19 f20 f21 fL fN fP fM fO) := hD
  refine lv_aload_n hx hb dX10_walksPattern_7 rfl (lv_at hl 0 rfl) ?_
  refine va_get (D := (dC, dI)) (ci := 10) (v := .ref (ad 14)) (C := RX10) (T := TX10) (N := 48) hx hb hts fin_X10_walksPatternm_X10 hown hK hP 0 rfl rfl 36 (by decide) (hts (.fieldLink RX10 74 "PatternGateModel" "heads" "[I") (List.mem_of_getElem? (i := 2) (by decide +kernel))) (fun _ h9 => h9) rfl dX10_walksPattern_8 ?_
  refine lv_iload_n hx hb dX10_walksPattern_11 rfl (lv_at hl 1 rfl) ?_
  refine lv_iconst (v := 0) hx hb dX10_walksPattern_12 (by decide) ?_
  refine va_iast hx hb hK hP hD hS 14 13 rfl rfl (i := i1) (vp_of (a := i1.toInt) rfl (by omega) (by omega)) dX10_walksPattern_13 (fun H locs hP hD hS => ?_)
  generalize hf_f_2 : upd f13 _ _ = f_2 at hP hD
  have hP : va_P (dC, dI) vwCl (mW ad kc x0 x1 x2 x3 x4 x5 x6 x7 x8 x9 x10 x11 x12 x13 x14 x15 x16 x17 x18 x19 x20 x21 f0 f1 f2 f3 f4 f5 f6 f7 f8 f9 f10 f11 f_1 f_2 f14 f15 f16 f17 f18 f19 f20 f21 fL fN fP fM fO) H := hP
  have hD : va_D A (mW ad kc x0 x1 x2 x3 x4 x5 x6 x7 x8 x9 x10 x11 x12 x13 x14 x15 x16 x17 x18 x19 x20 x21 f0 f1 f2 f3 f4 f5 f6 f7 f8 f9 f10 f11 f_1 f_2 f14 f15 f16 f17 f18 f19 f20 f21 fL fN fP fM fO) := hD
  refine lv_aload_n hx hb dX10_walksPattern_14 rfl (lv_at hl 0 rfl) ?_
  refine va_get (D := (dC, dI)) (ci := 10) (v := .ref (ad 15)) (C := RX10) (T := TX10) (N := 48) hx hb hts fin_X10_walksPatternm_X10 hown hK hP 0 rfl rfl 37 (by decide) (hts (.fieldLink RX10 77 "PatternGateModel" "tails" "[I") (List.mem_of_getElem? (i := 3) (by decide +kernel))) (fun _ h9 => h9) rfl dX10_walksPattern_15 ?_
  refine lv_iload_n hx hb dX10_walksPattern_18 rfl (lv_at hl 1 rfl) ?_
  refine lv_iconst (v := 0) hx hb dX10_walksPattern_19 (by decide) ?_
  refine va_iast hx hb hK hP hD hS 15 14 rfl rfl (i := i1) (vp_of (a := i1.toInt) rfl (by omega) (by omega)) dX10_walksPattern_20 (fun H locs hP hD hS => ?_)
  generalize hf_f_3 : upd f14 _ _ = f_3 at hP hD
  have hP : va_P (dC, dI) vwCl (mW ad kc x0 x1 x2 x3 x4 x5 x6 x7 x8 x9 x10 x11 x12 x13 x14 x15 x16 x17 x18 x19 x20 x21 f0 f1 f2 f3 f4 f5 f6 f7 f8 f9 f10 f11 f_1 f_2 f_3 f15 f16 f17 f18 f19 f20 f21 fL fN fP fM fO) H := hP
  have hD : va_D A (mW ad kc x0 x1 x2 x3 x4 x5 x6 x7 x8 x9 x10 x11 x12 x13 x14 x15 x16 x17 x18 x19 x20 x21 f0 f1 f2 f3 f4 f5 f6 f7 f8 f9 f10 f11 f_1 f_2 f_3 f15 f16 f17 f18 f19 f20 f21 fL fN fP fM fO) := hD
  refine lv_aload_n hx hb dX10_walksPattern_21 rfl (lv_at hl 0 rfl) ?_
  refine va_get (D := (dC, dI)) (ci := 10) (v := .ref (ad 16)) (C := RX10) (T := TX10) (N := 48) hx hb hts fin_X10_walksPatternm_X10 hown hK hP 0 rfl rfl 38 (by decide) (hts (.fieldLink RX10 80 "PatternGateModel" "fewest" "[I") (List.mem_of_getElem? (i := 4) (by decide +kernel))) (fun _ h9 => h9) rfl dX10_walksPattern_22 ?_
  refine lv_iload_n hx hb dX10_walksPattern_25 rfl (lv_at hl 1 rfl) ?_
  refine lv_aload_n hx hb dX10_walksPattern_26 rfl (lv_at hl 0 rfl) ?_
  refine va_get (D := (dC, dI)) (ci := 10) (v := .ref (ad 16)) (C := RX10) (T := TX10) (N := 48) hx hb hts fin_X10_walksPatternm_X10 hown hK hP 0 rfl rfl 38 (by decide) (hts (.fieldLink RX10 80 "PatternGateModel" "fewest" "[I") (List.mem_of_getElem? (i := 4) (by decide +kernel))) (fun _ h9 => h9) rfl dX10_walksPattern_27 ?_
  refine lv_aload_n hx hb dX10_walksPattern_30 rfl (lv_at hl 0 rfl) ?_
  refine va_get (D := (dC, dI)) (ci := 10) (v := .ref (ad 5)) (C := RX10) (T := TX10) (N := 48) hx hb hts fin_X10_walksPatternm_X10 hown hK hP 0 rfl rfl 16 (by decide) (hts (.fieldLink RX10 31 "PatternGateModel" "first" "[I") (List.mem_of_getElem? (i := 5) (by decide +kernel))) (fun _ h9 => h9) rfl dX10_walksPattern_31 ?_
  refine lv_iload_n hx hb dX10_walksPattern_34 rfl (lv_at hl 1 rfl) ?_
  refine va_iald hx hb hK hP 5 4 rfl rfl (i := i1) (vp_of (a := i1.toInt) rfl (by omega) (by omega)) dX10_walksPattern_35 ?_
  refine lv_topi (fun y_4 ey_4 => ?_)
  have rg_y_4 := i_rng y_4
  have vy_4 := vI_lda (f := f4) (i := i1) (a := i1.toInt) ey_4 (by first | omega | decide)
  have rg_y_4 := i_rng y_4
  have hb9 := q1.bd
  have hb8 : y_4.toInt = mV f3 f4 f5 f7 1 i1.toInt := vy_4
  refine va_iald hx hb hK hP 16 15 rfl rfl (i := y_4) (vp_of (a := y_4.toInt) rfl (by omega) (by omega)) dX10_walksPattern_36 ?_
  refine lv_topi (fun y_5 ey_5 => ?_)
  have rg_y_5 := i_rng y_5
  refine va_iast hx hb hK hP hD hS 16 15 rfl rfl (i := i1) (vp_of (a := i1.toInt) rfl (by omega) (by omega)) dX10_walksPattern_37 (fun H locs hP hD hS => ?_)
  generalize hf_f_6 : upd f15 _ _ = f_6 at hP hD
  have hP : va_P (dC, dI) vwCl (mW ad kc x0 x1 x2 x3 x4 x5 x6 x7 x8 x9 x10 x11 x12 x13 x14 x15 x16 x17 x18 x19 x20 x21 f0 f1 f2 f3 f4 f5 f6 f7 f8 f9 f10 f11 f_1 f_2 f_3 f_6 f16 f17 f18 f19 f20 f21 fL fN fP fM fO) H := hP
  have hD : va_D A (mW ad kc x0 x1 x2 x3 x4 x5 x6 x7 x8 x9 x10 x11 x12 x13 x14 x15 x16 x17 x18 x19 x20 x21 f0 f1 f2 f3 f4 f5 f6 f7 f8 f9 f10 f11 f_1 f_2 f_3 f_6 f16 f17 f18 f19 f20 f21 fL fN fP fM fO) := hD
  refine lv_aload_n hx hb dX10_walksPattern_38 rfl (lv_at hl 0 rfl) ?_
  refine va_get (D := (dC, dI)) (ci := 10) (v := .ref (ad 17)) (C := RX10) (T := TX10) (N := 48) hx hb hts fin_X10_walksPatternm_X10 hown hK hP 0 rfl rfl 39 (by decide) (hts (.fieldLink RX10 83 "PatternGateModel" "deep" "[I") (List.mem_of_getElem? (i := 6) (by decide +kernel))) (fun _ h9 => h9) rfl dX10_walksPattern_39 ?_
  refine lv_iload_n hx hb dX10_walksPattern_42 rfl (lv_at hl 1 rfl) ?_
  refine lv_iconst (v := 0) hx hb dX10_walksPattern_43 (by decide) ?_
  refine va_iast hx hb hK hP hD hS 17 16 rfl rfl (i := i1) (vp_of (a := i1.toInt) rfl (by omega) (by omega)) dX10_walksPattern_44 (fun H locs hP hD hS => ?_)
  generalize hf_f_7 : upd f16 _ _ = f_7 at hP hD
  have hP : va_P (dC, dI) vwCl (mW ad kc x0 x1 x2 x3 x4 x5 x6 x7 x8 x9 x10 x11 x12 x13 x14 x15 x16 x17 x18 x19 x20 x21 f0 f1 f2 f3 f4 f5 f6 f7 f8 f9 f10 f11 f_1 f_2 f_3 f_6 f_7 f17 f18 f19 f20 f21 fL fN fP fM fO) H := hP
  have hD : va_D A (mW ad kc x0 x1 x2 x3 x4 x5 x6 x7 x8 x9 x10 x11 x12 x13 x14 x15 x16 x17 x18 x19 x20 x21 f0 f1 f2 f3 f4 f5 f6 f7 f8 f9 f10 f11 f_1 f_2 f_3 f_6 f_7 f17 f18 f19 f20 f21 fL fN fP fM fO) := hD
  refine lv_aload_n hx hb dX10_walksPattern_45 rfl (lv_at hl 0 rfl) ?_
  refine va_get (D := (dC, dI)) (ci := 10) (v := .ref (ad 5)) (C := RX10) (T := TX10) (N := 48) hx hb hts fin_X10_walksPatternm_X10 hown hK hP 0 rfl rfl 16 (by decide) (hts (.fieldLink RX10 31 "PatternGateModel" "first" "[I") (List.mem_of_getElem? (i := 5) (by decide +kernel))) (fun _ h9 => h9) rfl dX10_walksPattern_46 ?_
  refine lv_iload_n hx hb dX10_walksPattern_49 rfl (lv_at hl 1 rfl) ?_
  refine va_iald hx hb hK hP 5 4 rfl rfl (i := i1) (vp_of (a := i1.toInt) rfl (by omega) (by omega)) dX10_walksPattern_50 ?_
  refine lv_topi (fun y_8 ey_8 => ?_)
  have rg_y_8 := i_rng y_8
  have vy_8 := vI_lda (f := f4) (i := i1) (a := i1.toInt) ey_8 (by first | omega | decide)
  have rg_y_8 := i_rng y_8
  refine lv_istore_n (lv' := [(2, .int y_8), (0, .ref (ad 0)), (1, .int i1)]) hx hb dX10_walksPattern_51 rfl hl (by decide) rfl (fun ls hl => ?_)
  have loop52 : ∀ (lm52 : Nat) (kk : Int32) (ga gb gc gd ge : Nat → Int32), (knC (mV f3 f4 f5 f7) kk.toInt hi) → ((if kk.toInt = -1 then 0 else (hi + 1 - kk.toInt)).toNat) < lm52 → ∀ (H : Heap) (locs : List Loc) (ls : Array Slot), va_P (dC, dI) vwCl (mW ad kc x0 x1 x2 x3 x4 x5 x6 x7 x8 x9 x10 x11 x12 x13 x14 x15 x16 x17 x18 x19 x20 x21 f0 f1 f2 f3 f4 f5 f6 f7 f8 f9 f10 f11 ga gb gc gd ge f17 f18 f19 f20 f21 fL fN fP fM fO) H → va_D A (mW ad kc x0 x1 x2 x3 x4 x5 x6 x7 x8 x9 x10 x11 x12 x13 x14 x15 x16 x17 x18 x19 x20 x21 f0 f1 f2 f3 f4 f5 f6 f7 f8 f9 f10 f11 ga gb gc gd ge f17 f18 f19 f20 f21 fL fN fP fM fO) → va_S A s.heap H locs → lv_has ls 3 [(2, .int kk), (0, .ref (ad 0)), (1, .int i1)] → W p l e (headSpec mwX10_walksPatternm ({ frames := 2, cells := 0, slots := 0, locals := 120 })).room s m ([.ref (ad 0), .int i1]).toArray below meth c H locs 0 0 (MQ below (va_Qv (fun (_ : Unit) => True) (fun _ t => ∃ (g12 g13 g14 g15 g16 g17 g18 : Nat → Int32), va_P (dC, dI) vwCl (mW ad kc x0 x1 x2 x3 x4 x5 x6 x7 x8 x9 x10 x11 x12 x13 x14 x15 x16 x17 x18 x19 x20 x21 f0 f1 f2 f3 f4 f5 f6 f7 f8 f9 f10 f11 g12 g13 g14 g15 g16 g17 g18 f19 f20 f21 fL fN fP fM fO) t.heap ∧ va_K (dC, dI) vwCl (mT kc) t ∧ va_D A (mW ad kc x0 x1 x2 x3 x4 x5 x6 x7 x8 x9 x10 x11 x12 x13 x14 x15 x16 x17 x18 x19 x20 x21 f0 f1 f2 f3 f4 f5 f6 f7 f8 f9 f10 f11 g12 g13 g14 g15 g16 g17 g18 f19 f20 f21 fL fN fP fM fO)) A) ([.ref (ad 0), .int i1]).toArray s 0 0 A) (F0 m 52 ls []) := by
    intro lm52
    induction lm52 with
    | zero => intro kk ga gb gc gd ge v52_0 hm52; exact absurd hm52 (Nat.not_lt_zero _)
    | succ lm52 ih52 =>
      intro kk ga gb gc gd ge v52_0 hm52 H locs ls hP hD hS hl
      have rg_kk := i_rng kk
      refine lv_iload_n hx hb dX10_walksPattern_52 rfl (lv_at hl 0 rfl) ?_
      refine lv_iconst (v := (-1)) hx hb dX10_walksPattern_53 (by decide) ?_
      refine lv_icmp_eq (tgt := 154) hx hb dX10_walksPattern_54 (by decide) (fun k_9 => ?_) (fun k_9 => ?_)
      · have tk_9 := c_eq (a := kk.toInt) (b := (-1)) rfl (by decide) k_9
        refine lv_aload_n hx hb dX10_walksPattern_154 rfl (lv_at hl 1 rfl) ?_
        refine va_get (D := (dC, dI)) (ci := 10) (v := .ref (ad 17)) (C := RX10) (T := TX10) (N := 48) hx hb hts fin_X10_walksPatternm_X10 hown hK hP 0 rfl rfl 39 (by decide) (hts (.fieldLink RX10 83 "PatternGateModel" "deep" "[I") (List.mem_of_getElem? (i := 6) (by decide +kernel))) (fun _ h9 => h9) rfl dX10_walksPattern_155 ?_
        refine lv_iload_n hx hb dX10_walksPattern_158 rfl (lv_at hl 2 rfl) ?_
        refine lv_dup2_11 hx hb dX10_walksPattern_159 rfl rfl ?_
        refine va_iald hx hb hK hP 17 16 rfl rfl (i := i1) (vp_of (a := i1.toInt) rfl (by omega) (by omega)) dX10_walksPattern_160 ?_
        refine lv_topi (fun y_10 ey_10 => ?_)
        have rg_y_10 := i_rng y_10
        refine lv_iconst (v := 1) hx hb dX10_walksPattern_161 (by decide) ?_
        refine lv_iadd hx hb dX10_walksPattern_162 ?_
        refine lv_topi (fun y_11 ey_11 => ?_)
        first | have ty_11 := i_add (a := y_10.toInt) (b := 1) rfl (by decide) ey_11 (by omega) (by omega) | skip
        refine va_iast hx hb hK hP hD hS 17 16 rfl rfl (i := i1) (vp_of (a := i1.toInt) rfl (by omega) (by omega)) dX10_walksPattern_163 (fun H locs hP hD hS => ?_)
        generalize hf_f_12 : upd ge _ _ = f_12 at hP hD
        have hP : va_P (dC, dI) vwCl (mW ad kc x0 x1 x2 x3 x4 x5 x6 x7 x8 x9 x10 x11 x12 x13 x14 x15 x16 x17 x18 x19 x20 x21 f0 f1 f2 f3 f4 f5 f6 f7 f8 f9 f10 f11 ga gb gc gd f_12 f17 f18 f19 f20 f21 fL fN fP fM fO) H := hP
        have hD : va_D A (mW ad kc x0 x1 x2 x3 x4 x5 x6 x7 x8 x9 x10 x11 x12 x13 x14 x15 x16 x17 x18 x19 x20 x21 f0 f1 f2 f3 f4 f5 f6 f7 f8 f9 f10 f11 ga gb gc gd f_12 f17 f18 f19 f20 f21 fL fN fP fM fO) := hD
        exact W.vret hx hb hr (fun t ht hW => ⟨⟨(), rfl, trivial, ga, gb, gc, gd, f_12, f17, f18, by rw [ht]; exact hP, va_K.moved hW.alike hK, hD⟩, hS.F ht⟩) hS.2.2 dX10_walksPattern_164
      · have tk_9 := c_ne (a := kk.toInt) (b := (-1)) rfl (by decide) k_9
        have hC := v52_0.nx tk_9
        obtain ⟨hC1, hC2, hC3, hC4⟩ := hC
        refine lv_aload_n hx hb dX10_walksPattern_57 rfl (lv_at hl 1 rfl) ?_
        refine va_get (D := (dC, dI)) (ci := 10) (v := .ref (ad 14)) (C := RX10) (T := TX10) (N := 48) hx hb hts fin_X10_walksPatternm_X10 hown hK hP 0 rfl rfl 36 (by decide) (hts (.fieldLink RX10 74 "PatternGateModel" "heads" "[I") (List.mem_of_getElem? (i := 2) (by decide +kernel))) (fun _ h9 => h9) rfl dX10_walksPattern_58 ?_
        refine lv_iload_n hx hb dX10_walksPattern_61 rfl (lv_at hl 2 rfl) ?_
        refine lv_dup2_11 hx hb dX10_walksPattern_62 rfl rfl ?_
        refine va_iald hx hb hK hP 14 13 rfl rfl (i := i1) (vp_of (a := i1.toInt) rfl (by omega) (by omega)) dX10_walksPattern_63 ?_
        refine lv_topi (fun y_13 ey_13 => ?_)
        have rg_y_13 := i_rng y_13
        refine lv_aload_n hx hb dX10_walksPattern_64 rfl (lv_at hl 1 rfl) ?_
        refine va_get (D := (dC, dI)) (ci := 10) (v := .ref (ad 14)) (C := RX10) (T := TX10) (N := 48) hx hb hts fin_X10_walksPatternm_X10 hown hK hP 0 rfl rfl 36 (by decide) (hts (.fieldLink RX10 74 "PatternGateModel" "heads" "[I") (List.mem_of_getElem? (i := 2) (by decide +kernel))) (fun _ h9 => h9) rfl dX10_walksPattern_65 ?_
        refine lv_iload_n hx hb dX10_walksPattern_68 rfl (lv_at hl 0 rfl) ?_
        refine va_iald hx hb hK hP 14 13 rfl rfl (i := kk) (vp_of (a := kk.toInt) rfl (by omega) (by omega)) dX10_walksPattern_69 ?_
        refine lv_topi (fun y_14 ey_14 => ?_)
        have rg_y_14 := i_rng y_14
        refine lv_ior hx hb dX10_walksPattern_70 ?_
        refine lv_topi (fun y_15 ey_15 => ?_)
        have rg_y_15 := i_rng y_15
        refine va_iast hx hb hK hP hD hS 14 13 rfl rfl (i := i1) (vp_of (a := i1.toInt) rfl (by omega) (by omega)) dX10_walksPattern_71 (fun H locs hP hD hS => ?_)
        generalize hf_f_16 : upd gb _ _ = f_16 at hP hD
        have hP : va_P (dC, dI) vwCl (mW ad kc x0 x1 x2 x3 x4 x5 x6 x7 x8 x9 x10 x11 x12 x13 x14 x15 x16 x17 x18 x19 x20 x21 f0 f1 f2 f3 f4 f5 f6 f7 f8 f9 f10 f11 ga f_16 gc gd ge f17 f18 f19 f20 f21 fL fN fP fM fO) H := hP
        have hD : va_D A (mW ad kc x0 x1 x2 x3 x4 x5 x6 x7 x8 x9 x10 x11 x12 x13 x14 x15 x16 x17 x18 x19 x20 x21 f0 f1 f2 f3 f4 f5 f6 f7 f8 f9 f10 f11 ga f_16 gc gd ge f17 f18 f19 f20 f21 fL fN fP fM fO) := hD
        refine lv_aload_n hx hb dX10_walksPattern_72 rfl (lv_at hl 1 rfl) ?_
        refine va_get (D := (dC, dI)) (ci := 10) (v := .ref (ad 15)) (C := RX10) (T := TX10) (N := 48) hx hb hts fin_X10_walksPatternm_X10 hown hK hP 0 rfl rfl 37 (by decide) (hts (.fieldLink RX10 77 "PatternGateModel" "tails" "[I") (List.mem_of_getElem? (i := 3) (by decide +kernel))) (fun _ h9 => h9) rfl dX10_walksPattern_73 ?_
        refine lv_iload_n hx hb dX10_walksPattern_76 rfl (lv_at hl 2 rfl) ?_
        refine lv_dup2_11 hx hb dX10_walksPattern_77 rfl rfl ?_
        refine va_iald hx hb hK hP 15 14 rfl rfl (i := i1) (vp_of (a := i1.toInt) rfl (by omega) (by omega)) dX10_walksPattern_78 ?_
        refine lv_topi (fun y_17 ey_17 => ?_)
        have rg_y_17 := i_rng y_17
        refine lv_aload_n hx hb dX10_walksPattern_79 rfl (lv_at hl 1 rfl) ?_
        refine va_get (D := (dC, dI)) (ci := 10) (v := .ref (ad 15)) (C := RX10) (T := TX10) (N := 48) hx hb hts fin_X10_walksPatternm_X10 hown hK hP 0 rfl rfl 37 (by decide) (hts (.fieldLink RX10 77 "PatternGateModel" "tails" "[I") (List.mem_of_getElem? (i := 3) (by decide +kernel))) (fun _ h9 => h9) rfl dX10_walksPattern_80 ?_
        refine lv_iload_n hx hb dX10_walksPattern_83 rfl (lv_at hl 0 rfl) ?_
        refine va_iald hx hb hK hP 15 14 rfl rfl (i := kk) (vp_of (a := kk.toInt) rfl (by omega) (by omega)) dX10_walksPattern_84 ?_
        refine lv_topi (fun y_18 ey_18 => ?_)
        have rg_y_18 := i_rng y_18
        refine lv_ior hx hb dX10_walksPattern_85 ?_
        refine lv_topi (fun y_19 ey_19 => ?_)
        have rg_y_19 := i_rng y_19
        refine va_iast hx hb hK hP hD hS 15 14 rfl rfl (i := i1) (vp_of (a := i1.toInt) rfl (by omega) (by omega)) dX10_walksPattern_86 (fun H locs hP hD hS => ?_)
        generalize hf_f_20 : upd gc _ _ = f_20 at hP hD
        have hP : va_P (dC, dI) vwCl (mW ad kc x0 x1 x2 x3 x4 x5 x6 x7 x8 x9 x10 x11 x12 x13 x14 x15 x16 x17 x18 x19 x20 x21 f0 f1 f2 f3 f4 f5 f6 f7 f8 f9 f10 f11 ga f_16 f_20 gd ge f17 f18 f19 f20 f21 fL fN fP fM fO) H := hP
        have hD : va_D A (mW ad kc x0 x1 x2 x3 x4 x5 x6 x7 x8 x9 x10 x11 x12 x13 x14 x15 x16 x17 x18 x19 x20 x21 f0 f1 f2 f3 f4 f5 f6 f7 f8 f9 f10 f11 ga f_16 f_20 gd ge f17 f18 f19 f20 f21 fL fN fP fM fO) := hD
        refine lv_aload_n hx hb dX10_walksPattern_87 rfl (lv_at hl 1 rfl) ?_
        refine va_get (D := (dC, dI)) (ci := 10) (v := .ref (ad 13)) (C := RX10) (T := TX10) (N := 48) hx hb hts fin_X10_walksPatternm_X10 hown hK hP 0 rfl rfl 35 (by decide) (hts (.fieldLink RX10 71 "PatternGateModel" "nullable" "[I") (List.mem_of_getElem? (i := 1) (by decide +kernel))) (fun _ h9 => h9) rfl dX10_walksPattern_88 ?_
        refine lv_iload_n hx hb dX10_walksPattern_91 rfl (lv_at hl 2 rfl) ?_
        refine lv_dup2_11 hx hb dX10_walksPattern_92 rfl rfl ?_
        refine va_iald hx hb hK hP 13 12 rfl rfl (i := i1) (vp_of (a := i1.toInt) rfl (by omega) (by omega)) dX10_walksPattern_93 ?_
        refine lv_topi (fun y_21 ey_21 => ?_)
        have rg_y_21 := i_rng y_21
        refine lv_aload_n hx hb dX10_walksPattern_94 rfl (lv_at hl 1 rfl) ?_
        refine va_get (D := (dC, dI)) (ci := 10) (v := .ref (ad 13)) (C := RX10) (T := TX10) (N := 48) hx hb hts fin_X10_walksPatternm_X10 hown hK hP 0 rfl rfl 35 (by decide) (hts (.fieldLink RX10 71 "PatternGateModel" "nullable" "[I") (List.mem_of_getElem? (i := 1) (by decide +kernel))) (fun _ h9 => h9) rfl dX10_walksPattern_95 ?_
        refine lv_iload_n hx hb dX10_walksPattern_98 rfl (lv_at hl 0 rfl) ?_
        refine va_iald hx hb hK hP 13 12 rfl rfl (i := kk) (vp_of (a := kk.toInt) rfl (by omega) (by omega)) dX10_walksPattern_99 ?_
        refine lv_topi (fun y_22 ey_22 => ?_)
        have rg_y_22 := i_rng y_22
        refine lv_ior hx hb dX10_walksPattern_100 ?_
        refine lv_topi (fun y_23 ey_23 => ?_)
        have rg_y_23 := i_rng y_23
        refine va_iast hx hb hK hP hD hS 13 12 rfl rfl (i := i1) (vp_of (a := i1.toInt) rfl (by omega) (by omega)) dX10_walksPattern_101 (fun H locs hP hD hS => ?_)
        generalize hf_f_24 : upd ga _ _ = f_24 at hP hD
        have hP : va_P (dC, dI) vwCl (mW ad kc x0 x1 x2 x3 x4 x5 x6 x7 x8 x9 x10 x11 x12 x13 x14 x15 x16 x17 x18 x19 x20 x21 f0 f1 f2 f3 f4 f5 f6 f7 f8 f9 f10 f11 f_24 f_16 f_20 gd ge f17 f18 f19 f20 f21 fL fN fP fM fO) H := hP
        have hD : va_D A (mW ad kc x0 x1 x2 x3 x4 x5 x6 x7 x8 x9 x10 x11 x12 x13 x14 x15 x16 x17 x18 x19 x20 x21 f0 f1 f2 f3 f4 f5 f6 f7 f8 f9 f10 f11 f_24 f_16 f_20 gd ge f17 f18 f19 f20 f21 fL fN fP fM fO) := hD
        refine lv_aload_n hx hb dX10_walksPattern_102 rfl (lv_at hl 1 rfl) ?_
        refine va_get (D := (dC, dI)) (ci := 10) (v := .ref (ad 16)) (C := RX10) (T := TX10) (N := 48) hx hb hts fin_X10_walksPatternm_X10 hown hK hP 0 rfl rfl 38 (by decide) (hts (.fieldLink RX10 80 "PatternGateModel" "fewest" "[I") (List.mem_of_getElem? (i := 4) (by decide +kernel))) (fun _ h9 => h9) rfl dX10_walksPattern_103 ?_
        refine lv_iload_n hx hb dX10_walksPattern_106 rfl (lv_at hl 2 rfl) ?_
        refine lv_aload_n hx hb dX10_walksPattern_107 rfl (lv_at hl 1 rfl) ?_
        refine va_get (D := (dC, dI)) (ci := 10) (v := .ref (ad 16)) (C := RX10) (T := TX10) (N := 48) hx hb hts fin_X10_walksPatternm_X10 hown hK hP 0 rfl rfl 38 (by decide) (hts (.fieldLink RX10 80 "PatternGateModel" "fewest" "[I") (List.mem_of_getElem? (i := 4) (by decide +kernel))) (fun _ h9 => h9) rfl dX10_walksPattern_108 ?_
        refine lv_iload_n hx hb dX10_walksPattern_111 rfl (lv_at hl 2 rfl) ?_
        refine va_iald hx hb hK hP 16 15 rfl rfl (i := i1) (vp_of (a := i1.toInt) rfl (by omega) (by omega)) dX10_walksPattern_112 ?_
        refine lv_topi (fun y_25 ey_25 => ?_)
        have rg_y_25 := i_rng y_25
        refine lv_aload_n hx hb dX10_walksPattern_113 rfl (lv_at hl 1 rfl) ?_
        refine va_get (D := (dC, dI)) (ci := 10) (v := .ref (ad 16)) (C := RX10) (T := TX10) (N := 48) hx hb hts fin_X10_walksPatternm_X10 hown hK hP 0 rfl rfl 38 (by decide) (hts (.fieldLink RX10 80 "PatternGateModel" "fewest" "[I") (List.mem_of_getElem? (i := 4) (by decide +kernel))) (fun _ h9 => h9) rfl dX10_walksPattern_114 ?_
        refine lv_iload_n hx hb dX10_walksPattern_117 rfl (lv_at hl 0 rfl) ?_
        refine va_iald hx hb hK hP 16 15 rfl rfl (i := kk) (vp_of (a := kk.toInt) rfl (by omega) (by omega)) dX10_walksPattern_118 ?_
        refine lv_topi (fun y_26 ey_26 => ?_)
        have rg_y_26 := i_rng y_26
        refine va_mmin hx hb (hml.trans hl.1.symm) hown (hts (.methodLink RX10 390 Lib.Math.min.name) (List.mem_of_getElem? (i := 7) (by decide +kernel))) (hts (.static Lib.Math.min.name) (List.mem_of_getElem? (i := 8) (by decide +kernel))) (hts (.initialized "java/lang/Math") (List.mem_of_getElem? (i := 9) (by decide +kernel))) (hts (.code Lib.Math.min.name Lib.Math.min.code 2 (some .int)) (List.mem_of_getElem? (i := 10) (by decide +kernel))) (Nat.le_of_ble_eq_true rfl) (Nat.le_of_ble_eq_true rfl) (Nat.le_of_ble_eq_true rfl) (Nat.le_of_ble_eq_true rfl) dX10_walksPattern_119 ?_
        refine lv_topi (fun y_27 ey_27 => ?_)
        have ty_27 := i_min (a := y_25.toInt) (b := y_26.toInt) rfl rfl ey_27
        refine va_iast hx hb hK hP hD hS 16 15 rfl rfl (i := i1) (vp_of (a := i1.toInt) rfl (by omega) (by omega)) dX10_walksPattern_122 (fun H locs hP hD hS => ?_)
        generalize hf_f_28 : upd gd _ _ = f_28 at hP hD
        have hP : va_P (dC, dI) vwCl (mW ad kc x0 x1 x2 x3 x4 x5 x6 x7 x8 x9 x10 x11 x12 x13 x14 x15 x16 x17 x18 x19 x20 x21 f0 f1 f2 f3 f4 f5 f6 f7 f8 f9 f10 f11 f_24 f_16 f_20 f_28 ge f17 f18 f19 f20 f21 fL fN fP fM fO) H := hP
        have hD : va_D A (mW ad kc x0 x1 x2 x3 x4 x5 x6 x7 x8 x9 x10 x11 x12 x13 x14 x15 x16 x17 x18 x19 x20 x21 f0 f1 f2 f3 f4 f5 f6 f7 f8 f9 f10 f11 f_24 f_16 f_20 f_28 ge f17 f18 f19 f20 f21 fL fN fP fM fO) := hD
        refine lv_aload_n hx hb dX10_walksPattern_123 rfl (lv_at hl 1 rfl) ?_
        refine va_get (D := (dC, dI)) (ci := 10) (v := .ref (ad 17)) (C := RX10) (T := TX10) (N := 48) hx hb hts fin_X10_walksPatternm_X10 hown hK hP 0 rfl rfl 39 (by decide) (hts (.fieldLink RX10 83 "PatternGateModel" "deep" "[I") (List.mem_of_getElem? (i := 6) (by decide +kernel))) (fun _ h9 => h9) rfl dX10_walksPattern_124 ?_
        refine lv_iload_n hx hb dX10_walksPattern_127 rfl (lv_at hl 2 rfl) ?_
        refine lv_aload_n hx hb dX10_walksPattern_128 rfl (lv_at hl 1 rfl) ?_
        refine va_get (D := (dC, dI)) (ci := 10) (v := .ref (ad 17)) (C := RX10) (T := TX10) (N := 48) hx hb hts fin_X10_walksPatternm_X10 hown hK hP 0 rfl rfl 39 (by decide) (hts (.fieldLink RX10 83 "PatternGateModel" "deep" "[I") (List.mem_of_getElem? (i := 6) (by decide +kernel))) (fun _ h9 => h9) rfl dX10_walksPattern_129 ?_
        refine lv_iload_n hx hb dX10_walksPattern_132 rfl (lv_at hl 2 rfl) ?_
        refine va_iald hx hb hK hP 17 16 rfl rfl (i := i1) (vp_of (a := i1.toInt) rfl (by omega) (by omega)) dX10_walksPattern_133 ?_
        refine lv_topi (fun y_29 ey_29 => ?_)
        have rg_y_29 := i_rng y_29
        refine lv_aload_n hx hb dX10_walksPattern_134 rfl (lv_at hl 1 rfl) ?_
        refine va_get (D := (dC, dI)) (ci := 10) (v := .ref (ad 17)) (C := RX10) (T := TX10) (N := 48) hx hb hts fin_X10_walksPatternm_X10 hown hK hP 0 rfl rfl 39 (by decide) (hts (.fieldLink RX10 83 "PatternGateModel" "deep" "[I") (List.mem_of_getElem? (i := 6) (by decide +kernel))) (fun _ h9 => h9) rfl dX10_walksPattern_135 ?_
        refine lv_iload_n hx hb dX10_walksPattern_138 rfl (lv_at hl 0 rfl) ?_
        refine va_iald hx hb hK hP 17 16 rfl rfl (i := kk) (vp_of (a := kk.toInt) rfl (by omega) (by omega)) dX10_walksPattern_139 ?_
        refine lv_topi (fun y_30 ey_30 => ?_)
        have rg_y_30 := i_rng y_30
        refine va_mmax hx hb (hml.trans hl.1.symm) hown (hts (.methodLink RX10 268 Lib.Math.max.name) (List.mem_of_getElem? (i := 11) (by decide +kernel))) (hts (.static Lib.Math.max.name) (List.mem_of_getElem? (i := 12) (by decide +kernel))) (hts (.initialized "java/lang/Math") (List.mem_of_getElem? (i := 9) (by decide +kernel))) (hts (.code Lib.Math.max.name Lib.Math.max.code 2 (some .int)) (List.mem_of_getElem? (i := 13) (by decide +kernel))) (Nat.le_of_ble_eq_true rfl) (Nat.le_of_ble_eq_true rfl) (Nat.le_of_ble_eq_true rfl) (Nat.le_of_ble_eq_true rfl) dX10_walksPattern_140 ?_
        refine lv_topi (fun y_31 ey_31 => ?_)
        have ty_31 := i_max (a := y_29.toInt) (b := y_30.toInt) rfl rfl ey_31
        refine va_iast hx hb hK hP hD hS 17 16 rfl rfl (i := i1) (vp_of (a := i1.toInt) rfl (by omega) (by omega)) dX10_walksPattern_143 (fun H locs hP hD hS => ?_)
        generalize hf_f_32 : upd ge _ _ = f_32 at hP hD
        have hP : va_P (dC, dI) vwCl (mW ad kc x0 x1 x2 x3 x4 x5 x6 x7 x8 x9 x10 x11 x12 x13 x14 x15 x16 x17 x18 x19 x20 x21 f0 f1 f2 f3 f4 f5 f6 f7 f8 f9 f10 f11 f_24 f_16 f_20 f_28 f_32 f17 f18 f19 f20 f21 fL fN fP fM fO) H := hP
        have hD : va_D A (mW ad kc x0 x1 x2 x3 x4 x5 x6 x7 x8 x9 x10 x11 x12 x13 x14 x15 x16 x17 x18 x19 x20 x21 f0 f1 f2 f3 f4 f5 f6 f7 f8 f9 f10 f11 f_24 f_16 f_20 f_28 f_32 f17 f18 f19 f20 f21 fL fN fP fM fO) := hD
        refine lv_aload_n hx hb dX10_walksPattern_144 rfl (lv_at hl 1 rfl) ?_
        refine va_get (D := (dC, dI)) (ci := 10) (v := .ref (ad 6)) (C := RX10) (T := TX10) (N := 48) hx hb hts fin_X10_walksPatternm_X10 hown hK hP 0 rfl rfl 17 (by decide) (hts (.fieldLink RX10 34 "PatternGateModel" "next" "[I") (List.mem_of_getElem? (i := 14) (by decide +kernel))) (fun _ h9 => h9) rfl dX10_walksPattern_145 ?_
        refine lv_iload_n hx hb dX10_walksPattern_148 rfl (lv_at hl 0 rfl) ?_
        refine va_iald hx hb hK hP 6 5 rfl rfl (i := kk) (vp_of (a := kk.toInt) rfl (by omega) (by omega)) dX10_walksPattern_149 ?_
        refine lv_topi (fun y_33 ey_33 => ?_)
        have rg_y_33 := i_rng y_33
        have vy_33 := vI_lda (f := f5) (i := kk) (a := kk.toInt) ey_33 (by first | omega | decide)
        have rg_y_33 := i_rng y_33
        have hNy : y_33.toInt = mV f3 f4 f5 f7 2 kk.toInt := vy_33
        refine lv_istore_n (lv' := [(2, .int y_33), (0, .ref (ad 0)), (1, .int i1)]) hx hb dX10_walksPattern_150 rfl hl (by decide) rfl (fun ls hl => ?_)
        refine lv_goto (tgt := 52) hx hb dX10_walksPattern_151 (by decide) ?_
        exact ih52 y_33 f_24 f_16 f_20 f_28 f_32 (by rw [show y_33.toInt = mV f3 f4 f5 f7 2 kk.toInt from vy_33]; exact hC3) (by omega) _ _ ls hP hD hS (lv_sub hl [0, 1, 2] rfl)
  exact loop52 _ y_8 f_1 f_2 f_3 f_6 f_7 (by rw [show y_8.toInt = mV f3 f4 f5 f7 1 i1.toInt from vy_8]; exact q1) (Nat.lt_succ_self _) _ _ ls hP hD hS (lv_sub hl [0, 1, 2] rfl)
theorem dX10_walks_0 : decode cX10_walks 0 = .ok (.aload_n 0, 1) := by decide +kernel
theorem dX10_walks_1 : decode cX10_walks 1 = .ok (.getfield 31, 3) := by decide +kernel
theorem dX10_walks_4 : decode cX10_walks 4 = .ok (.iload_n 1, 1) := by decide +kernel
theorem dX10_walks_5 : decode cX10_walks 5 = .ok (.iaload, 1) := by decide +kernel
theorem dX10_walks_6 : decode cX10_walks 6 = .ok (.istore_n 2, 1) := by decide +kernel
theorem dX10_walks_7 : decode cX10_walks 7 = .ok (.iload_n 2, 1) := by decide +kernel
theorem dX10_walks_8 : decode cX10_walks 8 = .ok (.iconst (-1), 1) := by decide +kernel
theorem dX10_walks_9 : decode cX10_walks 9 = .ok (.if_icmp .eq 18, 3) := by decide +kernel
theorem dX10_walks_27 : decode cX10_walks 27 = .ok (.aload_n 0, 1) := by decide +kernel
theorem dX10_walks_28 : decode cX10_walks 28 = .ok (.getfield 28, 3) := by decide +kernel
theorem dX10_walks_31 : decode cX10_walks 31 = .ok (.iload_n 1, 1) := by decide +kernel
theorem dX10_walks_32 : decode cX10_walks 32 = .ok (.iaload, 1) := by decide +kernel
theorem dX10_walks_33 : decode cX10_walks 33 = .ok (.tableswitch 128 0 2 #[27, 106, 120], 27) := by decide +kernel
theorem dX10_walks_60 : decode cX10_walks 60 = .ok (.aload_n 0, 1) := by decide +kernel
theorem dX10_walks_61 : decode cX10_walks 61 = .ok (.getfield 71, 3) := by decide +kernel
theorem dX10_walks_64 : decode cX10_walks 64 = .ok (.iload_n 1, 1) := by decide +kernel
theorem dX10_walks_65 : decode cX10_walks 65 = .ok (.iconst 0, 1) := by decide +kernel
theorem dX10_walks_66 : decode cX10_walks 66 = .ok (.iastore, 1) := by decide +kernel
theorem dX10_walks_67 : decode cX10_walks 67 = .ok (.aload_n 0, 1) := by decide +kernel
theorem dX10_walks_68 : decode cX10_walks 68 = .ok (.getfield 74, 3) := by decide +kernel
theorem dX10_walks_71 : decode cX10_walks 71 = .ok (.iload_n 1, 1) := by decide +kernel
theorem dX10_walks_72 : decode cX10_walks 72 = .ok (.iconst 1, 1) := by decide +kernel
theorem dX10_walks_73 : decode cX10_walks 73 = .ok (.aload_n 0, 1) := by decide +kernel
theorem dX10_walks_74 : decode cX10_walks 74 = .ok (.getfield 40, 3) := by decide +kernel
theorem dX10_walks_77 : decode cX10_walks 77 = .ok (.iload_n 1, 1) := by decide +kernel
theorem dX10_walks_78 : decode cX10_walks 78 = .ok (.iaload, 1) := by decide +kernel
theorem dX10_walks_79 : decode cX10_walks 79 = .ok (.ishl, 1) := by decide +kernel
theorem dX10_walks_80 : decode cX10_walks 80 = .ok (.iastore, 1) := by decide +kernel
theorem dX10_walks_81 : decode cX10_walks 81 = .ok (.aload_n 0, 1) := by decide +kernel
theorem dX10_walks_82 : decode cX10_walks 82 = .ok (.getfield 77, 3) := by decide +kernel
theorem dX10_walks_85 : decode cX10_walks 85 = .ok (.iload_n 1, 1) := by decide +kernel
theorem dX10_walks_86 : decode cX10_walks 86 = .ok (.aload_n 0, 1) := by decide +kernel
theorem dX10_walks_87 : decode cX10_walks 87 = .ok (.getfield 74, 3) := by decide +kernel
theorem dX10_walks_90 : decode cX10_walks 90 = .ok (.iload_n 1, 1) := by decide +kernel
theorem dX10_walks_91 : decode cX10_walks 91 = .ok (.iaload, 1) := by decide +kernel
theorem dX10_walks_92 : decode cX10_walks 92 = .ok (.iastore, 1) := by decide +kernel
theorem dX10_walks_93 : decode cX10_walks 93 = .ok (.aload_n 0, 1) := by decide +kernel
theorem dX10_walks_94 : decode cX10_walks 94 = .ok (.getfield 80, 3) := by decide +kernel
theorem dX10_walks_97 : decode cX10_walks 97 = .ok (.iload_n 1, 1) := by decide +kernel
theorem dX10_walks_98 : decode cX10_walks 98 = .ok (.iconst 1, 1) := by decide +kernel
theorem dX10_walks_99 : decode cX10_walks 99 = .ok (.iastore, 1) := by decide +kernel
theorem dX10_walks_100 : decode cX10_walks 100 = .ok (.aload_n 0, 1) := by decide +kernel
theorem dX10_walks_101 : decode cX10_walks 101 = .ok (.getfield 83, 3) := by decide +kernel
theorem dX10_walks_104 : decode cX10_walks 104 = .ok (.iload_n 1, 1) := by decide +kernel
theorem dX10_walks_105 : decode cX10_walks 105 = .ok (.iconst 1, 1) := by decide +kernel
theorem dX10_walks_106 : decode cX10_walks 106 = .ok (.iastore, 1) := by decide +kernel
theorem dX10_walks_107 : decode cX10_walks 107 = .ok (.aload_n 0, 1) := by decide +kernel
theorem dX10_walks_108 : decode cX10_walks 108 = .ok (.getfield 86, 3) := by decide +kernel
theorem dX10_walks_111 : decode cX10_walks 111 = .ok (.aload_n 0, 1) := by decide +kernel
theorem dX10_walks_112 : decode cX10_walks 112 = .ok (.getfield 40, 3) := by decide +kernel
theorem dX10_walks_115 : decode cX10_walks 115 = .ok (.iload_n 1, 1) := by decide +kernel
theorem dX10_walks_116 : decode cX10_walks 116 = .ok (.iaload, 1) := by decide +kernel
theorem dX10_walks_117 : decode cX10_walks 117 = .ok (.iconst 0, 1) := by decide +kernel
theorem dX10_walks_118 : decode cX10_walks 118 = .ok (.iastore, 1) := by decide +kernel
theorem dX10_walks_119 : decode cX10_walks 119 = .ok (.aload_n 0, 1) := by decide +kernel
theorem dX10_walks_120 : decode cX10_walks 120 = .ok (.getfield 89, 3) := by decide +kernel
theorem dX10_walks_123 : decode cX10_walks 123 = .ok (.aload_n 0, 1) := by decide +kernel
theorem dX10_walks_124 : decode cX10_walks 124 = .ok (.getfield 40, 3) := by decide +kernel
theorem dX10_walks_127 : decode cX10_walks 127 = .ok (.iload_n 1, 1) := by decide +kernel
theorem dX10_walks_128 : decode cX10_walks 128 = .ok (.iaload, 1) := by decide +kernel
theorem dX10_walks_129 : decode cX10_walks 129 = .ok (.aload_n 0, 1) := by decide +kernel
theorem dX10_walks_130 : decode cX10_walks 130 = .ok (.getfield 37, 3) := by decide +kernel
theorem dX10_walks_133 : decode cX10_walks 133 = .ok (.iload_n 1, 1) := by decide +kernel
theorem dX10_walks_134 : decode cX10_walks 134 = .ok (.iaload, 1) := by decide +kernel
theorem dX10_walks_135 : decode cX10_walks 135 = .ok (.iastore, 1) := by decide +kernel
theorem dX10_walks_136 : decode cX10_walks 136 = .ok (.goto 30, 3) := by decide +kernel
theorem dX10_walks_166 : decode cX10_walks 166 = .ok (.return_, 1) := by decide +kernel
def mwX10_walksmS : List Cond := .code yX10_walks cX10_walks 3 none :: ([.fieldLink RX10 31 "PatternGateModel" "first" "[I", .fieldLink RX10 28 "PatternGateModel" "kind" "[I", .fieldLink RX10 71 "PatternGateModel" "nullable" "[I", .fieldLink RX10 74 "PatternGateModel" "heads" "[I", .fieldLink RX10 40 "PatternGateModel" "spot" "[I", .fieldLink RX10 77 "PatternGateModel" "tails" "[I", .fieldLink RX10 80 "PatternGateModel" "fewest" "[I", .fieldLink RX10 83 "PatternGateModel" "deep" "[I", .fieldLink RX10 86 "PatternGateModel" "follow" "[I", .fieldLink RX10 89 "PatternGateModel" "lets" "[I", .fieldLink RX10 37 "PatternGateModel" "letters" "[I"] ++ wsX100)
theorem fin_X10_walksmS_X10 : ∀ w ∈ wsX100, w ∈ mwX10_walksmS := fun w h => List.mem_cons_of_mem _ (List.mem_append_right _ h)
set_option maxHeartbeats 4000000 in
set_option maxRecDepth 100000 in
theorem m_walksS (l : Launch) (dC : Nat → ClassId) (dI : Nat → Nat → Nat) (ad : Nat → Nat) (kc : Nat → ClassId) (x0 x1 x2 x3 x4 x5 x6 x7 x8 x9 x10 x11 x12 x13 x14 x15 x16 x17 x18 x19 x20 x21 : Int32) (f0 f1 f2 f3 f4 f5 f6 f7 f8 f9 f10 f11 f12 f13 f14 f15 f16 f17 f18 f19 f20 f21 : Nat → Int32) (fL : Nat → Nat → Int64) (fN : Nat → Nat → Int32) (fP : Nat → Nat → Nat) (fM : Nat → Nat → Int32) (fO : Nat → Nat → Int32) (sz : Nat) (i1 : Int32) (hi : Int) (m9 : Int) (q0 : 0 ≤ i1.toInt ∧ i1.toInt < 1600) (q1 : tSpot (mV f3 f4 f5 f7) i1.toInt hi m9) : Met l yX10_walks mwX10_walksmS ({ frames := 1, cells := 0, slots := 0, locals := 60 }) (va_Pc [.ref (ad 0), .int i1] (fun U => U.heap.size = sz ∧ va_P (dC, dI) vwCl (mW ad kc x0 x1 x2 x3 x4 x5 x6 x7 x8 x9 x10 x11 x12 x13 x14 x15 x16 x17 x18 x19 x20 x21 f0 f1 f2 f3 f4 f5 f6 f7 f8 f9 f10 f11 f12 f13 f14 f15 f16 f17 f18 f19 f20 f21 fL fN fP fM fO) U.heap ∧ va_K (dC, dI) vwCl (mT kc) U ∧ va_D (fun _ => True) (mW ad kc x0 x1 x2 x3 x4 x5 x6 x7 x8 x9 x10 x11 x12 x13 x14 x15 x16 x17 x18 x19 x20 x21 f0 f1 f2 f3 f4 f5 f6 f7 f8 f9 f10 f11 f12 f13 f14 f15 f16 f17 f18 f19 f20 f21 fL fN fP fM fO))) (va_Qv (fun (_ : Unit) => True) (fun _ t => ∃ (g12 g13 g14 g15 g16 g17 g18 : Nat → Int32), va_P (dC, dI) vwCl (mW ad kc x0 x1 x2 x3 x4 x5 x6 x7 x8 x9 x10 x11 x12 x13 x14 x15 x16 x17 x18 x19 x20 x21 f0 f1 f2 f3 f4 f5 f6 f7 f8 f9 f10 f11 g12 g13 g14 g15 g16 g17 g18 f19 f20 f21 fL fN fP fM fO) t.heap ∧ va_K (dC, dI) vwCl (mT kc) t ∧ va_D (va_A (mW ad kc x0 x1 x2 x3 x4 x5 x6 x7 x8 x9 x10 x11 x12 x13 x14 x15 x16 x17 x18 x19 x20 x21 f0 f1 f2 f3 f4 f5 f6 f7 f8 f9 f10 f11 f12 f13 f14 f15 f16 f17 f18 f19 f20 f21 fL fN fP fM fO) sz) (mW ad kc x0 x1 x2 x3 x4 x5 x6 x7 x8 x9 x10 x11 x12 x13 x14 x15 x16 x17 x18 x19 x20 x21 f0 f1 f2 f3 f4 f5 f6 f7 f8 f9 f10 f11 g12 g13 g14 g15 g16 g17 g18 f19 f20 f21 fL fN fP fM fO)) (va_A (mW ad kc x0 x1 x2 x3 x4 x5 x6 x7 x8 x9 x10 x11 x12 x13 x14 x15 x16 x17 x18 x19 x20 x21 f0 f1 f2 f3 f4 f5 f6 f7 f8 f9 f10 f11 f12 f13 f14 f15 f16 f17 f18 f19 f20 f21 fL fN fP fM fO) sz)) 0 0 (va_A (mW ad kc x0 x1 x2 x3 x4 x5 x6 x7 x8 x9 x10 x11 x12 x13 x14 x15 x16 x17 x18 x19 x20 x21 f0 f1 f2 f3 f4 f5 f6 f7 f8 f9 f10 f11 f12 f13 f14 f15 f16 f17 f18 f19 f20 f21 fL fN fP fM fO) sz) := by
  refine Met.ofW (cc := cX10_walks) (maxL := 3) (ret := none) (by decide +kernel) rfl ?_
  intro p e s m args below meth c s₁ B hml hv
  obtain ⟨rfl, hsz, hP, hK, hD0⟩ := hv
  have hx := B.exec
  have hb := B.bytes
  have hr := B.returns
  have hts := atoms_spec (ws := mwX10_walksmS) B.pre
  have hown : s.vm.findClass RX10 = some m.cls := findClass_of_methodNamed B.named
  have hlocks := B.notSynchronized
  subst hsz
  have hD := hD0.self (sz := s.heap.size)
  generalize hAe : va_A (mW ad kc x0 x1 x2 x3 x4 x5 x6 x7 x8 x9 x10 x11 x12 x13 x14 x15 x16 x17 x18 x19 x20 x21 f0 f1 f2 f3 f4 f5 f6 f7 f8 f9 f10 f11 f12 f13 f14 f15 f16 f17 f18 f19 f20 f21 fL fN fP fM fO) s.heap.size = A at hD ⊢
  have hA : ∀ q : Nat, s.heap.size ≤ q → A q := fun q h => by rw [← hAe]; exact Or.inr h
  have hP : va_P (dC, dI) vwCl (mW ad kc x0 x1 x2 x3 x4 x5 x6 x7 x8 x9 x10 x11 x12 x13 x14 x15 x16 x17 x18 x19 x20 x21 f0 f1 f2 f3 f4 f5 f6 f7 f8 f9 f10 f11 f12 f13 f14 f15 f16 f17 f18 f19 f20 f21 fL fN fP fM fO) s.heap := hP
  have hD : va_D A (mW ad kc x0 x1 x2 x3 x4 x5 x6 x7 x8 x9 x10 x11 x12 x13 x14 x15 x16 x17 x18 x19 x20 x21 f0 f1 f2 f3 f4 f5 f6 f7 f8 f9 f10 f11 f12 f13 f14 f15 f16 f17 f18 f19 f20 f21 fL fN fP fM fO) := hD
  have hK : va_K (dC, dI) vwCl (mT kc) s := hK
  generalize hH : s.heap = H at hP ⊢
  have hS : va_S A s.heap H [] := by rw [← hH]; exact va_S.rf
  have hl := lv_entry ([.ref (ad 0), .int i1]) (n := 3) (Nat.le_of_ble_eq_true rfl)
  rw [lg_entry_eq]
  generalize (lg_sl ([.ref (ad 0), .int i1]) ++ List.replicate (3 - (lg_sl ([.ref (ad 0), .int i1])).length) Slot.unset).toArray = ls at hl ⊢
  have hl : lv_has ls 3 [(0, .ref (ad 0)), (1, .int i1)] := hl
  have rg_i1 := i_rng i1
  have hk1 : vI f4 i1.toInt = -1 := q1.2.1
  have hk2 : vI f3 i1.toInt = 0 := q1.1
  have hk3 : 0 ≤ vI f7 i1.toInt ∧ vI f7 i1.toInt < 24 := q1.2.2.1
  refine lv_aload_n hx hb dX10_walks_0 rfl (lv_at hl 0 rfl) ?_
  refine va_get (D := (dC, dI)) (ci := 10) (v := .ref (ad 5)) (C := RX10) (T := TX10) (N := 48) hx hb hts fin_X10_walksmS_X10 hown hK hP 0 rfl rfl 16 (by decide) (hts (.fieldLink RX10 31 "PatternGateModel" "first" "[I") (List.mem_of_getElem? (i := 1) (by decide +kernel))) (fun _ h9 => h9) rfl dX10_walks_1 ?_
  refine lv_iload_n hx hb dX10_walks_4 rfl (lv_at hl 1 rfl) ?_
  refine va_iald hx hb hK hP 5 4 rfl rfl (i := i1) (vp_of (a := i1.toInt) rfl (by omega) (by omega)) dX10_walks_5 ?_
  refine lv_topi (fun y_1 ey_1 => ?_)
  have rg_y_1 := i_rng y_1
  have vy_1 := vI_lda (f := f4) (i := i1) (a := i1.toInt) ey_1 (by first | omega | decide)
  have rg_y_1 := i_rng y_1
  refine lv_istore_n (lv' := [(2, .int y_1), (0, .ref (ad 0)), (1, .int i1)]) hx hb dX10_walks_6 rfl hl (by decide) rfl (fun ls hl => ?_)
  refine lv_iload_n hx hb dX10_walks_7 rfl (lv_at hl 0 rfl) ?_
  refine lv_iconst (v := (-1)) hx hb dX10_walks_8 (by decide) ?_
  refine lv_icmp_eq (tgt := 27) hx hb dX10_walks_9 (by decide) (fun k_2 => ?_) (fun k_2 => absurd (Int32.toInt_inj.mp (by have h8 : ((-1) : Int32).toInt = -1 := (by decide); omega)) k_2)
  have tk_2 := c_eq (a := y_1.toInt) (b := (-1)) rfl (by decide) k_2
  refine lv_aload_n hx hb dX10_walks_27 rfl (lv_at hl 1 rfl) ?_
  refine va_get (D := (dC, dI)) (ci := 10) (v := .ref (ad 4)) (C := RX10) (T := TX10) (N := 48) hx hb hts fin_X10_walksmS_X10 hown hK hP 0 rfl rfl 15 (by decide) (hts (.fieldLink RX10 28 "PatternGateModel" "kind" "[I") (List.mem_of_getElem? (i := 2) (by decide +kernel))) (fun _ h9 => h9) rfl dX10_walks_28 ?_
  refine lv_iload_n hx hb dX10_walks_31 rfl (lv_at hl 2 rfl) ?_
  refine va_iald hx hb hK hP 4 3 rfl rfl (i := i1) (vp_of (a := i1.toInt) rfl (by omega) (by omega)) dX10_walks_32 ?_
  refine lv_topi (fun y_3 ey_3 => ?_)
  have rg_y_3 := i_rng y_3
  have vy_3 := vI_lda (f := f3) (i := i1) (a := i1.toInt) ey_3 (by first | omega | decide)
  have rg_y_3 := i_rng y_3
  refine lv_tableIn (off := 27) (tgt := 60) hx hb dX10_walks_33 (by omega) (by omega) (by rw [show (y_3.toInt - 0).toNat = 0 by omega]; rfl) (by decide) ?_
  refine lv_aload_n hx hb dX10_walks_60 rfl (lv_at hl 1 rfl) ?_
  refine va_get (D := (dC, dI)) (ci := 10) (v := .ref (ad 13)) (C := RX10) (T := TX10) (N := 48) hx hb hts fin_X10_walksmS_X10 hown hK hP 0 rfl rfl 35 (by decide) (hts (.fieldLink RX10 71 "PatternGateModel" "nullable" "[I") (List.mem_of_getElem? (i := 3) (by decide +kernel))) (fun _ h9 => h9) rfl dX10_walks_61 ?_
  refine lv_iload_n hx hb dX10_walks_64 rfl (lv_at hl 2 rfl) ?_
  refine lv_iconst (v := 0) hx hb dX10_walks_65 (by decide) ?_
  refine va_iast hx hb hK hP hD hS 13 12 rfl rfl (i := i1) (vp_of (a := i1.toInt) rfl (by omega) (by omega)) dX10_walks_66 (fun H locs hP hD hS => ?_)
  generalize hf_f_4 : upd f12 _ _ = f_4 at hP hD
  have hP : va_P (dC, dI) vwCl (mW ad kc x0 x1 x2 x3 x4 x5 x6 x7 x8 x9 x10 x11 x12 x13 x14 x15 x16 x17 x18 x19 x20 x21 f0 f1 f2 f3 f4 f5 f6 f7 f8 f9 f10 f11 f_4 f13 f14 f15 f16 f17 f18 f19 f20 f21 fL fN fP fM fO) H := hP
  have hD : va_D A (mW ad kc x0 x1 x2 x3 x4 x5 x6 x7 x8 x9 x10 x11 x12 x13 x14 x15 x16 x17 x18 x19 x20 x21 f0 f1 f2 f3 f4 f5 f6 f7 f8 f9 f10 f11 f_4 f13 f14 f15 f16 f17 f18 f19 f20 f21 fL fN fP fM fO) := hD
  refine lv_aload_n hx hb dX10_walks_67 rfl (lv_at hl 1 rfl) ?_
  refine va_get (D := (dC, dI)) (ci := 10) (v := .ref (ad 14)) (C := RX10) (T := TX10) (N := 48) hx hb hts fin_X10_walksmS_X10 hown hK hP 0 rfl rfl 36 (by decide) (hts (.fieldLink RX10 74 "PatternGateModel" "heads" "[I") (List.mem_of_getElem? (i := 4) (by decide +kernel))) (fun _ h9 => h9) rfl dX10_walks_68 ?_
  refine lv_iload_n hx hb dX10_walks_71 rfl (lv_at hl 2 rfl) ?_
  refine lv_iconst (v := 1) hx hb dX10_walks_72 (by decide) ?_
  refine lv_aload_n hx hb dX10_walks_73 rfl (lv_at hl 1 rfl) ?_
  refine va_get (D := (dC, dI)) (ci := 10) (v := .ref (ad 8)) (C := RX10) (T := TX10) (N := 48) hx hb hts fin_X10_walksmS_X10 hown hK hP 0 rfl rfl 19 (by decide) (hts (.fieldLink RX10 40 "PatternGateModel" "spot" "[I") (List.mem_of_getElem? (i := 5) (by decide +kernel))) (fun _ h9 => h9) rfl dX10_walks_74 ?_
  refine lv_iload_n hx hb dX10_walks_77 rfl (lv_at hl 2 rfl) ?_
  refine va_iald hx hb hK hP 8 7 rfl rfl (i := i1) (vp_of (a := i1.toInt) rfl (by omega) (by omega)) dX10_walks_78 ?_
  refine lv_topi (fun y_5 ey_5 => ?_)
  have rg_y_5 := i_rng y_5
  have vy_5 := vI_lda (f := f7) (i := i1) (a := i1.toInt) ey_5 (by first | omega | decide)
  have rg_y_5 := i_rng y_5
  refine lv_ishl hx hb dX10_walks_79 ?_
  refine lv_topi (fun y_6 ey_6 => ?_)
  have rg_y_6 := i_rng y_6
  refine va_iast hx hb hK hP hD hS 14 13 rfl rfl (i := i1) (vp_of (a := i1.toInt) rfl (by omega) (by omega)) dX10_walks_80 (fun H locs hP hD hS => ?_)
  generalize hf_f_7 : upd f13 _ _ = f_7 at hP hD
  have hP : va_P (dC, dI) vwCl (mW ad kc x0 x1 x2 x3 x4 x5 x6 x7 x8 x9 x10 x11 x12 x13 x14 x15 x16 x17 x18 x19 x20 x21 f0 f1 f2 f3 f4 f5 f6 f7 f8 f9 f10 f11 f_4 f_7 f14 f15 f16 f17 f18 f19 f20 f21 fL fN fP fM fO) H := hP
  have hD : va_D A (mW ad kc x0 x1 x2 x3 x4 x5 x6 x7 x8 x9 x10 x11 x12 x13 x14 x15 x16 x17 x18 x19 x20 x21 f0 f1 f2 f3 f4 f5 f6 f7 f8 f9 f10 f11 f_4 f_7 f14 f15 f16 f17 f18 f19 f20 f21 fL fN fP fM fO) := hD
  refine lv_aload_n hx hb dX10_walks_81 rfl (lv_at hl 1 rfl) ?_
  refine va_get (D := (dC, dI)) (ci := 10) (v := .ref (ad 15)) (C := RX10) (T := TX10) (N := 48) hx hb hts fin_X10_walksmS_X10 hown hK hP 0 rfl rfl 37 (by decide) (hts (.fieldLink RX10 77 "PatternGateModel" "tails" "[I") (List.mem_of_getElem? (i := 6) (by decide +kernel))) (fun _ h9 => h9) rfl dX10_walks_82 ?_
  refine lv_iload_n hx hb dX10_walks_85 rfl (lv_at hl 2 rfl) ?_
  refine lv_aload_n hx hb dX10_walks_86 rfl (lv_at hl 1 rfl) ?_
  refine va_get (D := (dC, dI)) (ci := 10) (v := .ref (ad 14)) (C := RX10) (T := TX10) (N := 48) hx hb hts fin_X10_walksmS_X10 hown hK hP 0 rfl rfl 36 (by decide) (hts (.fieldLink RX10 74 "PatternGateModel" "heads" "[I") (List.mem_of_getElem? (i := 4) (by decide +kernel))) (fun _ h9 => h9) rfl dX10_walks_87 ?_
  refine lv_iload_n hx hb dX10_walks_90 rfl (lv_at hl 2 rfl) ?_
  refine va_iald hx hb hK hP 14 13 rfl rfl (i := i1) (vp_of (a := i1.toInt) rfl (by omega) (by omega)) dX10_walks_91 ?_
  refine lv_topi (fun y_8 ey_8 => ?_)
  have rg_y_8 := i_rng y_8
  refine va_iast hx hb hK hP hD hS 15 14 rfl rfl (i := i1) (vp_of (a := i1.toInt) rfl (by omega) (by omega)) dX10_walks_92 (fun H locs hP hD hS => ?_)
  generalize hf_f_9 : upd f14 _ _ = f_9 at hP hD
  have hP : va_P (dC, dI) vwCl (mW ad kc x0 x1 x2 x3 x4 x5 x6 x7 x8 x9 x10 x11 x12 x13 x14 x15 x16 x17 x18 x19 x20 x21 f0 f1 f2 f3 f4 f5 f6 f7 f8 f9 f10 f11 f_4 f_7 f_9 f15 f16 f17 f18 f19 f20 f21 fL fN fP fM fO) H := hP
  have hD : va_D A (mW ad kc x0 x1 x2 x3 x4 x5 x6 x7 x8 x9 x10 x11 x12 x13 x14 x15 x16 x17 x18 x19 x20 x21 f0 f1 f2 f3 f4 f5 f6 f7 f8 f9 f10 f11 f_4 f_7 f_9 f15 f16 f17 f18 f19 f20 f21 fL fN fP fM fO) := hD
  refine lv_aload_n hx hb dX10_walks_93 rfl (lv_at hl 1 rfl) ?_
  refine va_get (D := (dC, dI)) (ci := 10) (v := .ref (ad 16)) (C := RX10) (T := TX10) (N := 48) hx hb hts fin_X10_walksmS_X10 hown hK hP 0 rfl rfl 38 (by decide) (hts (.fieldLink RX10 80 "PatternGateModel" "fewest" "[I") (List.mem_of_getElem? (i := 7) (by decide +kernel))) (fun _ h9 => h9) rfl dX10_walks_94 ?_
  refine lv_iload_n hx hb dX10_walks_97 rfl (lv_at hl 2 rfl) ?_
  refine lv_iconst (v := 1) hx hb dX10_walks_98 (by decide) ?_
  refine va_iast hx hb hK hP hD hS 16 15 rfl rfl (i := i1) (vp_of (a := i1.toInt) rfl (by omega) (by omega)) dX10_walks_99 (fun H locs hP hD hS => ?_)
  generalize hf_f_10 : upd f15 _ _ = f_10 at hP hD
  have hP : va_P (dC, dI) vwCl (mW ad kc x0 x1 x2 x3 x4 x5 x6 x7 x8 x9 x10 x11 x12 x13 x14 x15 x16 x17 x18 x19 x20 x21 f0 f1 f2 f3 f4 f5 f6 f7 f8 f9 f10 f11 f_4 f_7 f_9 f_10 f16 f17 f18 f19 f20 f21 fL fN fP fM fO) H := hP
  have hD : va_D A (mW ad kc x0 x1 x2 x3 x4 x5 x6 x7 x8 x9 x10 x11 x12 x13 x14 x15 x16 x17 x18 x19 x20 x21 f0 f1 f2 f3 f4 f5 f6 f7 f8 f9 f10 f11 f_4 f_7 f_9 f_10 f16 f17 f18 f19 f20 f21 fL fN fP fM fO) := hD
  refine lv_aload_n hx hb dX10_walks_100 rfl (lv_at hl 1 rfl) ?_
  refine va_get (D := (dC, dI)) (ci := 10) (v := .ref (ad 17)) (C := RX10) (T := TX10) (N := 48) hx hb hts fin_X10_walksmS_X10 hown hK hP 0 rfl rfl 39 (by decide) (hts (.fieldLink RX10 83 "PatternGateModel" "deep" "[I") (List.mem_of_getElem? (i := 8) (by decide +kernel))) (fun _ h9 => h9) rfl dX10_walks_101 ?_
  refine lv_iload_n hx hb dX10_walks_104 rfl (lv_at hl 2 rfl) ?_
  refine lv_iconst (v := 1) hx hb dX10_walks_105 (by decide) ?_
  refine va_iast hx hb hK hP hD hS 17 16 rfl rfl (i := i1) (vp_of (a := i1.toInt) rfl (by omega) (by omega)) dX10_walks_106 (fun H locs hP hD hS => ?_)
  generalize hf_f_11 : upd f16 _ _ = f_11 at hP hD
  have hP : va_P (dC, dI) vwCl (mW ad kc x0 x1 x2 x3 x4 x5 x6 x7 x8 x9 x10 x11 x12 x13 x14 x15 x16 x17 x18 x19 x20 x21 f0 f1 f2 f3 f4 f5 f6 f7 f8 f9 f10 f11 f_4 f_7 f_9 f_10 f_11 f17 f18 f19 f20 f21 fL fN fP fM fO) H := hP
  have hD : va_D A (mW ad kc x0 x1 x2 x3 x4 x5 x6 x7 x8 x9 x10 x11 x12 x13 x14 x15 x16 x17 x18 x19 x20 x21 f0 f1 f2 f3 f4 f5 f6 f7 f8 f9 f10 f11 f_4 f_7 f_9 f_10 f_11 f17 f18 f19 f20 f21 fL fN fP fM fO) := hD
  refine lv_aload_n hx hb dX10_walks_107 rfl (lv_at hl 1 rfl) ?_
  refine va_get (D := (dC, dI)) (ci := 10) (v := .ref (ad 18)) (C := RX10) (T := TX10) (N := 48) hx hb hts fin_X10_walksmS_X10 hown hK hP 0 rfl rfl 40 (by decide) (hts (.fieldLink RX10 86 "PatternGateModel" "follow" "[I") (List.mem_of_getElem? (i := 9) (by decide +kernel))) (fun _ h9 => h9) rfl dX10_walks_108 ?_
  refine lv_aload_n hx hb dX10_walks_111 rfl (lv_at hl 1 rfl) ?_
  refine va_get (D := (dC, dI)) (ci := 10) (v := .ref (ad 8)) (C := RX10) (T := TX10) (N := 48) hx hb hts fin_X10_walksmS_X10 hown hK hP 0 rfl rfl 19 (by decide) (hts (.fieldLink RX10 40 "PatternGateModel" "spot" "[I") (List.mem_of_getElem? (i := 5) (by decide +kernel))) (fun _ h9 => h9) rfl dX10_walks_112 ?_
  refine lv_iload_n hx hb dX10_walks_115 rfl (lv_at hl 2 rfl) ?_
  refine va_iald hx hb hK hP 8 7 rfl rfl (i := i1) (vp_of (a := i1.toInt) rfl (by omega) (by omega)) dX10_walks_116 ?_
  refine lv_topi (fun y_12 ey_12 => ?_)
  have rg_y_12 := i_rng y_12
  have vy_12 := vI_lda (f := f7) (i := i1) (a := i1.toInt) ey_12 (by first | omega | decide)
  have rg_y_12 := i_rng y_12
  refine lv_iconst (v := 0) hx hb dX10_walks_117 (by decide) ?_
  refine va_iast hx hb hK hP hD hS 18 17 rfl rfl (i := y_12) (vp_of (a := y_12.toInt) rfl (by omega) (by omega)) dX10_walks_118 (fun H locs hP hD hS => ?_)
  generalize hf_f_13 : upd f17 _ _ = f_13 at hP hD
  have hP : va_P (dC, dI) vwCl (mW ad kc x0 x1 x2 x3 x4 x5 x6 x7 x8 x9 x10 x11 x12 x13 x14 x15 x16 x17 x18 x19 x20 x21 f0 f1 f2 f3 f4 f5 f6 f7 f8 f9 f10 f11 f_4 f_7 f_9 f_10 f_11 f_13 f18 f19 f20 f21 fL fN fP fM fO) H := hP
  have hD : va_D A (mW ad kc x0 x1 x2 x3 x4 x5 x6 x7 x8 x9 x10 x11 x12 x13 x14 x15 x16 x17 x18 x19 x20 x21 f0 f1 f2 f3 f4 f5 f6 f7 f8 f9 f10 f11 f_4 f_7 f_9 f_10 f_11 f_13 f18 f19 f20 f21 fL fN fP fM fO) := hD
  refine lv_aload_n hx hb dX10_walks_119 rfl (lv_at hl 1 rfl) ?_
  refine va_get (D := (dC, dI)) (ci := 10) (v := .ref (ad 19)) (C := RX10) (T := TX10) (N := 48) hx hb hts fin_X10_walksmS_X10 hown hK hP 0 rfl rfl 41 (by decide) (hts (.fieldLink RX10 89 "PatternGateModel" "lets" "[I") (List.mem_of_getElem? (i := 10) (by decide +kernel))) (fun _ h9 => h9) rfl dX10_walks_120 ?_
  refine lv_aload_n hx hb dX10_walks_123 rfl (lv_at hl 1 rfl) ?_
  refine va_get (D := (dC, dI)) (ci := 10) (v := .ref (ad 8)) (C := RX10) (T := TX10) (N := 48) hx hb hts fin_X10_walksmS_X10 hown hK hP 0 rfl rfl 19 (by decide) (hts (.fieldLink RX10 40 "PatternGateModel" "spot" "[I") (List.mem_of_getElem? (i := 5) (by decide +kernel))) (fun _ h9 => h9) rfl dX10_walks_124 ?_
  refine lv_iload_n hx hb dX10_walks_127 rfl (lv_at hl 2 rfl) ?_
  refine va_iald hx hb hK hP 8 7 rfl rfl (i := i1) (vp_of (a := i1.toInt) rfl (by omega) (by omega)) dX10_walks_128 ?_
  refine lv_topi (fun y_14 ey_14 => ?_)
  have rg_y_14 := i_rng y_14
  have vy_14 := vI_lda (f := f7) (i := i1) (a := i1.toInt) ey_14 (by first | omega | decide)
  have rg_y_14 := i_rng y_14
  refine lv_aload_n hx hb dX10_walks_129 rfl (lv_at hl 1 rfl) ?_
  refine va_get (D := (dC, dI)) (ci := 10) (v := .ref (ad 7)) (C := RX10) (T := TX10) (N := 48) hx hb hts fin_X10_walksmS_X10 hown hK hP 0 rfl rfl 18 (by decide) (hts (.fieldLink RX10 37 "PatternGateModel" "letters" "[I") (List.mem_of_getElem? (i := 11) (by decide +kernel))) (fun _ h9 => h9) rfl dX10_walks_130 ?_
  refine lv_iload_n hx hb dX10_walks_133 rfl (lv_at hl 2 rfl) ?_
  refine va_iald hx hb hK hP 7 6 rfl rfl (i := i1) (vp_of (a := i1.toInt) rfl (by omega) (by omega)) dX10_walks_134 ?_
  refine lv_topi (fun y_15 ey_15 => ?_)
  have rg_y_15 := i_rng y_15
  refine va_iast hx hb hK hP hD hS 19 18 rfl rfl (i := y_14) (vp_of (a := y_14.toInt) rfl (by omega) (by omega)) dX10_walks_135 (fun H locs hP hD hS => ?_)
  generalize hf_f_16 : upd f18 _ _ = f_16 at hP hD
  have hP : va_P (dC, dI) vwCl (mW ad kc x0 x1 x2 x3 x4 x5 x6 x7 x8 x9 x10 x11 x12 x13 x14 x15 x16 x17 x18 x19 x20 x21 f0 f1 f2 f3 f4 f5 f6 f7 f8 f9 f10 f11 f_4 f_7 f_9 f_10 f_11 f_13 f_16 f19 f20 f21 fL fN fP fM fO) H := hP
  have hD : va_D A (mW ad kc x0 x1 x2 x3 x4 x5 x6 x7 x8 x9 x10 x11 x12 x13 x14 x15 x16 x17 x18 x19 x20 x21 f0 f1 f2 f3 f4 f5 f6 f7 f8 f9 f10 f11 f_4 f_7 f_9 f_10 f_11 f_13 f_16 f19 f20 f21 fL fN fP fM fO) := hD
  refine lv_goto (tgt := 166) hx hb dX10_walks_136 (by decide) ?_
  exact W.vret hx hb hr (fun t ht hW => ⟨⟨(), rfl, trivial, f_4, f_7, f_9, f_10, f_11, f_13, f_16, by rw [ht]; exact hP, va_K.moved hW.alike hK, hD⟩, hS.F ht⟩) hS.2.2 dX10_walks_166

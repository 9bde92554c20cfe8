section QB
variable {p : Program} {l : Launch} {e : Env} {R : Room} {s : State} {m : MethodId} {args : Array Value} {below : List Frame} {meth : Method} {c : Code} {H : Heap} {locs : List Loc} {cells slots : Nat} {Q : State → Prop}
variable {cc : ByteArray} {pc : Nat} {ls : Array Slot} {rest : List Value} {D : va_G} {cl : List vw_C} {A : Nat → Prop} {a : Nat} {tys T9 : List (ClassId × FieldType)} {ws W9 : va_W} {H0 : Heap}
/-- System.arraycopy of references out of an array of the pool -/
theorem q_copyq (hx : p.tables.exec = Jvm.exec) (hb : c.code = cc) (hml : c.maxLocals = ls.size) {own : String} {index : Nat} (hown : s.vm.findClass own = some m.cls) (hlink : (Cond.methodLink own index arraycopyName).before args s = true) (hnat : (Cond.native arraycopyName).before args s = true) (hstat : (Cond.static arraycopyName).before args s = true) (hini : (Cond.initialized "java/lang/System").before args s = true)
    (hQ : va_P D cl W9 H) (hKQ : va_K D cl T9 s) (hno : ∀ q ∈ W9, ¬ A q.1) (hK : va_K D cl tys s) (hP : va_P D cl ws H) (hD : va_D A ws) (hS : va_S A H0 H locs) (q0 q1 t0 t1 : Nat) {a0 : Nat} {c0 c1 : ClassId} {n0 n1 : Nat} {f g : Nat → Option Nat} {E0 E1 C : String} (ha0 : W9[q0]? = some (a0, .inl (c0, n0, .inr (.inr (.inr (.inr f)))))) (ha1 : ws[q1]? = some (a, .inl (c1, n1, .inr (.inr (.inr (.inr g)))))) (ht0 : T9[t0]? = some (c0, .object E0)) (ht1 : tys[t1]? = some (c1, .object E1))
    {sp dp n : Int32} (h1 : ¬ sp < 0) (h2 : ¬ dp < 0) (h3 : ¬ n < 0) (h4 : sp.toNatClampNeg + n.toNatClampNeg ≤ n0) (h5 : dp.toNatClampNeg + n.toNatClampNeg ≤ n1) (hel : ∀ i : Nat, i < n.toNatClampNeg → ∀ y : Nat, f (sp.toNatClampNeg + i) = some y → ∃ cellV : Cell, H[y]? = some cellV ∧ cellV.vm.isStatics = false ∧ s.vm.findClass C = some cellV.cls) (hasg : ∀ comp c0 : ClassId, s.vm.findClass E1 = some comp → s.vm.findClass C = some c0 → s.vm.assignable c0 comp = true)
    (hframes : 1 ≤ R.frames) (hlocals : (rest.map fun v => v.category).sum + (nativeFrameWords "java/lang/System" "arraycopy" 5 + 11) ≤ R.locals) (hdg : decode cc pc = .ok (.invokestatic index, 3))
    (kk : ∀ (H1 : Heap) (locs1 : List Loc), va_P D cl (ws.set q1 (a, .inl (c1, n1, .inr (.inr (.inr (.inr (va_cpy f g sp.toNatClampNeg dp.toNatClampNeg n.toNatClampNeg))))))) H1 → va_D A (ws.set q1 (a, .inl (c1, n1, .inr (.inr (.inr (.inr (va_cpy f g sp.toNatClampNeg dp.toNatClampNeg n.toNatClampNeg))))))) → va_S A H0 H1 locs1 → W p l e R s m args below meth c H1 locs1 cells slots Q (F0 m (pc + 3) ls rest)) : W p l e R s m args below meth c H locs cells slots Q (F0 m pc ls (.int n :: .int dp :: .ref a :: .int sp :: .ref a0 :: rest)) := by
  have up : ∀ z : Int32, ¬ z < 0 → z.toInt = (z.toNatClampNeg : Int) := fun z hz => by
    have h := Int32.le_iff_toInt_le.mp (Int32.not_lt.mp hz)
    have h0 : (0 : Int32).toInt = 0 := by decide
    show z.toInt = ((z.toInt.toNat : Nat) : Int)
    omega
  have b0 : H[a0]? = some (vp_cell c0 (n0, .inr (.inr (.inr (.inr f))))) := hQ q0 _ ha0
  have b1 : H[a]? = some (vp_cell c1 (n1, .inr (.inr (.inr (.inr g))))) := hP q1 _ ha1
  have hAa : A a := hD.2 q1 _ ha1
  have z0 : (vp_cell c0 (n0, .inr (.inr (.inr (.inr f))))).slots.size = n0 := by rw [vp_cell_q]; exact arrV_size _ _ _
  have z1 : (vp_cell c1 (n1, .inr (.inr (.inr (.inr g))))).slots.size = n1 := by rw [vp_cell_q]; exact arrV_size _ _ _
  have rd : ∀ i : Nat, i < n.toNatClampNeg → (vp_cell c0 (n0, .inr (.inr (.inr (.inr f))))).slots.getD (sp.toNatClampNeg + i) .null = va_rf (f (sp.toNatClampNeg + i)) := fun i hi => by
    rw [vp_cell_q, Array.getD_eq_getD_getElem?, arrV_read _ _ (by omega)]
    rfl
  obtain ⟨-, k0, r0, m0, i0⟩ := (hKQ.2 t0 _ ht0).1 n0 (fun j => va_rf (f j))
  obtain ⟨-, k1, r1, m1, i1⟩ := (hK.2 t1 _ ht1).1 n1 (fun j => va_rf (g j))
  intro T hT X
  obtain ⟨vm', X', step⟩ := X.arraycopy hx hown hlink hnat hstat hini (src := a0) (dst := a) (cs := (vp_cell c0 (n0, .inr (.inr (.inr (.inr f)))))) (cd := (vp_cell c1 (n1, .inr (.inr (.inr (.inr g)))))) (srcPos := sp) (destPos := dp) (n := n) (by rw [hT]; exact b0) (by rw [hT]; exact b1)
    (fun _ h => by cases h) (fun _ h => by cases h) (fun h => by cases h) (fun h => by cases h) r0 r1 i0 i1 rfl h1 h2 h3 (by rw [z0, up sp h1, up n h3]; omega) (by rw [z1, up dp h2, up n h3]; omega)
    (fun vm₁ hal i hi => by
      rw [rd i hi]
      cases hy : f (sp.toNatClampNeg + i) with
      | none => exact ⟨rfl, trivial⟩
      | some y =>
        obtain ⟨cellV, g1, g2, g3⟩ := hel i hi y hy
        obtain ⟨kA, comp, e1, e2, e3, -⟩ := (hK.2 t1 _ ht1).2
        cases r1.symm.trans e1
        cases i1.symm.trans e2
        obtain ⟨kC, hkC, -⟩ := Vm.findClass_spec g3
        obtain ⟨kE, hkE, -⟩ := Vm.findClass_spec e3
        obtain ⟨kC', hkC', -⟩ := hal.2.2 _ _ hkC
        obtain ⟨kE', hkE', -⟩ := hal.2.2 _ _ hkE
        refine ⟨rfl, cellV, (show T.heap[y]? = some cellV by rw [hT]; exact g1), (fun q h => by rw [h] at g2; cases g2), ⟨kC', hkC'⟩, ⟨kE', hkE'⟩, ?_⟩
        show vm₁.assignable _ _ = true
        rw [hal.assignable]
        exact hasg _ _ e3 g3)
    (g := F0 m pc ls (.int n :: .int dp :: .ref a :: .int sp :: .ref a0 :: rest)) rfl (by rw [hml]) (rest := rest) rfl (by rw [hb]; exact hdg) hframes (by show 2 * 0 + _ + _ ≤ _; omega)
  have ec : copied (vp_cell c0 (n0, .inr (.inr (.inr (.inr f))))) (vp_cell c1 (n1, .inr (.inr (.inr (.inr g))))) sp dp n = vp_cell c1 (n1, .inr (.inr (.inr (.inr (va_cpy f g sp.toNatClampNeg dp.toNatClampNeg n.toNatClampNeg))))) := by
    rw [vp_cell_q, vp_cell_q, vp_cell_q]
    exact va_copied (fun z => va_rf z) c0 c1 f g h4
  rw [ec] at X' step
  generalize va_cpy f g sp.toNatClampNeg dp.toNatClampNeg n.toNatClampNeg = F at X' step kk
  have la : a < H.size := (Array.getElem?_eq_some_iff.mp b1).1
  have hh : ((T.setVm vm').setCell a (vp_cell c1 (n1, .inr (.inr (.inr (.inr F)))))).heap = H.setIfInBounds a (vp_cell c1 (n1, .inr (.inr (.inr (.inr F))))) := by rw [← hT]; rfl
  have oq : ∀ q : Nat, q ≠ a → (H.setIfInBounds a (vp_cell c1 (n1, .inr (.inr (.inr (.inr F))))))[q]? = H[q]? := fun q hq => by simp [Array.getElem?_setIfInBounds, Ne.symm hq]
  have sa : (H.setIfInBounds a (vp_cell c1 (n1, .inr (.inr (.inr (.inr F))))))[a]? = some (vp_cell c1 (n1, .inr (.inr (.inr (.inr F))))) := by simp [Array.getElem?_setIfInBounds, la]
  have hS1 := fun locs1 (hl : ∀ z ∈ locs1, A z.base) => (show va_S A H0 (H.setIfInBounds a (vp_cell c1 (n1, .inr (.inr (.inr (.inr F)))))) locs1 from ⟨by simp; exact hS.1, fun q g1 g2 => (oq q (fun h => g2 (by rw [h]; exact hAa))).trans (hS.2.1 q g1 g2), hl⟩)
  obtain ⟨t, a1, b9⟩ := kk _ _ (hP.set hD ha1 sa oq) (hD.set ha1) (hS1 _ (fun z hz => by
    rcases List.mem_append.mp hz with h | h
    · exact hS.2.2 z h
    · obtain ⟨y, -, hy⟩ := List.mem_map.mp h
      rw [← hy]
      exact hAa)) _ hh X'
  exact ⟨t, step t a1, b9⟩
end QB
theorem q_nm {U : State} {cA : ClassId} {C nm : String} (h : va_RA U cA (.object C)) (e : "[" ++ (FieldType.object C).toString = nm) : U.vm.findClass nm = some cA := by
  obtain ⟨kA, comp, h1, h2, h3, h4⟩ := h
  rw [← e]
  exact h4
theorem q_el {D : va_G} {cl : List vw_C} {W9 : va_W} {H : Heap} {tys : List (ClassId × FieldType)} {s : State} {ci y : Nat} {r : vw_C} {vs : List Value} (hQ : va_P D cl W9 H) (hK : va_K D cl tys s) (hc : cl[ci]? = some r) (hm : (y, .inr (ci, vs)) ∈ W9) : ∃ cellV : Cell, H[y]? = some cellV ∧ cellV.vm.isStatics = false ∧ s.vm.findClass r.1 = some cellV.cls := by
  obtain ⟨k, hk⟩ := List.getElem?_of_mem hm
  obtain ⟨r', hr', cellV, g1, g2, g3, -⟩ := hQ k _ hk
  exact ⟨cellV, g1, by rw [g3]; rfl, by rw [g2]; exact (hK.1 ci r hc).2.1⟩
theorem el_D {dC : Nat → ClassId} {dI : Nat → Nat → Nat} {W9 : va_W} {T9 tys : List (ClassId × FieldType)} {H : Heap} {s : State} {f : Nat → Option Nat} {nd : Nat} {sp n : Nat} (hQ : va_P (dC, dI) vwCl W9 H) (hK : va_K (dC, dI) vwCl tys s) (hds : ∀ i, i < nd → ∃ a, f i = some a ∧ poD W9 T9 a) (h : sp + n ≤ nd) : ∀ i : Nat, i < n → ∀ y : Nat, f (sp + i) = some y → ∃ cellV : Cell, H[y]? = some cellV ∧ cellV.vm.isStatics = false ∧ s.vm.findClass "PatternGate$Doc" = some cellV.cls := fun i hi y hy => by
  obtain ⟨a, e, la, ta, mm, nn, fl, ft, cI, cJ, h1, -⟩ := hds (sp + i) (by omega)
  rw [hy] at e
  cases e
  exact q_el hQ hK (ci := 2) rfl h1
theorem el_P {dC : Nat → ClassId} {dI : Nat → Nat → Nat} {W9 : va_W} {T9 tys : List (ClassId × FieldType)} {H : Heap} {s : State} {f : Nat → Option Nat} {nd : Nat} {sp n : Nat} (hQ : va_P (dC, dI) vwCl W9 H) (hK : va_K (dC, dI) vwCl tys s) (hds : ∀ i, i < nd → ∃ a, f i = some a ∧ poP2 W9 T9 a) (h : sp + n ≤ nd) : ∀ i : Nat, i < n → ∀ y : Nat, f (sp + i) = some y → ∃ cellV : Cell, H[y]? = some cellV ∧ cellV.vm.isStatics = false ∧ s.vm.findClass "PatternGate$Pattern" = some cellV.cls := fun i hi y hy => by
  obtain ⟨a, e, q, a0, a1, a2, a3, a4, a5, nx, nf, nk, nr, ns, nu, nl, fx, ff, fk, fr, fs, fu, fl, cX, cF, cK, cR, cS, cU, cL, h1, -⟩ := hds (sp + i) (by omega)
  rw [hy] at e
  cases e
  exact q_el hQ hK (ci := 5) rfl h1
theorem fx_up {f g : Nat → Option Nat} {n k d : Nat} {P : Nat → Prop} (h : ∀ j, j < n → ∃ a, f j = some a ∧ P a) (e : va_up f k (some d) = g) (hd : P d) : ∀ j, j < n → ∃ a, g j = some a ∧ P a := fun j hj => by
  rw [← e]
  unfold va_up
  by_cases hk : j = k
  · rw [if_pos hk]; exact ⟨d, rfl, hd⟩
  · rw [if_neg hk]; exact h j hj
/-- one more at the end -/
theorem fx_one {f g g2 : Nat → Option Nat} {n d : Nat} {sp dp c i : Int32} {P : Nat → Prop} (h : ∀ j, j < n → ∃ a, f j = some a ∧ P a) (e : va_cpy f (fun _ => none) sp.toNatClampNeg dp.toNatClampNeg c.toNatClampNeg = g) (e2 : va_up g i.toNatClampNeg (some d) = g2) (hs : sp.toInt = 0) (hd : dp.toInt = 0) (hc : c.toInt = n) (hi : i.toInt = n) (hP : P d) : ∀ j, j < n + 1 → ∃ a, g2 j = some a ∧ P a := fun j hj => by
  have s1 : sp.toNatClampNeg = 0 := by show sp.toInt.toNat = 0; omega
  have s2 : dp.toNatClampNeg = 0 := by show dp.toInt.toNat = 0; omega
  have s3 : c.toNatClampNeg = n := by show c.toInt.toNat = n; omega
  have s4 : i.toNatClampNeg = n := by show i.toInt.toNat = n; omega
  rw [← e2, s4]
  unfold va_up
  by_cases hk : j = n
  · rw [if_pos hk]; exact ⟨d, rfl, hP⟩
  · rw [if_neg hk, ← e, s1, s2, s3]
    unfold va_cpy
    rw [if_pos ⟨Nat.zero_le _, by omega⟩, show 0 + (j - 0) = j by omega]
    exact h j (by omega)
/-- one less -/
theorem fx_less {f g g2 : Nat → Option Nat} {n n2 : Nat} {sp dp c i sp2 dp2 c2 : Int32} {P : Nat → Prop} (h : ∀ j, j < n → ∃ a, f j = some a ∧ P a) (e : va_cpy f (fun _ => none) sp.toNatClampNeg dp.toNatClampNeg c.toNatClampNeg = g) (e2 : va_cpy f g sp2.toNatClampNeg dp2.toNatClampNeg c2.toNatClampNeg = g2) (hs : sp.toInt = 0) (hd : dp.toInt = 0) (hc : c.toInt = i.toInt) (hs2 : sp2.toInt = i.toInt + 1) (hd2 : dp2.toInt = i.toInt) (hi : 0 ≤ i.toInt ∧ i.toInt < n) (hn2 : (n2 : Int) = (n : Int) - 1) (hc2 : c2.toInt = (n2 : Int) - i.toInt) : ∀ j, j < n2 → ∃ a, g2 j = some a ∧ P a := fun j hj => by
  have s1 : sp.toNatClampNeg = 0 := by show sp.toInt.toNat = 0; omega
  have s2 : dp.toNatClampNeg = 0 := by show dp.toInt.toNat = 0; omega
  have s3 : c.toNatClampNeg = i.toInt.toNat := by show c.toInt.toNat = _; omega
  have s4 : sp2.toNatClampNeg = i.toInt.toNat + 1 := by show sp2.toInt.toNat = _; omega
  have s5 : dp2.toNatClampNeg = i.toInt.toNat := by show dp2.toInt.toNat = _; omega
  have s6 : c2.toNatClampNeg = n2 - i.toInt.toNat := by show c2.toInt.toNat = _; omega
  rw [← e2, s4, s5, s6]
  unfold va_cpy
  by_cases hk : i.toInt.toNat ≤ j ∧ j < i.toInt.toNat + (n2 - i.toInt.toNat)
  · rw [if_pos hk]
    exact h _ (by omega)
  · rw [if_neg hk, ← e, s1, s2, s3]
    unfold va_cpy
    rw [if_pos ⟨Nat.zero_le _, by omega⟩, show 0 + (j - 0) = j by omega]
    exact h j (by omega)
/-- a Book with other DOCUMENTS -/
def bX (W9 : va_W) (T9 : List (ClassId × FieldType)) (b : Nat) (d : Nat → Prop) (a qn n9 ps9 : Nat) (f9 : Nat → Option Nat) (cN : ClassId) : Prop := ∀ (W' : va_W) (T' : List (ClassId × FieldType)), (∀ q ∈ W9, q ∈ W') → (∀ q ∈ T9, q ∈ T') → (qn, .inl (cN, n9, .inr (.inr (.inr (.inr f9))))) ∈ W' → (cN, .object "PatternGate$Doc") ∈ T' → (a, .inr (0, [.ref qn, .ref ps9, .ref b])) ∈ W' → (∀ x, d x → poD W' T' x) → poB3 W' T' a (some b)
theorem bX_mk {W9 : va_W} {T9 : List (ClassId × FieldType)} {b ps np : Nat} {fp : Nat → Option Nat} {cP : ClassId} {d : Nat → Prop} {a qn n9 : Nat} {f9 : Nat → Option Nat} {cN : ClassId} (m4 : (ps, .inl (cP, np, .inr (.inr (.inr (.inr fp))))) ∈ W9) (m5 : (cP, .object "PatternGate$Pattern") ∈ T9) (hnp : np ≤ 8) (hps : ∀ i, i < np → ∃ a, fp i = some a ∧ poP2 W9 T9 a) (hn : n9 ≤ 10) (hf : ∀ i, i < n9 → ∃ x, f9 i = some x ∧ (d x ∨ poD W9 T9 x)) : bX W9 T9 b d a qn n9 ps f9 cN := fun W' T' hw ht h1 h2 h3 h4 => by
  refine ⟨qn, ps, n9, np, f9, fp, cN, cP, h3, h1, h2, hw _ m4, ht _ m5, hn, hnp, fun i hi => ?_, fun i hi => ?_⟩
  · obtain ⟨x, e, hx⟩ := hf i hi
    exact ⟨x, e, hx.elim (h4 x) (fun h => h.mono hw ht)⟩
  · obtain ⟨x, e, hx⟩ := hps i hi
    exact ⟨x, e, hx.mono hw ht⟩
/-- a Book with other PATTERNS -/
def bY (W9 : va_W) (T9 : List (ClassId × FieldType)) (b : Nat) (a qn n9 ds9 : Nat) (f9 : Nat → Option Nat) (cN : ClassId) : Prop := ∀ (W' : va_W) (T' : List (ClassId × FieldType)), (∀ q ∈ W9, q ∈ W') → (∀ q ∈ T9, q ∈ T') → (qn, .inl (cN, n9, .inr (.inr (.inr (.inr f9))))) ∈ W' → (cN, .object "PatternGate$Pattern") ∈ T' → (a, .inr (0, [.ref ds9, .ref qn, .ref b])) ∈ W' → poB3 W' T' a (some b)
theorem bY_mk {W9 : va_W} {T9 : List (ClassId × FieldType)} {b ds nd : Nat} {fd : Nat → Option Nat} {cD : ClassId} {a qn n9 : Nat} {f9 : Nat → Option Nat} {cN : ClassId} (m2 : (ds, .inl (cD, nd, .inr (.inr (.inr (.inr fd))))) ∈ W9) (m3 : (cD, .object "PatternGate$Doc") ∈ T9) (hnd : nd ≤ 10) (hds : ∀ i, i < nd → ∃ a, fd i = some a ∧ poD W9 T9 a) (hn : n9 ≤ 8) (hf : ∀ i, i < n9 → ∃ x, f9 i = some x ∧ poP2 W9 T9 x) : bY W9 T9 b a qn n9 ds f9 cN := fun W' T' hw ht h1 h2 h3 => by
  refine ⟨ds, qn, nd, n9, fd, f9, cD, cN, h3, hw _ m2, ht _ m3, h1, h2, hnd, hn, fun i hi => ?_, fun i hi => ?_⟩
  · obtain ⟨x, e, hx⟩ := hds i hi
    exact ⟨x, e, hx.mono hw ht⟩
  · obtain ⟨x, e, hx⟩ := hf i hi
    exact ⟨x, e, hx.mono hw ht⟩

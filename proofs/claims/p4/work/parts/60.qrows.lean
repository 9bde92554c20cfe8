/-! Rows on arrays of the pool: they are read, copied from, cloned, and never change. -/
section QR
variable {p : Program} {l : Launch} {e : Env} {R : Room} {s : State} {m : MethodId} {args : Array Value} {below : List Frame} {meth : Method} {c : Code} {H : Heap} {locs : List Loc} {cells slots : Nat} {Q : State → Prop}
variable {cc : ByteArray} {pc : Nat} {ls : Array Slot} {rest : List Value} {D : va_G} {cl : List vw_C} {A : Nat → Prop} {a : Nat} {tys T9 : List (ClassId × FieldType)} {ws W9 : va_W} {H0 : Heap}
theorem q_cell_vm (cA : ClassId) (x : vp_A) : (vp_cell cA x).vm = .none := by
  obtain ⟨n, f | f | f | f | f⟩ := x <;> rfl
theorem q_cell_cls (cA : ClassId) (x : vp_A) : (vp_cell cA x).cls = cA := by
  obtain ⟨n, f | f | f | f | f⟩ := x <;> rfl
/-- checkcast of an array to its own class -/
theorem q_cast (hx : p.tables.exec = Jvm.exec) (hb : c.code = cc) {own nm : String} {cA : ClassId} {x : vp_A} {index : Nat} (hown : s.vm.findClass own = some m.cls) (hlink : (Cond.classLink own index nm).before args s = true)
    (hnm : s.vm.findClass nm = some cA) (hP : va_P D cl ws H) (q0 : Nat) (ha : ws[q0]? = some (a, .inl (cA, x))) (hdg : decode cc pc = .ok (.checkcast index, 3))
    (k : W p l e R s m args below meth c H locs cells slots Q (F0 m (pc + 3) ls (.ref a :: rest))) : W p l e R s m args below meth c H locs cells slots Q (F0 m pc ls (.ref a :: rest)) := by
  have hc : H[a]? = some (vp_cell cA x) := hP q0 _ ha
  intro T hT X
  obtain ⟨vm', X', st⟩ := X.checkcastYes hx hown hlink (by rw [hT]; exact hc) (by rw [q_cell_vm]; rfl) hnm (by rw [q_cell_cls]; exact va_asg _ _) (g := F0 m pc ls (.ref a :: rest)) rfl rfl (by rw [hb]; exact hdg)
  obtain ⟨t, a1, b1⟩ := k (T.setVm vm') hT X'
  exact ⟨t, st t a1, b1⟩
/-- clone() of an array of the pool -/
theorem q_clone (hx : p.tables.exec = Jvm.exec) (hb : c.code = cc) (hml : c.maxLocals = ls.size) {own ad : String} {index : Nat} (hown : s.vm.findClass own = some m.cls)
    (hlink : (Cond.methodLink own index ⟨ad, "clone", "()Ljava/lang/Object;"⟩).before args s = true) (hsame : (Cond.sameMethod ad "java/lang/Object" "clone" "()Ljava/lang/Object;").before args s = true)
    (hnat : (Cond.native ⟨"java/lang/Object", "clone", "()Ljava/lang/Object;"⟩).before args s = true) (hinst : (Cond.instanceMethod ⟨"java/lang/Object", "clone", "()Ljava/lang/Object;"⟩).before args s = true)
    (hsel : (Cond.selects ad ⟨ad, "clone", "()Ljava/lang/Object;"⟩ ⟨"java/lang/Object", "clone", "()Ljava/lang/Object;"⟩).before args s = true) (hcl : va_Nw (.castable ad "java/lang/Cloneable") s)
    (hQ : va_P D cl W9 H) (hKQ : va_K D cl T9 s) (hno : ∀ q ∈ W9, ¬ A q.1)
    (hK : va_K D cl tys s) (hP : va_P D cl ws H) (hD : va_D A ws) (hS : va_S A H0 H locs) (hA : ∀ q, H0.size ≤ q → A q) (q0 t0 : Nat) {cA : ClassId} {x : vp_A} {ty : FieldType} (ha : W9[q0]? = some (a, .inl (cA, x))) (ht : T9[t0]? = some (cA, ty))
    (hnm : s.vm.findClass ad = some cA) (hfit : ∀ (i : Nat) (v : Value), (vp_cell cA x).slots[i]? = some v → fits ty v = true)
    (hframes : 1 ≤ R.frames) (hlocals : (rest.map fun v => v.category).sum + 14 ≤ R.locals) (hcells : cells + 1 ≤ R.cells) (hslots : slots + x.1 ≤ R.slots) (hdg : decode cc pc = .ok (.invokevirtual index, 3))
    (kk : ∀ (q : Nat) (H1 : Heap), va_K D cl (tys ++ [(cA, ty)]) s → va_P D cl (ws ++ [(q, .inl (cA, x))]) H1 → va_D A (ws ++ [(q, .inl (cA, x))]) → va_S A H0 H1 locs →
      W p l e R s m args below meth c H1 locs (cells + 1) (slots + x.1) Q (F0 m (pc + 3) ls (.ref q :: rest))) : W p l e R s m args below meth c H locs cells slots Q (F0 m pc ls (.ref a :: rest)) := by
  have hca : H[a]? = some (vp_cell cA x) := hQ q0 _ ha
  have hna : ¬ A a := hno _ (List.mem_of_getElem? ha)
  have hK' : va_K D cl ((cA, ty) :: tys) s := ⟨hK.1, fun k y hy => by
    cases k with
    | zero => cases hy; exact hKQ.2 t0 _ ht
    | succ k => exact hK.2 k y hy⟩
  have hP' : va_P D cl ((a, .inl (cA, x)) :: ws) H := fun k y hy => by
    cases k with
    | zero => cases hy; exact hQ q0 _ ha
    | succ k => exact hP k y hy
  have hD' : va_D (fun q => A q ∨ q = a) ((a, .inl (cA, x)) :: ws) := by
    refine ⟨fun i j u v h1 h2 h3 => ?_, fun k y hy => ?_⟩
    · cases i with
      | zero =>
        cases j with
        | zero => rfl
        | succ j =>
          cases h1
          have h4 := hD.2 j v h2
          rw [← h3] at h4
          exact absurd h4 hna
      | succ i =>
        cases j with
        | zero =>
          cases h2
          have h4 := hD.2 i u h1
          rw [h3] at h4
          exact absurd h4 hna
        | succ j => exact congrArg (· + 1) (hD.1 i j u v h1 h2 h3)
    · cases k with
      | zero => cases hy; exact Or.inr rfl
      | succ k => exact Or.inl (hD.2 k y hy)
  refine va_clone (A := fun q => A q ∨ q = a) hx hb hml hown hlink hsame hnat hinst hsel hcl hK' hP' hD' ⟨hS.1, fun q h1 h2 => hS.2.1 q h1 (fun h => h2 (Or.inl h)), fun z h => Or.inl (hS.2.2 z h)⟩ (fun q h => Or.inl (hA q h)) 0 0 rfl rfl hnm hfit hframes hlocals hcells hslots hdg (fun q H1 k1 p1 d1 s1 => ?_)
  refine kk q H1 ⟨hK.1, fun k y hy => k1.2 (k + 1) y hy⟩ (fun k y hy => p1 (k + 1) y hy) ⟨fun i j u v h1 h2 h3 => ?_, fun k y hy => ?_⟩ ⟨s1.1, fun z h1 h2 => ?_, hS.2.2⟩
  · have h4 := d1.1 (i + 1) (j + 1) u v h1 h2 h3
    omega
  · rcases d1.2 (k + 1) y hy with h | h
    · exact h
    · have h4 := d1.1 0 (k + 1) _ y rfl hy h.symm
      omega
  · by_cases hz : z = a
    · subst hz
      have h3 : H1[z]? = some (vp_cell cA x) := p1 0 _ rfl
      rw [h3, ← hca]
      exact hS.2.1 z h1 h2
    · exact s1.2.1 z h1 (fun h => h.elim h2 hz)
/-- System.arraycopy out of an array of the pool -/
theorem q_copyi (hx : p.tables.exec = Jvm.exec) (hb : c.code = cc) (hml : c.maxLocals = ls.size) {own : String} {index : Nat} (hown : s.vm.findClass own = some m.cls) (hlink : (Cond.methodLink own index arraycopyName).before args s = true) (hnat : (Cond.native arraycopyName).before args s = true) (hstat : (Cond.static arraycopyName).before args s = true) (hini : (Cond.initialized "java/lang/System").before args s = true)
    (hQ : va_P D cl W9 H) (hKQ : va_K D cl T9 s) (hK : va_K D cl tys s) (hP : va_P D cl ws H) (hD : va_D A ws) (hS : va_S A H0 H locs) (q0 q1 t0 t1 : Nat) {a0 : Nat} {c0 c1 : ClassId} {n0 n1 : Nat} {f g : Nat → Int32} {ty : FieldType}
    (ha0 : W9[q0]? = some (a0, .inl (c0, n0, .inl f))) (ha1 : ws[q1]? = some (a, .inl (c1, n1, .inl g))) (ht0 : T9[t0]? = some (c0, ty)) (ht1 : tys[t1]? = some (c1, ty)) (hprim : refKind ty = false)
    {sp dp n : Int32} (h1 : ¬ sp < 0) (h2 : ¬ dp < 0) (h3 : ¬ n < 0) (h4 : sp.toNatClampNeg + n.toNatClampNeg ≤ n0) (h5 : dp.toNatClampNeg + n.toNatClampNeg ≤ n1) (hfit : ∀ i, i < n.toNatClampNeg → fits ty (.int (f (sp.toNatClampNeg + i))) = true)
    (hframes : 1 ≤ R.frames) (hlocals : (rest.map fun v => v.category).sum + (nativeFrameWords "java/lang/System" "arraycopy" 5 + 11) ≤ R.locals) (hdg : decode cc pc = .ok (.invokestatic index, 3))
    (kk : ∀ (H1 : Heap) (locs1 : List Loc), va_P D cl (ws.set q1 (a, .inl (c1, n1, .inl (va_cpy f g sp.toNatClampNeg dp.toNatClampNeg n.toNatClampNeg)))) H1 → va_D A (ws.set q1 (a, .inl (c1, n1, .inl (va_cpy f g sp.toNatClampNeg dp.toNatClampNeg n.toNatClampNeg)))) → va_S A H0 H1 locs1 → W p l e R s m args below meth c H1 locs1 cells slots Q (F0 m (pc + 3) ls rest)) : W p l e R s m args below meth c H locs cells slots Q (F0 m pc ls (.int n :: .int dp :: .ref a :: .int sp :: .ref a0 :: rest)) := by
  have up : ∀ z : Int32, ¬ z < 0 → z.toInt = (z.toNatClampNeg : Int) := fun z hz => by
    have h := Int32.le_iff_toInt_le.mp (Int32.not_lt.mp hz)
    have h0 : (0 : Int32).toInt = 0 := by decide
    show z.toInt = ((z.toInt.toNat : Nat) : Int)
    omega
  have b0 : H[a0]? = some (vp_cell c0 (n0, .inl f)) := hQ q0 _ ha0
  have b1 : H[a]? = some (vp_cell c1 (n1, .inl g)) := hP q1 _ ha1
  have hAa : A a := hD.2 q1 _ ha1
  have z0 : (vp_cell c0 (n0, .inl f)).slots.size = n0 := arrV_size _ _ _
  have z1 : (vp_cell c1 (n1, .inl g)).slots.size = n1 := arrV_size _ _ _
  have rd : ∀ i : Nat, i < n.toNatClampNeg → (vp_cell c0 (n0, .inl f)).slots.getD (sp.toNatClampNeg + i) .null = .int (f (sp.toNatClampNeg + i)) := fun i hi => by
    show (arrV c0 n0 (fun j => .int (f j))).slots.getD _ _ = _
    rw [Array.getD_eq_getD_getElem?, arrV_read _ _ (by omega)]
    rfl
  obtain ⟨-, k0, r0, m0, i0⟩ := (hKQ.2 t0 _ ht0).1 n0 (fun j => .int (f j))
  obtain ⟨-, k1, r1, m1, i1⟩ := (hK.2 t1 _ ht1).1 n1 (fun j => .int (g j))
  intro T hT X
  obtain ⟨vm', X', step⟩ := X.arraycopy hx hown hlink hnat hstat hini (src := a0) (dst := a) (cs := vp_cell c0 (n0, .inl f)) (cd := vp_cell c1 (n1, .inl g)) (srcPos := sp) (destPos := dp) (n := n) (by rw [hT]; exact b0) (by rw [hT]; exact b1)
    (fun _ h => by cases h) (fun _ h => by cases h) (fun h => by cases h) (fun h => by cases h) r0 r1 i0 i1 (by simp [hprim]) h1 h2 h3 (by rw [z0, up sp h1, up n h3]; omega) (by rw [z1, up dp h2, up n h3]; omega)
    (fun vm₁ _ i hi => by rw [rd i hi]; exact ⟨hfit i hi, trivial⟩)
    (g := F0 m pc ls (.int n :: .int dp :: .ref a :: .int sp :: .ref a0 :: rest)) rfl (by rw [hml]) (rest := rest) rfl (by rw [hb]; exact hdg) hframes (by show 2 * 0 + _ + _ ≤ _; omega)
  rw [show copied (vp_cell c0 (n0, .inl f)) (vp_cell c1 (n1, .inl g)) sp dp n = vp_cell c1 (n1, .inl (va_cpy f g sp.toNatClampNeg dp.toNatClampNeg n.toNatClampNeg)) from va_copied (fun z => .int z) c0 c1 f g h4] at X' step
  generalize va_cpy f g sp.toNatClampNeg dp.toNatClampNeg n.toNatClampNeg = F at X' step kk
  have la : a < H.size := (Array.getElem?_eq_some_iff.mp b1).1
  have hh : ((T.setVm vm').setCell a (vp_cell c1 (n1, .inl F))).heap = H.setIfInBounds a (vp_cell c1 (n1, .inl F)) := by rw [← hT]; rfl
  have oq : ∀ q : Nat, q ≠ a → (H.setIfInBounds a (vp_cell c1 (n1, .inl F)))[q]? = H[q]? := fun q hq => by simp [Array.getElem?_setIfInBounds, Ne.symm hq]
  have sa : (H.setIfInBounds a (vp_cell c1 (n1, .inl F)))[a]? = some (vp_cell c1 (n1, .inl F)) := by simp [Array.getElem?_setIfInBounds, la]
  have hS1 := fun locs1 (hl : ∀ z ∈ locs1, A z.base) => (show va_S A H0 (H.setIfInBounds a (vp_cell c1 (n1, .inl F))) locs1 from ⟨by simp; exact hS.1, fun q g1 g2 => (oq q (fun h => g2 (by rw [h]; exact hAa))).trans (hS.2.1 q g1 g2), hl⟩)
  obtain ⟨t, a1, b9⟩ := kk _ _ (hP.set hD ha1 sa oq) (hD.set ha1) (hS1 _ (fun z hz => by
    rcases List.mem_append.mp hz with h | h
    · exact hS.2.2 z h
    · obtain ⟨y, -, hy⟩ := List.mem_map.mp h
      rw [← hy]
      exact hAa)) _ hh X'
  exact ⟨t, step t a1, b9⟩
end QR
theorem w_pool {x : Nat × va_E} {sz : Nat} (h : x.1 < sz) : ∀ q ∈ [x], ¬ va_A [] sz q.1 := fun q hq hA => by
  cases List.mem_singleton.mp hq
  rcases hA with ⟨k, e, hk⟩ | hk
  · cases hk
  · omega

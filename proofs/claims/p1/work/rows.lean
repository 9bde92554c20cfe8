section
/-! Arrays of arrays of any number of dimensions, made by one instruction: nothing is said of what they hold, only that what was there before stays. -/
/-- how many cells come -/
def md_K : List Nat → Nat
  | [] => 0
  | n :: r => 1 + n * md_K r
/-- how many slots come -/
def md_S : List Nat → Nat
  | [] => 0
  | n :: r => n + n * md_S r
def md_ns (ns : List Int32) : List Nat := ns.map (fun n => n.toNatClampNeg)
/-- the class and its components' classes are array classes, and the lengths may be -/
def md_ok (vm : Vm) (e : Env) : ClassId → List Int32 → Prop
  | _, [] => False
  | cA, [n] => ¬ n < 0 ∧ ¬ n.toNatClampNeg > e.platform.arrayLengthLimit ∧ ∃ (k : Class) (comp : ClassId) (ty : FieldType), vm.classes[cA]? = some k ∧ k.kind = .array comp ty ∧ ¬ n.toNatClampNeg * componentBytes ty > e.platform.maxHeapBytes ∧ fits ty (defaultValue ty) = true ∧ (defaultValue ty).isDefault = true
  | cA, n :: n2 :: r => ¬ n < 0 ∧ ¬ n.toNatClampNeg > e.platform.arrayLengthLimit ∧ ∃ (k : Class) (comp : ClassId) (ty : FieldType), vm.classes[cA]? = some k ∧ k.kind = .array comp ty ∧ ¬ n.toNatClampNeg * componentBytes ty > e.platform.maxHeapBytes ∧ ty.isReference = true ∧ md_ok vm e comp (n2 :: r)
theorem md_nn {vm : Vm} {e : Env} : ∀ (ns : List Int32) (cA : ClassId), md_ok vm e cA ns → ∀ x ∈ ns, ¬ x < 0
  | [], _, h => by simp [md_ok] at h
  | [n], _, h => by
    intro x hx
    rw [List.mem_singleton] at hx
    subst hx
    exact h.1
  | n :: n2 :: r, cA, h => by
    obtain ⟨h1, h2, k, comp, ty, h3, h4, h5, h6, h7⟩ := h
    intro x hx
    rcases List.mem_cons.mp hx with rfl | hx
    · exact h1
    · exact md_nn (n2 :: r) comp h7 x hx
theorem md_fits {t : FieldType} (h : t.isReference = true) (v : Value) (hv : v = .null ∨ ∃ a, v = .ref a) : fits t v = true := by
  rcases hv with rfl | ⟨a, rfl⟩ <;> cases t <;> simp [FieldType.isReference] at h <;> rfl
section MDA
variable {E : CtlPost} {e : Env} {d : Bool} {acts : List Action} {s : State}
theorem md_new {c comp : ClassId} {k : Class} {type : FieldType} {len : Nat} {init : Value} (hk : s.vm.classes[c]? = some k) (hkind : k.kind = .array comp type)
    (hlimit : ¬ len > e.platform.arrayLengthLimit) (hheap : ¬ len * componentBytes type > e.platform.maxHeapBytes) (hfit : fits type init = true) (hdef : init.isDefault = true) {Q : Addr → Pre}
    (h1 : s.heap.size + 1 ≤ e.platform.maxCells) (h2 : s.slotsUsed + len ≤ e.platform.maxSlots)
    (hq : Q s.heap.size d acts (s.pushCell { cls := c, slots := Array.replicate len init, vm := .none })) :
    wp (Jvm.newArray c len init) Q E e d acts s := by
  have hfits : ∀ i v, (Array.replicate len init)[i]? = some v → s.fitsSlot c .none i v = true := by
    intro i v hv
    simp only [Array.getElem?_replicate] at hv
    split at hv
    · cases hv; simp [State.fitsSlot, State.slotType?, hk, hkind, hfit]
    · cases hv
  have hda : allocActs (Array.replicate len init) s.heap.size acts = acts := by
    have hall : ((Array.replicate len init).all (·.isDefault)) = true := by
      rw [Array.all_replicate]; split <;> simp [hdef]
    unfold allocActs; rw [if_pos hall]
  simp only [Jvm.newArray, Jvm.arrayFits, wp_bind', W.ask, W.ite, hlimit, if_false, wp_pure', W.theClass, hk, hkind, hheap, W.alloc, W.stop, Option.some.injEq, exists_eq_left', Array.size_replicate, hda]
  rw [if_neg (by omega)]
  exact ⟨by omega, h2, hfits, hq⟩
end MDA
section MDX
variable {p : Program} {l : Launch} {e : Env} {R : Room} {s : State} {m : MethodId} {args : Array Value} {below : List Frame} {meth : Method} {c : Code}
/-- what has come -/
def md_G (p : Program) (l : Launch) (e : Env) (R : Room) (s : State) (m : MethodId) (args : Array Value) (below : List Frame) (meth : Method) (c : Code) (T : State) (locs : List Loc) (cells slots K S : Nat) (T' : State) (locs' : List Loc) : Prop :=
  T'.vm = T.vm ∧ T'.heap.size = T.heap.size + K ∧ (∀ a : Nat, a < T.heap.size → T'.heap[a]? = T.heap[a]?) ∧ (∀ q ∈ locs', q ∈ locs ∨ T.heap.size ≤ q.base) ∧ Stand p l e R s m args below meth c T' locs' (cells + K) (slots + S)
theorem md_loop {N : Nat} {f : JFrame} {b : Nat → PUnit → Sem (ForInStep PUnit)} (I : Nat → State → Prop)
    (step : ∀ (i : Nat) (Ti : State), i < N → I i Ti → ∃ T2 : State, I (i + 1) T2 ∧ ∀ (E : CtlPost) (d : Bool) (acts : List Action) (Q : ForInStep PUnit → Pre), (∀ (d' : Bool) (acts' : List Action), Q (ForInStep.yield PUnit.unit) d' acts' (T2.setTop f)) → wp (b i PUnit.unit) Q E e d acts (Ti.setTop f)) :
    ∀ (j i : Nat) (Ti : State), i + j = N → I i Ti → ∃ T' : State, I N T' ∧ ∀ (E : CtlPost) (d : Bool) (acts : List Action) (Q : PUnit → Pre), (∀ (d' : Bool) (acts' : List Action), Q PUnit.unit d' acts' (T'.setTop f)) → wp (forIn (List.range' i j) PUnit.unit b) Q E e d acts (Ti.setTop f)
  | 0, i, Ti, hij, hI => by
    have e9 : i = N := by omega
    subst e9
    refine ⟨Ti, hI, fun E d acts Q hq => ?_⟩
    simp only [List.range'_zero, List.forIn_nil, wp_pure']
    exact hq _ _
  | j + 1, i, Ti, hij, hI => by
    obtain ⟨T2, hI2, h2⟩ := step i Ti (by omega) hI
    obtain ⟨T', hI', h'⟩ := md_loop I step j (i + 1) T2 (by omega) hI2
    refine ⟨T', hI', fun E d acts Q hq => ?_⟩
    simp only [List.range'_succ, List.forIn_cons, wp_bind']
    exact h2 E d acts _ (fun d' acts' => h' E d' acts' Q hq)
set_option maxHeartbeats 4000000 in
theorem md_make (f : JFrame) : ∀ (ns : List Int32) (cA : ClassId) (T : State) (locs : List Loc) (cells slots : Nat), Stand p l e R s m args below meth c T locs cells slots → md_ok T.vm e cA ns → cells + md_K (md_ns ns) ≤ R.cells → slots + md_S (md_ns ns) ≤ R.slots →
    ∃ (T' : State) (locs' : List Loc), md_G p l e R s m args below meth c T locs cells slots (md_K (md_ns ns)) (md_S (md_ns ns)) T' locs' ∧ ∀ (E : CtlPost) (d : Bool) (acts : List Action) (Q : Addr → Pre), (∀ (d' : Bool) (acts' : List Action), Q T.heap.size d' acts' (T'.setTop f)) → wp (multianewarray.make cA ns) Q E e d acts (T.setTop f)
  | [], _, _, _, _, _, _, h, _, _ => by simp [md_ok] at h
  | [n], cA, T, locs, cells, slots, X, hok, hc, hs => by
    obtain ⟨h1, h2, k, comp, ty, h3, h4, h5, h6, h7⟩ := hok
    have eK : md_K (md_ns [n]) = 1 := by simp [md_ns, md_K]
    have eS : md_S (md_ns [n]) = n.toNatClampNeg := by simp [md_ns, md_S]
    rw [eK] at hc
    rw [eS] at hs
    obtain ⟨r1, r2⟩ := X.roomAbove hc hs
    have hX := X.pushed { cls := cA, slots := Array.replicate n.toNatClampNeg (defaultValue ty), vm := .none }
    refine ⟨T.pushCell { cls := cA, slots := Array.replicate n.toNatClampNeg (defaultValue ty), vm := .none }, locs, ⟨rfl, ?_, fun a ha => State.heap_pushCell_of_lt _ _ ha, fun q h => Or.inl h, ?_⟩, ?_⟩
    · rw [eK]; simp
    · rw [eK, eS]; simpa using hX
    · intro E d acts Q hq
      rw [multianewarray.make]
      have h3' : (T.setTop f).vm.classes[cA]? = some k := h3
      simp only [wp_bind', W.ite, h1, if_false, wp_pure', W.theClass, h3', h4, Option.some.injEq, exists_eq_left']
      exact md_new h3' h4 h2 h5 h6 h7 (by show T.heap.size + 1 ≤ _; omega) (by show T.slotsUsed + _ ≤ _; omega) (hq d acts)
  | n :: n2 :: r, cA, T, locs, cells, slots, X, hok, hc, hs => by
    have hnn := md_nn (n :: n2 :: r) cA hok
    obtain ⟨h1, h2, k, comp, ty, h3, h4, h5, h6, h7⟩ := hok
    obtain ⟨N, eN⟩ : ∃ N : Nat, n.toNatClampNeg = N := ⟨_, rfl⟩
    obtain ⟨K', eK'⟩ : ∃ K' : Nat, md_K (md_ns (n2 :: r)) = K' := ⟨_, rfl⟩
    obtain ⟨S', eS'⟩ : ∃ S' : Nat, md_S (md_ns (n2 :: r)) = S' := ⟨_, rfl⟩
    have eK : md_K (md_ns (n :: n2 :: r)) = 1 + N * K' := by rw [← eN, ← eK']; rfl
    have eS : md_S (md_ns (n :: n2 :: r)) = N + N * S' := by rw [← eN, ← eS']; rfl
    rw [eK] at hc
    rw [eS] at hs
    obtain ⟨r1, r2⟩ := X.roomAbove hc hs
    have hfind : ((n2 :: r).find? (· < 0)) = none := by
      rw [List.find?_eq_none]
      intro x hx
      simpa using hnn x (List.mem_cons_of_mem _ hx)
    have hX := X.pushed { cls := cA, slots := Array.replicate N .null, vm := .none }
    have L := md_loop (e := e) (N := N) (f := f) (b := fun i _ => do writeLoc T.heap.size i (.ref (← multianewarray.make comp (n2 :: r))); Pure.pure (ForInStep.yield PUnit.unit)) (fun i Ti => ∃ (li : List Loc) (ce : Cell), Ti.vm = T.vm ∧ Ti.heap.size = T.heap.size + (1 + i * K') ∧ (∀ a : Nat, a < T.heap.size → Ti.heap[a]? = T.heap[a]?) ∧ (∀ q ∈ li, q ∈ locs ∨ T.heap.size ≤ q.base) ∧ Stand p l e R s m args below meth c Ti li (cells + (1 + i * K')) (slots + (N + i * S')) ∧ Ti.heap[T.heap.size]? = some ce ∧ ce.cls = cA ∧ ce.vm = .none ∧ ce.slots.size = N) ?_ N 0 (T.pushCell { cls := cA, slots := Array.replicate N .null, vm := .none }) (by omega) ?_
    · obtain ⟨T', ⟨li, ce, v1, v2, v3, v4, v5, v6, v7, v8, v9⟩, hw⟩ := L
      refine ⟨T', li, ⟨v1, by rw [eK]; exact v2, v3, v4, by rw [eK, eS]; exact v5⟩, ?_⟩
      intro E d acts Q hq
      rw [multianewarray.make]
      have h3' : (T.setTop f).vm.classes[cA]? = some k := h3
      simp only [wp_bind', W.ite, h1, if_false, wp_pure', W.theClass, h3', h4, Option.some.injEq, exists_eq_left']
      rw [eN]
      refine md_new h3' h4 (by rw [← eN]; exact h2) (by rw [← eN]; exact h5) (md_fits h6 _ (Or.inl rfl)) rfl (by show T.heap.size + 1 ≤ _; omega) (by show T.slotsUsed + _ ≤ _; omega) ?_
      simp only [hfind]
      rw [ite_self, wp_bind', Std.Legacy.Range.forIn_eq_forIn_range']
      have hsz : ([:N] : Std.Legacy.Range).size = N := by simp [Std.Legacy.Range.size]
      rw [hsz]
      refine hw E d acts _ (fun d' acts' => ?_)
      simp only [wp_pure']
      exact hq _ _
    · rintro x Ti hlt ⟨li, ce, v1, v2, v3, v4, v5, v6, v7, v8, v9⟩
      have hmK : x * K' + K' ≤ N * K' := by
        have := Nat.mul_le_mul_right K' (show x + 1 ≤ N from hlt)
        rw [Nat.succ_mul] at this; exact this
      have hmS : x * S' + S' ≤ N * S' := by
        have := Nat.mul_le_mul_right S' (show x + 1 ≤ N from hlt)
        rw [Nat.succ_mul] at this; exact this
      obtain ⟨T2, l2, ⟨w1, w2, w3, w4, w5⟩, hw⟩ := md_make f (n2 :: r) comp Ti li (cells + (1 + x * K')) (slots + (N + x * S')) v5 (by rw [v1]; exact h7) (by rw [eK']; omega) (by rw [eS']; omega)
      rw [eK'] at w2 w5
      rw [eS'] at w5
      have hce : T2.heap[T.heap.size]? = some ce := by rw [w3 _ (by omega)]; exact v6
      refine ⟨T2.setCell T.heap.size (ce.setSlot x (.ref Ti.heap.size)), ⟨l2 ++ [⟨T.heap.size, x⟩], ce.setSlot x (.ref Ti.heap.size), ?_, ?_, ?_, ?_, ?_, State.heap_setCell_self hce, v7, v8, by simp [Cell.setSlot, v9]⟩, ?_⟩
      · show T2.vm = T.vm
        rw [w1, v1]
      · have e9 : (T2.setCell T.heap.size (ce.setSlot x (.ref Ti.heap.size))).heap.size = T2.heap.size := by simp [State.setCell]
        rw [e9, w2, v2, Nat.succ_mul]; omega
      · intro a ha
        rw [State.heap_setCell_other (Nat.ne_of_gt ha), w3 _ (by omega)]
        exact v3 a ha
      · intro q hq9
        rcases List.mem_append.mp hq9 with h | h
        · rcases w4 q h with h | h
          · exact v4 q h
          · exact Or.inr (by omega)
        · rw [List.mem_singleton] at h
          subst h
          exact Or.inr (Nat.le_refl _)
      · have h9 := w5.stored hce x (.ref Ti.heap.size)
        have e1 : cells + (1 + (x + 1) * K') = cells + (1 + x * K') + K' := by rw [Nat.succ_mul]; omega
        have e2 : slots + (N + (x + 1) * S') = slots + (N + x * S') + S' := by rw [Nat.succ_mul]; omega
        rw [e1, e2]
        exact h9
      · intro E d acts Q hq
        simp only [wp_bind']
        refine hw E d acts _ (fun d' acts' => ?_)
        simp only [wp_bind', W.writeLoc, wp_pure']
        refine ⟨ce, hce, by rw [v8]; simp, by rw [v9]; exact hlt, ?_, hq _ _⟩
        have hk9 : T2.vm.classes[ce.cls]? = some k := by
          rw [w1, v1, v7]; exact h3
        simp [State.fitsSlot, State.slotType?, hk9, h4, v8, md_fits h6 _ (Or.inr ⟨_, rfl⟩)]
    · refine ⟨locs, { cls := cA, slots := Array.replicate N .null, vm := .none }, rfl, by simp, fun a ha => State.heap_pushCell_of_lt _ _ ha, fun q h => Or.inl h, ?_, State.heap_pushCell_size _ _, rfl, rfl, by simp⟩
      simpa using hX
/-- an array class over an array class -/
theorem md_over {args : Array Value} {first s : State} {o : Option Outcome} {idx : List Nat} {t : FieldType} (h : (Cond.arrayOver (.array t)).holds args first o s idx = true) :
    ∃ (comp c : ClassId) (k : Class), s.vm.findClass (FieldType.array t).toString = some comp ∧ s.vm.classes[c]? = some k ∧ k.kind = .array comp (.array t) ∧ s.vm.findClass ("[" ++ (FieldType.array t).toString) = some c := by
  simp only [Cond.holds, Cond.value, beq_iff_eq] at h
  cases hc : s.vm.findClass (FieldType.array t).toString with
  | none => simp [hc] at h
  | some comp =>
    simp only [hc, Option.bind_some, Option.bind_eq_some_iff, Option.map_eq_some_iff] at h
    obtain ⟨c, hi, k, hk, hb⟩ := h
    obtain ⟨hlt, hp, -⟩ := Array.findIdx?_eq_some_iff_getElem.mp hi
    have hkk : s.vm.classes[c] = k := (Array.getElem?_eq_some_iff.mp hk).2
    rw [hkk] at hp
    cases hkind : k.kind with
    | array component ty =>
      rw [hkind] at hb hp
      simp at hb hp
      exact ⟨comp, c, k, rfl, hk, by rw [hkind, hp, hb.1], hb.2⟩
    | _ => rw [hkind] at hb; simp at hb
/-- the words that an array of arrays stands on, at a state -/
def md_A (t : FieldType) (U : State) : Prop := (Cond.arrayOver (.array t)).before #[] U = true
def md_B (t : FieldType) (U : State) : Prop := (Cond.arrayClass t).before #[] U = true
theorem md_base {vm : Vm} {U : State} {e : Env} {t : FieldType} (hal : U.vm.Alike vm) (hB : md_B t U) {cA : ClassId} (hcA : U.vm.findClass ("[" ++ t.toString) = some cA) {n : Int32} (h1 : ¬ n < 0) (h2 : ¬ n.toNatClampNeg > e.platform.arrayLengthLimit) (h3 : ¬ n.toNatClampNeg * componentBytes t > e.platform.maxHeapBytes) (h4 : fits t (defaultValue t) = true) (h5 : (defaultValue t).isDefault = true) : md_ok vm e cA [n] := by
  obtain ⟨c9, k, comp, g1, g2, g3⟩ := Cond.arrayClass_spec hB
  cases hcA.symm.trans g1
  obtain ⟨k1, hk1, he1⟩ := hal.2.2 _ _ g2
  exact ⟨h1, h2, k1, comp, t, hk1, by rw [he1]; exact g3, h3, h4, h5⟩
theorem md_step {vm : Vm} {U : State} {e : Env} {t : FieldType} (hal : U.vm.Alike vm) (hA : md_A t U) {cA : ClassId} (hcA : U.vm.findClass ("[" ++ (FieldType.array t).toString) = some cA) {n n2 : Int32} {r : List Int32} (h1 : ¬ n < 0) (h2 : ¬ n.toNatClampNeg > e.platform.arrayLengthLimit) (h3 : ¬ n.toNatClampNeg * 4 > e.platform.maxHeapBytes) (hr : ∀ cB : ClassId, U.vm.findClass (FieldType.array t).toString = some cB → md_ok vm e cB (n2 :: r)) : md_ok vm e cA (n :: n2 :: r) := by
  obtain ⟨comp, c9, k, g1, g2, g3, g4⟩ := md_over hA
  cases hcA.symm.trans g4
  obtain ⟨k1, hk1, he1⟩ := hal.2.2 _ _ g2
  exact ⟨h1, h2, k1, comp, .array t, hk1, by rw [he1]; exact g3, h3, rfl, hr comp g1⟩
end MDX
section MDY
variable {p : Program} {l : Launch} {e : Env} {R : Room} {s : State} {m : MethodId} {args : Array Value} {below : List Frame} {meth : Method} {c : Code} {H : Heap} {locs : List Loc} {cells slots : Nat} {Q : State → Prop}
variable {cc : ByteArray} {pc : Nat} {ls : Array Slot} {rest : List Value} {D : va_G} {cl : List vw_C} {A : Nat → Prop} {tys : List (ClassId × FieldType)} {ws : va_W} {H0 : Heap}
set_option maxHeartbeats 4000000 in
theorem va_md2 (hexec : p.tables.exec = Jvm.exec) (hb : c.code = cc) {own nm : String} {index : Nat} (hown : s.vm.findClass own = some m.cls) (hclink : (Cond.classLink own index nm).before args s = true) {n1 n2 : Int32} (hok : ∀ (vm : Vm) (cA : ClassId), l.admits e → s.vm.Alike vm → s.vm.findClass nm = some cA → md_ok vm e cA [n1, n2]) {K S : Nat} (hK : md_K (md_ns [n1, n2]) = K) (hS9 : md_S (md_ns [n1, n2]) = S) (hcells : cells + K ≤ R.cells) (hslots : slots + S ≤ R.slots)
    (hP : va_P D cl ws H) (hS : va_S A H0 H locs) (hA : ∀ q, H0.size ≤ q → A q) (hdg : decode cc pc = .ok (.multianewarray index 2, 4))
    (kk : ∀ (q : Nat) (H1 : Heap) (locs1 : List Loc), va_P D cl ws H1 → va_S A H0 H1 locs1 → W p l e R s m args below meth c H1 locs1 (cells + K) (slots + S) Q (F0 m (pc + 4) ls (.ref q :: rest))) : W p l e R s m args below meth c H locs cells slots Q (F0 m pc ls (.int n2 :: .int n1 :: rest)) := by
  subst hK; subst hS9; subst hb
  intro T hT X
  have hpl : e.platform.magicAccessors = ({} : Platform).magicAccessors := by rw [X.admits.platform]
  obtain ⟨c0, hfc0, hcl⟩ := Cond.classLink_spec hown hclink e.platform hpl
  obtain ⟨hg₁, hwarm₁, hready₁⟩ := State.classEntry (e := e) X.warmed hcl
  generalize T.vm.noted m.cls index (.cls c0) = vm₁ at hg₁ hwarm₁ hready₁
  have X₁ := X.noted hwarm₁
  obtain ⟨T', locs', ⟨g1, g2, g3, g4, g5⟩, hw⟩ := md_make (F0 m pc ls rest) [n1, n2] c0 (T.setVm vm₁) locs cells slots X₁ (hok vm₁ c0 X.admits hwarm₁.alike hfc0) hcells hslots
  have hTh : (T.setVm vm₁).heap = H := hT
  rw [hTh] at g2 g3 g4 hw
  have hS' : va_S A H0 T'.heap locs' := ⟨by rw [g2]; have := hS.1; omega, fun x h1 h2 => (g3 x (Nat.lt_of_lt_of_le h1 hS.1)).trans (hS.2.1 x h1 h2), fun q hq => by
    rcases g4 q hq with h | h
    · exact hS.2.2 q h
    · exact hA _ (Nat.le_trans hS.1 h)⟩
  obtain ⟨t, a1, b1⟩ := kk H.size T'.heap locs' (hP.kept (fun k x hx => g3 x.1 ((hP k x hx).lt))) hS' T' rfl g5
  refine ⟨t, ?_, b1⟩
  jvm_step X.here [hexec, hdg]
  simp only [multianewarray.sem, wp_bind', W.resolveClassAt_links (State.method?_setTop (F0 m pc ls (.int n2 :: .int n1 :: rest)) X.here.top) hg₁]
  rw [W.popN, if_neg (by decide)]
  refine ⟨F0 m pc ls (.int n2 :: .int n1 :: rest), State.topJava?_setTop' (s := T.setVm vm₁) _ X.here.top, [.int n1, .int n2], rest, rfl, rfl, ?_⟩
  simp only [List.mapM_cons, List.mapM_nil, wp_bind', wp_pure']
  have eS : ((T.setTop (F0 m pc ls (.int n2 :: .int n1 :: rest))).setVm vm₁).setTop (F0 m pc ls rest) = (T.setVm vm₁).setTop (F0 m pc ls rest) := by
    show ((T.setVm vm₁).setTop _).setTop _ = _
    rw [State.setTop_setTop]
  rw [eS]
  refine hw _ _ _ _ (fun d' acts' => ?_)
  simp only [wp_bind', W.mark, W.pushRef, State.topJava?_setTop' _ g5.here.top, Option.some.injEq, exists_eq_left', State.setTop_setTop, State.heap_setTop]
  intro acts
  simp [jvm, g5.here.top]
  exact a1
set_option maxHeartbeats 4000000 in
theorem va_md3 (hexec : p.tables.exec = Jvm.exec) (hb : c.code = cc) {own nm : String} {index : Nat} (hown : s.vm.findClass own = some m.cls) (hclink : (Cond.classLink own index nm).before args s = true) {n1 n2 n3 : Int32} (hok : ∀ (vm : Vm) (cA : ClassId), l.admits e → s.vm.Alike vm → s.vm.findClass nm = some cA → md_ok vm e cA [n1, n2, n3]) {K S : Nat} (hK : md_K (md_ns [n1, n2, n3]) = K) (hS9 : md_S (md_ns [n1, n2, n3]) = S) (hcells : cells + K ≤ R.cells) (hslots : slots + S ≤ R.slots)
    (hP : va_P D cl ws H) (hS : va_S A H0 H locs) (hA : ∀ q, H0.size ≤ q → A q) (hdg : decode cc pc = .ok (.multianewarray index 3, 4))
    (kk : ∀ (q : Nat) (H1 : Heap) (locs1 : List Loc), va_P D cl ws H1 → va_S A H0 H1 locs1 → W p l e R s m args below meth c H1 locs1 (cells + K) (slots + S) Q (F0 m (pc + 4) ls (.ref q :: rest))) : W p l e R s m args below meth c H locs cells slots Q (F0 m pc ls (.int n3 :: .int n2 :: .int n1 :: rest)) := by
  subst hK; subst hS9; subst hb
  intro T hT X
  have hpl : e.platform.magicAccessors = ({} : Platform).magicAccessors := by rw [X.admits.platform]
  obtain ⟨c0, hfc0, hcl⟩ := Cond.classLink_spec hown hclink e.platform hpl
  obtain ⟨hg₁, hwarm₁, hready₁⟩ := State.classEntry (e := e) X.warmed hcl
  generalize T.vm.noted m.cls index (.cls c0) = vm₁ at hg₁ hwarm₁ hready₁
  have X₁ := X.noted hwarm₁
  obtain ⟨T', locs', ⟨g1, g2, g3, g4, g5⟩, hw⟩ := md_make (F0 m pc ls rest) [n1, n2, n3] c0 (T.setVm vm₁) locs cells slots X₁ (hok vm₁ c0 X.admits hwarm₁.alike hfc0) hcells hslots
  have hTh : (T.setVm vm₁).heap = H := hT
  rw [hTh] at g2 g3 g4 hw
  have hS' : va_S A H0 T'.heap locs' := ⟨by rw [g2]; have := hS.1; omega, fun x h1 h2 => (g3 x (Nat.lt_of_lt_of_le h1 hS.1)).trans (hS.2.1 x h1 h2), fun q hq => by
    rcases g4 q hq with h | h
    · exact hS.2.2 q h
    · exact hA _ (Nat.le_trans hS.1 h)⟩
  obtain ⟨t, a1, b1⟩ := kk H.size T'.heap locs' (hP.kept (fun k x hx => g3 x.1 ((hP k x hx).lt))) hS' T' rfl g5
  refine ⟨t, ?_, b1⟩
  jvm_step X.here [hexec, hdg]
  simp only [multianewarray.sem, wp_bind', W.resolveClassAt_links (State.method?_setTop (F0 m pc ls (.int n3 :: .int n2 :: .int n1 :: rest)) X.here.top) hg₁]
  rw [W.popN, if_neg (by decide)]
  refine ⟨F0 m pc ls (.int n3 :: .int n2 :: .int n1 :: rest), State.topJava?_setTop' (s := T.setVm vm₁) _ X.here.top, [.int n1, .int n2, .int n3], rest, rfl, rfl, ?_⟩
  simp only [List.mapM_cons, List.mapM_nil, wp_bind', wp_pure']
  have eS : ((T.setTop (F0 m pc ls (.int n3 :: .int n2 :: .int n1 :: rest))).setVm vm₁).setTop (F0 m pc ls rest) = (T.setVm vm₁).setTop (F0 m pc ls rest) := by
    show ((T.setVm vm₁).setTop _).setTop _ = _
    rw [State.setTop_setTop]
  rw [eS]
  refine hw _ _ _ _ (fun d' acts' => ?_)
  simp only [wp_bind', W.mark, W.pushRef, State.topJava?_setTop' _ g5.here.top, Option.some.injEq, exists_eq_left', State.setTop_setTop, State.heap_setTop]
  intro acts
  simp [jvm, g5.here.top]
  exact a1
end MDY
end
section
-- ===== PART A: goes FIRST, ahead of the names: the tables' words, and 'selects' of the private methods out of them =====
/-- a private method of a class that the tables say can be made, by its rows of tables_1 -/
def lw_okq (q : MethodName × Nat) : Prop := (q.1.cls ≠ "java/lang/invoke/MethodHandle" ∧ q.1.cls ≠ "java/lang/invoke/VarHandle") ∧ Cond.instantiable q.1.cls q.2 ∈ tables_1 ∧ Cond.privateMethod q.1 ∈ tables_1 ∧ Cond.instanceMethod q.1 ∈ tables_1
theorem lw_p0 : lw_okq (⟨"PatternGate", "putBytes", "(I)V"⟩, 16) := ⟨⟨by decide +kernel, by decide +kernel⟩, List.mem_of_getElem? (i := 23) (by decide +kernel), List.mem_of_getElem? (i := 309) (by decide +kernel), List.mem_of_getElem? (i := 310) (by decide +kernel)⟩
theorem lw_p1 : lw_okq (⟨"PatternGate", "refuse", "(I)I"⟩, 16) := ⟨⟨by decide +kernel, by decide +kernel⟩, List.mem_of_getElem? (i := 23) (by decide +kernel), List.mem_of_getElem? (i := 317) (by decide +kernel), List.mem_of_getElem? (i := 318) (by decide +kernel)⟩
theorem lw_p2 : lw_okq (⟨"PatternGate", "readTape", "(III)Z"⟩, 16) := ⟨⟨by decide +kernel, by decide +kernel⟩, List.mem_of_getElem? (i := 23) (by decide +kernel), List.mem_of_getElem? (i := 321) (by decide +kernel), List.mem_of_getElem? (i := 322) (by decide +kernel)⟩
theorem lw_p3 : lw_okq (⟨"PatternGate$Reader", "readWord", "([III)I"⟩, 11) := ⟨⟨by decide +kernel, by decide +kernel⟩, List.mem_of_getElem? (i := 57) (by decide +kernel), List.mem_of_getElem? (i := 335) (by decide +kernel), List.mem_of_getElem? (i := 336) (by decide +kernel)⟩
theorem lw_p4 : lw_okq (⟨"PatternGate$Reader", "fail", "(II)V"⟩, 11) := ⟨⟨by decide +kernel, by decide +kernel⟩, List.mem_of_getElem? (i := 57) (by decide +kernel), List.mem_of_getElem? (i := 392) (by decide +kernel), List.mem_of_getElem? (i := 393) (by decide +kernel)⟩
theorem lw_p5 : lw_okq (⟨"PatternGate$Reader", "readQuote", "([III)I"⟩, 11) := ⟨⟨by decide +kernel, by decide +kernel⟩, List.mem_of_getElem? (i := 57) (by decide +kernel), List.mem_of_getElem? (i := 397) (by decide +kernel), List.mem_of_getElem? (i := 398) (by decide +kernel)⟩
theorem lw_p6 : lw_okq (⟨"PatternGate$Reader", "endOfDoc", "([III)I"⟩, 11) := ⟨⟨by decide +kernel, by decide +kernel⟩, List.mem_of_getElem? (i := 57) (by decide +kernel), List.mem_of_getElem? (i := 401) (by decide +kernel), List.mem_of_getElem? (i := 402) (by decide +kernel)⟩
theorem lw_p7 : lw_okq (⟨"PatternGate$Reader", "endOfPattern", "([III)I"⟩, 11) := ⟨⟨by decide +kernel, by decide +kernel⟩, List.mem_of_getElem? (i := 57) (by decide +kernel), List.mem_of_getElem? (i := 405) (by decide +kernel), List.mem_of_getElem? (i := 406) (by decide +kernel)⟩
theorem lw_p8 : lw_okq (⟨"PatternGate$Reader", "endOfSet", "([III)I"⟩, 11) := ⟨⟨by decide +kernel, by decide +kernel⟩, List.mem_of_getElem? (i := 57) (by decide +kernel), List.mem_of_getElem? (i := 409) (by decide +kernel), List.mem_of_getElem? (i := 410) (by decide +kernel)⟩
theorem lw_p9 : lw_okq (⟨"PatternGate$Reader", "readSemicolon", "(I)V"⟩, 11) := ⟨⟨by decide +kernel, by decide +kernel⟩, List.mem_of_getElem? (i := 57) (by decide +kernel), List.mem_of_getElem? (i := 416) (by decide +kernel), List.mem_of_getElem? (i := 417) (by decide +kernel)⟩
theorem lw_p10 : lw_okq (⟨"PatternGate", "bookBehind", "([LPatternGate$Doc;[LPatternGate$Pattern;)LPatternGate$Book;"⟩, 16) := ⟨⟨by decide +kernel, by decide +kernel⟩, List.mem_of_getElem? (i := 23) (by decide +kernel), List.mem_of_getElem? (i := 420) (by decide +kernel), List.mem_of_getElem? (i := 421) (by decide +kernel)⟩
theorem lw_p11 : lw_okq (⟨"PatternGate$Compiler", "openWhole", "(I)V"⟩, 11) := ⟨⟨by decide +kernel, by decide +kernel⟩, List.mem_of_getElem? (i := 106) (by decide +kernel), List.mem_of_getElem? (i := 436) (by decide +kernel), List.mem_of_getElem? (i := 437) (by decide +kernel)⟩
theorem lw_p12 : lw_okq (⟨"PatternGate$Compiler", "partAt", "([LPatternGate$Part;I)LPatternGate$Part;"⟩, 11) := ⟨⟨by decide +kernel, by decide +kernel⟩, List.mem_of_getElem? (i := 106) (by decide +kernel), List.mem_of_getElem? (i := 440) (by decide +kernel), List.mem_of_getElem? (i := 441) (by decide +kernel)⟩
theorem lw_p13 : lw_okq (⟨"PatternGate$Compiler", "closeBranch", "(I)V"⟩, 11) := ⟨⟨by decide +kernel, by decide +kernel⟩, List.mem_of_getElem? (i := 106) (by decide +kernel), List.mem_of_getElem? (i := 456) (by decide +kernel), List.mem_of_getElem? (i := 457) (by decide +kernel)⟩
theorem lw_p14 : lw_okq (⟨"PatternGate$Need", "add", "([III)V"⟩, 4) := ⟨⟨by decide +kernel, by decide +kernel⟩, List.mem_of_getElem? (i := 133) (by decide +kernel), List.mem_of_getElem? (i := 490) (by decide +kernel), List.mem_of_getElem? (i := 491) (by decide +kernel)⟩
theorem lw_p15 : lw_okq (⟨"PatternGate$Need", "isEmptyChoice", "()Z"⟩, 4) := ⟨⟨by decide +kernel, by decide +kernel⟩, List.mem_of_getElem? (i := 133) (by decide +kernel), List.mem_of_getElem? (i := 501) (by decide +kernel), List.mem_of_getElem? (i := 502) (by decide +kernel)⟩
def lw_privs_1 : List (MethodName × Nat) := [(⟨"PatternGate", "putBytes", "(I)V"⟩, 16), (⟨"PatternGate", "refuse", "(I)I"⟩, 16), (⟨"PatternGate", "readTape", "(III)Z"⟩, 16), (⟨"PatternGate$Reader", "readWord", "([III)I"⟩, 11), (⟨"PatternGate$Reader", "fail", "(II)V"⟩, 11), (⟨"PatternGate$Reader", "readQuote", "([III)I"⟩, 11), (⟨"PatternGate$Reader", "endOfDoc", "([III)I"⟩, 11), (⟨"PatternGate$Reader", "endOfPattern", "([III)I"⟩, 11), (⟨"PatternGate$Reader", "endOfSet", "([III)I"⟩, 11), (⟨"PatternGate$Reader", "readSemicolon", "(I)V"⟩, 11), (⟨"PatternGate", "bookBehind", "([LPatternGate$Doc;[LPatternGate$Pattern;)LPatternGate$Book;"⟩, 16), (⟨"PatternGate$Compiler", "openWhole", "(I)V"⟩, 11), (⟨"PatternGate$Compiler", "partAt", "([LPatternGate$Part;I)LPatternGate$Part;"⟩, 11), (⟨"PatternGate$Compiler", "closeBranch", "(I)V"⟩, 11), (⟨"PatternGate$Need", "add", "([III)V"⟩, 4), (⟨"PatternGate$Need", "isEmptyChoice", "()Z"⟩, 4)]
theorem lw_r1 : ∀ q ∈ lw_privs_1, lw_okq q := List.forall_mem_cons.mpr ⟨lw_p0, List.forall_mem_cons.mpr ⟨lw_p1, List.forall_mem_cons.mpr ⟨lw_p2, List.forall_mem_cons.mpr ⟨lw_p3, List.forall_mem_cons.mpr ⟨lw_p4, List.forall_mem_cons.mpr ⟨lw_p5, List.forall_mem_cons.mpr ⟨lw_p6, List.forall_mem_cons.mpr ⟨lw_p7, List.forall_mem_cons.mpr ⟨lw_p8, List.forall_mem_cons.mpr ⟨lw_p9, List.forall_mem_cons.mpr ⟨lw_p10, List.forall_mem_cons.mpr ⟨lw_p11, List.forall_mem_cons.mpr ⟨lw_p12, List.forall_mem_cons.mpr ⟨lw_p13, List.forall_mem_cons.mpr ⟨lw_p14, List.forall_mem_cons.mpr ⟨lw_p15, fun _ h => absurd h List.not_mem_nil⟩⟩⟩⟩⟩⟩⟩⟩⟩⟩⟩⟩⟩⟩⟩⟩
theorem lw_p16 : lw_okq (⟨"PatternGate$Compiler", "closedWhole", "(I)LPatternGate$Part;"⟩, 11) := ⟨⟨by decide +kernel, by decide +kernel⟩, List.mem_of_getElem? (i := 106) (by decide +kernel), List.mem_of_getElem? (i := 539) (by decide +kernel), List.mem_of_getElem? (i := 540) (by decide +kernel)⟩
theorem lw_p17 : lw_okq (⟨"PatternGate$Compiler", "readSpot", "([III)I"⟩, 11) := ⟨⟨by decide +kernel, by decide +kernel⟩, List.mem_of_getElem? (i := 106) (by decide +kernel), List.mem_of_getElem? (i := 543) (by decide +kernel), List.mem_of_getElem? (i := 544) (by decide +kernel)⟩
theorem lw_p18 : lw_okq (⟨"PatternGate$Compiler", "readSign", "(LPatternGate$Part;[III)I"⟩, 11) := ⟨⟨by decide +kernel, by decide +kernel⟩, List.mem_of_getElem? (i := 106) (by decide +kernel), List.mem_of_getElem? (i := 567) (by decide +kernel), List.mem_of_getElem? (i := 568) (by decide +kernel)⟩
theorem lw_p19 : lw_okq (⟨"PatternGate$Compiler", "addFollow", "(II)V"⟩, 11) := ⟨⟨by decide +kernel, by decide +kernel⟩, List.mem_of_getElem? (i := 106) (by decide +kernel), List.mem_of_getElem? (i := 576) (by decide +kernel), List.mem_of_getElem? (i := 577) (by decide +kernel)⟩
theorem lw_p20 : lw_okq (⟨"PatternGate$Compiler", "addRows", "(LPatternGate$Part;LPatternGate$Part;)V"⟩, 11) := ⟨⟨by decide +kernel, by decide +kernel⟩, List.mem_of_getElem? (i := 106) (by decide +kernel), List.mem_of_getElem? (i := 580) (by decide +kernel), List.mem_of_getElem? (i := 581) (by decide +kernel)⟩
theorem lw_p21 : lw_okq (⟨"PatternGate$Compiler", "addSpots", "(LPatternGate$Part;LPatternGate$Part;)V"⟩, 11) := ⟨⟨by decide +kernel, by decide +kernel⟩, List.mem_of_getElem? (i := 106) (by decide +kernel), List.mem_of_getElem? (i := 595) (by decide +kernel), List.mem_of_getElem? (i := 596) (by decide +kernel)⟩
theorem lw_p22 : lw_okq (⟨"PatternGate$Need", "standsAhead", "(II)Z"⟩, 4) := ⟨⟨by decide +kernel, by decide +kernel⟩, List.mem_of_getElem? (i := 133) (by decide +kernel), List.mem_of_getElem? (i := 636) (by decide +kernel), List.mem_of_getElem? (i := 637) (by decide +kernel)⟩
theorem lw_p23 : lw_okq (⟨"PatternGate", "act", "(LPatternGate$Book;)V"⟩, 16) := ⟨⟨by decide +kernel, by decide +kernel⟩, List.mem_of_getElem? (i := 23) (by decide +kernel), List.mem_of_getElem? (i := 735) (by decide +kernel), List.mem_of_getElem? (i := 736) (by decide +kernel)⟩
theorem lw_p24 : lw_okq (⟨"PatternGate", "answer", "(I)I"⟩, 16) := ⟨⟨by decide +kernel, by decide +kernel⟩, List.mem_of_getElem? (i := 23) (by decide +kernel), List.mem_of_getElem? (i := 740) (by decide +kernel), List.mem_of_getElem? (i := 741) (by decide +kernel)⟩
theorem lw_p25 : lw_okq (⟨"PatternGate", "fittingPatterns", "(LPatternGate$Doc;)I"⟩, 16) := ⟨⟨by decide +kernel, by decide +kernel⟩, List.mem_of_getElem? (i := 23) (by decide +kernel), List.mem_of_getElem? (i := 781) (by decide +kernel), List.mem_of_getElem? (i := 782) (by decide +kernel)⟩
theorem lw_p26 : lw_okq (⟨"PatternGate$Pattern", "followersOf", "(I)I"⟩, 13) := ⟨⟨by decide +kernel, by decide +kernel⟩, List.mem_of_getElem? (i := 617) (by decide +kernel), List.mem_of_getElem? (i := 793) (by decide +kernel), List.mem_of_getElem? (i := 794) (by decide +kernel)⟩
theorem lw_p27 : lw_okq (⟨"PatternGate$Pattern", "takersOf", "(I)I"⟩, 13) := ⟨⟨by decide +kernel, by decide +kernel⟩, List.mem_of_getElem? (i := 617) (by decide +kernel), List.mem_of_getElem? (i := 797) (by decide +kernel), List.mem_of_getElem? (i := 798) (by decide +kernel)⟩
theorem lw_p28 : lw_okq (⟨"PatternGate", "admittingPatterns", "(I)I"⟩, 16) := ⟨⟨by decide +kernel, by decide +kernel⟩, List.mem_of_getElem? (i := 23) (by decide +kernel), List.mem_of_getElem? (i := 801) (by decide +kernel), List.mem_of_getElem? (i := 802) (by decide +kernel)⟩
theorem lw_p29 : lw_okq (⟨"PatternGate$Walk", "leapThrough", "(I)V"⟩, 3) := ⟨⟨by decide +kernel, by decide +kernel⟩, List.mem_of_getElem? (i := 234) (by decide +kernel), List.mem_of_getElem? (i := 823) (by decide +kernel), List.mem_of_getElem? (i := 824) (by decide +kernel)⟩
theorem lw_p30 : lw_okq (⟨"PatternGate", "fittingDocuments", "(LPatternGate$Pattern;)I"⟩, 16) := ⟨⟨by decide +kernel, by decide +kernel⟩, List.mem_of_getElem? (i := 23) (by decide +kernel), List.mem_of_getElem? (i := 875) (by decide +kernel), List.mem_of_getElem? (i := 876) (by decide +kernel)⟩
theorem lw_p31 : lw_okq (⟨"PatternGate$Pattern", "leadersTo", "(I)I"⟩, 13) := ⟨⟨by decide +kernel, by decide +kernel⟩, List.mem_of_getElem? (i := 617) (by decide +kernel), List.mem_of_getElem? (i := 1002) (by decide +kernel), List.mem_of_getElem? (i := 1003) (by decide +kernel)⟩
def lw_privs_2 : List (MethodName × Nat) := [(⟨"PatternGate$Compiler", "closedWhole", "(I)LPatternGate$Part;"⟩, 11), (⟨"PatternGate$Compiler", "readSpot", "([III)I"⟩, 11), (⟨"PatternGate$Compiler", "readSign", "(LPatternGate$Part;[III)I"⟩, 11), (⟨"PatternGate$Compiler", "addFollow", "(II)V"⟩, 11), (⟨"PatternGate$Compiler", "addRows", "(LPatternGate$Part;LPatternGate$Part;)V"⟩, 11), (⟨"PatternGate$Compiler", "addSpots", "(LPatternGate$Part;LPatternGate$Part;)V"⟩, 11), (⟨"PatternGate$Need", "standsAhead", "(II)Z"⟩, 4), (⟨"PatternGate", "act", "(LPatternGate$Book;)V"⟩, 16), (⟨"PatternGate", "answer", "(I)I"⟩, 16), (⟨"PatternGate", "fittingPatterns", "(LPatternGate$Doc;)I"⟩, 16), (⟨"PatternGate$Pattern", "followersOf", "(I)I"⟩, 13), (⟨"PatternGate$Pattern", "takersOf", "(I)I"⟩, 13), (⟨"PatternGate", "admittingPatterns", "(I)I"⟩, 16), (⟨"PatternGate$Walk", "leapThrough", "(I)V"⟩, 3), (⟨"PatternGate", "fittingDocuments", "(LPatternGate$Pattern;)I"⟩, 16), (⟨"PatternGate$Pattern", "leadersTo", "(I)I"⟩, 13)]
theorem lw_r2 : ∀ q ∈ lw_privs_2, lw_okq q := List.forall_mem_cons.mpr ⟨lw_p16, List.forall_mem_cons.mpr ⟨lw_p17, List.forall_mem_cons.mpr ⟨lw_p18, List.forall_mem_cons.mpr ⟨lw_p19, List.forall_mem_cons.mpr ⟨lw_p20, List.forall_mem_cons.mpr ⟨lw_p21, List.forall_mem_cons.mpr ⟨lw_p22, List.forall_mem_cons.mpr ⟨lw_p23, List.forall_mem_cons.mpr ⟨lw_p24, List.forall_mem_cons.mpr ⟨lw_p25, List.forall_mem_cons.mpr ⟨lw_p26, List.forall_mem_cons.mpr ⟨lw_p27, List.forall_mem_cons.mpr ⟨lw_p28, List.forall_mem_cons.mpr ⟨lw_p29, List.forall_mem_cons.mpr ⟨lw_p30, List.forall_mem_cons.mpr ⟨lw_p31, fun _ h => absurd h List.not_mem_nil⟩⟩⟩⟩⟩⟩⟩⟩⟩⟩⟩⟩⟩⟩⟩⟩
theorem lw_p32 : lw_okq (⟨"PatternGateModel", "four", "(I)V"⟩, 48) := ⟨⟨by decide +kernel, by decide +kernel⟩, List.mem_of_getElem? (i := 1006) (by decide +kernel), List.mem_of_getElem? (i := 1172) (by decide +kernel), List.mem_of_getElem? (i := 1173) (by decide +kernel)⟩
theorem lw_p33 : lw_okq (⟨"PatternGateModel", "refuse", "(I)I"⟩, 48) := ⟨⟨by decide +kernel, by decide +kernel⟩, List.mem_of_getElem? (i := 1006) (by decide +kernel), List.mem_of_getElem? (i := 1183) (by decide +kernel), List.mem_of_getElem? (i := 1184) (by decide +kernel)⟩
theorem lw_p34 : lw_okq (⟨"PatternGateModel", "reads", "(IZ)Z"⟩, 48) := ⟨⟨by decide +kernel, by decide +kernel⟩, List.mem_of_getElem? (i := 1006) (by decide +kernel), List.mem_of_getElem? (i := 1187) (by decide +kernel), List.mem_of_getElem? (i := 1188) (by decide +kernel)⟩
theorem lw_p35 : lw_okq (⟨"PatternGateModel", "copies", "(II)V"⟩, 48) := ⟨⟨by decide +kernel, by decide +kernel⟩, List.mem_of_getElem? (i := 1006) (by decide +kernel), List.mem_of_getElem? (i := 1191) (by decide +kernel), List.mem_of_getElem? (i := 1192) (by decide +kernel)⟩
theorem lw_p36 : lw_okq (⟨"PatternGateModel", "ahead", "()V"⟩, 48) := ⟨⟨by decide +kernel, by decide +kernel⟩, List.mem_of_getElem? (i := 1006) (by decide +kernel), List.mem_of_getElem? (i := 1195) (by decide +kernel), List.mem_of_getElem? (i := 1196) (by decide +kernel)⟩
theorem lw_p37 : lw_okq (⟨"PatternGateModel", "byteAt", "(I)I"⟩, 48) := ⟨⟨by decide +kernel, by decide +kernel⟩, List.mem_of_getElem? (i := 1006) (by decide +kernel), List.mem_of_getElem? (i := 1199) (by decide +kernel), List.mem_of_getElem? (i := 1200) (by decide +kernel)⟩
theorem lw_p38 : lw_okq (⟨"PatternGateModel", "aLine", "()Z"⟩, 48) := ⟨⟨by decide +kernel, by decide +kernel⟩, List.mem_of_getElem? (i := 1006) (by decide +kernel), List.mem_of_getElem? (i := 1206) (by decide +kernel), List.mem_of_getElem? (i := 1207) (by decide +kernel)⟩
theorem lw_p39 : lw_okq (⟨"PatternGateModel", "isWord", "(Ljava/lang/String;)Z"⟩, 48) := ⟨⟨by decide +kernel, by decide +kernel⟩, List.mem_of_getElem? (i := 1006) (by decide +kernel), List.mem_of_getElem? (i := 1211) (by decide +kernel), List.mem_of_getElem? (i := 1212) (by decide +kernel)⟩
theorem lw_p40 : lw_okq (⟨"PatternGateModel", "fails", "(I)Z"⟩, 48) := ⟨⟨by decide +kernel, by decide +kernel⟩, List.mem_of_getElem? (i := 1006) (by decide +kernel), List.mem_of_getElem? (i := 1218) (by decide +kernel), List.mem_of_getElem? (i := 1219) (by decide +kernel)⟩
theorem lw_p41 : lw_okq (⟨"PatternGateModel", "failsAt", "(II)Z"⟩, 48) := ⟨⟨by decide +kernel, by decide +kernel⟩, List.mem_of_getElem? (i := 1006) (by decide +kernel), List.mem_of_getElem? (i := 1222) (by decide +kernel), List.mem_of_getElem? (i := 1223) (by decide +kernel)⟩
theorem lw_p42 : lw_okq (⟨"PatternGateModel", "docQuote", "()Z"⟩, 48) := ⟨⟨by decide +kernel, by decide +kernel⟩, List.mem_of_getElem? (i := 1006) (by decide +kernel), List.mem_of_getElem? (i := 1226) (by decide +kernel), List.mem_of_getElem? (i := 1227) (by decide +kernel)⟩
theorem lw_p43 : lw_okq (⟨"PatternGateModel", "patternQuote", "()Z"⟩, 48) := ⟨⟨by decide +kernel, by decide +kernel⟩, List.mem_of_getElem? (i := 1006) (by decide +kernel), List.mem_of_getElem? (i := 1230) (by decide +kernel), List.mem_of_getElem? (i := 1231) (by decide +kernel)⟩
theorem lw_p44 : lw_okq (⟨"PatternGateModel", "isPatternAt", "(I)Z"⟩, 48) := ⟨⟨by decide +kernel, by decide +kernel⟩, List.mem_of_getElem? (i := 1006) (by decide +kernel), List.mem_of_getElem? (i := 1234) (by decide +kernel), List.mem_of_getElem? (i := 1235) (by decide +kernel)⟩
theorem lw_p45 : lw_okq (⟨"PatternGateModel", "isBranchAt", "(I)Z"⟩, 48) := ⟨⟨by decide +kernel, by decide +kernel⟩, List.mem_of_getElem? (i := 1006) (by decide +kernel), List.mem_of_getElem? (i := 1238) (by decide +kernel), List.mem_of_getElem? (i := 1239) (by decide +kernel)⟩
theorem lw_p46 : lw_okq (⟨"PatternGateModel", "isAtomSign", "(I)Z"⟩, 48) := ⟨⟨by decide +kernel, by decide +kernel⟩, List.mem_of_getElem? (i := 1006) (by decide +kernel), List.mem_of_getElem? (i := 1242) (by decide +kernel), List.mem_of_getElem? (i := 1243) (by decide +kernel)⟩
theorem lw_p47 : lw_okq (⟨"PatternGateModel", "isAtomAt", "(I)Z"⟩, 48) := ⟨⟨by decide +kernel, by decide +kernel⟩, List.mem_of_getElem? (i := 1006) (by decide +kernel), List.mem_of_getElem? (i := 1246) (by decide +kernel), List.mem_of_getElem? (i := 1247) (by decide +kernel)⟩
def lw_privs_3 : List (MethodName × Nat) := [(⟨"PatternGateModel", "four", "(I)V"⟩, 48), (⟨"PatternGateModel", "refuse", "(I)I"⟩, 48), (⟨"PatternGateModel", "reads", "(IZ)Z"⟩, 48), (⟨"PatternGateModel", "copies", "(II)V"⟩, 48), (⟨"PatternGateModel", "ahead", "()V"⟩, 48), (⟨"PatternGateModel", "byteAt", "(I)I"⟩, 48), (⟨"PatternGateModel", "aLine", "()Z"⟩, 48), (⟨"PatternGateModel", "isWord", "(Ljava/lang/String;)Z"⟩, 48), (⟨"PatternGateModel", "fails", "(I)Z"⟩, 48), (⟨"PatternGateModel", "failsAt", "(II)Z"⟩, 48), (⟨"PatternGateModel", "docQuote", "()Z"⟩, 48), (⟨"PatternGateModel", "patternQuote", "()Z"⟩, 48), (⟨"PatternGateModel", "isPatternAt", "(I)Z"⟩, 48), (⟨"PatternGateModel", "isBranchAt", "(I)Z"⟩, 48), (⟨"PatternGateModel", "isAtomSign", "(I)Z"⟩, 48), (⟨"PatternGateModel", "isAtomAt", "(I)Z"⟩, 48)]
theorem lw_r3 : ∀ q ∈ lw_privs_3, lw_okq q := List.forall_mem_cons.mpr ⟨lw_p32, List.forall_mem_cons.mpr ⟨lw_p33, List.forall_mem_cons.mpr ⟨lw_p34, List.forall_mem_cons.mpr ⟨lw_p35, List.forall_mem_cons.mpr ⟨lw_p36, List.forall_mem_cons.mpr ⟨lw_p37, List.forall_mem_cons.mpr ⟨lw_p38, List.forall_mem_cons.mpr ⟨lw_p39, List.forall_mem_cons.mpr ⟨lw_p40, List.forall_mem_cons.mpr ⟨lw_p41, List.forall_mem_cons.mpr ⟨lw_p42, List.forall_mem_cons.mpr ⟨lw_p43, List.forall_mem_cons.mpr ⟨lw_p44, List.forall_mem_cons.mpr ⟨lw_p45, List.forall_mem_cons.mpr ⟨lw_p46, List.forall_mem_cons.mpr ⟨lw_p47, fun _ h => absurd h List.not_mem_nil⟩⟩⟩⟩⟩⟩⟩⟩⟩⟩⟩⟩⟩⟩⟩⟩
theorem lw_p48 : lw_okq (⟨"PatternGateModel", "isSetAt", "()Z"⟩, 48) := ⟨⟨by decide +kernel, by decide +kernel⟩, List.mem_of_getElem? (i := 1006) (by decide +kernel), List.mem_of_getElem? (i := 1250) (by decide +kernel), List.mem_of_getElem? (i := 1251) (by decide +kernel)⟩
theorem lw_p49 : lw_okq (⟨"PatternGateModel", "acted", "()V"⟩, 48) := ⟨⟨by decide +kernel, by decide +kernel⟩, List.mem_of_getElem? (i := 1006) (by decide +kernel), List.mem_of_getElem? (i := 1257) (by decide +kernel), List.mem_of_getElem? (i := 1258) (by decide +kernel)⟩
theorem lw_p50 : lw_okq (⟨"PatternGateModel", "gives", "(I)I"⟩, 48) := ⟨⟨by decide +kernel, by decide +kernel⟩, List.mem_of_getElem? (i := 1006) (by decide +kernel), List.mem_of_getElem? (i := 1261) (by decide +kernel), List.mem_of_getElem? (i := 1262) (by decide +kernel)⟩
theorem lw_p51 : lw_okq (⟨"PatternGateModel", "allLetters", "()I"⟩, 48) := ⟨⟨by decide +kernel, by decide +kernel⟩, List.mem_of_getElem? (i := 1006) (by decide +kernel), List.mem_of_getElem? (i := 1277) (by decide +kernel), List.mem_of_getElem? (i := 1278) (by decide +kernel)⟩
theorem lw_p52 : lw_okq (⟨"PatternGateModel", "sizeOf", "(I)I"⟩, 48) := ⟨⟨by decide +kernel, by decide +kernel⟩, List.mem_of_getElem? (i := 1006) (by decide +kernel), List.mem_of_getElem? (i := 1281) (by decide +kernel), List.mem_of_getElem? (i := 1282) (by decide +kernel)⟩
theorem lw_p53 : lw_okq (⟨"PatternGateModel", "unlike", "(II)I"⟩, 48) := ⟨⟨by decide +kernel, by decide +kernel⟩, List.mem_of_getElem? (i := 1006) (by decide +kernel), List.mem_of_getElem? (i := 1285) (by decide +kernel), List.mem_of_getElem? (i := 1286) (by decide +kernel)⟩
theorem lw_p54 : lw_okq (⟨"PatternGateModel", "tripleAt", "(II)I"⟩, 48) := ⟨⟨by decide +kernel, by decide +kernel⟩, List.mem_of_getElem? (i := 1006) (by decide +kernel), List.mem_of_getElem? (i := 1289) (by decide +kernel), List.mem_of_getElem? (i := 1290) (by decide +kernel)⟩
theorem lw_p55 : lw_okq (⟨"PatternGateModel", "at", "(II)I"⟩, 48) := ⟨⟨by decide +kernel, by decide +kernel⟩, List.mem_of_getElem? (i := 1006) (by decide +kernel), List.mem_of_getElem? (i := 1293) (by decide +kernel), List.mem_of_getElem? (i := 1294) (by decide +kernel)⟩
theorem lw_p56 : lw_okq (⟨"PatternGateModel", "isDoc", "(I)Z"⟩, 48) := ⟨⟨by decide +kernel, by decide +kernel⟩, List.mem_of_getElem? (i := 1006) (by decide +kernel), List.mem_of_getElem? (i := 1301) (by decide +kernel), List.mem_of_getElem? (i := 1302) (by decide +kernel)⟩
theorem lw_p57 : lw_okq (⟨"PatternGateModel", "patternsOf", "(IZ)I"⟩, 48) := ⟨⟨by decide +kernel, by decide +kernel⟩, List.mem_of_getElem? (i := 1006) (by decide +kernel), List.mem_of_getElem? (i := 1305) (by decide +kernel), List.mem_of_getElem? (i := 1306) (by decide +kernel)⟩
theorem lw_p58 : lw_okq (⟨"PatternGateModel", "candidates", "(I)I"⟩, 48) := ⟨⟨by decide +kernel, by decide +kernel⟩, List.mem_of_getElem? (i := 1006) (by decide +kernel), List.mem_of_getElem? (i := 1309) (by decide +kernel), List.mem_of_getElem? (i := 1310) (by decide +kernel)⟩
theorem lw_p59 : lw_okq (⟨"PatternGateModel", "needsOf", "(I)V"⟩, 48) := ⟨⟨by decide +kernel, by decide +kernel⟩, List.mem_of_getElem? (i := 1006) (by decide +kernel), List.mem_of_getElem? (i := 1313) (by decide +kernel), List.mem_of_getElem? (i := 1314) (by decide +kernel)⟩
theorem lw_p60 : lw_okq (⟨"PatternGateModel", "opens", "(I)I"⟩, 48) := ⟨⟨by decide +kernel, by decide +kernel⟩, List.mem_of_getElem? (i := 1006) (by decide +kernel), List.mem_of_getElem? (i := 1317) (by decide +kernel), List.mem_of_getElem? (i := 1318) (by decide +kernel)⟩
theorem lw_p61 : lw_okq (⟨"PatternGateModel", "patternKnot", "()I"⟩, 48) := ⟨⟨by decide +kernel, by decide +kernel⟩, List.mem_of_getElem? (i := 1006) (by decide +kernel), List.mem_of_getElem? (i := 1321) (by decide +kernel), List.mem_of_getElem? (i := 1322) (by decide +kernel)⟩
theorem lw_p62 : lw_okq (⟨"PatternGateModel", "knot", "(I)I"⟩, 48) := ⟨⟨by decide +kernel, by decide +kernel⟩, List.mem_of_getElem? (i := 1006) (by decide +kernel), List.mem_of_getElem? (i := 1325) (by decide +kernel), List.mem_of_getElem? (i := 1326) (by decide +kernel)⟩
theorem lw_p63 : lw_okq (⟨"PatternGateModel", "branchKnot", "()I"⟩, 48) := ⟨⟨by decide +kernel, by decide +kernel⟩, List.mem_of_getElem? (i := 1006) (by decide +kernel), List.mem_of_getElem? (i := 1329) (by decide +kernel), List.mem_of_getElem? (i := 1330) (by decide +kernel)⟩
def lw_privs_4 : List (MethodName × Nat) := [(⟨"PatternGateModel", "isSetAt", "()Z"⟩, 48), (⟨"PatternGateModel", "acted", "()V"⟩, 48), (⟨"PatternGateModel", "gives", "(I)I"⟩, 48), (⟨"PatternGateModel", "allLetters", "()I"⟩, 48), (⟨"PatternGateModel", "sizeOf", "(I)I"⟩, 48), (⟨"PatternGateModel", "unlike", "(II)I"⟩, 48), (⟨"PatternGateModel", "tripleAt", "(II)I"⟩, 48), (⟨"PatternGateModel", "at", "(II)I"⟩, 48), (⟨"PatternGateModel", "isDoc", "(I)Z"⟩, 48), (⟨"PatternGateModel", "patternsOf", "(IZ)I"⟩, 48), (⟨"PatternGateModel", "candidates", "(I)I"⟩, 48), (⟨"PatternGateModel", "needsOf", "(I)V"⟩, 48), (⟨"PatternGateModel", "opens", "(I)I"⟩, 48), (⟨"PatternGateModel", "patternKnot", "()I"⟩, 48), (⟨"PatternGateModel", "knot", "(I)I"⟩, 48), (⟨"PatternGateModel", "branchKnot", "()I"⟩, 48)]
theorem lw_r4 : ∀ q ∈ lw_privs_4, lw_okq q := List.forall_mem_cons.mpr ⟨lw_p48, List.forall_mem_cons.mpr ⟨lw_p49, List.forall_mem_cons.mpr ⟨lw_p50, List.forall_mem_cons.mpr ⟨lw_p51, List.forall_mem_cons.mpr ⟨lw_p52, List.forall_mem_cons.mpr ⟨lw_p53, List.forall_mem_cons.mpr ⟨lw_p54, List.forall_mem_cons.mpr ⟨lw_p55, List.forall_mem_cons.mpr ⟨lw_p56, List.forall_mem_cons.mpr ⟨lw_p57, List.forall_mem_cons.mpr ⟨lw_p58, List.forall_mem_cons.mpr ⟨lw_p59, List.forall_mem_cons.mpr ⟨lw_p60, List.forall_mem_cons.mpr ⟨lw_p61, List.forall_mem_cons.mpr ⟨lw_p62, List.forall_mem_cons.mpr ⟨lw_p63, fun _ h => absurd h List.not_mem_nil⟩⟩⟩⟩⟩⟩⟩⟩⟩⟩⟩⟩⟩⟩⟩⟩
theorem lw_p64 : lw_okq (⟨"PatternGateModel", "signAt", "()I"⟩, 48) := ⟨⟨by decide +kernel, by decide +kernel⟩, List.mem_of_getElem? (i := 1006) (by decide +kernel), List.mem_of_getElem? (i := 1333) (by decide +kernel), List.mem_of_getElem? (i := 1334) (by decide +kernel)⟩
theorem lw_p65 : lw_okq (⟨"PatternGateModel", "itemKnot", "()I"⟩, 48) := ⟨⟨by decide +kernel, by decide +kernel⟩, List.mem_of_getElem? (i := 1006) (by decide +kernel), List.mem_of_getElem? (i := 1337) (by decide +kernel), List.mem_of_getElem? (i := 1338) (by decide +kernel)⟩
theorem lw_p66 : lw_okq (⟨"PatternGateModel", "joins", "(III)I"⟩, 48) := ⟨⟨by decide +kernel, by decide +kernel⟩, List.mem_of_getElem? (i := 1006) (by decide +kernel), List.mem_of_getElem? (i := 1341) (by decide +kernel), List.mem_of_getElem? (i := 1342) (by decide +kernel)⟩
theorem lw_p67 : lw_okq (⟨"PatternGateModel", "spotKnot", "(I)I"⟩, 48) := ⟨⟨by decide +kernel, by decide +kernel⟩, List.mem_of_getElem? (i := 1006) (by decide +kernel), List.mem_of_getElem? (i := 1345) (by decide +kernel), List.mem_of_getElem? (i := 1346) (by decide +kernel)⟩
theorem lw_p68 : lw_okq (⟨"PatternGateModel", "newSet", "()I"⟩, 48) := ⟨⟨by decide +kernel, by decide +kernel⟩, List.mem_of_getElem? (i := 1006) (by decide +kernel), List.mem_of_getElem? (i := 1350) (by decide +kernel), List.mem_of_getElem? (i := 1351) (by decide +kernel)⟩
theorem lw_p69 : lw_okq (⟨"PatternGateModel", "newNeed", "()I"⟩, 48) := ⟨⟨by decide +kernel, by decide +kernel⟩, List.mem_of_getElem? (i := 1006) (by decide +kernel), List.mem_of_getElem? (i := 1354) (by decide +kernel), List.mem_of_getElem? (i := 1355) (by decide +kernel)⟩
theorem lw_p70 : lw_okq (⟨"PatternGateModel", "oneEmpty", "(I)V"⟩, 48) := ⟨⟨by decide +kernel, by decide +kernel⟩, List.mem_of_getElem? (i := 1006) (by decide +kernel), List.mem_of_getElem? (i := 1358) (by decide +kernel), List.mem_of_getElem? (i := 1359) (by decide +kernel)⟩
theorem lw_p71 : lw_okq (⟨"PatternGateModel", "worksOut", "(III)Z"⟩, 48) := ⟨⟨by decide +kernel, by decide +kernel⟩, List.mem_of_getElem? (i := 1006) (by decide +kernel), List.mem_of_getElem? (i := 1362) (by decide +kernel), List.mem_of_getElem? (i := 1363) (by decide +kernel)⟩
theorem lw_p72 : lw_okq (⟨"PatternGateModel", "worksSpot", "(III)Z"⟩, 48) := ⟨⟨by decide +kernel, by decide +kernel⟩, List.mem_of_getElem? (i := 1006) (by decide +kernel), List.mem_of_getElem? (i := 1366) (by decide +kernel), List.mem_of_getElem? (i := 1367) (by decide +kernel)⟩
theorem lw_p73 : lw_okq (⟨"PatternGateModel", "addsRow", "(IJ)V"⟩, 48) := ⟨⟨by decide +kernel, by decide +kernel⟩, List.mem_of_getElem? (i := 1006) (by decide +kernel), List.mem_of_getElem? (i := 1377) (by decide +kernel), List.mem_of_getElem? (i := 1378) (by decide +kernel)⟩
theorem lw_p74 : lw_okq (⟨"PatternGateModel", "worksItem", "(III)Z"⟩, 48) := ⟨⟨by decide +kernel, by decide +kernel⟩, List.mem_of_getElem? (i := 1006) (by decide +kernel), List.mem_of_getElem? (i := 1381) (by decide +kernel), List.mem_of_getElem? (i := 1382) (by decide +kernel)⟩
theorem lw_p75 : lw_okq (⟨"PatternGateModel", "worksBranch", "(III)Z"⟩, 48) := ⟨⟨by decide +kernel, by decide +kernel⟩, List.mem_of_getElem? (i := 1006) (by decide +kernel), List.mem_of_getElem? (i := 1385) (by decide +kernel), List.mem_of_getElem? (i := 1386) (by decide +kernel)⟩
theorem lw_p76 : lw_okq (⟨"PatternGateModel", "ofRows", "(II)V"⟩, 48) := ⟨⟨by decide +kernel, by decide +kernel⟩, List.mem_of_getElem? (i := 1006) (by decide +kernel), List.mem_of_getElem? (i := 1389) (by decide +kernel), List.mem_of_getElem? (i := 1390) (by decide +kernel)⟩
theorem lw_p77 : lw_okq (⟨"PatternGateModel", "cutsDown", "()V"⟩, 48) := ⟨⟨by decide +kernel, by decide +kernel⟩, List.mem_of_getElem? (i := 1006) (by decide +kernel), List.mem_of_getElem? (i := 1400) (by decide +kernel), List.mem_of_getElem? (i := 1401) (by decide +kernel)⟩
theorem lw_p78 : lw_okq (⟨"PatternGateModel", "becomes", "(I)V"⟩, 48) := ⟨⟨by decide +kernel, by decide +kernel⟩, List.mem_of_getElem? (i := 1006) (by decide +kernel), List.mem_of_getElem? (i := 1410) (by decide +kernel), List.mem_of_getElem? (i := 1411) (by decide +kernel)⟩
theorem lw_p79 : lw_okq (⟨"PatternGateModel", "both", "(II)V"⟩, 48) := ⟨⟨by decide +kernel, by decide +kernel⟩, List.mem_of_getElem? (i := 1006) (by decide +kernel), List.mem_of_getElem? (i := 1414) (by decide +kernel), List.mem_of_getElem? (i := 1415) (by decide +kernel)⟩
def lw_privs_5 : List (MethodName × Nat) := [(⟨"PatternGateModel", "signAt", "()I"⟩, 48), (⟨"PatternGateModel", "itemKnot", "()I"⟩, 48), (⟨"PatternGateModel", "joins", "(III)I"⟩, 48), (⟨"PatternGateModel", "spotKnot", "(I)I"⟩, 48), (⟨"PatternGateModel", "newSet", "()I"⟩, 48), (⟨"PatternGateModel", "newNeed", "()I"⟩, 48), (⟨"PatternGateModel", "oneEmpty", "(I)V"⟩, 48), (⟨"PatternGateModel", "worksOut", "(III)Z"⟩, 48), (⟨"PatternGateModel", "worksSpot", "(III)Z"⟩, 48), (⟨"PatternGateModel", "addsRow", "(IJ)V"⟩, 48), (⟨"PatternGateModel", "worksItem", "(III)Z"⟩, 48), (⟨"PatternGateModel", "worksBranch", "(III)Z"⟩, 48), (⟨"PatternGateModel", "ofRows", "(II)V"⟩, 48), (⟨"PatternGateModel", "cutsDown", "()V"⟩, 48), (⟨"PatternGateModel", "becomes", "(I)V"⟩, 48), (⟨"PatternGateModel", "both", "(II)V"⟩, 48)]
theorem lw_r5 : ∀ q ∈ lw_privs_5, lw_okq q := List.forall_mem_cons.mpr ⟨lw_p64, List.forall_mem_cons.mpr ⟨lw_p65, List.forall_mem_cons.mpr ⟨lw_p66, List.forall_mem_cons.mpr ⟨lw_p67, List.forall_mem_cons.mpr ⟨lw_p68, List.forall_mem_cons.mpr ⟨lw_p69, List.forall_mem_cons.mpr ⟨lw_p70, List.forall_mem_cons.mpr ⟨lw_p71, List.forall_mem_cons.mpr ⟨lw_p72, List.forall_mem_cons.mpr ⟨lw_p73, List.forall_mem_cons.mpr ⟨lw_p74, List.forall_mem_cons.mpr ⟨lw_p75, List.forall_mem_cons.mpr ⟨lw_p76, List.forall_mem_cons.mpr ⟨lw_p77, List.forall_mem_cons.mpr ⟨lw_p78, List.forall_mem_cons.mpr ⟨lw_p79, fun _ h => absurd h List.not_mem_nil⟩⟩⟩⟩⟩⟩⟩⟩⟩⟩⟩⟩⟩⟩⟩⟩
theorem lw_p80 : lw_okq (⟨"PatternGateModel", "crosses", "(IIIZ)Z"⟩, 48) := ⟨⟨by decide +kernel, by decide +kernel⟩, List.mem_of_getElem? (i := 1006) (by decide +kernel), List.mem_of_getElem? (i := 1421) (by decide +kernel), List.mem_of_getElem? (i := 1422) (by decide +kernel)⟩
theorem lw_p81 : lw_okq (⟨"PatternGateModel", "copiesSet", "(II)V"⟩, 48) := ⟨⟨by decide +kernel, by decide +kernel⟩, List.mem_of_getElem? (i := 1006) (by decide +kernel), List.mem_of_getElem? (i := 1432) (by decide +kernel), List.mem_of_getElem? (i := 1433) (by decide +kernel)⟩
theorem lw_p82 : lw_okq (⟨"PatternGateModel", "worksPattern", "(III)Z"⟩, 48) := ⟨⟨by decide +kernel, by decide +kernel⟩, List.mem_of_getElem? (i := 1006) (by decide +kernel), List.mem_of_getElem? (i := 1436) (by decide +kernel), List.mem_of_getElem? (i := 1437) (by decide +kernel)⟩
theorem lw_p83 : lw_okq (⟨"PatternGateModel", "copiesNeed", "(II)V"⟩, 48) := ⟨⟨by decide +kernel, by decide +kernel⟩, List.mem_of_getElem? (i := 1006) (by decide +kernel), List.mem_of_getElem? (i := 1440) (by decide +kernel), List.mem_of_getElem? (i := 1441) (by decide +kernel)⟩
theorem lw_p84 : lw_okq (⟨"PatternGateModel", "either", "(II)V"⟩, 48) := ⟨⟨by decide +kernel, by decide +kernel⟩, List.mem_of_getElem? (i := 1006) (by decide +kernel), List.mem_of_getElem? (i := 1444) (by decide +kernel), List.mem_of_getElem? (i := 1445) (by decide +kernel)⟩
theorem lw_p85 : lw_okq (⟨"PatternGateModel", "swapsNeed", "(I)V"⟩, 48) := ⟨⟨by decide +kernel, by decide +kernel⟩, List.mem_of_getElem? (i := 1006) (by decide +kernel), List.mem_of_getElem? (i := 1451) (by decide +kernel), List.mem_of_getElem? (i := 1452) (by decide +kernel)⟩
theorem lw_p86 : lw_okq (⟨"PatternGateModel", "candidatesOf", "([I)I"⟩, 48) := ⟨⟨by decide +kernel, by decide +kernel⟩, List.mem_of_getElem? (i := 1006) (by decide +kernel), List.mem_of_getElem? (i := 1458) (by decide +kernel), List.mem_of_getElem? (i := 1459) (by decide +kernel)⟩
theorem lw_p87 : lw_okq (⟨"PatternGateModel", "listOf", "(I)I"⟩, 48) := ⟨⟨by decide +kernel, by decide +kernel⟩, List.mem_of_getElem? (i := 1006) (by decide +kernel), List.mem_of_getElem? (i := 1462) (by decide +kernel), List.mem_of_getElem? (i := 1463) (by decide +kernel)⟩
theorem lw_p88 : lw_okq (⟨"PatternGateModel", "stands", "(II)Z"⟩, 48) := ⟨⟨by decide +kernel, by decide +kernel⟩, List.mem_of_getElem? (i := 1006) (by decide +kernel), List.mem_of_getElem? (i := 1466) (by decide +kernel), List.mem_of_getElem? (i := 1467) (by decide +kernel)⟩
theorem lw_p89 : lw_okq (⟨"PatternGateModel", "fitting", "(I)I"⟩, 48) := ⟨⟨by decide +kernel, by decide +kernel⟩, List.mem_of_getElem? (i := 1006) (by decide +kernel), List.mem_of_getElem? (i := 1470) (by decide +kernel), List.mem_of_getElem? (i := 1471) (by decide +kernel)⟩
theorem lw_p90 : lw_okq (⟨"PatternGateModel", "matches", "(I)V"⟩, 48) := ⟨⟨by decide +kernel, by decide +kernel⟩, List.mem_of_getElem? (i := 1006) (by decide +kernel), List.mem_of_getElem? (i := 1474) (by decide +kernel), List.mem_of_getElem? (i := 1475) (by decide +kernel)⟩
theorem lw_p91 : lw_okq (⟨"PatternGateModel", "walks", "(I)V"⟩, 48) := ⟨⟨by decide +kernel, by decide +kernel⟩, List.mem_of_getElem? (i := 1006) (by decide +kernel), List.mem_of_getElem? (i := 1478) (by decide +kernel), List.mem_of_getElem? (i := 1479) (by decide +kernel)⟩
theorem lw_p92 : lw_okq (⟨"PatternGateModel", "walksItem", "(II)V"⟩, 48) := ⟨⟨by decide +kernel, by decide +kernel⟩, List.mem_of_getElem? (i := 1006) (by decide +kernel), List.mem_of_getElem? (i := 1482) (by decide +kernel), List.mem_of_getElem? (i := 1483) (by decide +kernel)⟩
theorem lw_p93 : lw_okq (⟨"PatternGateModel", "links", "(II)V"⟩, 48) := ⟨⟨by decide +kernel, by decide +kernel⟩, List.mem_of_getElem? (i := 1006) (by decide +kernel), List.mem_of_getElem? (i := 1486) (by decide +kernel), List.mem_of_getElem? (i := 1487) (by decide +kernel)⟩
theorem lw_p94 : lw_okq (⟨"PatternGateModel", "walksBranch", "(I)V"⟩, 48) := ⟨⟨by decide +kernel, by decide +kernel⟩, List.mem_of_getElem? (i := 1006) (by decide +kernel), List.mem_of_getElem? (i := 1490) (by decide +kernel), List.mem_of_getElem? (i := 1491) (by decide +kernel)⟩
theorem lw_p95 : lw_okq (⟨"PatternGateModel", "walksPattern", "(I)V"⟩, 48) := ⟨⟨by decide +kernel, by decide +kernel⟩, List.mem_of_getElem? (i := 1006) (by decide +kernel), List.mem_of_getElem? (i := 1494) (by decide +kernel), List.mem_of_getElem? (i := 1495) (by decide +kernel)⟩
def lw_privs_6 : List (MethodName × Nat) := [(⟨"PatternGateModel", "crosses", "(IIIZ)Z"⟩, 48), (⟨"PatternGateModel", "copiesSet", "(II)V"⟩, 48), (⟨"PatternGateModel", "worksPattern", "(III)Z"⟩, 48), (⟨"PatternGateModel", "copiesNeed", "(II)V"⟩, 48), (⟨"PatternGateModel", "either", "(II)V"⟩, 48), (⟨"PatternGateModel", "swapsNeed", "(I)V"⟩, 48), (⟨"PatternGateModel", "candidatesOf", "([I)I"⟩, 48), (⟨"PatternGateModel", "listOf", "(I)I"⟩, 48), (⟨"PatternGateModel", "stands", "(II)Z"⟩, 48), (⟨"PatternGateModel", "fitting", "(I)I"⟩, 48), (⟨"PatternGateModel", "matches", "(I)V"⟩, 48), (⟨"PatternGateModel", "walks", "(I)V"⟩, 48), (⟨"PatternGateModel", "walksItem", "(II)V"⟩, 48), (⟨"PatternGateModel", "links", "(II)V"⟩, 48), (⟨"PatternGateModel", "walksBranch", "(I)V"⟩, 48), (⟨"PatternGateModel", "walksPattern", "(I)V"⟩, 48)]
theorem lw_r6 : ∀ q ∈ lw_privs_6, lw_okq q := List.forall_mem_cons.mpr ⟨lw_p80, List.forall_mem_cons.mpr ⟨lw_p81, List.forall_mem_cons.mpr ⟨lw_p82, List.forall_mem_cons.mpr ⟨lw_p83, List.forall_mem_cons.mpr ⟨lw_p84, List.forall_mem_cons.mpr ⟨lw_p85, List.forall_mem_cons.mpr ⟨lw_p86, List.forall_mem_cons.mpr ⟨lw_p87, List.forall_mem_cons.mpr ⟨lw_p88, List.forall_mem_cons.mpr ⟨lw_p89, List.forall_mem_cons.mpr ⟨lw_p90, List.forall_mem_cons.mpr ⟨lw_p91, List.forall_mem_cons.mpr ⟨lw_p92, List.forall_mem_cons.mpr ⟨lw_p93, List.forall_mem_cons.mpr ⟨lw_p94, List.forall_mem_cons.mpr ⟨lw_p95, fun _ h => absurd h List.not_mem_nil⟩⟩⟩⟩⟩⟩⟩⟩⟩⟩⟩⟩⟩⟩⟩⟩
theorem lw_p96 : lw_okq (⟨"PatternGateModel", "firstMatch", "(II)I"⟩, 48) := ⟨⟨by decide +kernel, by decide +kernel⟩, List.mem_of_getElem? (i := 1006) (by decide +kernel), List.mem_of_getElem? (i := 1499) (by decide +kernel), List.mem_of_getElem? (i := 1500) (by decide +kernel)⟩
theorem lw_p97 : lw_okq (⟨"PatternGateModel", "longest", "(II)I"⟩, 48) := ⟨⟨by decide +kernel, by decide +kernel⟩, List.mem_of_getElem? (i := 1006) (by decide +kernel), List.mem_of_getElem? (i := 1503) (by decide +kernel), List.mem_of_getElem? (i := 1504) (by decide +kernel)⟩
theorem lw_p98 : lw_okq (⟨"PatternGateModel", "goesOn", "(III)I"⟩, 48) := ⟨⟨by decide +kernel, by decide +kernel⟩, List.mem_of_getElem? (i := 1006) (by decide +kernel), List.mem_of_getElem? (i := 1507) (by decide +kernel), List.mem_of_getElem? (i := 1508) (by decide +kernel)⟩
theorem lw_p99 : lw_okq (⟨"PatternGateModel", "isPattern", "(I)Z"⟩, 48) := ⟨⟨by decide +kernel, by decide +kernel⟩, List.mem_of_getElem? (i := 1006) (by decide +kernel), List.mem_of_getElem? (i := 1519) (by decide +kernel), List.mem_of_getElem? (i := 1520) (by decide +kernel)⟩
theorem lw_p100 : lw_okq (⟨"PatternGateModel", "layTriples", "()I"⟩, 48) := ⟨⟨by decide +kernel, by decide +kernel⟩, List.mem_of_getElem? (i := 1006) (by decide +kernel), List.mem_of_getElem? (i := 1523) (by decide +kernel), List.mem_of_getElem? (i := 1524) (by decide +kernel)⟩
theorem lw_p101 : lw_okq (⟨"PatternGateModel", "matchMany", "(I)I"⟩, 48) := ⟨⟨by decide +kernel, by decide +kernel⟩, List.mem_of_getElem? (i := 1006) (by decide +kernel), List.mem_of_getElem? (i := 1558) (by decide +kernel), List.mem_of_getElem? (i := 1559) (by decide +kernel)⟩
theorem lw_p102 : lw_okq (⟨"PatternGateModel", "wrongPut", "(III)I"⟩, 48) := ⟨⟨by decide +kernel, by decide +kernel⟩, List.mem_of_getElem? (i := 1006) (by decide +kernel), List.mem_of_getElem? (i := 1578) (by decide +kernel), List.mem_of_getElem? (i := 1579) (by decide +kernel)⟩
theorem lw_p103 : lw_okq (⟨"PatternGateModel", "sets", "(III)V"⟩, 48) := ⟨⟨by decide +kernel, by decide +kernel⟩, List.mem_of_getElem? (i := 1006) (by decide +kernel), List.mem_of_getElem? (i := 1582) (by decide +kernel), List.mem_of_getElem? (i := 1583) (by decide +kernel)⟩
theorem lw_p104 : lw_okq (⟨"PatternGateModel", "acted", "(I)I"⟩, 48) := ⟨⟨by decide +kernel, by decide +kernel⟩, List.mem_of_getElem? (i := 1006) (by decide +kernel), List.mem_of_getElem? (i := 1586) (by decide +kernel), List.mem_of_getElem? (i := 1587) (by decide +kernel)⟩
def lw_privs_7 : List (MethodName × Nat) := [(⟨"PatternGateModel", "firstMatch", "(II)I"⟩, 48), (⟨"PatternGateModel", "longest", "(II)I"⟩, 48), (⟨"PatternGateModel", "goesOn", "(III)I"⟩, 48), (⟨"PatternGateModel", "isPattern", "(I)Z"⟩, 48), (⟨"PatternGateModel", "layTriples", "()I"⟩, 48), (⟨"PatternGateModel", "matchMany", "(I)I"⟩, 48), (⟨"PatternGateModel", "wrongPut", "(III)I"⟩, 48), (⟨"PatternGateModel", "sets", "(III)V"⟩, 48), (⟨"PatternGateModel", "acted", "(I)I"⟩, 48)]
theorem lw_r7 : ∀ q ∈ lw_privs_7, lw_okq q := List.forall_mem_cons.mpr ⟨lw_p96, List.forall_mem_cons.mpr ⟨lw_p97, List.forall_mem_cons.mpr ⟨lw_p98, List.forall_mem_cons.mpr ⟨lw_p99, List.forall_mem_cons.mpr ⟨lw_p100, List.forall_mem_cons.mpr ⟨lw_p101, List.forall_mem_cons.mpr ⟨lw_p102, List.forall_mem_cons.mpr ⟨lw_p103, List.forall_mem_cons.mpr ⟨lw_p104, fun _ h => absurd h List.not_mem_nil⟩⟩⟩⟩⟩⟩⟩⟩⟩
def lw_privs : List (MethodName × Nat) := lw_privs_1 ++ (lw_privs_2 ++ (lw_privs_3 ++ (lw_privs_4 ++ (lw_privs_5 ++ (lw_privs_6 ++ (lw_privs_7))))))
def lw_tbl : List Cond := k2_sels lw_privs ++ tables_1
theorem lw_privs_ok : ∀ q ∈ lw_privs, lw_okq q := by
  show ∀ q ∈ lw_privs_1 ++ (lw_privs_2 ++ (lw_privs_3 ++ (lw_privs_4 ++ (lw_privs_5 ++ (lw_privs_6 ++ (lw_privs_7)))))), lw_okq q
  exact List.forall_mem_append.mpr ⟨lw_r1, List.forall_mem_append.mpr ⟨lw_r2, List.forall_mem_append.mpr ⟨lw_r3, List.forall_mem_append.mpr ⟨lw_r4, List.forall_mem_append.mpr ⟨lw_r5, List.forall_mem_append.mpr ⟨lw_r6, lw_r7⟩⟩⟩⟩⟩⟩
end
section
/-! ===== BEGIN words of one list among another's, by their places ===== -/
theorem goodIn_r {big : List Cond} (ws : List Cond) (ps : List Nat) (hp : ws = ps.filterMap (fun i => big[i]?)) (h : ws.all goodWord = true) : GoodIn big ws := by
  intro w hw
  have h1 := List.all_eq_true.mp h w hw
  rw [hp] at hw
  obtain ⟨i, -, hi⟩ := List.mem_filterMap.mp hw
  have hm : w ∈ big := by first | exact List.mem_of_getElem? hi | exact List.getElem?_mem hi
  exact ⟨hm, good_of_word h1⟩
theorem goodIn_app {big a b : List Cond} (ha : GoodIn big a) (hb : GoodIn big b) : GoodIn big (a ++ b) := fun w h => (List.mem_append.mp h).elim (ha w) (hb w)
theorem goodIn_ca {big a b : List Cond} {c : Cond} (ha : GoodIn big (c :: a)) (hb : GoodIn big b) : GoodIn big (c :: (a ++ b)) := fun w h => (List.mem_cons.mp h).elim (fun e => ha w (List.mem_cons.mpr (Or.inl e))) (fun h => (List.mem_append.mp h).elim (fun h => ha w (List.mem_cons.mpr (Or.inr h))) (hb w))
theorem goodIn_sub {big ws : List Cond} (hm : ∀ w ∈ ws, w ∈ big) (h : ws.all goodWord = true) : GoodIn big ws := fun w hw => ⟨hm w hw, good_of_word (List.all_eq_true.mp h w hw)⟩
/-! ===== END ===== -/
def RX0 : String := "PatternGate$Book"
def TX0 : u_T := fun k => match k with
  | 0 => ("PatternGate$Book", "docs", "[LPatternGate$Doc;", true)
  | 1 => ("PatternGate$Book", "patterns", "[LPatternGate$Pattern;", true)
  | _ => ("PatternGate$Book", "earlier", "LPatternGate$Book;", true)
def tyX0 : Nat → FieldType := fun k => match k with
  | 0 => .array (.object "PatternGate$Doc")
  | 1 => .array (.object "PatternGate$Pattern")
  | _ => .object "PatternGate$Book"
abbrev wsX00 : List Cond := u_ws RX0 TX0 3
theorem nmX0 : ∀ a, a < 3 → ∀ b, b < 3 → a ≠ b → (TX0 a).2.1 ≠ (TX0 b).2.1 := by decide +kernel
theorem tyX0_ok : ∀ k, k < 3 → parseFieldDescriptor (TX0 k).2.2.1 = some (tyX0 k) := by decide +kernel
abbrev cX0_init : ByteArray := prog_2_method_1_code
def yX0_init : MethodName := ⟨RX0, "<init>", "([LPatternGate$Doc;[LPatternGate$Pattern;LPatternGate$Book;)V"⟩
abbrev cX0_docAt : ByteArray := prog_2_method_2_code
def yX0_docAt : MethodName := ⟨RX0, "docAt", "(I)LPatternGate$Doc;"⟩
abbrev cX0_patternAt : ByteArray := prog_2_method_3_code
def yX0_patternAt : MethodName := ⟨RX0, "patternAt", "(I)LPatternGate$Pattern;"⟩
abbrev cX0_listBits : ByteArray := prog_2_method_4_code
def yX0_listBits : MethodName := ⟨RX0, "listBits", "(I)I"⟩
abbrev cX0_allLetters : ByteArray := prog_2_method_5_code
def yX0_allLetters : MethodName := ⟨RX0, "allLetters", "()I"⟩
abbrev cX0_allTriples : ByteArray := prog_2_method_6_code
def yX0_allTriples : MethodName := ⟨RX0, "allTriples", "()I"⟩
abbrev cX0_withDoc : ByteArray := prog_2_method_7_code
def yX0_withDoc : MethodName := ⟨RX0, "withDoc", "(ILPatternGate$Doc;)LPatternGate$Book;"⟩
abbrev cX0_withOneMore : ByteArray := prog_2_method_8_code
def yX0_withOneMore : MethodName := ⟨RX0, "withOneMore", "(LPatternGate$Doc;)LPatternGate$Book;"⟩
abbrev cX0_withoutDoc : ByteArray := prog_2_method_9_code
def yX0_withoutDoc : MethodName := ⟨RX0, "withoutDoc", "(I)LPatternGate$Book;"⟩
abbrev cX0_withoutPattern : ByteArray := prog_2_method_10_code
def yX0_withoutPattern : MethodName := ⟨RX0, "withoutPattern", "(I)LPatternGate$Book;"⟩
def RX1 : String := "PatternGate$Compiler"
def TX1 : u_T := fun k => match k with
  | 0 => ("PatternGate$Compiler", "wholes", "[LPatternGate$Part;", true)
  | 1 => ("PatternGate$Compiler", "branches", "[LPatternGate$Part;", true)
  | 2 => ("PatternGate$Compiler", "begun", "[Z", true)
  | 3 => ("PatternGate$Compiler", "spot", "LPatternGate$Part;", true)
  | 4 => ("PatternGate$Compiler", "joined", "LPatternGate$Rows;", true)
  | 5 => ("PatternGate$Compiler", "ofRows", "LPatternGate$Need;", true)
  | 6 => ("PatternGate$Compiler", "wide", "LPatternGate$Need;", true)
  | 7 => ("PatternGate$Compiler", "choice", "[I", true)
  | 8 => ("PatternGate$Compiler", "follow", "[I", true)
  | 9 => ("PatternGate$Compiler", "takers", "[I", true)
  | _ => ("PatternGate$Compiler", "spots", "I", false)
def tyX1 : Nat → FieldType := fun k => match k with
  | 0 => .array (.object "PatternGate$Part")
  | 1 => .array (.object "PatternGate$Part")
  | 2 => .array .boolean
  | 3 => .object "PatternGate$Part"
  | 4 => .object "PatternGate$Rows"
  | 5 => .object "PatternGate$Need"
  | 6 => .object "PatternGate$Need"
  | 7 => .array .int
  | 8 => .array .int
  | 9 => .array .int
  | _ => .int
abbrev wsX10 : List Cond := u_ws RX1 TX1 11
theorem nmX1 : ∀ a, a < 11 → ∀ b, b < 11 → a ≠ b → (TX1 a).2.1 ≠ (TX1 b).2.1 := by decide +kernel
theorem tyX1_ok : ∀ k, k < 11 → parseFieldDescriptor (TX1 k).2.2.1 = some (tyX1 k) := by decide +kernel
abbrev cX1_init : ByteArray := prog_3_method_1_code
def yX1_init : MethodName := ⟨RX1, "<init>", "()V"⟩
abbrev cX1_compile : ByteArray := prog_3_method_2_code
def yX1_compile : MethodName := ⟨RX1, "compile", "([III)LPatternGate$Pattern;"⟩
abbrev cX1_partAt : ByteArray := prog_3_method_3_code
def yX1_partAt : MethodName := ⟨RX1, "partAt", "([LPatternGate$Part;I)LPatternGate$Part;"⟩
abbrev cX1_openWhole : ByteArray := prog_3_method_4_code
def yX1_openWhole : MethodName := ⟨RX1, "openWhole", "(I)V"⟩
abbrev cX1_closeBranch : ByteArray := prog_3_method_5_code
def yX1_closeBranch : MethodName := ⟨RX1, "closeBranch", "(I)V"⟩
abbrev cX1_closedWhole : ByteArray := prog_3_method_6_code
def yX1_closedWhole : MethodName := ⟨RX1, "closedWhole", "(I)LPatternGate$Part;"⟩
abbrev cX1_readSpot : ByteArray := prog_3_method_7_code
def yX1_readSpot : MethodName := ⟨RX1, "readSpot", "([III)I"⟩
abbrev cX1_readSign : ByteArray := prog_3_method_8_code
def yX1_readSign : MethodName := ⟨RX1, "readSign", "(LPatternGate$Part;[III)I"⟩
abbrev cX1_addRows : ByteArray := prog_3_method_9_code
def yX1_addRows : MethodName := ⟨RX1, "addRows", "(LPatternGate$Part;LPatternGate$Part;)V"⟩
abbrev cX1_addSpots : ByteArray := prog_3_method_10_code
def yX1_addSpots : MethodName := ⟨RX1, "addSpots", "(LPatternGate$Part;LPatternGate$Part;)V"⟩
abbrev cX1_addFollow : ByteArray := prog_3_method_11_code
def yX1_addFollow : MethodName := ⟨RX1, "addFollow", "(II)V"⟩
def RX2 : String := "PatternGate$Doc"
def TX2 : u_T := fun k => match k with
  | 0 => ("PatternGate$Doc", "letters", "[I", true)
  | _ => ("PatternGate$Doc", "triples", "[I", true)
def tyX2 : Nat → FieldType := fun k => match k with
  | 0 => .array .int
  | _ => .array .int
abbrev wsX20 : List Cond := u_ws RX2 TX2 2
theorem nmX2 : ∀ a, a < 2 → ∀ b, b < 2 → a ≠ b → (TX2 a).2.1 ≠ (TX2 b).2.1 := by decide +kernel
theorem tyX2_ok : ∀ k, k < 2 → parseFieldDescriptor (TX2 k).2.2.1 = some (tyX2 k) := by decide +kernel
abbrev cX2_init : ByteArray := prog_4_method_1_code
def yX2_init : MethodName := ⟨RX2, "<init>", "([I[I)V"⟩
abbrev cX2_made : ByteArray := prog_4_method_2_code
def yX2_made : MethodName := ⟨RX2, "made", "([I[I)LPatternGate$Doc;"⟩
abbrev cX2_told : ByteArray := prog_4_method_3_code
def yX2_told : MethodName := ⟨RX2, "told", "([III[I)LPatternGate$Doc;"⟩
abbrev cX2_tripleAt : ByteArray := prog_4_method_4_code
def yX2_tripleAt : MethodName := ⟨RX2, "tripleAt", "([II)I"⟩
abbrev cX2_sortTriples : ByteArray := prog_4_method_5_code
def yX2_sortTriples : MethodName := ⟨RX2, "sortTriples", "([II[I)I"⟩
abbrev cX2_has : ByteArray := prog_4_method_6_code
def yX2_has : MethodName := ⟨RX2, "has", "(I)Z"⟩
abbrev cX2_timesOf : ByteArray := prog_4_method_7_code
def yX2_timesOf : MethodName := ⟨RX2, "timesOf", "(I)I"⟩
def RX3 : String := "PatternGate$Need"
def TX3 : u_T := fun k => match k with
  | 0 => ("PatternGate$Need", "room", "I", true)
  | 1 => ("PatternGate$Need", "triples", "[I", true)
  | 2 => ("PatternGate$Need", "sizes", "[I", true)
  | _ => ("PatternGate$Need", "size", "I", false)
def tyX3 : Nat → FieldType := fun k => match k with
  | 0 => .int
  | 1 => .array .int
  | 2 => .array .int
  | _ => .int
abbrev wsX30 : List Cond := u_ws RX3 TX3 4
theorem nmX3 : ∀ a, a < 4 → ∀ b, b < 4 → a ≠ b → (TX3 a).2.1 ≠ (TX3 b).2.1 := by decide +kernel
theorem tyX3_ok : ∀ k, k < 4 → parseFieldDescriptor (TX3 k).2.2.1 = some (tyX3 k) := by decide +kernel
abbrev cX3_init : ByteArray := prog_5_method_1_code
def yX3_init : MethodName := ⟨RX3, "<init>", "(I)V"⟩
abbrev cX3_isWithin : ByteArray := prog_5_method_2_code
def yX3_isWithin : MethodName := ⟨RX3, "isWithin", "([III[III)Z"⟩
abbrev cX3_unlikeOf : ByteArray := prog_5_method_3_code
def yX3_unlikeOf : MethodName := ⟨RX3, "unlikeOf", "([I)[I"⟩
abbrev cX3_insert : ByteArray := prog_5_method_4_code
def yX3_insert : MethodName := ⟨RX3, "insert", "([III)I"⟩
abbrev cX3_setEmptyChoice : ByteArray := prog_5_method_5_code
def yX3_setEmptyChoice : MethodName := ⟨RX3, "setEmptyChoice", "()V"⟩
abbrev cX3_isEmptyChoice : ByteArray := prog_5_method_6_code
def yX3_isEmptyChoice : MethodName := ⟨RX3, "isEmptyChoice", "()Z"⟩
abbrev cX3_take : ByteArray := prog_5_method_7_code
def yX3_take : MethodName := ⟨RX3, "take", "(LPatternGate$Need;)V"⟩
abbrev cX3_add : ByteArray := prog_5_method_8_code
def yX3_add : MethodName := ⟨RX3, "add", "([III)V"⟩
abbrev cX3_setOfRows : ByteArray := prog_5_method_9_code
def yX3_setOfRows : MethodName := ⟨RX3, "setOfRows", "(LPatternGate$Rows;[I)V"⟩
abbrev cX3_needBoth : ByteArray := prog_5_method_10_code
def yX3_needBoth : MethodName := ⟨RX3, "needBoth", "(LPatternGate$Need;LPatternGate$Need;[I)V"⟩
abbrev cX3_needEither : ByteArray := prog_5_method_11_code
def yX3_needEither : MethodName := ⟨RX3, "needEither", "(LPatternGate$Need;LPatternGate$Need;)V"⟩
abbrev cX3_order : ByteArray := prog_5_method_12_code
def yX3_order : MethodName := ⟨RX3, "order", "()[I"⟩
abbrev cX3_standsAhead : ByteArray := prog_5_method_13_code
def yX3_standsAhead : MethodName := ⟨RX3, "standsAhead", "(II)Z"⟩
abbrev cX3_startsBy : ByteArray := prog_5_method_14_code
def yX3_startsBy : MethodName := ⟨RX3, "startsBy", "([I)[I"⟩
abbrev cX3_triplesBy : ByteArray := prog_5_method_15_code
def yX3_triplesBy : MethodName := ⟨RX3, "triplesBy", "([I[I)[I"⟩
def RX4 : String := "PatternGate$Part"
def TX4 : u_T := fun k => match k with
  | 0 => ("PatternGate$Part", "rows", "LPatternGate$Rows;", true)
  | 1 => ("PatternGate$Part", "need", "LPatternGate$Need;", true)
  | 2 => ("PatternGate$Part", "hasExact", "Z", false)
  | 3 => ("PatternGate$Part", "canBeEmpty", "Z", false)
  | 4 => ("PatternGate$Part", "fewest", "I", false)
  | 5 => ("PatternGate$Part", "depth", "I", false)
  | 6 => ("PatternGate$Part", "first", "I", false)
  | _ => ("PatternGate$Part", "last", "I", false)
def tyX4 : Nat → FieldType := fun k => match k with
  | 0 => .object "PatternGate$Rows"
  | 1 => .object "PatternGate$Need"
  | 2 => .boolean
  | 3 => .boolean
  | 4 => .int
  | 5 => .int
  | 6 => .int
  | _ => .int
abbrev wsX40 : List Cond := u_ws RX4 TX4 8
theorem nmX4 : ∀ a, a < 8 → ∀ b, b < 8 → a ≠ b → (TX4 a).2.1 ≠ (TX4 b).2.1 := by decide +kernel
theorem tyX4_ok : ∀ k, k < 8 → parseFieldDescriptor (TX4 k).2.2.1 = some (tyX4 k) := by decide +kernel
abbrev cX4_init : ByteArray := prog_6_method_1_code
def yX4_init : MethodName := ⟨RX4, "<init>", "()V"⟩
abbrev cX4_beginBranch : ByteArray := prog_6_method_2_code
def yX4_beginBranch : MethodName := ⟨RX4, "beginBranch", "()V"⟩
abbrev cX4_setSpot : ByteArray := prog_6_method_3_code
def yX4_setSpot : MethodName := ⟨RX4, "setSpot", "(II)V"⟩
abbrev cX4_take : ByteArray := prog_6_method_4_code
def yX4_take : MethodName := ⟨RX4, "take", "(LPatternGate$Part;)V"⟩
abbrev cX4_addBranch : ByteArray := prog_6_method_5_code
def yX4_addBranch : MethodName := ⟨RX4, "addBranch", "(LPatternGate$Part;)V"⟩
abbrev cX4_addSign : ByteArray := prog_6_method_6_code
def yX4_addSign : MethodName := ⟨RX4, "addSign", "(I)V"⟩
def RX5 : String := "PatternGate$Pattern"
def TX5 : u_T := fun k => match k with
  | 0 => ("PatternGate$Pattern", "text", "[I", true)
  | 1 => ("PatternGate$Pattern", "depth", "I", true)
  | 2 => ("PatternGate$Pattern", "canBeEmpty", "Z", true)
  | 3 => ("PatternGate$Pattern", "fewest", "I", true)
  | 4 => ("PatternGate$Pattern", "first", "I", true)
  | 5 => ("PatternGate$Pattern", "last", "I", true)
  | 6 => ("PatternGate$Pattern", "follow", "[I", true)
  | 7 => ("PatternGate$Pattern", "takers", "[I", true)
  | 8 => ("PatternGate$Pattern", "hasExact", "Z", true)
  | 9 => ("PatternGate$Pattern", "rows", "[J", true)
  | 10 => ("PatternGate$Pattern", "triples", "[I", true)
  | 11 => ("PatternGate$Pattern", "starts", "[I", true)
  | _ => ("PatternGate$Pattern", "unlike", "[I", true)
def tyX5 : Nat → FieldType := fun k => match k with
  | 0 => .array .int
  | 1 => .int
  | 2 => .boolean
  | 3 => .int
  | 4 => .int
  | 5 => .int
  | 6 => .array .int
  | 7 => .array .int
  | 8 => .boolean
  | 9 => .array .long
  | 10 => .array .int
  | 11 => .array .int
  | _ => .array .int
abbrev wsX50 : List Cond := u_ws RX5 TX5 13
theorem nmX5 : ∀ a, a < 13 → ∀ b, b < 13 → a ≠ b → (TX5 a).2.1 ≠ (TX5 b).2.1 := by decide +kernel
theorem tyX5_ok : ∀ k, k < 13 → parseFieldDescriptor (TX5 k).2.2.1 = some (tyX5 k) := by decide +kernel
abbrev cX5_init : ByteArray := prog_7_method_1_code
def yX5_init : MethodName := ⟨RX5, "<init>", "(LPatternGate$Part;[I[I[I)V"⟩
abbrev cX5_choices : ByteArray := prog_7_method_2_code
def yX5_choices : MethodName := ⟨RX5, "choices", "()I"⟩
abbrev cX5_sizeOf : ByteArray := prog_7_method_3_code
def yX5_sizeOf : MethodName := ⟨RX5, "sizeOf", "(I)I"⟩
abbrev cX5_tripleAt : ByteArray := prog_7_method_4_code
def yX5_tripleAt : MethodName := ⟨RX5, "tripleAt", "(II)I"⟩
abbrev cX5_hasChoiceWithin : ByteArray := prog_7_method_5_code
def yX5_hasChoiceWithin : MethodName := ⟨RX5, "hasChoiceWithin", "(LPatternGate$Pattern;I)Z"⟩
abbrev cX5_takersOf : ByteArray := prog_7_method_6_code
def yX5_takersOf : MethodName := ⟨RX5, "takersOf", "(I)I"⟩
abbrev cX5_followersOf : ByteArray := prog_7_method_7_code
def yX5_followersOf : MethodName := ⟨RX5, "followersOf", "(I)I"⟩
abbrev cX5_leadersTo : ByteArray := prog_7_method_8_code
def yX5_leadersTo : MethodName := ⟨RX5, "leadersTo", "(I)I"⟩
abbrev cX5_fits : ByteArray := prog_7_method_9_code
def yX5_fits : MethodName := ⟨RX5, "fits", "(LPatternGate$Doc;)Z"⟩
abbrev cX5_aliveBehind : ByteArray := prog_7_method_10_code
def yX5_aliveBehind : MethodName := ⟨RX5, "aliveBehind", "(LPatternGate$Doc;I)I"⟩
abbrev cX5_longestFrom : ByteArray := prog_7_method_11_code
def yX5_longestFrom : MethodName := ⟨RX5, "longestFrom", "(LPatternGate$Doc;I)I"⟩
abbrev cX5_firstMatchIn : ByteArray := prog_7_method_12_code
def yX5_firstMatchIn : MethodName := ⟨RX5, "firstMatchIn", "(LPatternGate$Doc;)I"⟩
abbrev cX5_matchesIn : ByteArray := prog_7_method_13_code
def yX5_matchesIn : MethodName := ⟨RX5, "matchesIn", "(LPatternGate$Doc;)I"⟩
abbrev cX5_tallyLetters : ByteArray := prog_7_method_14_code
def yX5_tallyLetters : MethodName := ⟨RX5, "tallyLetters", "(LPatternGate$Doc;I[I)V"⟩
def RX6 : String := "PatternGate$Reader"
def TX6 : u_T := fun k => match k with
  | 0 => ("PatternGate$Reader", "faultKind", "I", false)
  | 1 => ("PatternGate$Reader", "faultPlace", "I", false)
  | 2 => ("PatternGate$Reader", "lines", "I", false)
  | 3 => ("PatternGate$Reader", "newDocs", "I", false)
  | 4 => ("PatternGate$Reader", "newPatterns", "I", false)
  | 5 => ("PatternGate$Reader", "begins", "[I", true)
  | 6 => ("PatternGate$Reader", "ends", "[I", true)
  | 7 => ("PatternGate$Reader", "isPattern", "[Z", true)
  | 8 => ("PatternGate$Reader", "docsAhead", "I", false)
  | 9 => ("PatternGate$Reader", "patternsAhead", "I", false)
  | _ => ("PatternGate$Reader", "wanted", "I", false)
def tyX6 : Nat → FieldType := fun k => match k with
  | 0 => .int
  | 1 => .int
  | 2 => .int
  | 3 => .int
  | 4 => .int
  | 5 => .array .int
  | 6 => .array .int
  | 7 => .array .boolean
  | 8 => .int
  | 9 => .int
  | _ => .int
abbrev wsX60 : List Cond := u_ws RX6 TX6 11
theorem nmX6 : ∀ a, a < 11 → ∀ b, b < 11 → a ≠ b → (TX6 a).2.1 ≠ (TX6 b).2.1 := by decide +kernel
theorem tyX6_ok : ∀ k, k < 11 → parseFieldDescriptor (TX6 k).2.2.1 = some (tyX6 k) := by decide +kernel
abbrev cX6_init : ByteArray := prog_8_method_1_code
def yX6_init : MethodName := ⟨RX6, "<init>", "()V"⟩
abbrev cX6_isSign : ByteArray := prog_8_method_2_code
def yX6_isSign : MethodName := ⟨RX6, "isSign", "(I)Z"⟩
abbrev cX6_read : ByteArray := prog_8_method_3_code
def yX6_read : MethodName := ⟨RX6, "read", "([IIII)Z"⟩
abbrev cX6_fail : ByteArray := prog_8_method_4_code
def yX6_fail : MethodName := ⟨RX6, "fail", "(II)V"⟩
abbrev cX6_readWord : ByteArray := prog_8_method_5_code
def yX6_readWord : MethodName := ⟨RX6, "readWord", "([III)I"⟩
abbrev cX6_isWord : ByteArray := prog_8_method_6_code
def yX6_isWord : MethodName := ⟨RX6, "isWord", "([IIILjava/lang/String;)Z"⟩
abbrev cX6_readQuote : ByteArray := prog_8_method_7_code
def yX6_readQuote : MethodName := ⟨RX6, "readQuote", "([III)I"⟩
abbrev cX6_readSemicolon : ByteArray := prog_8_method_8_code
def yX6_readSemicolon : MethodName := ⟨RX6, "readSemicolon", "(I)V"⟩
abbrev cX6_endOfDoc : ByteArray := prog_8_method_9_code
def yX6_endOfDoc : MethodName := ⟨RX6, "endOfDoc", "([III)I"⟩
abbrev cX6_endOfPattern : ByteArray := prog_8_method_10_code
def yX6_endOfPattern : MethodName := ⟨RX6, "endOfPattern", "([III)I"⟩
abbrev cX6_endOfSet : ByteArray := prog_8_method_11_code
def yX6_endOfSet : MethodName := ⟨RX6, "endOfSet", "([III)I"⟩
def RX7 : String := "PatternGate$Rows"
def TX7 : u_T := fun k => match k with
  | 0 => ("PatternGate$Rows", "row", "[J", true)
  | _ => ("PatternGate$Rows", "size", "I", false)
def tyX7 : Nat → FieldType := fun k => match k with
  | 0 => .array .long
  | _ => .int
abbrev wsX70 : List Cond := u_ws RX7 TX7 2
theorem nmX7 : ∀ a, a < 2 → ∀ b, b < 2 → a ≠ b → (TX7 a).2.1 ≠ (TX7 b).2.1 := by decide +kernel
theorem tyX7_ok : ∀ k, k < 2 → parseFieldDescriptor (TX7 k).2.2.1 = some (tyX7 k) := by decide +kernel
abbrev cX7_init : ByteArray := prog_9_method_1_code
def yX7_init : MethodName := ⟨RX7, "<init>", "()V"⟩
abbrev cX7_lettersOf : ByteArray := prog_9_method_2_code
def yX7_lettersOf : MethodName := ⟨RX7, "lettersOf", "(J)I"⟩
abbrev cX7_letterOf : ByteArray := prog_9_method_3_code
def yX7_letterOf : MethodName := ⟨RX7, "letterOf", "(JI)I"⟩
abbrev cX7_rowOf : ByteArray := prog_9_method_4_code
def yX7_rowOf : MethodName := ⟨RX7, "rowOf", "(I)J"⟩
abbrev cX7_lastTwoOf : ByteArray := prog_9_method_5_code
def yX7_lastTwoOf : MethodName := ⟨RX7, "lastTwoOf", "(J)J"⟩
abbrev cX7_size : ByteArray := prog_9_method_6_code
def yX7_size : MethodName := ⟨RX7, "size", "()I"⟩
abbrev cX7_rowAt : ByteArray := prog_9_method_7_code
def yX7_rowAt : MethodName := ⟨RX7, "rowAt", "(I)J"⟩
abbrev cX7_clear : ByteArray := prog_9_method_8_code
def yX7_clear : MethodName := ⟨RX7, "clear", "()V"⟩
abbrev cX7_setEmptyRow : ByteArray := prog_9_method_9_code
def yX7_setEmptyRow : MethodName := ⟨RX7, "setEmptyRow", "()V"⟩
abbrev cX7_take : ByteArray := prog_9_method_10_code
def yX7_take : MethodName := ⟨RX7, "take", "(LPatternGate$Rows;)V"⟩
abbrev cX7_add : ByteArray := prog_9_method_11_code
def yX7_add : MethodName := ⟨RX7, "add", "(J)Z"⟩
abbrev cX7_addAll : ByteArray := prog_9_method_12_code
def yX7_addAll : MethodName := ⟨RX7, "addAll", "(LPatternGate$Rows;)Z"⟩
abbrev cX7_join : ByteArray := prog_9_method_13_code
def yX7_join : MethodName := ⟨RX7, "join", "(LPatternGate$Rows;LPatternGate$Rows;Z)Z"⟩
abbrev cX7_inOrder : ByteArray := prog_9_method_14_code
def yX7_inOrder : MethodName := ⟨RX7, "inOrder", "()[J"⟩
def RX8 : String := "PatternGate$Walk"
def TX8 : u_T := fun k => match k with
  | 0 => ("PatternGate$Walk", "candidates", "I", false)
  | 1 => ("PatternGate$Walk", "leaps", "I", false)
  | _ => ("PatternGate$Walk", "lists", "[I", true)
def tyX8 : Nat → FieldType := fun k => match k with
  | 0 => .int
  | 1 => .int
  | _ => .array .int
abbrev wsX80 : List Cond := u_ws RX8 TX8 3
theorem nmX8 : ∀ a, a < 3 → ∀ b, b < 3 → a ≠ b → (TX8 a).2.1 ≠ (TX8 b).2.1 := by decide +kernel
theorem tyX8_ok : ∀ k, k < 3 → parseFieldDescriptor (TX8 k).2.2.1 = some (tyX8 k) := by decide +kernel
abbrev cX8_init : ByteArray := prog_10_method_1_code
def yX8_init : MethodName := ⟨RX8, "<init>", "()V"⟩
abbrev cX8_through : ByteArray := prog_10_method_2_code
def yX8_through : MethodName := ⟨RX8, "through", "(LPatternGate$Pattern;LPatternGate$Book;)V"⟩
abbrev cX8_leapThrough : ByteArray := prog_10_method_3_code
def yX8_leapThrough : MethodName := ⟨RX8, "leapThrough", "(I)V"⟩
def RX9 : String := "PatternGate"
def TX9 : u_T := fun k => match k with
  | 0 => ("PatternGate", "lastStatus", "I", false)
  | 1 => ("PatternGate", "tape", "[I", true)
  | 2 => ("PatternGate", "taped", "I", false)
  | 3 => ("PatternGate", "faultKind", "I", false)
  | 4 => ("PatternGate", "faultPlace", "I", false)
  | 5 => ("PatternGate", "book", "LPatternGate$Book;", false)
  | 6 => ("PatternGate", "undoable", "I", false)
  | 7 => ("PatternGate", "markedBooks", "[LPatternGate$Book;", true)
  | 8 => ("PatternGate", "markedUndoable", "[I", true)
  | 9 => ("PatternGate", "marks", "I", false)
  | 10 => ("PatternGate", "reader", "LPatternGate$Reader;", true)
  | 11 => ("PatternGate", "compiler", "LPatternGate$Compiler;", true)
  | 12 => ("PatternGate", "walk", "LPatternGate$Walk;", true)
  | 13 => ("PatternGate", "paper", "[I", true)
  | 14 => ("PatternGate", "sorted", "[I", true)
  | _ => ("PatternGate", "tally", "[I", true)
def tyX9 : Nat → FieldType := fun k => match k with
  | 0 => .int
  | 1 => .array .int
  | 2 => .int
  | 3 => .int
  | 4 => .int
  | 5 => .object "PatternGate$Book"
  | 6 => .int
  | 7 => .array (.object "PatternGate$Book")
  | 8 => .array .int
  | 9 => .int
  | 10 => .object "PatternGate$Reader"
  | 11 => .object "PatternGate$Compiler"
  | 12 => .object "PatternGate$Walk"
  | 13 => .array .int
  | 14 => .array .int
  | _ => .array .int
abbrev wsX90 : List Cond := u_ws RX9 TX9 16
theorem nmX9 : ∀ a, a < 16 → ∀ b, b < 16 → a ≠ b → (TX9 a).2.1 ≠ (TX9 b).2.1 := by decide +kernel
theorem tyX9_ok : ∀ k, k < 16 → parseFieldDescriptor (TX9 k).2.2.1 = some (tyX9 k) := by decide +kernel
abbrev cX9_init : ByteArray := prog_1_method_1_code
def yX9_init : MethodName := ⟨RX9, "<init>", "()V"⟩
abbrev cX9_status : ByteArray := prog_1_method_2_code
def yX9_status : MethodName := ⟨RX9, "status", "()I"⟩
abbrev cX9_feed : ByteArray := prog_1_method_3_code
def yX9_feed : MethodName := ⟨RX9, "feed", "(IIIII)I"⟩
abbrev cX9_load : ByteArray := prog_1_method_4_code
def yX9_load : MethodName := ⟨RX9, "load", "(I)I"⟩
abbrev cX9_more : ByteArray := prog_1_method_5_code
def yX9_more : MethodName := ⟨RX9, "more", "(I)I"⟩
abbrev cX9_fault : ByteArray := prog_1_method_6_code
def yX9_fault : MethodName := ⟨RX9, "fault", "(I)I"⟩
abbrev cX9_many : ByteArray := prog_1_method_7_code
def yX9_many : MethodName := ⟨RX9, "many", "(I)I"⟩
abbrev cX9_document : ByteArray := prog_1_method_8_code
def yX9_document : MethodName := ⟨RX9, "document", "(II)I"⟩
abbrev cX9_letter : ByteArray := prog_1_method_9_code
def yX9_letter : MethodName := ⟨RX9, "letter", "(II)I"⟩
abbrev cX9_pattern : ByteArray := prog_1_method_10_code
def yX9_pattern : MethodName := ⟨RX9, "pattern", "(II)I"⟩
abbrev cX9_sign : ByteArray := prog_1_method_11_code
def yX9_sign : MethodName := ⟨RX9, "sign", "(II)I"⟩
abbrev cX9_exact : ByteArray := prog_1_method_12_code
def yX9_exact : MethodName := ⟨RX9, "exact", "(III)I"⟩
abbrev cX9_need : ByteArray := prog_1_method_13_code
def yX9_need : MethodName := ⟨RX9, "need", "(III)I"⟩
abbrev cX9_list : ByteArray := prog_1_method_14_code
def yX9_list : MethodName := ⟨RX9, "list", "(II)I"⟩
abbrev cX9_often : ByteArray := prog_1_method_15_code
def yX9_often : MethodName := ⟨RX9, "often", "(II)I"⟩
abbrev cX9_gate : ByteArray := prog_1_method_16_code
def yX9_gate : MethodName := ⟨RX9, "gate", "(II)I"⟩
abbrev cX9_match : ByteArray := prog_1_method_17_code
def yX9_match : MethodName := ⟨RX9, "match", "(III)I"⟩
abbrev cX9_alive : ByteArray := prog_1_method_18_code
def yX9_alive : MethodName := ⟨RX9, "alive", "(III)I"⟩
abbrev cX9_rarest : ByteArray := prog_1_method_19_code
def yX9_rarest : MethodName := ⟨RX9, "rarest", "(I)I"⟩
abbrev cX9_within : ByteArray := prog_1_method_20_code
def yX9_within : MethodName := ⟨RX9, "within", "(II)I"⟩
abbrev cX9_put : ByteArray := prog_1_method_21_code
def yX9_put : MethodName := ⟨RX9, "put", "(III)I"⟩
abbrev cX9_let : ByteArray := prog_1_method_22_code
def yX9_let : MethodName := ⟨RX9, "let", "(III)I"⟩
abbrev cX9_cut : ByteArray := prog_1_method_23_code
def yX9_cut : MethodName := ⟨RX9, "cut", "(III)I"⟩
abbrev cX9_copy : ByteArray := prog_1_method_24_code
def yX9_copy : MethodName := ⟨RX9, "copy", "(III)I"⟩
abbrev cX9_drop : ByteArray := prog_1_method_25_code
def yX9_drop : MethodName := ⟨RX9, "drop", "(I)I"⟩
abbrev cX9_forget : ByteArray := prog_1_method_26_code
def yX9_forget : MethodName := ⟨RX9, "forget", "(I)I"⟩
abbrev cX9_undo : ByteArray := prog_1_method_27_code
def yX9_undo : MethodName := ⟨RX9, "undo", "()I"⟩
abbrev cX9_mark : ByteArray := prog_1_method_28_code
def yX9_mark : MethodName := ⟨RX9, "mark", "()I"⟩
abbrev cX9_back : ByteArray := prog_1_method_29_code
def yX9_back : MethodName := ⟨RX9, "back", "()I"⟩
abbrev cX9_would : ByteArray := prog_1_method_30_code
def yX9_would : MethodName := ⟨RX9, "would", "(III)I"⟩
abbrev cX9_best : ByteArray := prog_1_method_31_code
def yX9_best : MethodName := ⟨RX9, "best", "(II)I"⟩
abbrev cX9_answer : ByteArray := prog_1_method_32_code
def yX9_answer : MethodName := ⟨RX9, "answer", "(I)I"⟩
abbrev cX9_refuse : ByteArray := prog_1_method_33_code
def yX9_refuse : MethodName := ⟨RX9, "refuse", "(I)I"⟩
abbrev cX9_isLetter : ByteArray := prog_1_method_34_code
def yX9_isLetter : MethodName := ⟨RX9, "isLetter", "(I)Z"⟩
abbrev cX9_isTriple : ByteArray := prog_1_method_35_code
def yX9_isTriple : MethodName := ⟨RX9, "isTriple", "(I)Z"⟩
abbrev cX9_isSmall : ByteArray := prog_1_method_36_code
def yX9_isSmall : MethodName := ⟨RX9, "isSmall", "(I)Z"⟩
abbrev cX9_putBytes : ByteArray := prog_1_method_37_code
def yX9_putBytes : MethodName := ⟨RX9, "putBytes", "(I)V"⟩
abbrev cX9_readTape : ByteArray := prog_1_method_38_code
def yX9_readTape : MethodName := ⟨RX9, "readTape", "(III)Z"⟩
abbrev cX9_bookBehind : ByteArray := prog_1_method_39_code
def yX9_bookBehind : MethodName := ⟨RX9, "bookBehind", "([LPatternGate$Doc;[LPatternGate$Pattern;)LPatternGate$Book;"⟩
abbrev cX9_act : ByteArray := prog_1_method_40_code
def yX9_act : MethodName := ⟨RX9, "act", "(LPatternGate$Book;)V"⟩
abbrev cX9_fittingPatterns : ByteArray := prog_1_method_41_code
def yX9_fittingPatterns : MethodName := ⟨RX9, "fittingPatterns", "(LPatternGate$Doc;)I"⟩
abbrev cX9_admittingPatterns : ByteArray := prog_1_method_42_code
def yX9_admittingPatterns : MethodName := ⟨RX9, "admittingPatterns", "(I)I"⟩
abbrev cX9_fittingDocuments : ByteArray := prog_1_method_43_code
def yX9_fittingDocuments : MethodName := ⟨RX9, "fittingDocuments", "(LPatternGate$Pattern;)I"⟩
def RX10 : String := "PatternGateModel"
def TX10 : u_T := fun k => match k with
  | 0 => ("PatternGateModel", "all", "[I", true)
  | 1 => ("PatternGateModel", "status", "I", false)
  | 2 => ("PatternGateModel", "acts", "I", false)
  | 3 => ("PatternGateModel", "marks", "I", false)
  | 4 => ("PatternGateModel", "tape", "[B", true)
  | 5 => ("PatternGateModel", "text", "[B", true)
  | 6 => ("PatternGateModel", "taped", "I", false)
  | 7 => ("PatternGateModel", "size", "I", false)
  | 8 => ("PatternGateModel", "token", "I", false)
  | 9 => ("PatternGateModel", "begin", "I", false)
  | 10 => ("PatternGateModel", "end", "I", false)
  | 11 => ("PatternGateModel", "faults", "I", false)
  | 12 => ("PatternGateModel", "faultPlace", "I", false)
  | 13 => ("PatternGateModel", "faultKind", "I", false)
  | 14 => ("PatternGateModel", "spots", "I", false)
  | 15 => ("PatternGateModel", "kind", "[I", true)
  | 16 => ("PatternGateModel", "first", "[I", true)
  | 17 => ("PatternGateModel", "next", "[I", true)
  | 18 => ("PatternGateModel", "letters", "[I", true)
  | 19 => ("PatternGateModel", "spot", "[I", true)
  | 20 => ("PatternGateModel", "sign", "[I", true)
  | 21 => ("PatternGateModel", "knots", "I", false)
  | 22 => ("PatternGateModel", "reached", "I", false)
  | 23 => ("PatternGateModel", "pattern0", "I", false)
  | 24 => ("PatternGateModel", "spotMany", "I", false)
  | 25 => ("PatternGateModel", "rows", "[[J", true)
  | 26 => ("PatternGateModel", "rowMany", "[I", true)
  | 27 => ("PatternGateModel", "sets", "I", false)
  | 28 => ("PatternGateModel", "needs", "[[[I", true)
  | 29 => ("PatternGateModel", "many", "[[I", true)
  | 30 => ("PatternGateModel", "needMany", "[I", true)
  | 31 => ("PatternGateModel", "needTop", "I", false)
  | 32 => ("PatternGateModel", "manyTop", "I", false)
  | 33 => ("PatternGateModel", "kept", "[Z", true)
  | 34 => ("PatternGateModel", "isExact", "Z", false)
  | 35 => ("PatternGateModel", "nullable", "[I", true)
  | 36 => ("PatternGateModel", "heads", "[I", true)
  | 37 => ("PatternGateModel", "tails", "[I", true)
  | 38 => ("PatternGateModel", "fewest", "[I", true)
  | 39 => ("PatternGateModel", "deep", "[I", true)
  | 40 => ("PatternGateModel", "follow", "[I", true)
  | 41 => ("PatternGateModel", "lets", "[I", true)
  | 42 => ("PatternGateModel", "top", "I", false)
  | 43 => ("PatternGateModel", "leaps", "I", false)
  | 44 => ("PatternGateModel", "lists", "[I", true)
  | 45 => ("PatternGateModel", "came", "[Z", true)
  | 46 => ("PatternGateModel", "triples", "[I", true)
  | _ => ("PatternGateModel", "other0", "[[I", true)
def tyX10 : Nat → FieldType := fun k => match k with
  | 0 => .array .int
  | 1 => .int
  | 2 => .int
  | 3 => .int
  | 4 => .array .byte
  | 5 => .array .byte
  | 6 => .int
  | 7 => .int
  | 8 => .int
  | 9 => .int
  | 10 => .int
  | 11 => .int
  | 12 => .int
  | 13 => .int
  | 14 => .int
  | 15 => .array .int
  | 16 => .array .int
  | 17 => .array .int
  | 18 => .array .int
  | 19 => .array .int
  | 20 => .array .int
  | 21 => .int
  | 22 => .int
  | 23 => .int
  | 24 => .int
  | 25 => .array (.array .long)
  | 26 => .array .int
  | 27 => .int
  | 28 => .array (.array (.array .int))
  | 29 => .array (.array .int)
  | 30 => .array .int
  | 31 => .int
  | 32 => .int
  | 33 => .array .boolean
  | 34 => .boolean
  | 35 => .array .int
  | 36 => .array .int
  | 37 => .array .int
  | 38 => .array .int
  | 39 => .array .int
  | 40 => .array .int
  | 41 => .array .int
  | 42 => .int
  | 43 => .int
  | 44 => .array .int
  | 45 => .array .boolean
  | 46 => .array .int
  | _ => .array (.array .int)
abbrev wsX100 : List Cond := u_ws RX10 TX10 48
theorem nmX10 : ∀ a, a < 48 → ∀ b, b < 48 → a ≠ b → (TX10 a).2.1 ≠ (TX10 b).2.1 := by decide +kernel
theorem tyX10_ok : ∀ k, k < 48 → parseFieldDescriptor (TX10 k).2.2.1 = some (tyX10 k) := by decide +kernel
abbrev cX10_init : ByteArray := prog_12_method_1_code
def yX10_init : MethodName := ⟨RX10, "<init>", "()V"⟩
abbrev cX10_status : ByteArray := prog_12_method_2_code
def yX10_status : MethodName := ⟨RX10, "status", "()I"⟩
abbrev cX10_refuse : ByteArray := prog_12_method_3_code
def yX10_refuse : MethodName := ⟨RX10, "refuse", "(I)I"⟩
abbrev cX10_gives : ByteArray := prog_12_method_4_code
def yX10_gives : MethodName := ⟨RX10, "gives", "(I)I"⟩
abbrev cX10_isFrom : ByteArray := prog_12_method_5_code
def yX10_isFrom : MethodName := ⟨RX10, "isFrom", "(III)Z"⟩
abbrev cX10_has : ByteArray := prog_12_method_6_code
def yX10_has : MethodName := ⟨RX10, "has", "(II)Z"⟩
abbrev cX10_copies : ByteArray := prog_12_method_7_code
def yX10_copies : MethodName := ⟨RX10, "copies", "(II)V"⟩
abbrev cX10_isDoc : ByteArray := prog_12_method_8_code
def yX10_isDoc : MethodName := ⟨RX10, "isDoc", "(I)Z"⟩
abbrev cX10_isPattern : ByteArray := prog_12_method_9_code
def yX10_isPattern : MethodName := ⟨RX10, "isPattern", "(I)Z"⟩
abbrev cX10_sizeOf : ByteArray := prog_12_method_10_code
def yX10_sizeOf : MethodName := ⟨RX10, "sizeOf", "(I)I"⟩
abbrev cX10_at : ByteArray := prog_12_method_11_code
def yX10_at : MethodName := ⟨RX10, "at", "(II)I"⟩
abbrev cX10_feed : ByteArray := prog_12_method_12_code
def yX10_feed : MethodName := ⟨RX10, "feed", "(IIIII)I"⟩
abbrev cX10_four : ByteArray := prog_12_method_13_code
def yX10_four : MethodName := ⟨RX10, "four", "(I)V"⟩
abbrev cX10_byteAt : ByteArray := prog_12_method_14_code
def yX10_byteAt : MethodName := ⟨RX10, "byteAt", "(I)I"⟩
abbrev cX10_isSmall : ByteArray := prog_12_method_15_code
def yX10_isSmall : MethodName := ⟨RX10, "isSmall", "(I)Z"⟩
abbrev cX10_failsAt : ByteArray := prog_12_method_16_code
def yX10_failsAt : MethodName := ⟨RX10, "failsAt", "(II)Z"⟩
abbrev cX10_fails : ByteArray := prog_12_method_17_code
def yX10_fails : MethodName := ⟨RX10, "fails", "(I)Z"⟩
abbrev cX10_ahead : ByteArray := prog_12_method_18_code
def yX10_ahead : MethodName := ⟨RX10, "ahead", "()V"⟩
abbrev cX10_isWord : ByteArray := prog_12_method_19_code
def yX10_isWord : MethodName := ⟨RX10, "isWord", "(Ljava/lang/String;)Z"⟩
abbrev cX10_docQuote : ByteArray := prog_12_method_20_code
def yX10_docQuote : MethodName := ⟨RX10, "docQuote", "()Z"⟩
abbrev cX10_patternQuote : ByteArray := prog_12_method_21_code
def yX10_patternQuote : MethodName := ⟨RX10, "patternQuote", "()Z"⟩
abbrev cX10_isPatternAt : ByteArray := prog_12_method_22_code
def yX10_isPatternAt : MethodName := ⟨RX10, "isPatternAt", "(I)Z"⟩
abbrev cX10_isAtomSign : ByteArray := prog_12_method_23_code
def yX10_isAtomSign : MethodName := ⟨RX10, "isAtomSign", "(I)Z"⟩
abbrev cX10_isBranchAt : ByteArray := prog_12_method_24_code
def yX10_isBranchAt : MethodName := ⟨RX10, "isBranchAt", "(I)Z"⟩
abbrev cX10_isAtomAt : ByteArray := prog_12_method_25_code
def yX10_isAtomAt : MethodName := ⟨RX10, "isAtomAt", "(I)Z"⟩
abbrev cX10_isSetAt : ByteArray := prog_12_method_26_code
def yX10_isSetAt : MethodName := ⟨RX10, "isSetAt", "()Z"⟩
abbrev cX10_aLine : ByteArray := prog_12_method_27_code
def yX10_aLine : MethodName := ⟨RX10, "aLine", "()Z"⟩
abbrev cX10_reads : ByteArray := prog_12_method_28_code
def yX10_reads : MethodName := ⟨RX10, "reads", "(IZ)Z"⟩
abbrev cX10_load : ByteArray := prog_12_method_29_code
def yX10_load : MethodName := ⟨RX10, "load", "(I)I"⟩
abbrev cX10_more : ByteArray := prog_12_method_30_code
def yX10_more : MethodName := ⟨RX10, "more", "(I)I"⟩
abbrev cX10_fault : ByteArray := prog_12_method_31_code
def yX10_fault : MethodName := ⟨RX10, "fault", "(I)I"⟩
abbrev cX10_signAt : ByteArray := prog_12_method_32_code
def yX10_signAt : MethodName := ⟨RX10, "signAt", "()I"⟩
abbrev cX10_knot : ByteArray := prog_12_method_33_code
def yX10_knot : MethodName := ⟨RX10, "knot", "(I)I"⟩
abbrev cX10_joins : ByteArray := prog_12_method_34_code
def yX10_joins : MethodName := ⟨RX10, "joins", "(III)I"⟩
abbrev cX10_patternKnot : ByteArray := prog_12_method_35_code
def yX10_patternKnot : MethodName := ⟨RX10, "patternKnot", "()I"⟩
abbrev cX10_branchKnot : ByteArray := prog_12_method_36_code
def yX10_branchKnot : MethodName := ⟨RX10, "branchKnot", "()I"⟩
abbrev cX10_itemKnot : ByteArray := prog_12_method_37_code
def yX10_itemKnot : MethodName := ⟨RX10, "itemKnot", "()I"⟩
abbrev cX10_spotKnot : ByteArray := prog_12_method_38_code
def yX10_spotKnot : MethodName := ⟨RX10, "spotKnot", "(I)I"⟩
abbrev cX10_opens : ByteArray := prog_12_method_39_code
def yX10_opens : MethodName := ⟨RX10, "opens", "(I)I"⟩
abbrev cX10_longOf : ByteArray := prog_12_method_40_code
def yX10_longOf : MethodName := ⟨RX10, "longOf", "(J)I"⟩
abbrev cX10_letterIn : ByteArray := prog_12_method_41_code
def yX10_letterIn : MethodName := ⟨RX10, "letterIn", "(JI)I"⟩
abbrev cX10_with : ByteArray := prog_12_method_42_code
def yX10_with : MethodName := ⟨RX10, "with", "(JI)J"⟩
abbrev cX10_behind : ByteArray := prog_12_method_43_code
def yX10_behind : MethodName := ⟨RX10, "behind", "(JJ)J"⟩
abbrev cX10_lastTwo : ByteArray := prog_12_method_44_code
def yX10_lastTwo : MethodName := ⟨RX10, "lastTwo", "(J)J"⟩
abbrev cX10_addsRow : ByteArray := prog_12_method_45_code
def yX10_addsRow : MethodName := ⟨RX10, "addsRow", "(IJ)V"⟩
abbrev cX10_newSet : ByteArray := prog_12_method_46_code
def yX10_newSet : MethodName := ⟨RX10, "newSet", "()I"⟩
abbrev cX10_copiesSet : ByteArray := prog_12_method_47_code
def yX10_copiesSet : MethodName := ⟨RX10, "copiesSet", "(II)V"⟩
abbrev cX10_crosses : ByteArray := prog_12_method_48_code
def yX10_crosses : MethodName := ⟨RX10, "crosses", "(IIIZ)Z"⟩
abbrev cX10_hasAll : ByteArray := prog_12_method_49_code
def yX10_hasAll : MethodName := ⟨RX10, "hasAll", "([I[I)Z"⟩
abbrev cX10_lays : ByteArray := prog_12_method_50_code
def yX10_lays : MethodName := ⟨RX10, "lays", "([I[I)V"⟩
abbrev cX10_joins_ : ByteArray := prog_12_method_51_code
def yX10_joins_ : MethodName := ⟨RX10, "joins", "([I[I[I)V"⟩
abbrev cX10_adds : ByteArray := prog_12_method_52_code
def yX10_adds : MethodName := ⟨RX10, "adds", "([II)V"⟩
abbrev cX10_cutsDown : ByteArray := prog_12_method_53_code
def yX10_cutsDown : MethodName := ⟨RX10, "cutsDown", "()V"⟩
abbrev cX10_becomes : ByteArray := prog_12_method_54_code
def yX10_becomes : MethodName := ⟨RX10, "becomes", "(I)V"⟩
abbrev cX10_oneEmpty : ByteArray := prog_12_method_55_code
def yX10_oneEmpty : MethodName := ⟨RX10, "oneEmpty", "(I)V"⟩
abbrev cX10_newNeed : ByteArray := prog_12_method_56_code
def yX10_newNeed : MethodName := ⟨RX10, "newNeed", "()I"⟩
abbrev cX10_either : ByteArray := prog_12_method_57_code
def yX10_either : MethodName := ⟨RX10, "either", "(II)V"⟩
abbrev cX10_both : ByteArray := prog_12_method_58_code
def yX10_both : MethodName := ⟨RX10, "both", "(II)V"⟩
abbrev cX10_ofRows : ByteArray := prog_12_method_59_code
def yX10_ofRows : MethodName := ⟨RX10, "ofRows", "(II)V"⟩
abbrev cX10_worksOut : ByteArray := prog_12_method_60_code
def yX10_worksOut : MethodName := ⟨RX10, "worksOut", "(III)Z"⟩
abbrev cX10_worksSpot : ByteArray := prog_12_method_61_code
def yX10_worksSpot : MethodName := ⟨RX10, "worksSpot", "(III)Z"⟩
abbrev cX10_worksItem : ByteArray := prog_12_method_62_code
def yX10_worksItem : MethodName := ⟨RX10, "worksItem", "(III)Z"⟩
abbrev cX10_worksBranch : ByteArray := prog_12_method_63_code
def yX10_worksBranch : MethodName := ⟨RX10, "worksBranch", "(III)Z"⟩
abbrev cX10_worksPattern : ByteArray := prog_12_method_64_code
def yX10_worksPattern : MethodName := ⟨RX10, "worksPattern", "(III)Z"⟩
abbrev cX10_copiesNeed : ByteArray := prog_12_method_65_code
def yX10_copiesNeed : MethodName := ⟨RX10, "copiesNeed", "(II)V"⟩
abbrev cX10_isAhead : ByteArray := prog_12_method_66_code
def yX10_isAhead : MethodName := ⟨RX10, "isAhead", "([I[I)Z"⟩
abbrev cX10_isAhead_ : ByteArray := prog_12_method_67_code
def yX10_isAhead_ : MethodName := ⟨RX10, "isAhead", "(JJ)Z"⟩
abbrev cX10_needsOf : ByteArray := prog_12_method_68_code
def yX10_needsOf : MethodName := ⟨RX10, "needsOf", "(I)V"⟩
abbrev cX10_swapsNeed : ByteArray := prog_12_method_69_code
def yX10_swapsNeed : MethodName := ⟨RX10, "swapsNeed", "(I)V"⟩
abbrev cX10_links : ByteArray := prog_12_method_70_code
def yX10_links : MethodName := ⟨RX10, "links", "(II)V"⟩
abbrev cX10_walks : ByteArray := prog_12_method_71_code
def yX10_walks : MethodName := ⟨RX10, "walks", "(I)V"⟩
abbrev cX10_walksItem : ByteArray := prog_12_method_72_code
def yX10_walksItem : MethodName := ⟨RX10, "walksItem", "(II)V"⟩
abbrev cX10_walksBranch : ByteArray := prog_12_method_73_code
def yX10_walksBranch : MethodName := ⟨RX10, "walksBranch", "(I)V"⟩
abbrev cX10_walksPattern : ByteArray := prog_12_method_74_code
def yX10_walksPattern : MethodName := ⟨RX10, "walksPattern", "(I)V"⟩
abbrev cX10_matches : ByteArray := prog_12_method_75_code
def yX10_matches : MethodName := ⟨RX10, "matches", "(I)V"⟩
abbrev cX10_goesOn : ByteArray := prog_12_method_76_code
def yX10_goesOn : MethodName := ⟨RX10, "goesOn", "(III)I"⟩
abbrev cX10_longest : ByteArray := prog_12_method_77_code
def yX10_longest : MethodName := ⟨RX10, "longest", "(II)I"⟩
abbrev cX10_firstMatch : ByteArray := prog_12_method_78_code
def yX10_firstMatch : MethodName := ⟨RX10, "firstMatch", "(II)I"⟩
abbrev cX10_stands : ByteArray := prog_12_method_79_code
def yX10_stands : MethodName := ⟨RX10, "stands", "(II)Z"⟩
abbrev cX10_tripleAt : ByteArray := prog_12_method_80_code
def yX10_tripleAt : MethodName := ⟨RX10, "tripleAt", "(II)I"⟩
abbrev cX10_listOf : ByteArray := prog_12_method_81_code
def yX10_listOf : MethodName := ⟨RX10, "listOf", "(I)I"⟩
abbrev cX10_ones : ByteArray := prog_12_method_82_code
def yX10_ones : MethodName := ⟨RX10, "ones", "(I)I"⟩
abbrev cX10_candidatesOf : ByteArray := prog_12_method_83_code
def yX10_candidatesOf : MethodName := ⟨RX10, "candidatesOf", "([I)I"⟩
abbrev cX10_candidates : ByteArray := prog_12_method_84_code
def yX10_candidates : MethodName := ⟨RX10, "candidates", "(I)I"⟩
abbrev cX10_fitting : ByteArray := prog_12_method_85_code
def yX10_fitting : MethodName := ⟨RX10, "fitting", "(I)I"⟩
abbrev cX10_unlike : ByteArray := prog_12_method_86_code
def yX10_unlike : MethodName := ⟨RX10, "unlike", "(II)I"⟩
abbrev cX10_allLetters : ByteArray := prog_12_method_87_code
def yX10_allLetters : MethodName := ⟨RX10, "allLetters", "()I"⟩
abbrev cX10_many : ByteArray := prog_12_method_88_code
def yX10_many : MethodName := ⟨RX10, "many", "(I)I"⟩
abbrev cX10_patternsOf : ByteArray := prog_12_method_89_code
def yX10_patternsOf : MethodName := ⟨RX10, "patternsOf", "(IZ)I"⟩
abbrev cX10_document : ByteArray := prog_12_method_90_code
def yX10_document : MethodName := ⟨RX10, "document", "(II)I"⟩
abbrev cX10_letter : ByteArray := prog_12_method_91_code
def yX10_letter : MethodName := ⟨RX10, "letter", "(II)I"⟩
abbrev cX10_layTriples : ByteArray := prog_12_method_92_code
def yX10_layTriples : MethodName := ⟨RX10, "layTriples", "()I"⟩
abbrev cX10_pattern : ByteArray := prog_12_method_93_code
def yX10_pattern : MethodName := ⟨RX10, "pattern", "(II)I"⟩
abbrev cX10_sign : ByteArray := prog_12_method_94_code
def yX10_sign : MethodName := ⟨RX10, "sign", "(II)I"⟩
abbrev cX10_exact : ByteArray := prog_12_method_95_code
def yX10_exact : MethodName := ⟨RX10, "exact", "(III)I"⟩
abbrev cX10_need : ByteArray := prog_12_method_96_code
def yX10_need : MethodName := ⟨RX10, "need", "(III)I"⟩
abbrev cX10_list : ByteArray := prog_12_method_97_code
def yX10_list : MethodName := ⟨RX10, "list", "(II)I"⟩
abbrev cX10_often : ByteArray := prog_12_method_98_code
def yX10_often : MethodName := ⟨RX10, "often", "(II)I"⟩
abbrev cX10_gate : ByteArray := prog_12_method_99_code
def yX10_gate : MethodName := ⟨RX10, "gate", "(II)I"⟩
abbrev cX10_matchMany : ByteArray := prog_12_method_100_code
def yX10_matchMany : MethodName := ⟨RX10, "matchMany", "(I)I"⟩
abbrev cX10_match : ByteArray := prog_12_method_101_code
def yX10_match : MethodName := ⟨RX10, "match", "(III)I"⟩
abbrev cX10_alive : ByteArray := prog_12_method_102_code
def yX10_alive : MethodName := ⟨RX10, "alive", "(III)I"⟩
abbrev cX10_rarest : ByteArray := prog_12_method_103_code
def yX10_rarest : MethodName := ⟨RX10, "rarest", "(I)I"⟩
abbrev cX10_within : ByteArray := prog_12_method_104_code
def yX10_within : MethodName := ⟨RX10, "within", "(II)I"⟩
abbrev cX10_acted : ByteArray := prog_12_method_105_code
def yX10_acted : MethodName := ⟨RX10, "acted", "()V"⟩
abbrev cX10_acted_ : ByteArray := prog_12_method_106_code
def yX10_acted_ : MethodName := ⟨RX10, "acted", "(I)I"⟩
abbrev cX10_sets : ByteArray := prog_12_method_107_code
def yX10_sets : MethodName := ⟨RX10, "sets", "(III)V"⟩
abbrev cX10_wrongPut : ByteArray := prog_12_method_108_code
def yX10_wrongPut : MethodName := ⟨RX10, "wrongPut", "(III)I"⟩
abbrev cX10_put : ByteArray := prog_12_method_109_code
def yX10_put : MethodName := ⟨RX10, "put", "(III)I"⟩
abbrev cX10_let : ByteArray := prog_12_method_110_code
def yX10_let : MethodName := ⟨RX10, "let", "(III)I"⟩
abbrev cX10_cut : ByteArray := prog_12_method_111_code
def yX10_cut : MethodName := ⟨RX10, "cut", "(III)I"⟩
abbrev cX10_copy : ByteArray := prog_12_method_112_code
def yX10_copy : MethodName := ⟨RX10, "copy", "(III)I"⟩
abbrev cX10_drop : ByteArray := prog_12_method_113_code
def yX10_drop : MethodName := ⟨RX10, "drop", "(I)I"⟩
abbrev cX10_forget : ByteArray := prog_12_method_114_code
def yX10_forget : MethodName := ⟨RX10, "forget", "(I)I"⟩
abbrev cX10_undo : ByteArray := prog_12_method_115_code
def yX10_undo : MethodName := ⟨RX10, "undo", "()I"⟩
abbrev cX10_mark : ByteArray := prog_12_method_116_code
def yX10_mark : MethodName := ⟨RX10, "mark", "()I"⟩
abbrev cX10_back : ByteArray := prog_12_method_117_code
def yX10_back : MethodName := ⟨RX10, "back", "()I"⟩
abbrev cX10_would : ByteArray := prog_12_method_118_code
def yX10_would : MethodName := ⟨RX10, "would", "(III)I"⟩
abbrev cX10_best : ByteArray := prog_12_method_119_code
def yX10_best : MethodName := ⟨RX10, "best", "(II)I"⟩
def RJx145de : String := "java/io/Serializable"
def TJx145de : u_T := fun k => match k with
  | _ => ("", "", "", false)
def tyJx145de : Nat → FieldType := fun k => match k with
  | _ => .int
def RJx9f9b0 : String := "java/lang/CharSequence"
def TJx9f9b0 : u_T := fun k => match k with
  | _ => ("", "", "", false)
def tyJx9f9b0 : Nat → FieldType := fun k => match k with
  | _ => .int
def RJx8e188 : String := "java/lang/Cloneable"
def TJx8e188 : u_T := fun k => match k with
  | _ => ("", "", "", false)
def tyJx8e188 : Nat → FieldType := fun k => match k with
  | _ => .int
def RJxb160c : String := "java/lang/Comparable"
def TJxb160c : u_T := fun k => match k with
  | _ => ("", "", "", false)
def tyJxb160c : Nat → FieldType := fun k => match k with
  | _ => .int
def RJ6 : String := "java/lang/Integer"
def TJ6 : u_T := fun k => match k with
  | _ => ("", "", "", false)
def tyJ6 : Nat → FieldType := fun k => match k with
  | _ => .int
abbrev cJ6_numberOfTrailingZeros_0f7a4 : ByteArray := prog_14_method_48_code
def yJ6_numberOfTrailingZeros_0f7a4 : MethodName := ⟨RJ6, "numberOfTrailingZeros", "(I)I"⟩
abbrev cJ6_bitCount_0f7a4 : ByteArray := prog_14_method_49_code
def yJ6_bitCount_0f7a4 : MethodName := ⟨RJ6, "bitCount", "(I)I"⟩
def RJ13 : String := "java/lang/Long"
def TJ13 : u_T := fun k => match k with
  | _ => ("", "", "", false)
def tyJ13 : Nat → FieldType := fun k => match k with
  | _ => .int
abbrev cJ13_numberOfTrailingZeros_95d88 : ByteArray := prog_15_method_49_code
def yJ13_numberOfTrailingZeros_95d88 : MethodName := ⟨RJ13, "numberOfTrailingZeros", "(J)I"⟩
def RJ9 : String := "java/lang/Math"
def TJ9 : u_T := fun k => match k with
  | _ => ("", "", "", false)
def tyJ9 : Nat → FieldType := fun k => match k with
  | _ => .int
abbrev cJ9_max_7cf53 : ByteArray := prog_16_method_65_code
def yJ9_max_7cf53 : MethodName := ⟨RJ9, "max", "(II)I"⟩
abbrev cJ9_min_7cf53 : ByteArray := prog_16_method_69_code
def yJ9_min_7cf53 : MethodName := ⟨RJ9, "min", "(II)I"⟩
def RJxd2413 : String := "java/lang/Number"
def TJxd2413 : u_T := fun k => match k with
  | _ => ("", "", "", false)
def tyJxd2413 : Nat → FieldType := fun k => match k with
  | _ => .int
def RJ0 : String := "java/lang/String"
def TJ0 : u_T := fun k => match k with
  | _ => ("", "", "", false)
def tyJ0 : Nat → FieldType := fun k => match k with
  | _ => .int
abbrev cJ0_length_8abf5 : ByteArray := prog_18_method_54_code
def yJ0_length_8abf5 : MethodName := ⟨RJ0, "length", "()I"⟩
abbrev cJ0_charAt_5068e : ByteArray := prog_18_method_56_code
def yJ0_charAt_5068e : MethodName := ⟨RJ0, "charAt", "(I)C"⟩
abbrev cJ0_coder_7d493 : ByteArray := prog_18_method_152_code
def yJ0_coder_7d493 : MethodName := ⟨RJ0, "coder", "()B"⟩
abbrev cJ0_isLatin1_aae02 : ByteArray := prog_18_method_154_code
def yJ0_isLatin1_aae02 : MethodName := ⟨RJ0, "isLatin1", "()Z"⟩
abbrev cJ0_checkIndex_df160 : ByteArray := prog_18_method_155_code
def yJ0_checkIndex_df160 : MethodName := ⟨RJ0, "checkIndex", "(II)V"⟩
def RJ1 : String := "java/lang/StringLatin1"
def TJ1 : u_T := fun k => match k with
  | _ => ("", "", "", false)
def tyJ1 : Nat → FieldType := fun k => match k with
  | _ => .int
abbrev cJ1_charAt_3b067 : ByteArray := prog_19_method_2_code
def yJ1_charAt_3b067 : MethodName := ⟨RJ1, "charAt", "([BI)C"⟩
def RJ2 : String := "java/lang/StringUTF16"
def TJ2 : u_T := fun k => match k with
  | _ => ("", "", "", false)
def tyJ2 : Nat → FieldType := fun k => match k with
  | _ => .int
abbrev cJ2_getChar_3b067 : ByteArray := prog_20_method_5_code
def yJ2_getChar_3b067 : MethodName := ⟨RJ2, "getChar", "([BI)C"⟩
abbrev cJ2_length_9d52b : ByteArray := prog_20_method_6_code
def yJ2_length_9d52b : MethodName := ⟨RJ2, "length", "([B)I"⟩
abbrev cJ2_charAt_3b067 : ByteArray := prog_20_method_83_code
def yJ2_charAt_3b067 : MethodName := ⟨RJ2, "charAt", "([BI)C"⟩
abbrev cJ2_checkIndex_2214a : ByteArray := prog_20_method_91_code
def yJ2_checkIndex_2214a : MethodName := ⟨RJ2, "checkIndex", "(I[B)V"⟩
def RJ10 : String := "java/lang/System"
def TJ10 : u_T := fun k => match k with
  | _ => ("", "", "", false)
def tyJ10 : Nat → FieldType := fun k => match k with
  | _ => .int
def RJxfd54e : String := "java/lang/constant/Constable"
def TJxfd54e : u_T := fun k => match k with
  | _ => ("", "", "", false)
def tyJxfd54e : Nat → FieldType := fun k => match k with
  | _ => .int
def RJx3cf43 : String := "java/lang/constant/ConstantDesc"
def TJx3cf43 : u_T := fun k => match k with
  | _ => ("", "", "", false)
def tyJx3cf43 : Nat → FieldType := fun k => match k with
  | _ => .int
def RJ7 : String := "java/util/Arrays"
def TJ7 : u_T := fun k => match k with
  | _ => ("", "", "", false)
def tyJ7 : Nat → FieldType := fun k => match k with
  | _ => .int
abbrev cJ7_fill_53178 : ByteArray := prog_22_method_103_code
def yJ7_fill_53178 : MethodName := ⟨RJ7, "fill", "([II)V"⟩
abbrev cJ7_copyOf_59c91 : ByteArray := prog_22_method_123_code
def yJ7_copyOf_59c91 : MethodName := ⟨RJ7, "copyOf", "([II)[I"⟩
abbrev cJ7_checkLength_df160 : ByteArray := prog_22_method_131_code
def yJ7_checkLength_df160 : MethodName := ⟨RJ7, "checkLength", "(II)V"⟩
abbrev cJ7_copyOfRange_feecc : ByteArray := prog_22_method_136_code
def yJ7_copyOfRange_feecc : MethodName := ⟨RJ7, "copyOfRange", "([III)[I"⟩
abbrev cJ7_copyOfRangeInt_feecc : ByteArray := prog_22_method_137_code
def yJ7_copyOfRangeInt_feecc : MethodName := ⟨RJ7, "copyOfRangeInt", "([III)[I"⟩
def RJ3 : String := "jdk/internal/util/Preconditions"
def TJ3 : u_T := fun k => match k with
  | _ => ("", "", "", false)
def tyJ3 : Nat → FieldType := fun k => match k with
  | _ => .int
abbrev cJ3_checkIndex_8e157 : ByteArray := prog_23_method_11_code
def yJ3_checkIndex_8e157 : MethodName := ⟨RJ3, "checkIndex", "(IILjava/util/function/BiFunction;)I"⟩
def RL : String := "PatternGateLaw"
abbrev cL_law : ByteArray := code
def yL_law : MethodName := ⟨RL, "law", "([I)Z"⟩
abbrev vwCl : List vw_C := [(RX0, TX0, 3), (RX1, TX1, 11), (RX2, TX2, 2), (RX3, TX3, 4), (RX4, TX4, 8), (RX5, TX5, 13), (RX6, TX6, 11), (RX7, TX7, 2), (RX8, TX8, 3), (RX9, TX9, 16), (RX10, TX10, 48)]
end
section
/-! what a state is: the fields of a PatternGate, a Reader and a PatternGateModel, by the numbers that change and the places of their arrays -/
abbrev gF (q : Nat → Nat) (a0 a1 a2 a3 : Int32) (a4 : Nat) (a5 a6 : Int32) : List Value := [.int a0, .ref (q 0), .int a1, .int a2, .int a3, .ref a4, .int a5, .ref (q 1), .ref (q 2), .int a6, .ref (q 3), .ref (q 4), .ref (q 5), .ref (q 6), .ref (q 7), .ref (q 8)]
abbrev rF (q : Nat → Nat) (a0 a1 a2 a3 a4 a5 a6 a7 : Int32) : List Value := [.int a0, .int a1, .int a2, .int a3, .int a4, .ref (q 0), .ref (q 1), .ref (q 2), .int a5, .int a6, .int a7]
abbrev mF (q : Nat → Nat) (a0 a1 a2 a3 a4 a5 a6 a7 a8 a9 a10 : Int32) : List Value := [.ref (q 0), .int a0, .int a1, .int a2, .ref (q 1), .ref (q 2), .int a3, .int a4, .int a5, .int a6, .int a7, .int a8, .int a9, .int a10, .int 0, .ref (q 3), .ref (q 4), .ref (q 5), .ref (q 6), .ref (q 7), .ref (q 8), .int 0, .int 0, .int 0, .int 0, .ref (q 9), .ref (q 10), .int 0, .ref (q 11), .ref (q 12), .ref (q 13), .int 0, .int 0, .ref (q 14), .int 0, .ref (q 15), .ref (q 16), .ref (q 17), .ref (q 18), .ref (q 19), .ref (q 20), .ref (q 21), .int 0, .int 0, .ref (q 22), .ref (q 23), .ref (q 24), .ref (q 25)]
abbrev gW (x : Nat) (q : Nat → Nat) (b d0 p0 : Nat) (cT cD cP cB cU : ClassId) (r : Nat → Nat) : va_W := [(x, .inr (9, gF q 0 0 (-1) (-1) b 0 0)), (q 0, .inl (cT, 900, .inl (fun _ => 0))), (b, .inr (0, [.ref d0, .ref p0, .null])), (d0, .inl (cD, 0, .inr (.inr (.inr (.inr (fun _ => none)))))), (p0, .inl (cP, 0, .inr (.inr (.inr (.inr (fun _ => none)))))), (q 1, .inl (cB, 3, .inr (.inr (.inr (.inr (fun _ => none)))))), (q 2, .inl (cU, 3, .inl (fun _ => 0))), (q 3, .inr (6, rF r 0 0 0 0 0 0 0 0))]
abbrev gT (cT cD cP cB cU : ClassId) : List (ClassId × FieldType) := [(cT, .int), (cD, .object "PatternGate$Doc"), (cP, .object "PatternGate$Pattern"), (cB, .object "PatternGate$Book"), (cU, .int)]
abbrev mW (y : Nat) (z : Nat → Nat) (mA mT mX mC : ClassId) : va_W := [(y, .inr (10, mF z 0 0 0 0 0 0 0 0 0 (-1) (-1))), (z 0, .inl (mA, 101660, .inl (fun _ => 0))), (z 1, .inl (mT, 900, .inl (fun _ => 0))), (z 2, .inl (mX, 900, .inl (fun _ => 0))), (z 23, .inl (mC, 17576, .inl (fun _ => 0)))]
abbrev mT9 (mA mT mX mC : ClassId) : List (ClassId × FieldType) := [(mA, .int), (mT, .byte), (mX, .byte), (mC, .boolean)]
theorem zz_i {k : Nat} : upd (fun _ => (0 : Int32)) k 0 = fun _ => 0 := by
  funext j; simp [upd]
theorem zz_b {k : Nat} : upd (fun _ => (0 : Int32)) k (vp_nar .byte 0) = fun _ => 0 := by
  funext j; simp only [upd]; split <;> rfl
theorem zz_z {k : Nat} : upd (fun _ => (0 : Int32)) k (vp_nar .boolean 0) = fun _ => 0 := by
  funext j; simp only [upd]; split <;> rfl
theorem zz_eq {n : Int32} (h1 : ¬ n < 0) (h2 : ¬ 0 < n) : n = 0 := by
  rw [Int32.lt_iff_toInt_lt, Int32.toInt_zero] at h1 h2
  apply Int32.toInt_inj.mp
  rw [Int32.toInt_zero]; omega
theorem zz_le {n : Int32} (h1 : 0 ≤ n) (h2 : n ≤ 0) : n = 0 := by
  rw [Int32.le_iff_toInt_le, Int32.toInt_zero] at h1 h2
  apply Int32.toInt_inj.mp
  rw [Int32.toInt_zero]; omega
theorem zz_dn {n : Int32} (h1 : 0 ≤ n) (h2 : n < 0) : False := by
  rw [Int32.le_iff_toInt_le, Int32.toInt_zero] at h1
  rw [Int32.lt_iff_toInt_lt, Int32.toInt_zero] at h2
  omega
theorem zz_add (a b : Nat) : nI a + nI b = nI (a + b) := (Int32.ofNat_add a b).symm
def s_load (n : Int32) : Int32 := if n = 0 then 0 else -1
def s_many (w : Int32) : Int32 := if w.toInt < 0 ∨ 5 < w.toInt then -1 else 0
theorem zz_ge {n : Int32} (h : ¬ n < 0) : 0 ≤ n := by
  rw [Int32.lt_iff_toInt_lt, Int32.toInt_zero] at h
  rw [Int32.le_iff_toInt_le, Int32.toInt_zero]; omega
theorem s_load_lt {n : Int32} (h : n < 0) : s_load n = -1 := if_neg (fun q => by subst q; exact absurd h (by decide))
theorem s_load_gt {n : Int32} (h : ¬ n ≤ 0) : s_load n = -1 := if_neg (fun q => by subst q; exact absurd (by decide) h)
theorem s_load_no {n : Int32} (h : ¬ (0 ≤ n ∧ n ≤ 0)) : s_load n = -1 := if_neg (fun q => by subst q; exact h ⟨by decide, by decide⟩)
end
section
theorem dX0_docAt_0 : decode cX0_docAt 0 = .ok (.iload_n 1, 1) := by decide +kernel
theorem dX0_docAt_1 : decode cX0_docAt 1 = .ok (.ifCond .lt 21, 3) := by decide +kernel
theorem dX0_docAt_4 : decode cX0_docAt 4 = .ok (.iload_n 1, 1) := by decide +kernel
theorem dX0_docAt_5 : decode cX0_docAt 5 = .ok (.aload_n 0, 1) := by decide +kernel
theorem dX0_docAt_6 : decode cX0_docAt 6 = .ok (.getfield 7, 3) := by decide +kernel
theorem dX0_docAt_9 : decode cX0_docAt 9 = .ok (.arraylength, 1) := by decide +kernel
theorem dX0_docAt_10 : decode cX0_docAt 10 = .ok (.if_icmp .ge 12, 3) := by decide +kernel
theorem dX0_docAt_22 : decode cX0_docAt 22 = .ok (.aconst_null, 1) := by decide +kernel
theorem dX0_docAt_23 : decode cX0_docAt 23 = .ok (.areturn, 1) := by decide +kernel
def mwX0_docAt : List Cond := .code yX0_docAt cX0_docAt 2 (some (.object "PatternGate$Doc")) :: ([.fieldLink RX0 7 "PatternGate$Book" "docs" "[LPatternGate$Doc;"] ++ wsX00)
theorem fin_X0_docAt_X0 : ∀ w ∈ wsX00, w ∈ mwX0_docAt := fun w h => List.mem_cons_of_mem _ (List.mem_append_right _ h)
set_option maxHeartbeats 4000000 in
set_option maxRecDepth 100000 in
/-- docAt on a book without any: null -/
theorem c_docAt (l : Launch) (dC : Nat → ClassId) (dI : Nat → Nat → Nat) (b d0 p0 : Nat) (cD cP : ClassId) (i : Int32) : Met l yX0_docAt mwX0_docAt ({ frames := 0, cells := 0, slots := 0, locals := 0 }) (va_Pc [.ref b, .int i] (fun U => va_P (dC, dI) vwCl ([(b, .inr (0, [.ref d0, .ref p0, .null])), (d0, .inl (cD, 0, .inr (.inr (.inr (.inr (fun _ => none)))))), (p0, .inl (cP, 0, .inr (.inr (.inr (.inr (fun _ => none))))))]) U.heap ∧ va_K (dC, dI) vwCl ([(cD, .object "PatternGate$Doc"), (cP, .object "PatternGate$Pattern")]) U)) (va_Sq (fun o => o = none)) 0 0 (fun _ => False) := by
  refine Met.ofW (cc := cX0_docAt) (maxL := 2) (ret := (some (.object "PatternGate$Doc"))) (by decide +kernel) rfl ?_
  intro p e s m args below meth c s₁ B hml hv
  obtain ⟨rfl, hP, hK⟩ := hv
  have hx := B.exec
  have hb := B.bytes
  have hr := B.returns
  have hts := atoms_spec (ws := mwX0_docAt) B.pre
  have hown : s.vm.findClass RX0 = some m.cls := findClass_of_methodNamed B.named
  have hlocks := B.notSynchronized
  have hP : va_P (dC, dI) vwCl [(b, .inr (0, [.ref d0, .ref p0, .null])), (d0, .inl (cD, 0, .inr (.inr (.inr (.inr (fun _ => none)))))), (p0, .inl (cP, 0, .inr (.inr (.inr (.inr (fun _ => none))))))] s.heap := hP
  have hK : va_K (dC, dI) vwCl [(cD, .object "PatternGate$Doc"), (cP, .object "PatternGate$Pattern")] s := hK
  generalize hH : s.heap = H at hP ⊢
  have hl := lv_entry ([.ref b, .int i]) (n := 2) (Nat.le_of_ble_eq_true rfl)
  rw [lg_entry_eq]
  generalize (lg_sl ([.ref b, .int i]) ++ List.replicate (2 - (lg_sl ([.ref b, .int i])).length) Slot.unset).toArray = ls at hl ⊢
  have hl : lv_has ls 2 [(0, .ref b), (1, .int i)] := hl
  refine lv_iload_n hx hb dX0_docAt_0 rfl (lv_at hl 1 rfl) ?_
  refine lv_if_lt (tgt := 22) hx hb dX0_docAt_1 (by decide) (fun k_1 => ?_) (fun k_1 => ?_)
  · refine lv_null hx hb dX0_docAt_22 ?_
    exact W.aret hx hb hr (Or.inl ⟨_, rfl⟩) (Or.inl rfl) (fun t ht hW => ⟨none, rfl, rfl, ht.trans hH.symm⟩) t_nil dX0_docAt_23
  · refine lv_iload_n hx hb dX0_docAt_4 rfl (lv_at hl 1 rfl) ?_
    refine lv_aload_n hx hb dX0_docAt_5 rfl (lv_at hl 0 rfl) ?_
    refine va_get (D := (dC, dI)) (ci := 0) (v := .ref d0) (C := RX0) (T := TX0) (N := 3) hx hb hts fin_X0_docAt_X0 hown hK hP 0 rfl rfl 0 (by decide) (hts (.fieldLink RX0 7 "PatternGate$Book" "docs" "[LPatternGate$Doc;") (List.mem_of_getElem? (i := 1) (by decide +kernel))) (fun _ h9 => h9) rfl dX0_docAt_6 ?_
    refine va_alen (v := 0) hx hb hK hP 1 0 rfl rfl rfl dX0_docAt_9 ?_
    refine lv_icmp_ge (tgt := 22) hx hb dX0_docAt_10 (by decide) (fun k_2 => ?_) (fun k_2 => absurd (zz_ge k_1) k_2)
    refine lv_null hx hb dX0_docAt_22 ?_
    exact W.aret hx hb hr (Or.inl ⟨_, rfl⟩) (Or.inl rfl) (fun t ht hW => ⟨none, rfl, rfl, ht.trans hH.symm⟩) t_nil dX0_docAt_23
theorem dX0_patternAt_0 : decode cX0_patternAt 0 = .ok (.iload_n 1, 1) := by decide +kernel
theorem dX0_patternAt_1 : decode cX0_patternAt 1 = .ok (.ifCond .lt 21, 3) := by decide +kernel
theorem dX0_patternAt_4 : decode cX0_patternAt 4 = .ok (.iload_n 1, 1) := by decide +kernel
theorem dX0_patternAt_5 : decode cX0_patternAt 5 = .ok (.aload_n 0, 1) := by decide +kernel
theorem dX0_patternAt_6 : decode cX0_patternAt 6 = .ok (.getfield 13, 3) := by decide +kernel
theorem dX0_patternAt_9 : decode cX0_patternAt 9 = .ok (.arraylength, 1) := by decide +kernel
theorem dX0_patternAt_10 : decode cX0_patternAt 10 = .ok (.if_icmp .ge 12, 3) := by decide +kernel
theorem dX0_patternAt_22 : decode cX0_patternAt 22 = .ok (.aconst_null, 1) := by decide +kernel
theorem dX0_patternAt_23 : decode cX0_patternAt 23 = .ok (.areturn, 1) := by decide +kernel
def mwX0_patternAt : List Cond := .code yX0_patternAt cX0_patternAt 2 (some (.object "PatternGate$Pattern")) :: ([.fieldLink RX0 13 "PatternGate$Book" "patterns" "[LPatternGate$Pattern;"] ++ wsX00)
theorem fin_X0_patternAt_X0 : ∀ w ∈ wsX00, w ∈ mwX0_patternAt := fun w h => List.mem_cons_of_mem _ (List.mem_append_right _ h)
set_option maxHeartbeats 4000000 in
set_option maxRecDepth 100000 in
/-- patternAt on a book without any: null -/
theorem c_patternAt (l : Launch) (dC : Nat → ClassId) (dI : Nat → Nat → Nat) (b d0 p0 : Nat) (cD cP : ClassId) (i : Int32) : Met l yX0_patternAt mwX0_patternAt ({ frames := 0, cells := 0, slots := 0, locals := 0 }) (va_Pc [.ref b, .int i] (fun U => va_P (dC, dI) vwCl ([(b, .inr (0, [.ref d0, .ref p0, .null])), (d0, .inl (cD, 0, .inr (.inr (.inr (.inr (fun _ => none)))))), (p0, .inl (cP, 0, .inr (.inr (.inr (.inr (fun _ => none))))))]) U.heap ∧ va_K (dC, dI) vwCl ([(cD, .object "PatternGate$Doc"), (cP, .object "PatternGate$Pattern")]) U)) (va_Sq (fun o => o = none)) 0 0 (fun _ => False) := by
  refine Met.ofW (cc := cX0_patternAt) (maxL := 2) (ret := (some (.object "PatternGate$Pattern"))) (by decide +kernel) rfl ?_
  intro p e s m args below meth c s₁ B hml hv
  obtain ⟨rfl, hP, hK⟩ := hv
  have hx := B.exec
  have hb := B.bytes
  have hr := B.returns
  have hts := atoms_spec (ws := mwX0_patternAt) B.pre
  have hown : s.vm.findClass RX0 = some m.cls := findClass_of_methodNamed B.named
  have hlocks := B.notSynchronized
  have hP : va_P (dC, dI) vwCl [(b, .inr (0, [.ref d0, .ref p0, .null])), (d0, .inl (cD, 0, .inr (.inr (.inr (.inr (fun _ => none)))))), (p0, .inl (cP, 0, .inr (.inr (.inr (.inr (fun _ => none))))))] s.heap := hP
  have hK : va_K (dC, dI) vwCl [(cD, .object "PatternGate$Doc"), (cP, .object "PatternGate$Pattern")] s := hK
  generalize hH : s.heap = H at hP ⊢
  have hl := lv_entry ([.ref b, .int i]) (n := 2) (Nat.le_of_ble_eq_true rfl)
  rw [lg_entry_eq]
  generalize (lg_sl ([.ref b, .int i]) ++ List.replicate (2 - (lg_sl ([.ref b, .int i])).length) Slot.unset).toArray = ls at hl ⊢
  have hl : lv_has ls 2 [(0, .ref b), (1, .int i)] := hl
  refine lv_iload_n hx hb dX0_patternAt_0 rfl (lv_at hl 1 rfl) ?_
  refine lv_if_lt (tgt := 22) hx hb dX0_patternAt_1 (by decide) (fun k_1 => ?_) (fun k_1 => ?_)
  · refine lv_null hx hb dX0_patternAt_22 ?_
    exact W.aret hx hb hr (Or.inl ⟨_, rfl⟩) (Or.inl rfl) (fun t ht hW => ⟨none, rfl, rfl, ht.trans hH.symm⟩) t_nil dX0_patternAt_23
  · refine lv_iload_n hx hb dX0_patternAt_4 rfl (lv_at hl 1 rfl) ?_
    refine lv_aload_n hx hb dX0_patternAt_5 rfl (lv_at hl 0 rfl) ?_
    refine va_get (D := (dC, dI)) (ci := 0) (v := .ref p0) (C := RX0) (T := TX0) (N := 3) hx hb hts fin_X0_patternAt_X0 hown hK hP 0 rfl rfl 1 (by decide) (hts (.fieldLink RX0 13 "PatternGate$Book" "patterns" "[LPatternGate$Pattern;") (List.mem_of_getElem? (i := 1) (by decide +kernel))) (fun _ h9 => h9) rfl dX0_patternAt_6 ?_
    refine va_alen (v := 0) hx hb hK hP 2 1 rfl rfl rfl dX0_patternAt_9 ?_
    refine lv_icmp_ge (tgt := 22) hx hb dX0_patternAt_10 (by decide) (fun k_2 => ?_) (fun k_2 => absurd (zz_ge k_1) k_2)
    refine lv_null hx hb dX0_patternAt_22 ?_
    exact W.aret hx hb hr (Or.inl ⟨_, rfl⟩) (Or.inl rfl) (fun t ht hW => ⟨none, rfl, rfl, ht.trans hH.symm⟩) t_nil dX0_patternAt_23
theorem dX0_listBits_0 : decode cX0_listBits 0 = .ok (.iconst 0, 1) := by decide +kernel
theorem dX0_listBits_1 : decode cX0_listBits 1 = .ok (.istore_n 2, 1) := by decide +kernel
theorem dX0_listBits_2 : decode cX0_listBits 2 = .ok (.iconst 0, 1) := by decide +kernel
theorem dX0_listBits_3 : decode cX0_listBits 3 = .ok (.istore_n 3, 1) := by decide +kernel
theorem dX0_listBits_4 : decode cX0_listBits 4 = .ok (.iload_n 3, 1) := by decide +kernel
theorem dX0_listBits_5 : decode cX0_listBits 5 = .ok (.aload_n 0, 1) := by decide +kernel
theorem dX0_listBits_6 : decode cX0_listBits 6 = .ok (.getfield 7, 3) := by decide +kernel
theorem dX0_listBits_9 : decode cX0_listBits 9 = .ok (.arraylength, 1) := by decide +kernel
theorem dX0_listBits_10 : decode cX0_listBits 10 = .ok (.if_icmp .ge 37, 3) := by decide +kernel
theorem dX0_listBits_47 : decode cX0_listBits 47 = .ok (.iload_n 2, 1) := by decide +kernel
theorem dX0_listBits_48 : decode cX0_listBits 48 = .ok (.ireturn, 1) := by decide +kernel
def mwX0_listBits : List Cond := .code yX0_listBits cX0_listBits 4 (some .int) :: ([.fieldLink RX0 7 "PatternGate$Book" "docs" "[LPatternGate$Doc;"] ++ wsX00)
theorem fin_X0_listBits_X0 : ∀ w ∈ wsX00, w ∈ mwX0_listBits := fun w h => List.mem_cons_of_mem _ (List.mem_append_right _ h)
set_option maxHeartbeats 4000000 in
set_option maxRecDepth 100000 in
/-- listBits of a book without DOCUMENTS: 0 -/
theorem c_listBits (l : Launch) (dC : Nat → ClassId) (dI : Nat → Nat → Nat) (b d0 p0 : Nat) (cD cP : ClassId) (i : Int32) : Met l yX0_listBits mwX0_listBits ({ frames := 0, cells := 0, slots := 0, locals := 0 }) (va_Pc [.ref b, .int i] (fun U => va_P (dC, dI) vwCl ([(b, .inr (0, [.ref d0, .ref p0, .null])), (d0, .inl (cD, 0, .inr (.inr (.inr (.inr (fun _ => none)))))), (p0, .inl (cP, 0, .inr (.inr (.inr (.inr (fun _ => none))))))]) U.heap ∧ va_K (dC, dI) vwCl ([(cD, .object "PatternGate$Doc"), (cP, .object "PatternGate$Pattern")]) U)) (vp_Si (fun o => o = 0)) 0 0 (fun _ => False) := by
  refine Met.ofW (cc := cX0_listBits) (maxL := 4) (ret := (some .int)) (by decide +kernel) rfl ?_
  intro p e s m args below meth c s₁ B hml hv
  obtain ⟨rfl, hP, hK⟩ := hv
  have hx := B.exec
  have hb := B.bytes
  have hr := B.returns
  have hts := atoms_spec (ws := mwX0_listBits) B.pre
  have hown : s.vm.findClass RX0 = some m.cls := findClass_of_methodNamed B.named
  have hlocks := B.notSynchronized
  have hP : va_P (dC, dI) vwCl [(b, .inr (0, [.ref d0, .ref p0, .null])), (d0, .inl (cD, 0, .inr (.inr (.inr (.inr (fun _ => none)))))), (p0, .inl (cP, 0, .inr (.inr (.inr (.inr (fun _ => none))))))] s.heap := hP
  have hK : va_K (dC, dI) vwCl [(cD, .object "PatternGate$Doc"), (cP, .object "PatternGate$Pattern")] s := hK
  generalize hH : s.heap = H at hP ⊢
  have hl := lv_entry ([.ref b, .int i]) (n := 4) (Nat.le_of_ble_eq_true rfl)
  rw [lg_entry_eq]
  generalize (lg_sl ([.ref b, .int i]) ++ List.replicate (4 - (lg_sl ([.ref b, .int i])).length) Slot.unset).toArray = ls at hl ⊢
  have hl : lv_has ls 4 [(0, .ref b), (1, .int i)] := hl
  refine lv_iconst (v := 0) hx hb dX0_listBits_0 (by decide) ?_
  refine lv_istore_n (lv' := [(2, .int 0), (0, .ref b), (1, .int i)]) hx hb dX0_listBits_1 rfl hl (by decide) rfl (fun ls hl => ?_)
  refine lv_iconst (v := 0) hx hb dX0_listBits_2 (by decide) ?_
  refine lv_istore_n (lv' := [(3, .int 0), (2, .int 0), (0, .ref b), (1, .int i)]) hx hb dX0_listBits_3 rfl hl (by decide) rfl (fun ls hl => ?_)
  refine lv_iload_n hx hb dX0_listBits_4 rfl (lv_at hl 0 rfl) ?_
  refine lv_aload_n hx hb dX0_listBits_5 rfl (lv_at hl 2 rfl) ?_
  refine va_get (D := (dC, dI)) (ci := 0) (v := .ref d0) (C := RX0) (T := TX0) (N := 3) hx hb hts fin_X0_listBits_X0 hown hK hP 0 rfl rfl 0 (by decide) (hts (.fieldLink RX0 7 "PatternGate$Book" "docs" "[LPatternGate$Doc;") (List.mem_of_getElem? (i := 1) (by decide +kernel))) (fun _ h9 => h9) rfl dX0_listBits_6 ?_
  refine va_alen (v := 0) hx hb hK hP 1 0 rfl rfl rfl dX0_listBits_9 ?_
  refine lv_icmp_ge (tgt := 47) hx hb dX0_listBits_10 (by decide) (fun k_1 => ?_) (fun k_1 => absurd (by decide) k_1)
  refine lv_iload_n hx hb dX0_listBits_47 rfl (lv_at hl 1 rfl) ?_
  exact W.iret hx hb hr (fun t ht hW => ⟨_, rfl, rfl, ht.trans hH.symm⟩) t_nil dX0_listBits_48
theorem dX0_allLetters_0 : decode cX0_allLetters 0 = .ok (.iconst 0, 1) := by decide +kernel
theorem dX0_allLetters_1 : decode cX0_allLetters 1 = .ok (.istore_n 1, 1) := by decide +kernel
theorem dX0_allLetters_2 : decode cX0_allLetters 2 = .ok (.iconst 0, 1) := by decide +kernel
theorem dX0_allLetters_3 : decode cX0_allLetters 3 = .ok (.istore_n 2, 1) := by decide +kernel
theorem dX0_allLetters_4 : decode cX0_allLetters 4 = .ok (.iload_n 2, 1) := by decide +kernel
theorem dX0_allLetters_5 : decode cX0_allLetters 5 = .ok (.aload_n 0, 1) := by decide +kernel
theorem dX0_allLetters_6 : decode cX0_allLetters 6 = .ok (.getfield 7, 3) := by decide +kernel
theorem dX0_allLetters_9 : decode cX0_allLetters 9 = .ok (.arraylength, 1) := by decide +kernel
theorem dX0_allLetters_10 : decode cX0_allLetters 10 = .ok (.if_icmp .ge 35, 3) := by decide +kernel
theorem dX0_allLetters_45 : decode cX0_allLetters 45 = .ok (.iload_n 1, 1) := by decide +kernel
theorem dX0_allLetters_46 : decode cX0_allLetters 46 = .ok (.ireturn, 1) := by decide +kernel
def mwX0_allLetters : List Cond := .code yX0_allLetters cX0_allLetters 3 (some .int) :: ([.fieldLink RX0 7 "PatternGate$Book" "docs" "[LPatternGate$Doc;"] ++ wsX00)
theorem fin_X0_allLetters_X0 : ∀ w ∈ wsX00, w ∈ mwX0_allLetters := fun w h => List.mem_cons_of_mem _ (List.mem_append_right _ h)
set_option maxHeartbeats 4000000 in
set_option maxRecDepth 100000 in
/-- allLetters of a book without DOCUMENTS: 0 -/
theorem c_allLetters (l : Launch) (dC : Nat → ClassId) (dI : Nat → Nat → Nat) (b d0 p0 : Nat) (cD cP : ClassId) : Met l yX0_allLetters mwX0_allLetters ({ frames := 0, cells := 0, slots := 0, locals := 0 }) (va_Pc [.ref b] (fun U => va_P (dC, dI) vwCl ([(b, .inr (0, [.ref d0, .ref p0, .null])), (d0, .inl (cD, 0, .inr (.inr (.inr (.inr (fun _ => none)))))), (p0, .inl (cP, 0, .inr (.inr (.inr (.inr (fun _ => none))))))]) U.heap ∧ va_K (dC, dI) vwCl ([(cD, .object "PatternGate$Doc"), (cP, .object "PatternGate$Pattern")]) U)) (vp_Si (fun o => o = 0)) 0 0 (fun _ => False) := by
  refine Met.ofW (cc := cX0_allLetters) (maxL := 3) (ret := (some .int)) (by decide +kernel) rfl ?_
  intro p e s m args below meth c s₁ B hml hv
  obtain ⟨rfl, hP, hK⟩ := hv
  have hx := B.exec
  have hb := B.bytes
  have hr := B.returns
  have hts := atoms_spec (ws := mwX0_allLetters) B.pre
  have hown : s.vm.findClass RX0 = some m.cls := findClass_of_methodNamed B.named
  have hlocks := B.notSynchronized
  have hP : va_P (dC, dI) vwCl [(b, .inr (0, [.ref d0, .ref p0, .null])), (d0, .inl (cD, 0, .inr (.inr (.inr (.inr (fun _ => none)))))), (p0, .inl (cP, 0, .inr (.inr (.inr (.inr (fun _ => none))))))] s.heap := hP
  have hK : va_K (dC, dI) vwCl [(cD, .object "PatternGate$Doc"), (cP, .object "PatternGate$Pattern")] s := hK
  generalize hH : s.heap = H at hP ⊢
  have hl := lv_entry ([.ref b]) (n := 3) (Nat.le_of_ble_eq_true rfl)
  rw [lg_entry_eq]
  generalize (lg_sl ([.ref b]) ++ List.replicate (3 - (lg_sl ([.ref b])).length) Slot.unset).toArray = ls at hl ⊢
  have hl : lv_has ls 3 [(0, .ref b)] := hl
  refine lv_iconst (v := 0) hx hb dX0_allLetters_0 (by decide) ?_
  refine lv_istore_n (lv' := [(1, .int 0), (0, .ref b)]) hx hb dX0_allLetters_1 rfl hl (by decide) rfl (fun ls hl => ?_)
  refine lv_iconst (v := 0) hx hb dX0_allLetters_2 (by decide) ?_
  refine lv_istore_n (lv' := [(2, .int 0), (1, .int 0), (0, .ref b)]) hx hb dX0_allLetters_3 rfl hl (by decide) rfl (fun ls hl => ?_)
  refine lv_iload_n hx hb dX0_allLetters_4 rfl (lv_at hl 0 rfl) ?_
  refine lv_aload_n hx hb dX0_allLetters_5 rfl (lv_at hl 2 rfl) ?_
  refine va_get (D := (dC, dI)) (ci := 0) (v := .ref d0) (C := RX0) (T := TX0) (N := 3) hx hb hts fin_X0_allLetters_X0 hown hK hP 0 rfl rfl 0 (by decide) (hts (.fieldLink RX0 7 "PatternGate$Book" "docs" "[LPatternGate$Doc;") (List.mem_of_getElem? (i := 1) (by decide +kernel))) (fun _ h9 => h9) rfl dX0_allLetters_6 ?_
  refine va_alen (v := 0) hx hb hK hP 1 0 rfl rfl rfl dX0_allLetters_9 ?_
  refine lv_icmp_ge (tgt := 45) hx hb dX0_allLetters_10 (by decide) (fun k_1 => ?_) (fun k_1 => absurd (by decide) k_1)
  refine lv_iload_n hx hb dX0_allLetters_45 rfl (lv_at hl 1 rfl) ?_
  exact W.iret hx hb hr (fun t ht hW => ⟨_, rfl, rfl, ht.trans hH.symm⟩) t_nil dX0_allLetters_46
theorem dX0_allTriples_0 : decode cX0_allTriples 0 = .ok (.iconst 0, 1) := by decide +kernel
theorem dX0_allTriples_1 : decode cX0_allTriples 1 = .ok (.istore_n 1, 1) := by decide +kernel
theorem dX0_allTriples_2 : decode cX0_allTriples 2 = .ok (.iconst 0, 1) := by decide +kernel
theorem dX0_allTriples_3 : decode cX0_allTriples 3 = .ok (.istore_n 2, 1) := by decide +kernel
theorem dX0_allTriples_4 : decode cX0_allTriples 4 = .ok (.iload_n 2, 1) := by decide +kernel
theorem dX0_allTriples_5 : decode cX0_allTriples 5 = .ok (.aload_n 0, 1) := by decide +kernel
theorem dX0_allTriples_6 : decode cX0_allTriples 6 = .ok (.getfield 7, 3) := by decide +kernel
theorem dX0_allTriples_9 : decode cX0_allTriples 9 = .ok (.arraylength, 1) := by decide +kernel
theorem dX0_allTriples_10 : decode cX0_allTriples 10 = .ok (.if_icmp .ge 74, 3) := by decide +kernel
theorem dX0_allTriples_84 : decode cX0_allTriples 84 = .ok (.iload_n 1, 1) := by decide +kernel
theorem dX0_allTriples_85 : decode cX0_allTriples 85 = .ok (.ireturn, 1) := by decide +kernel
def mwX0_allTriples : List Cond := .code yX0_allTriples cX0_allTriples 5 (some .int) :: ([.fieldLink RX0 7 "PatternGate$Book" "docs" "[LPatternGate$Doc;"] ++ wsX00)
theorem fin_X0_allTriples_X0 : ∀ w ∈ wsX00, w ∈ mwX0_allTriples := fun w h => List.mem_cons_of_mem _ (List.mem_append_right _ h)
set_option maxHeartbeats 4000000 in
set_option maxRecDepth 100000 in
/-- allTriples of a book without DOCUMENTS: 0 -/
theorem c_allTriples (l : Launch) (dC : Nat → ClassId) (dI : Nat → Nat → Nat) (b d0 p0 : Nat) (cD cP : ClassId) : Met l yX0_allTriples mwX0_allTriples ({ frames := 0, cells := 0, slots := 0, locals := 0 }) (va_Pc [.ref b] (fun U => va_P (dC, dI) vwCl ([(b, .inr (0, [.ref d0, .ref p0, .null])), (d0, .inl (cD, 0, .inr (.inr (.inr (.inr (fun _ => none)))))), (p0, .inl (cP, 0, .inr (.inr (.inr (.inr (fun _ => none))))))]) U.heap ∧ va_K (dC, dI) vwCl ([(cD, .object "PatternGate$Doc"), (cP, .object "PatternGate$Pattern")]) U)) (vp_Si (fun o => o = 0)) 0 0 (fun _ => False) := by
  refine Met.ofW (cc := cX0_allTriples) (maxL := 5) (ret := (some .int)) (by decide +kernel) rfl ?_
  intro p e s m args below meth c s₁ B hml hv
  obtain ⟨rfl, hP, hK⟩ := hv
  have hx := B.exec
  have hb := B.bytes
  have hr := B.returns
  have hts := atoms_spec (ws := mwX0_allTriples) B.pre
  have hown : s.vm.findClass RX0 = some m.cls := findClass_of_methodNamed B.named
  have hlocks := B.notSynchronized
  have hP : va_P (dC, dI) vwCl [(b, .inr (0, [.ref d0, .ref p0, .null])), (d0, .inl (cD, 0, .inr (.inr (.inr (.inr (fun _ => none)))))), (p0, .inl (cP, 0, .inr (.inr (.inr (.inr (fun _ => none))))))] s.heap := hP
  have hK : va_K (dC, dI) vwCl [(cD, .object "PatternGate$Doc"), (cP, .object "PatternGate$Pattern")] s := hK
  generalize hH : s.heap = H at hP ⊢
  have hl := lv_entry ([.ref b]) (n := 5) (Nat.le_of_ble_eq_true rfl)
  rw [lg_entry_eq]
  generalize (lg_sl ([.ref b]) ++ List.replicate (5 - (lg_sl ([.ref b])).length) Slot.unset).toArray = ls at hl ⊢
  have hl : lv_has ls 5 [(0, .ref b)] := hl
  refine lv_iconst (v := 0) hx hb dX0_allTriples_0 (by decide) ?_
  refine lv_istore_n (lv' := [(1, .int 0), (0, .ref b)]) hx hb dX0_allTriples_1 rfl hl (by decide) rfl (fun ls hl => ?_)
  refine lv_iconst (v := 0) hx hb dX0_allTriples_2 (by decide) ?_
  refine lv_istore_n (lv' := [(2, .int 0), (1, .int 0), (0, .ref b)]) hx hb dX0_allTriples_3 rfl hl (by decide) rfl (fun ls hl => ?_)
  refine lv_iload_n hx hb dX0_allTriples_4 rfl (lv_at hl 0 rfl) ?_
  refine lv_aload_n hx hb dX0_allTriples_5 rfl (lv_at hl 2 rfl) ?_
  refine va_get (D := (dC, dI)) (ci := 0) (v := .ref d0) (C := RX0) (T := TX0) (N := 3) hx hb hts fin_X0_allTriples_X0 hown hK hP 0 rfl rfl 0 (by decide) (hts (.fieldLink RX0 7 "PatternGate$Book" "docs" "[LPatternGate$Doc;") (List.mem_of_getElem? (i := 1) (by decide +kernel))) (fun _ h9 => h9) rfl dX0_allTriples_6 ?_
  refine va_alen (v := 0) hx hb hK hP 1 0 rfl rfl rfl dX0_allTriples_9 ?_
  refine lv_icmp_ge (tgt := 84) hx hb dX0_allTriples_10 (by decide) (fun k_1 => ?_) (fun k_1 => absurd (by decide) k_1)
  refine lv_iload_n hx hb dX0_allTriples_84 rfl (lv_at hl 1 rfl) ?_
  exact W.iret hx hb hr (fun t ht hW => ⟨_, rfl, rfl, ht.trans hH.symm⟩) t_nil dX0_allTriples_85
theorem dX9_isLetter_0 : decode cX9_isLetter 0 = .ok (.iload_n 0, 1) := by decide +kernel
theorem dX9_isLetter_1 : decode cX9_isLetter 1 = .ok (.ifCond .lt 13, 3) := by decide +kernel
theorem dX9_isLetter_4 : decode cX9_isLetter 4 = .ok (.iload_n 0, 1) := by decide +kernel
theorem dX9_isLetter_5 : decode cX9_isLetter 5 = .ok (.bipush 26, 2) := by decide +kernel
theorem dX9_isLetter_7 : decode cX9_isLetter 7 = .ok (.if_icmp .ge 7, 3) := by decide +kernel
theorem dX9_isLetter_10 : decode cX9_isLetter 10 = .ok (.iconst 1, 1) := by decide +kernel
theorem dX9_isLetter_11 : decode cX9_isLetter 11 = .ok (.goto 4, 3) := by decide +kernel
theorem dX9_isLetter_14 : decode cX9_isLetter 14 = .ok (.iconst 0, 1) := by decide +kernel
theorem dX9_isLetter_15 : decode cX9_isLetter 15 = .ok (.ireturn, 1) := by decide +kernel
def mwX9_isLetter : List Cond := .code yX9_isLetter cX9_isLetter 1 (some .boolean) :: ([])
set_option maxHeartbeats 4000000 in
set_option maxRecDepth 100000 in
/-- isLetter: 0 or 1 -/
theorem c_isLetter (l : Launch) (dC : Nat → ClassId) (dI : Nat → Nat → Nat) (i : Int32) : Met l yX9_isLetter mwX9_isLetter ({ frames := 0, cells := 0, slots := 0, locals := 0 }) (va_Pc [.int i] (fun _ => True)) (vp_Si (fun o => o = 0 ∨ o = 1)) 0 0 (fun _ => False) := by
  refine Met.ofW (cc := cX9_isLetter) (maxL := 1) (ret := (some .boolean)) (by decide +kernel) rfl ?_
  intro p e s m args below meth c s₁ B hml hv
  obtain ⟨rfl, -⟩ := hv
  have hx := B.exec
  have hb := B.bytes
  have hr := B.returns
  have hts := atoms_spec (ws := mwX9_isLetter) B.pre
  have hown : s.vm.findClass RX9 = some m.cls := findClass_of_methodNamed B.named
  have hlocks := B.notSynchronized
  have hl := lv_entry ([.int i]) (n := 1) (Nat.le_of_ble_eq_true rfl)
  rw [lg_entry_eq]
  generalize (lg_sl ([.int i]) ++ List.replicate (1 - (lg_sl ([.int i])).length) Slot.unset).toArray = ls at hl ⊢
  have hl : lv_has ls 1 [(0, .int i)] := hl
  refine lv_iload_n hx hb dX9_isLetter_0 rfl (lv_at hl 0 rfl) ?_
  refine lv_if_lt (tgt := 14) hx hb dX9_isLetter_1 (by decide) (fun k_1 => ?_) (fun k_1 => ?_)
  · refine lv_iconst (v := 0) hx hb dX9_isLetter_14 (by decide) ?_
    exact W.zret hx hb hr rfl (fun t ht hW => ⟨_, rfl, Or.inl rfl, ht⟩) t_nil dX9_isLetter_15
  · refine lv_iload_n hx hb dX9_isLetter_4 rfl (lv_at hl 0 rfl) ?_
    refine lv_bipush (v := 26) hx hb dX9_isLetter_5 (by decide) ?_
    refine lv_icmp_ge (tgt := 14) hx hb dX9_isLetter_7 (by decide) (fun k_2 => ?_) (fun k_2 => ?_)
    · refine lv_iconst (v := 0) hx hb dX9_isLetter_14 (by decide) ?_
      exact W.zret hx hb hr rfl (fun t ht hW => ⟨_, rfl, Or.inl rfl, ht⟩) t_nil dX9_isLetter_15
    · refine lv_iconst (v := 1) hx hb dX9_isLetter_10 (by decide) ?_
      refine lv_goto (tgt := 15) hx hb dX9_isLetter_11 (by decide) ?_
      exact W.zret hx hb hr rfl (fun t ht hW => ⟨_, rfl, Or.inr rfl, ht⟩) t_nil dX9_isLetter_15
theorem dX9_isTriple_0 : decode cX9_isTriple 0 = .ok (.iload_n 0, 1) := by decide +kernel
theorem dX9_isTriple_1 : decode cX9_isTriple 1 = .ok (.ifCond .lt 14, 3) := by decide +kernel
theorem dX9_isTriple_4 : decode cX9_isTriple 4 = .ok (.iload_n 0, 1) := by decide +kernel
theorem dX9_isTriple_5 : decode cX9_isTriple 5 = .ok (.sipush 17576, 3) := by decide +kernel
theorem dX9_isTriple_8 : decode cX9_isTriple 8 = .ok (.if_icmp .ge 7, 3) := by decide +kernel
theorem dX9_isTriple_11 : decode cX9_isTriple 11 = .ok (.iconst 1, 1) := by decide +kernel
theorem dX9_isTriple_12 : decode cX9_isTriple 12 = .ok (.goto 4, 3) := by decide +kernel
theorem dX9_isTriple_15 : decode cX9_isTriple 15 = .ok (.iconst 0, 1) := by decide +kernel
theorem dX9_isTriple_16 : decode cX9_isTriple 16 = .ok (.ireturn, 1) := by decide +kernel
def mwX9_isTriple : List Cond := .code yX9_isTriple cX9_isTriple 1 (some .boolean) :: ([])
set_option maxHeartbeats 4000000 in
set_option maxRecDepth 100000 in
/-- isTriple: 0 or 1 -/
theorem c_isTriple (l : Launch) (dC : Nat → ClassId) (dI : Nat → Nat → Nat) (i : Int32) : Met l yX9_isTriple mwX9_isTriple ({ frames := 0, cells := 0, slots := 0, locals := 0 }) (va_Pc [.int i] (fun _ => True)) (vp_Si (fun o => o = 0 ∨ o = 1)) 0 0 (fun _ => False) := by
  refine Met.ofW (cc := cX9_isTriple) (maxL := 1) (ret := (some .boolean)) (by decide +kernel) rfl ?_
  intro p e s m args below meth c s₁ B hml hv
  obtain ⟨rfl, -⟩ := hv
  have hx := B.exec
  have hb := B.bytes
  have hr := B.returns
  have hts := atoms_spec (ws := mwX9_isTriple) B.pre
  have hown : s.vm.findClass RX9 = some m.cls := findClass_of_methodNamed B.named
  have hlocks := B.notSynchronized
  have hl := lv_entry ([.int i]) (n := 1) (Nat.le_of_ble_eq_true rfl)
  rw [lg_entry_eq]
  generalize (lg_sl ([.int i]) ++ List.replicate (1 - (lg_sl ([.int i])).length) Slot.unset).toArray = ls at hl ⊢
  have hl : lv_has ls 1 [(0, .int i)] := hl
  refine lv_iload_n hx hb dX9_isTriple_0 rfl (lv_at hl 0 rfl) ?_
  refine lv_if_lt (tgt := 15) hx hb dX9_isTriple_1 (by decide) (fun k_1 => ?_) (fun k_1 => ?_)
  · refine lv_iconst (v := 0) hx hb dX9_isTriple_15 (by decide) ?_
    exact W.zret hx hb hr rfl (fun t ht hW => ⟨_, rfl, Or.inl rfl, ht⟩) t_nil dX9_isTriple_16
  · refine lv_iload_n hx hb dX9_isTriple_4 rfl (lv_at hl 0 rfl) ?_
    refine lv_sipush (v := 17576) hx hb dX9_isTriple_5 (by decide) ?_
    refine lv_icmp_ge (tgt := 15) hx hb dX9_isTriple_8 (by decide) (fun k_2 => ?_) (fun k_2 => ?_)
    · refine lv_iconst (v := 0) hx hb dX9_isTriple_15 (by decide) ?_
      exact W.zret hx hb hr rfl (fun t ht hW => ⟨_, rfl, Or.inl rfl, ht⟩) t_nil dX9_isTriple_16
    · refine lv_iconst (v := 1) hx hb dX9_isTriple_11 (by decide) ?_
      refine lv_goto (tgt := 16) hx hb dX9_isTriple_12 (by decide) ?_
      exact W.zret hx hb hr rfl (fun t ht hW => ⟨_, rfl, Or.inr rfl, ht⟩) t_nil dX9_isTriple_16
theorem dJ6_bitCount_0f7a4_0 : decode cJ6_bitCount_0f7a4 0 = .ok (.iload_n 0, 1) := by decide +kernel
theorem dJ6_bitCount_0f7a4_1 : decode cJ6_bitCount_0f7a4 1 = .ok (.iload_n 0, 1) := by decide +kernel
theorem dJ6_bitCount_0f7a4_2 : decode cJ6_bitCount_0f7a4 2 = .ok (.iconst 1, 1) := by decide +kernel
theorem dJ6_bitCount_0f7a4_3 : decode cJ6_bitCount_0f7a4 3 = .ok (.iushr, 1) := by decide +kernel
theorem dJ6_bitCount_0f7a4_4 : decode cJ6_bitCount_0f7a4 4 = .ok (.ldc_w 265, 3) := by decide +kernel
theorem dJ6_bitCount_0f7a4_7 : decode cJ6_bitCount_0f7a4 7 = .ok (.iand, 1) := by decide +kernel
theorem dJ6_bitCount_0f7a4_8 : decode cJ6_bitCount_0f7a4 8 = .ok (.isub, 1) := by decide +kernel
theorem dJ6_bitCount_0f7a4_9 : decode cJ6_bitCount_0f7a4 9 = .ok (.istore_n 0, 1) := by decide +kernel
theorem dJ6_bitCount_0f7a4_10 : decode cJ6_bitCount_0f7a4 10 = .ok (.iload_n 0, 1) := by decide +kernel
theorem dJ6_bitCount_0f7a4_11 : decode cJ6_bitCount_0f7a4 11 = .ok (.ldc_w 266, 3) := by decide +kernel
theorem dJ6_bitCount_0f7a4_14 : decode cJ6_bitCount_0f7a4 14 = .ok (.iand, 1) := by decide +kernel
theorem dJ6_bitCount_0f7a4_15 : decode cJ6_bitCount_0f7a4 15 = .ok (.iload_n 0, 1) := by decide +kernel
theorem dJ6_bitCount_0f7a4_16 : decode cJ6_bitCount_0f7a4 16 = .ok (.iconst 2, 1) := by decide +kernel
theorem dJ6_bitCount_0f7a4_17 : decode cJ6_bitCount_0f7a4 17 = .ok (.iushr, 1) := by decide +kernel
theorem dJ6_bitCount_0f7a4_18 : decode cJ6_bitCount_0f7a4 18 = .ok (.ldc_w 266, 3) := by decide +kernel
theorem dJ6_bitCount_0f7a4_21 : decode cJ6_bitCount_0f7a4 21 = .ok (.iand, 1) := by decide +kernel
theorem dJ6_bitCount_0f7a4_22 : decode cJ6_bitCount_0f7a4 22 = .ok (.iadd, 1) := by decide +kernel
theorem dJ6_bitCount_0f7a4_23 : decode cJ6_bitCount_0f7a4 23 = .ok (.istore_n 0, 1) := by decide +kernel
theorem dJ6_bitCount_0f7a4_24 : decode cJ6_bitCount_0f7a4 24 = .ok (.iload_n 0, 1) := by decide +kernel
theorem dJ6_bitCount_0f7a4_25 : decode cJ6_bitCount_0f7a4 25 = .ok (.iload_n 0, 1) := by decide +kernel
theorem dJ6_bitCount_0f7a4_26 : decode cJ6_bitCount_0f7a4 26 = .ok (.iconst 4, 1) := by decide +kernel
theorem dJ6_bitCount_0f7a4_27 : decode cJ6_bitCount_0f7a4 27 = .ok (.iushr, 1) := by decide +kernel
theorem dJ6_bitCount_0f7a4_28 : decode cJ6_bitCount_0f7a4 28 = .ok (.iadd, 1) := by decide +kernel
theorem dJ6_bitCount_0f7a4_29 : decode cJ6_bitCount_0f7a4 29 = .ok (.ldc_w 267, 3) := by decide +kernel
theorem dJ6_bitCount_0f7a4_32 : decode cJ6_bitCount_0f7a4 32 = .ok (.iand, 1) := by decide +kernel
theorem dJ6_bitCount_0f7a4_33 : decode cJ6_bitCount_0f7a4 33 = .ok (.istore_n 0, 1) := by decide +kernel
theorem dJ6_bitCount_0f7a4_34 : decode cJ6_bitCount_0f7a4 34 = .ok (.iload_n 0, 1) := by decide +kernel
theorem dJ6_bitCount_0f7a4_35 : decode cJ6_bitCount_0f7a4 35 = .ok (.iload_n 0, 1) := by decide +kernel
theorem dJ6_bitCount_0f7a4_36 : decode cJ6_bitCount_0f7a4 36 = .ok (.bipush 8, 2) := by decide +kernel
theorem dJ6_bitCount_0f7a4_38 : decode cJ6_bitCount_0f7a4 38 = .ok (.iushr, 1) := by decide +kernel
theorem dJ6_bitCount_0f7a4_39 : decode cJ6_bitCount_0f7a4 39 = .ok (.iadd, 1) := by decide +kernel
theorem dJ6_bitCount_0f7a4_40 : decode cJ6_bitCount_0f7a4 40 = .ok (.istore_n 0, 1) := by decide +kernel
theorem dJ6_bitCount_0f7a4_41 : decode cJ6_bitCount_0f7a4 41 = .ok (.iload_n 0, 1) := by decide +kernel
theorem dJ6_bitCount_0f7a4_42 : decode cJ6_bitCount_0f7a4 42 = .ok (.iload_n 0, 1) := by decide +kernel
theorem dJ6_bitCount_0f7a4_43 : decode cJ6_bitCount_0f7a4 43 = .ok (.bipush 16, 2) := by decide +kernel
theorem dJ6_bitCount_0f7a4_45 : decode cJ6_bitCount_0f7a4 45 = .ok (.iushr, 1) := by decide +kernel
theorem dJ6_bitCount_0f7a4_46 : decode cJ6_bitCount_0f7a4 46 = .ok (.iadd, 1) := by decide +kernel
theorem dJ6_bitCount_0f7a4_47 : decode cJ6_bitCount_0f7a4 47 = .ok (.istore_n 0, 1) := by decide +kernel
theorem dJ6_bitCount_0f7a4_48 : decode cJ6_bitCount_0f7a4 48 = .ok (.iload_n 0, 1) := by decide +kernel
theorem dJ6_bitCount_0f7a4_49 : decode cJ6_bitCount_0f7a4 49 = .ok (.bipush 63, 2) := by decide +kernel
theorem dJ6_bitCount_0f7a4_51 : decode cJ6_bitCount_0f7a4 51 = .ok (.iand, 1) := by decide +kernel
theorem dJ6_bitCount_0f7a4_52 : decode cJ6_bitCount_0f7a4 52 = .ok (.ireturn, 1) := by decide +kernel
def mwJ6_bitCount_0f7a4 : List Cond := .code yJ6_bitCount_0f7a4 cJ6_bitCount_0f7a4 1 (some .int) :: ([.constant RJ6 265 (1431655765), .constant RJ6 266 (858993459), .constant RJ6 267 (252645135)])
set_option maxHeartbeats 4000000 in
set_option maxRecDepth 100000 in
/-- Integer.bitCount(0): 0 -/
theorem c_bitCount (l : Launch) (dC : Nat → ClassId) (dI : Nat → Nat → Nat)  : Met l yJ6_bitCount_0f7a4 mwJ6_bitCount_0f7a4 ({ frames := 0, cells := 0, slots := 0, locals := 0 }) (va_Pc [.int 0] (fun _ => True)) (vp_Si (fun o => o = 0)) 0 0 (fun _ => False) := by
  refine Met.ofW (cc := cJ6_bitCount_0f7a4) (maxL := 1) (ret := (some .int)) (by decide +kernel) rfl ?_
  intro p e s m args below meth c s₁ B hml hv
  obtain ⟨rfl, -⟩ := hv
  have hx := B.exec
  have hb := B.bytes
  have hr := B.returns
  have hts := atoms_spec (ws := mwJ6_bitCount_0f7a4) B.pre
  have hown : s.vm.findClass RJ6 = some m.cls := findClass_of_methodNamed B.named
  have hlocks := B.notSynchronized
  have hl := lv_entry ([.int 0]) (n := 1) (Nat.le_of_ble_eq_true rfl)
  rw [lg_entry_eq]
  generalize (lg_sl ([.int 0]) ++ List.replicate (1 - (lg_sl ([.int 0])).length) Slot.unset).toArray = ls at hl ⊢
  have hl : lv_has ls 1 [(0, .int 0)] := hl
  refine lv_iload_n hx hb dJ6_bitCount_0f7a4_0 rfl (lv_at hl 0 rfl) ?_
  refine lv_iload_n hx hb dJ6_bitCount_0f7a4_1 rfl (lv_at hl 0 rfl) ?_
  refine lv_iconst (v := 1) hx hb dJ6_bitCount_0f7a4_2 (by decide) ?_
  refine lv_iushr (v := 0) hx hb dJ6_bitCount_0f7a4_3 (by decide) ?_
  refine lv_ldcw hx hb hown (hts (.constant RJ6 265 (1431655765)) (List.mem_of_getElem? (i := 1) (by decide +kernel))) dJ6_bitCount_0f7a4_4 ?_
  refine lv_iand hx hb dJ6_bitCount_0f7a4_7 ?_
  refine lv_topi (fun y_1 ey_1 => ?_)
  obtain rfl : y_1 = 0 := ey_1.trans (by first | rfl | decide)
  refine lv_isub hx hb dJ6_bitCount_0f7a4_8 ?_
  refine lv_topi (fun y_2 ey_2 => ?_)
  obtain rfl : y_2 = 0 := ey_2.trans (by first | rfl | decide)
  refine lv_istore_n (lv' := [(0, .int 0)]) hx hb dJ6_bitCount_0f7a4_9 rfl hl (by decide) rfl (fun ls hl => ?_)
  refine lv_iload_n hx hb dJ6_bitCount_0f7a4_10 rfl (lv_at hl 0 rfl) ?_
  refine lv_ldcw hx hb hown (hts (.constant RJ6 266 (858993459)) (List.mem_of_getElem? (i := 2) (by decide +kernel))) dJ6_bitCount_0f7a4_11 ?_
  refine lv_iand hx hb dJ6_bitCount_0f7a4_14 ?_
  refine lv_topi (fun y_3 ey_3 => ?_)
  obtain rfl : y_3 = 0 := ey_3.trans (by first | rfl | decide)
  refine lv_iload_n hx hb dJ6_bitCount_0f7a4_15 rfl (lv_at hl 0 rfl) ?_
  refine lv_iconst (v := 2) hx hb dJ6_bitCount_0f7a4_16 (by decide) ?_
  refine lv_iushr (v := 0) hx hb dJ6_bitCount_0f7a4_17 (by decide) ?_
  refine lv_ldcw hx hb hown (hts (.constant RJ6 266 (858993459)) (List.mem_of_getElem? (i := 2) (by decide +kernel))) dJ6_bitCount_0f7a4_18 ?_
  refine lv_iand hx hb dJ6_bitCount_0f7a4_21 ?_
  refine lv_topi (fun y_4 ey_4 => ?_)
  obtain rfl : y_4 = 0 := ey_4.trans (by first | rfl | decide)
  refine lv_iadd hx hb dJ6_bitCount_0f7a4_22 ?_
  refine lv_topi (fun y_5 ey_5 => ?_)
  obtain rfl : y_5 = 0 := ey_5.trans (by first | rfl | decide)
  refine lv_istore_n (lv' := [(0, .int 0)]) hx hb dJ6_bitCount_0f7a4_23 rfl hl (by decide) rfl (fun ls hl => ?_)
  refine lv_iload_n hx hb dJ6_bitCount_0f7a4_24 rfl (lv_at hl 0 rfl) ?_
  refine lv_iload_n hx hb dJ6_bitCount_0f7a4_25 rfl (lv_at hl 0 rfl) ?_
  refine lv_iconst (v := 4) hx hb dJ6_bitCount_0f7a4_26 (by decide) ?_
  refine lv_iushr (v := 0) hx hb dJ6_bitCount_0f7a4_27 (by decide) ?_
  refine lv_iadd hx hb dJ6_bitCount_0f7a4_28 ?_
  refine lv_topi (fun y_6 ey_6 => ?_)
  obtain rfl : y_6 = 0 := ey_6.trans (by first | rfl | decide)
  refine lv_ldcw hx hb hown (hts (.constant RJ6 267 (252645135)) (List.mem_of_getElem? (i := 3) (by decide +kernel))) dJ6_bitCount_0f7a4_29 ?_
  refine lv_iand hx hb dJ6_bitCount_0f7a4_32 ?_
  refine lv_topi (fun y_7 ey_7 => ?_)
  obtain rfl : y_7 = 0 := ey_7.trans (by first | rfl | decide)
  refine lv_istore_n (lv' := [(0, .int 0)]) hx hb dJ6_bitCount_0f7a4_33 rfl hl (by decide) rfl (fun ls hl => ?_)
  refine lv_iload_n hx hb dJ6_bitCount_0f7a4_34 rfl (lv_at hl 0 rfl) ?_
  refine lv_iload_n hx hb dJ6_bitCount_0f7a4_35 rfl (lv_at hl 0 rfl) ?_
  refine lv_bipush (v := 8) hx hb dJ6_bitCount_0f7a4_36 (by decide) ?_
  refine lv_iushr (v := 0) hx hb dJ6_bitCount_0f7a4_38 (by decide) ?_
  refine lv_iadd hx hb dJ6_bitCount_0f7a4_39 ?_
  refine lv_topi (fun y_8 ey_8 => ?_)
  obtain rfl : y_8 = 0 := ey_8.trans (by first | rfl | decide)
  refine lv_istore_n (lv' := [(0, .int 0)]) hx hb dJ6_bitCount_0f7a4_40 rfl hl (by decide) rfl (fun ls hl => ?_)
  refine lv_iload_n hx hb dJ6_bitCount_0f7a4_41 rfl (lv_at hl 0 rfl) ?_
  refine lv_iload_n hx hb dJ6_bitCount_0f7a4_42 rfl (lv_at hl 0 rfl) ?_
  refine lv_bipush (v := 16) hx hb dJ6_bitCount_0f7a4_43 (by decide) ?_
  refine lv_iushr (v := 0) hx hb dJ6_bitCount_0f7a4_45 (by decide) ?_
  refine lv_iadd hx hb dJ6_bitCount_0f7a4_46 ?_
  refine lv_topi (fun y_9 ey_9 => ?_)
  obtain rfl : y_9 = 0 := ey_9.trans (by first | rfl | decide)
  refine lv_istore_n (lv' := [(0, .int 0)]) hx hb dJ6_bitCount_0f7a4_47 rfl hl (by decide) rfl (fun ls hl => ?_)
  refine lv_iload_n hx hb dJ6_bitCount_0f7a4_48 rfl (lv_at hl 0 rfl) ?_
  refine lv_bipush (v := 63) hx hb dJ6_bitCount_0f7a4_49 (by decide) ?_
  refine lv_iand hx hb dJ6_bitCount_0f7a4_51 ?_
  refine lv_topi (fun y_10 ey_10 => ?_)
  obtain rfl : y_10 = 0 := ey_10.trans (by first | rfl | decide)
  exact W.iret hx hb hr (fun t ht hW => ⟨_, rfl, rfl, ht⟩) t_nil dJ6_bitCount_0f7a4_52
theorem dX9_answer_0 : decode cX9_answer 0 = .ok (.aload_n 0, 1) := by decide +kernel
theorem dX9_answer_1 : decode cX9_answer 1 = .ok (.iconst 0, 1) := by decide +kernel
theorem dX9_answer_2 : decode cX9_answer 2 = .ok (.putfield 70, 3) := by decide +kernel
theorem dX9_answer_5 : decode cX9_answer 5 = .ok (.iload_n 1, 1) := by decide +kernel
theorem dX9_answer_6 : decode cX9_answer 6 = .ok (.ireturn, 1) := by decide +kernel
def mwX9_answer : List Cond := .code yX9_answer cX9_answer 2 (some .int) :: ([.fieldLink RX9 70 "PatternGate" "lastStatus" "I"] ++ wsX90)
theorem fin_X9_answer_X9 : ∀ w ∈ wsX90, w ∈ mwX9_answer := fun w h => List.mem_cons_of_mem _ (List.mem_append_right _ h)
set_option maxHeartbeats 4000000 in
set_option maxRecDepth 100000 in
/-- answer -/
theorem c_answer (l : Launch) (dC : Nat → ClassId) (dI : Nat → Nat → Nat) (x : Nat) (q : Nat → Nat) (a0 a1 a2 a3 : Int32) (a4 : Nat) (a5 a6 : Int32) (sz : Nat) (v : Int32) : Met l yX9_answer mwX9_answer ({ frames := 0, cells := 0, slots := 0, locals := 0 }) (va_Pc [.ref x, .int v] (fun U => U.heap.size = sz ∧ va_P (dC, dI) vwCl ([(x, .inr (9, gF q a0 a1 a2 a3 a4 a5 a6))]) U.heap ∧ va_K (dC, dI) vwCl ([]) U ∧ va_D (fun _ => True) ([(x, .inr (9, gF q a0 a1 a2 a3 a4 a5 a6))]))) (va_Qi (fun (o : Int32) (_ : Unit) => o = v) (fun _ _ => True) (va_A ([(x, .inr (9, gF q a0 a1 a2 a3 a4 a5 a6))]) sz)) 0 0 (va_A ([(x, .inr (9, gF q a0 a1 a2 a3 a4 a5 a6))]) sz) := by
  refine Met.ofW (cc := cX9_answer) (maxL := 2) (ret := (some .int)) (by decide +kernel) rfl ?_
  intro p e s m args below meth c s₁ B hml hv
  obtain ⟨rfl, hsz, hP, hK, hD0⟩ := hv
  have hx := B.exec
  have hb := B.bytes
  have hr := B.returns
  have hts := atoms_spec (ws := mwX9_answer) B.pre
  have hown : s.vm.findClass RX9 = some m.cls := findClass_of_methodNamed B.named
  have hlocks := B.notSynchronized
  subst hsz
  have hD := hD0.self (sz := s.heap.size)
  generalize hAe : va_A ([(x, .inr (9, gF q a0 a1 a2 a3 a4 a5 a6))]) s.heap.size = A at hD ⊢
  have hA : ∀ q : Nat, s.heap.size ≤ q → A q := fun q h => by rw [← hAe]; exact Or.inr h
  have hP : va_P (dC, dI) vwCl [(x, .inr (9, gF q a0 a1 a2 a3 a4 a5 a6))] s.heap := hP
  have hD : va_D A [(x, .inr (9, gF q a0 a1 a2 a3 a4 a5 a6))] := hD
  have hK : va_K (dC, dI) vwCl [] s := hK
  generalize hH : s.heap = H at hP ⊢
  have hS : va_S A s.heap H [] := by rw [← hH]; exact va_S.rf
  have hl := lv_entry ([.ref x, .int v]) (n := 2) (Nat.le_of_ble_eq_true rfl)
  rw [lg_entry_eq]
  generalize (lg_sl ([.ref x, .int v]) ++ List.replicate (2 - (lg_sl ([.ref x, .int v])).length) Slot.unset).toArray = ls at hl ⊢
  have hl : lv_has ls 2 [(0, .ref x), (1, .int v)] := hl
  refine lv_aload_n hx hb dX9_answer_0 rfl (lv_at hl 0 rfl) ?_
  refine lv_iconst (v := 0) hx hb dX9_answer_1 (by decide) ?_
  refine va_put (D := (dC, dI)) (ci := 9) (v := .int 0) (ty := .int) (C := RX9) (T := TX9) (N := 16) hx hb hts fin_X9_answer_X9 tyX9 tyX9_ok nmX9 hown hK hP hD hS 0 rfl rfl 0 (by decide) (hts (.fieldLink RX9 70 "PatternGate" "lastStatus" "I") (List.mem_of_getElem? (i := 1) (by decide +kernel))) (fun _ h9 => h9) rfl (by decide +kernel) rfl rfl (Nat.le_of_ble_eq_true rfl) dX9_answer_2 (fun H locs hP hD hS => ?_)
  have hP : va_P (dC, dI) vwCl [(x, .inr (9, gF q 0 a1 a2 a3 a4 a5 a6))] H := hP
  have hD : va_D A [(x, .inr (9, gF q 0 a1 a2 a3 a4 a5 a6))] := hD
  refine lv_iload_n hx hb dX9_answer_5 rfl (lv_at hl 1 rfl) ?_
  exact W.iret hx hb hr (fun t ht hW => ⟨⟨_, (), rfl, rfl, trivial⟩, hS.F ht⟩) hS.2.2 dX9_answer_6
theorem dX9_refuse_0 : decode cX9_refuse 0 = .ok (.aload_n 0, 1) := by decide +kernel
theorem dX9_refuse_1 : decode cX9_refuse 1 = .ok (.iload_n 1, 1) := by decide +kernel
theorem dX9_refuse_2 : decode cX9_refuse 2 = .ok (.putfield 70, 3) := by decide +kernel
theorem dX9_refuse_5 : decode cX9_refuse 5 = .ok (.iconst (-1), 1) := by decide +kernel
theorem dX9_refuse_6 : decode cX9_refuse 6 = .ok (.ireturn, 1) := by decide +kernel
def mwX9_refuse : List Cond := .code yX9_refuse cX9_refuse 2 (some .int) :: ([.fieldLink RX9 70 "PatternGate" "lastStatus" "I"] ++ wsX90)
theorem fin_X9_refuse_X9 : ∀ w ∈ wsX90, w ∈ mwX9_refuse := fun w h => List.mem_cons_of_mem _ (List.mem_append_right _ h)
set_option maxHeartbeats 4000000 in
set_option maxRecDepth 100000 in
/-- refuse -/
theorem c_refuse (l : Launch) (dC : Nat → ClassId) (dI : Nat → Nat → Nat) (x : Nat) (q : Nat → Nat) (a0 a1 a2 a3 : Int32) (a4 : Nat) (a5 a6 : Int32) (sz : Nat) (v : Int32) : Met l yX9_refuse mwX9_refuse ({ frames := 0, cells := 0, slots := 0, locals := 0 }) (va_Pc [.ref x, .int v] (fun U => U.heap.size = sz ∧ va_P (dC, dI) vwCl ([(x, .inr (9, gF q a0 a1 a2 a3 a4 a5 a6))]) U.heap ∧ va_K (dC, dI) vwCl ([]) U ∧ va_D (fun _ => True) ([(x, .inr (9, gF q a0 a1 a2 a3 a4 a5 a6))]))) (va_Qi (fun (o : Int32) (_ : Unit) => o = (-1)) (fun _ _ => True) (va_A ([(x, .inr (9, gF q a0 a1 a2 a3 a4 a5 a6))]) sz)) 0 0 (va_A ([(x, .inr (9, gF q a0 a1 a2 a3 a4 a5 a6))]) sz) := by
  refine Met.ofW (cc := cX9_refuse) (maxL := 2) (ret := (some .int)) (by decide +kernel) rfl ?_
  intro p e s m args below meth c s₁ B hml hv
  obtain ⟨rfl, hsz, hP, hK, hD0⟩ := hv
  have hx := B.exec
  have hb := B.bytes
  have hr := B.returns
  have hts := atoms_spec (ws := mwX9_refuse) B.pre
  have hown : s.vm.findClass RX9 = some m.cls := findClass_of_methodNamed B.named
  have hlocks := B.notSynchronized
  subst hsz
  have hD := hD0.self (sz := s.heap.size)
  generalize hAe : va_A ([(x, .inr (9, gF q a0 a1 a2 a3 a4 a5 a6))]) s.heap.size = A at hD ⊢
  have hA : ∀ q : Nat, s.heap.size ≤ q → A q := fun q h => by rw [← hAe]; exact Or.inr h
  have hP : va_P (dC, dI) vwCl [(x, .inr (9, gF q a0 a1 a2 a3 a4 a5 a6))] s.heap := hP
  have hD : va_D A [(x, .inr (9, gF q a0 a1 a2 a3 a4 a5 a6))] := hD
  have hK : va_K (dC, dI) vwCl [] s := hK
  generalize hH : s.heap = H at hP ⊢
  have hS : va_S A s.heap H [] := by rw [← hH]; exact va_S.rf
  have hl := lv_entry ([.ref x, .int v]) (n := 2) (Nat.le_of_ble_eq_true rfl)
  rw [lg_entry_eq]
  generalize (lg_sl ([.ref x, .int v]) ++ List.replicate (2 - (lg_sl ([.ref x, .int v])).length) Slot.unset).toArray = ls at hl ⊢
  have hl : lv_has ls 2 [(0, .ref x), (1, .int v)] := hl
  refine lv_aload_n hx hb dX9_refuse_0 rfl (lv_at hl 0 rfl) ?_
  refine lv_iload_n hx hb dX9_refuse_1 rfl (lv_at hl 1 rfl) ?_
  refine va_put (D := (dC, dI)) (ci := 9) (v := .int v) (ty := .int) (C := RX9) (T := TX9) (N := 16) hx hb hts fin_X9_refuse_X9 tyX9 tyX9_ok nmX9 hown hK hP hD hS 0 rfl rfl 0 (by decide) (hts (.fieldLink RX9 70 "PatternGate" "lastStatus" "I") (List.mem_of_getElem? (i := 1) (by decide +kernel))) (fun _ h9 => h9) rfl (by decide +kernel) rfl rfl (Nat.le_of_ble_eq_true rfl) dX9_refuse_2 (fun H locs hP hD hS => ?_)
  have hP : va_P (dC, dI) vwCl [(x, .inr (9, gF q v a1 a2 a3 a4 a5 a6))] H := hP
  have hD : va_D A [(x, .inr (9, gF q v a1 a2 a3 a4 a5 a6))] := hD
  refine lv_iconst (v := (-1)) hx hb dX9_refuse_5 (by decide) ?_
  exact W.iret hx hb hr (fun t ht hW => ⟨⟨_, (), rfl, rfl, trivial⟩, hS.F ht⟩) hS.2.2 dX9_refuse_6
end
section
theorem dX9_letter_0 : decode cX9_letter 0 = .ok (.iload_n 2, 1) := by decide +kernel
theorem dX9_letter_1 : decode cX9_letter 1 = .ok (.ifCond .ge 9, 3) := by decide +kernel
theorem dX9_letter_4 : decode cX9_letter 4 = .ok (.aload_n 0, 1) := by decide +kernel
theorem dX9_letter_5 : decode cX9_letter 5 = .ok (.iconst 1, 1) := by decide +kernel
theorem dX9_letter_6 : decode cX9_letter 6 = .ok (.invokevirtual 80, 3) := by decide +kernel
theorem dX9_letter_9 : decode cX9_letter 9 = .ok (.ireturn, 1) := by decide +kernel
theorem dX9_letter_10 : decode cX9_letter 10 = .ok (.aload_n 0, 1) := by decide +kernel
theorem dX9_letter_11 : decode cX9_letter 11 = .ok (.getfield 29, 3) := by decide +kernel
theorem dX9_letter_14 : decode cX9_letter 14 = .ok (.iload_n 1, 1) := by decide +kernel
theorem dX9_letter_15 : decode cX9_letter 15 = .ok (.invokevirtual 123, 3) := by decide +kernel
theorem dX9_letter_18 : decode cX9_letter 18 = .ok (.astore_n 3, 1) := by decide +kernel
theorem dX9_letter_19 : decode cX9_letter 19 = .ok (.aload_n 3, 1) := by decide +kernel
theorem dX9_letter_20 : decode cX9_letter 20 = .ok (.ifnonnull 9, 3) := by decide +kernel
theorem dX9_letter_23 : decode cX9_letter 23 = .ok (.aload_n 0, 1) := by decide +kernel
theorem dX9_letter_24 : decode cX9_letter 24 = .ok (.iconst 2, 1) := by decide +kernel
theorem dX9_letter_25 : decode cX9_letter 25 = .ok (.invokevirtual 80, 3) := by decide +kernel
theorem dX9_letter_28 : decode cX9_letter 28 = .ok (.ireturn, 1) := by decide +kernel
def mwX9_letter : List Cond := .code yX9_letter cX9_letter 4 (some .int) :: ([.fieldLink RX9 29 "PatternGate" "book" "LPatternGate$Book;", .code yX0_docAt cX0_docAt 2 (some (.object "PatternGate$Doc")), .fieldLink RX0 7 "PatternGate$Book" "docs" "[LPatternGate$Doc;", .methodLink RX9 123 yX0_docAt, .instanceMethod yX0_docAt, .selects RX0 yX0_docAt yX0_docAt, .initialized RX0, .code yX9_refuse cX9_refuse 2 (some .int), .fieldLink RX9 70 "PatternGate" "lastStatus" "I", .methodLink RX9 80 yX9_refuse, .instanceMethod yX9_refuse, .selects RX9 yX9_refuse yX9_refuse, .initialized RX9] ++ wsX90 ++ wsX00)
theorem fin_X9_letter_X9 : ∀ w ∈ wsX90, w ∈ mwX9_letter := fun w h => List.mem_cons_of_mem _ (List.mem_append_left _ (List.mem_append_right _ h))
set_option maxRecDepth 20000 in
theorem mg_X9_letter_X0_docAt_123 : GoodIn mwX9_letter (wsV RX9 123 RX0 yX0_docAt mwX0_docAt) := goodIn_r _ [4, 5, 6, 7, 2, 3, 30, 31, 32] (by decide +kernel) (by decide +kernel)
set_option maxRecDepth 20000 in
theorem mg_X9_letter_X9_refuse_80 : GoodIn mwX9_letter (wsV RX9 80 RX9 yX9_refuse mwX9_refuse) := goodIn_r _ [10, 11, 12, 13, 8, 9, 14, 15, 16, 17, 18, 19, 20, 21, 22, 23, 24, 25, 26, 27, 28, 29] (by decide +kernel) (by decide +kernel)
set_option maxHeartbeats 4000000 in
set_option maxRecDepth 100000 in
/-- letter on a new object -/
theorem c_letter (l : Launch) (dC : Nat → ClassId) (dI : Nat → Nat → Nat) (x : Nat) (q : Nat → Nat) (b d0 p0 : Nat) (cT cD cP cB cU : ClassId) (r : Nat → Nat) (sz : Nat) (i0 i1 : Int32) : Met l yX9_letter mwX9_letter ({ frames := 1, cells := 0, slots := 0, locals := 60 }) (va_Pc [.ref x, .int i0, .int i1] (fun U => U.heap.size = sz ∧ va_P (dC, dI) vwCl (gW x q b d0 p0 cT cD cP cB cU r) U.heap ∧ va_K (dC, dI) vwCl (gT cT cD cP cB cU) U ∧ va_D (fun _ => True) (gW x q b d0 p0 cT cD cP cB cU r))) (va_Qi (fun (o : Int32) (_ : Unit) => o = (-1)) (fun _ _ => True) (va_A (gW x q b d0 p0 cT cD cP cB cU r) sz)) 0 0 (va_A (gW x q b d0 p0 cT cD cP cB cU r) sz) := by
  refine Met.ofW (cc := cX9_letter) (maxL := 4) (ret := (some .int)) (by decide +kernel) rfl ?_
  intro p e s m args below meth c s₁ B hml hv
  obtain ⟨rfl, hsz, hP, hK, hD0⟩ := hv
  have hx := B.exec
  have hb := B.bytes
  have hr := B.returns
  have hts := atoms_spec (ws := mwX9_letter) B.pre
  have hown : s.vm.findClass RX9 = some m.cls := findClass_of_methodNamed B.named
  have hlocks := B.notSynchronized
  subst hsz
  have hD := hD0.self (sz := s.heap.size)
  generalize hAe : va_A (gW x q b d0 p0 cT cD cP cB cU r) s.heap.size = A at hD ⊢
  have hA : ∀ q : Nat, s.heap.size ≤ q → A q := fun q h => by rw [← hAe]; exact Or.inr h
  have hP : va_P (dC, dI) vwCl [(x, .inr (9, gF q 0 0 (-1) (-1) b 0 0)), (q 0, .inl (cT, 900, .inl (fun _ => 0))), (b, .inr (0, [.ref d0, .ref p0, .null])), (d0, .inl (cD, 0, .inr (.inr (.inr (.inr (fun _ => none)))))), (p0, .inl (cP, 0, .inr (.inr (.inr (.inr (fun _ => none)))))), (q 1, .inl (cB, 3, .inr (.inr (.inr (.inr (fun _ => none)))))), (q 2, .inl (cU, 3, .inl (fun _ => 0))), (q 3, .inr (6, rF r 0 0 0 0 0 0 0 0))] s.heap := hP
  have hD : va_D A [(x, .inr (9, gF q 0 0 (-1) (-1) b 0 0)), (q 0, .inl (cT, 900, .inl (fun _ => 0))), (b, .inr (0, [.ref d0, .ref p0, .null])), (d0, .inl (cD, 0, .inr (.inr (.inr (.inr (fun _ => none)))))), (p0, .inl (cP, 0, .inr (.inr (.inr (.inr (fun _ => none)))))), (q 1, .inl (cB, 3, .inr (.inr (.inr (.inr (fun _ => none)))))), (q 2, .inl (cU, 3, .inl (fun _ => 0))), (q 3, .inr (6, rF r 0 0 0 0 0 0 0 0))] := hD
  have hK : va_K (dC, dI) vwCl [(cT, .int), (cD, .object "PatternGate$Doc"), (cP, .object "PatternGate$Pattern"), (cB, .object "PatternGate$Book"), (cU, .int)] s := hK
  generalize hH : s.heap = H at hP ⊢
  have hS : va_S A s.heap H [] := by rw [← hH]; exact va_S.rf
  have hl := lv_entry ([.ref x, .int i0, .int i1]) (n := 4) (Nat.le_of_ble_eq_true rfl)
  rw [lg_entry_eq]
  generalize (lg_sl ([.ref x, .int i0, .int i1]) ++ List.replicate (4 - (lg_sl ([.ref x, .int i0, .int i1])).length) Slot.unset).toArray = ls at hl ⊢
  have hl : lv_has ls 4 [(0, .ref x), (1, .int i0), (2, .int i1)] := hl
  refine lv_iload_n hx hb dX9_letter_0 rfl (lv_at hl 2 rfl) ?_
  refine lv_if_ge (tgt := 10) hx hb dX9_letter_1 (by decide) (fun k_1 => ?_) (fun k_1 => ?_)
  · refine lv_aload_n hx hb dX9_letter_10 rfl (lv_at hl 0 rfl) ?_
    refine va_get (D := (dC, dI)) (ci := 9) (v := .ref b) (C := RX9) (T := TX9) (N := 16) hx hb hts fin_X9_letter_X9 hown hK hP 0 rfl rfl 5 (by decide) (hts (.fieldLink RX9 29 "PatternGate" "book" "LPatternGate$Book;") (List.mem_of_getElem? (i := 1) (by decide +kernel))) (fun _ h9 => h9) rfl dX9_letter_11 ?_
    refine lv_iload_n hx hb dX9_letter_14 rfl (lv_at hl 1 rfl) ?_
    have hPc := hP.sub (ws' := [(b, .inr (0, [.ref d0, .ref p0, .null])), (d0, .inl (cD, 0, .inr (.inr (.inr (.inr (fun _ => none)))))), (p0, .inl (cP, 0, .inr (.inr (.inr (.inr (fun _ => none))))))]) [2, 3, 4] rfl
    have hKc := hK.sub (tys' := [(cD, .object "PatternGate$Doc"), (cP, .object "PatternGate$Pattern")]) [1, 2] rfl
    refine va_csq (W.runV (As := [.int i0]) (rest := []) ⟨hx, hb, hml, hown, hts⟩ (c_docAt l dC dI b d0 p0 cD cP i0) (cwV 1 hts mg_X9_letter_X0_docAt_123 rfl rfl rfl (by decide +kernel) ⟨Nat.le_of_ble_eq_true rfl, Nat.le_of_ble_eq_true rfl⟩) ⟨fun a U g mk q => by obtain ⟨q0, qP, qK⟩ := q; exact ⟨q0, qP, va_K.moved (u := U) (U := U.calling g mk a) (Vm.Alike.refl U.vm) qK⟩, va_recv hKc hPc (ci := 0) (q0 := 0) rfl rfl, fun U hU hW => ⟨rfl, by rw [hU]; exact hPc, va_K.moved hW.alike hKc⟩⟩ rfl rfl hl.1 rfl (lv_room (Nat.le_of_ble_eq_true rfl)) dX9_letter_15 ⟨Nat.le_of_ble_eq_true rfl, Nat.le_of_ble_eq_true rfl⟩) (fun r_3 hw => ?_)
    subst hw
    refine W.eq (g2 := F0 m 18 ls [.null]) rfl ?_
    refine lv_astore_nN (lv' := [(3, .null), (0, .ref x), (1, .int i0), (2, .int i1)]) hx hb dX9_letter_18 rfl hl (by decide) rfl (fun ls hl => ?_)
    refine lv_aload_nN hx hb dX9_letter_19 rfl (lv_at hl 0 rfl) ?_
    refine lv_ifnonnullN hx hb dX9_letter_20 ?_
    refine lv_aload_n hx hb dX9_letter_23 rfl (lv_at hl 1 rfl) ?_
    refine lv_iconst (v := 2) hx hb dX9_letter_24 (by decide) ?_
    have hPc := hP.sub (ws' := [(x, .inr (9, gF q 0 0 (-1) (-1) b 0 0))]) [0] rfl
    have hKc := hK.sub (tys' := []) [] rfl
    have hDc := hD.sub (ws' := [(x, .inr (9, gF q 0 0 (-1) (-1) b 0 0))]) [0] (by decide) rfl
    have hFc := va_free (wc := [(x, .inr (9, gF q 0 0 (-1) (-1) b 0 0))]) hD hS hA [0] rfl
    refine va_calli (va_runV (As := [.int 2]) (rest := []) ⟨hx, hb, hml, hown, hts⟩ (c_refuse l dC dI x q 0 0 (-1) (-1) b 0 0 H.size 2) (cwV 1 hts mg_X9_letter_X9_refuse_80 rfl rfl rfl (by decide +kernel) ⟨Nat.le_of_ble_eq_true rfl, Nat.le_of_ble_eq_true rfl⟩) ⟨fun a U g mk q => by obtain ⟨q0, q1, qP, qK, qD⟩ := q; exact ⟨q0, q1, qP, va_K.moved (u := U) (U := U.calling g mk a) (Vm.Alike.refl U.vm) qK, qD⟩, va_recv hKc hPc (ci := 9) (q0 := 0) rfl rfl, fun U hU hW => ⟨rfl, by rw [hU], by rw [hU]; exact hPc, va_K.moved hW.alike hKc, hDc.weaken (fun _ _ _ _ => trivial)⟩⟩ rfl rfl hl.1 rfl (lv_room (Nat.le_of_ble_eq_true rfl)) dX9_letter_25 ⟨Nat.le_of_ble_eq_true rfl, Nat.le_of_ble_eq_true rfl⟩) hS (fun q _ h => hFc q h) hFc (fun r_5 u t H1 locs ht hvm hw hB hz1 hk1 hS => ?_)
    exact W.iret hx hb hr (fun t ht hW => ⟨⟨_, (), rfl, hw, trivial⟩, hS.F ht⟩) hS.2.2 dX9_letter_28
  · refine lv_aload_n hx hb dX9_letter_4 rfl (lv_at hl 0 rfl) ?_
    refine lv_iconst (v := 1) hx hb dX9_letter_5 (by decide) ?_
    have hPc := hP.sub (ws' := [(x, .inr (9, gF q 0 0 (-1) (-1) b 0 0))]) [0] rfl
    have hKc := hK.sub (tys' := []) [] rfl
    have hDc := hD.sub (ws' := [(x, .inr (9, gF q 0 0 (-1) (-1) b 0 0))]) [0] (by decide) rfl
    have hFc := va_free (wc := [(x, .inr (9, gF q 0 0 (-1) (-1) b 0 0))]) hD hS hA [0] rfl
    refine va_calli (va_runV (As := [.int 1]) (rest := []) ⟨hx, hb, hml, hown, hts⟩ (c_refuse l dC dI x q 0 0 (-1) (-1) b 0 0 H.size 1) (cwV 1 hts mg_X9_letter_X9_refuse_80 rfl rfl rfl (by decide +kernel) ⟨Nat.le_of_ble_eq_true rfl, Nat.le_of_ble_eq_true rfl⟩) ⟨fun a U g mk q => by obtain ⟨q0, q1, qP, qK, qD⟩ := q; exact ⟨q0, q1, qP, va_K.moved (u := U) (U := U.calling g mk a) (Vm.Alike.refl U.vm) qK, qD⟩, va_recv hKc hPc (ci := 9) (q0 := 0) rfl rfl, fun U hU hW => ⟨rfl, by rw [hU], by rw [hU]; exact hPc, va_K.moved hW.alike hKc, hDc.weaken (fun _ _ _ _ => trivial)⟩⟩ rfl rfl hl.1 rfl (lv_room (Nat.le_of_ble_eq_true rfl)) dX9_letter_6 ⟨Nat.le_of_ble_eq_true rfl, Nat.le_of_ble_eq_true rfl⟩) hS (fun q _ h => hFc q h) hFc (fun r_7 u t H1 locs ht hvm hw hB hz1 hk1 hS => ?_)
    exact W.iret hx hb hr (fun t ht hW => ⟨⟨_, (), rfl, hw, trivial⟩, hS.F ht⟩) hS.2.2 dX9_letter_9
theorem dX9_sign_0 : decode cX9_sign 0 = .ok (.iload_n 2, 1) := by decide +kernel
theorem dX9_sign_1 : decode cX9_sign 1 = .ok (.ifCond .ge 9, 3) := by decide +kernel
theorem dX9_sign_4 : decode cX9_sign 4 = .ok (.aload_n 0, 1) := by decide +kernel
theorem dX9_sign_5 : decode cX9_sign 5 = .ok (.iconst 1, 1) := by decide +kernel
theorem dX9_sign_6 : decode cX9_sign 6 = .ok (.invokevirtual 80, 3) := by decide +kernel
theorem dX9_sign_9 : decode cX9_sign 9 = .ok (.ireturn, 1) := by decide +kernel
theorem dX9_sign_10 : decode cX9_sign 10 = .ok (.aload_n 0, 1) := by decide +kernel
theorem dX9_sign_11 : decode cX9_sign 11 = .ok (.getfield 29, 3) := by decide +kernel
theorem dX9_sign_14 : decode cX9_sign 14 = .ok (.iload_n 1, 1) := by decide +kernel
theorem dX9_sign_15 : decode cX9_sign 15 = .ok (.invokevirtual 140, 3) := by decide +kernel
theorem dX9_sign_18 : decode cX9_sign 18 = .ok (.astore_n 3, 1) := by decide +kernel
theorem dX9_sign_19 : decode cX9_sign 19 = .ok (.aload_n 3, 1) := by decide +kernel
theorem dX9_sign_20 : decode cX9_sign 20 = .ok (.ifnonnull 9, 3) := by decide +kernel
theorem dX9_sign_23 : decode cX9_sign 23 = .ok (.aload_n 0, 1) := by decide +kernel
theorem dX9_sign_24 : decode cX9_sign 24 = .ok (.iconst 2, 1) := by decide +kernel
theorem dX9_sign_25 : decode cX9_sign 25 = .ok (.invokevirtual 80, 3) := by decide +kernel
theorem dX9_sign_28 : decode cX9_sign 28 = .ok (.ireturn, 1) := by decide +kernel
def mwX9_sign : List Cond := .code yX9_sign cX9_sign 4 (some .int) :: ([.fieldLink RX9 29 "PatternGate" "book" "LPatternGate$Book;", .code yX0_patternAt cX0_patternAt 2 (some (.object "PatternGate$Pattern")), .fieldLink RX0 13 "PatternGate$Book" "patterns" "[LPatternGate$Pattern;", .methodLink RX9 140 yX0_patternAt, .instanceMethod yX0_patternAt, .selects RX0 yX0_patternAt yX0_patternAt, .initialized RX0, .code yX9_refuse cX9_refuse 2 (some .int), .fieldLink RX9 70 "PatternGate" "lastStatus" "I", .methodLink RX9 80 yX9_refuse, .instanceMethod yX9_refuse, .selects RX9 yX9_refuse yX9_refuse, .initialized RX9] ++ wsX90 ++ wsX00)
theorem fin_X9_sign_X9 : ∀ w ∈ wsX90, w ∈ mwX9_sign := fun w h => List.mem_cons_of_mem _ (List.mem_append_left _ (List.mem_append_right _ h))
set_option maxRecDepth 20000 in
theorem mg_X9_sign_X0_patternAt_140 : GoodIn mwX9_sign (wsV RX9 140 RX0 yX0_patternAt mwX0_patternAt) := goodIn_r _ [4, 5, 6, 7, 2, 3, 30, 31, 32] (by decide +kernel) (by decide +kernel)
set_option maxRecDepth 20000 in
theorem mg_X9_sign_X9_refuse_80 : GoodIn mwX9_sign (wsV RX9 80 RX9 yX9_refuse mwX9_refuse) := goodIn_r _ [10, 11, 12, 13, 8, 9, 14, 15, 16, 17, 18, 19, 20, 21, 22, 23, 24, 25, 26, 27, 28, 29] (by decide +kernel) (by decide +kernel)
set_option maxHeartbeats 4000000 in
set_option maxRecDepth 100000 in
/-- sign on a new object -/
theorem c_sign (l : Launch) (dC : Nat → ClassId) (dI : Nat → Nat → Nat) (x : Nat) (q : Nat → Nat) (b d0 p0 : Nat) (cT cD cP cB cU : ClassId) (r : Nat → Nat) (sz : Nat) (i0 i1 : Int32) : Met l yX9_sign mwX9_sign ({ frames := 1, cells := 0, slots := 0, locals := 60 }) (va_Pc [.ref x, .int i0, .int i1] (fun U => U.heap.size = sz ∧ va_P (dC, dI) vwCl (gW x q b d0 p0 cT cD cP cB cU r) U.heap ∧ va_K (dC, dI) vwCl (gT cT cD cP cB cU) U ∧ va_D (fun _ => True) (gW x q b d0 p0 cT cD cP cB cU r))) (va_Qi (fun (o : Int32) (_ : Unit) => o = (-1)) (fun _ _ => True) (va_A (gW x q b d0 p0 cT cD cP cB cU r) sz)) 0 0 (va_A (gW x q b d0 p0 cT cD cP cB cU r) sz) := by
  refine Met.ofW (cc := cX9_sign) (maxL := 4) (ret := (some .int)) (by decide +kernel) rfl ?_
  intro p e s m args below meth c s₁ B hml hv
  obtain ⟨rfl, hsz, hP, hK, hD0⟩ := hv
  have hx := B.exec
  have hb := B.bytes
  have hr := B.returns
  have hts := atoms_spec (ws := mwX9_sign) B.pre
  have hown : s.vm.findClass RX9 = some m.cls := findClass_of_methodNamed B.named
  have hlocks := B.notSynchronized
  subst hsz
  have hD := hD0.self (sz := s.heap.size)
  generalize hAe : va_A (gW x q b d0 p0 cT cD cP cB cU r) s.heap.size = A at hD ⊢
  have hA : ∀ q : Nat, s.heap.size ≤ q → A q := fun q h => by rw [← hAe]; exact Or.inr h
  have hP : va_P (dC, dI) vwCl [(x, .inr (9, gF q 0 0 (-1) (-1) b 0 0)), (q 0, .inl (cT, 900, .inl (fun _ => 0))), (b, .inr (0, [.ref d0, .ref p0, .null])), (d0, .inl (cD, 0, .inr (.inr (.inr (.inr (fun _ => none)))))), (p0, .inl (cP, 0, .inr (.inr (.inr (.inr (fun _ => none)))))), (q 1, .inl (cB, 3, .inr (.inr (.inr (.inr (fun _ => none)))))), (q 2, .inl (cU, 3, .inl (fun _ => 0))), (q 3, .inr (6, rF r 0 0 0 0 0 0 0 0))] s.heap := hP
  have hD : va_D A [(x, .inr (9, gF q 0 0 (-1) (-1) b 0 0)), (q 0, .inl (cT, 900, .inl (fun _ => 0))), (b, .inr (0, [.ref d0, .ref p0, .null])), (d0, .inl (cD, 0, .inr (.inr (.inr (.inr (fun _ => none)))))), (p0, .inl (cP, 0, .inr (.inr (.inr (.inr (fun _ => none)))))), (q 1, .inl (cB, 3, .inr (.inr (.inr (.inr (fun _ => none)))))), (q 2, .inl (cU, 3, .inl (fun _ => 0))), (q 3, .inr (6, rF r 0 0 0 0 0 0 0 0))] := hD
  have hK : va_K (dC, dI) vwCl [(cT, .int), (cD, .object "PatternGate$Doc"), (cP, .object "PatternGate$Pattern"), (cB, .object "PatternGate$Book"), (cU, .int)] s := hK
  generalize hH : s.heap = H at hP ⊢
  have hS : va_S A s.heap H [] := by rw [← hH]; exact va_S.rf
  have hl := lv_entry ([.ref x, .int i0, .int i1]) (n := 4) (Nat.le_of_ble_eq_true rfl)
  rw [lg_entry_eq]
  generalize (lg_sl ([.ref x, .int i0, .int i1]) ++ List.replicate (4 - (lg_sl ([.ref x, .int i0, .int i1])).length) Slot.unset).toArray = ls at hl ⊢
  have hl : lv_has ls 4 [(0, .ref x), (1, .int i0), (2, .int i1)] := hl
  refine lv_iload_n hx hb dX9_sign_0 rfl (lv_at hl 2 rfl) ?_
  refine lv_if_ge (tgt := 10) hx hb dX9_sign_1 (by decide) (fun k_1 => ?_) (fun k_1 => ?_)
  · refine lv_aload_n hx hb dX9_sign_10 rfl (lv_at hl 0 rfl) ?_
    refine va_get (D := (dC, dI)) (ci := 9) (v := .ref b) (C := RX9) (T := TX9) (N := 16) hx hb hts fin_X9_sign_X9 hown hK hP 0 rfl rfl 5 (by decide) (hts (.fieldLink RX9 29 "PatternGate" "book" "LPatternGate$Book;") (List.mem_of_getElem? (i := 1) (by decide +kernel))) (fun _ h9 => h9) rfl dX9_sign_11 ?_
    refine lv_iload_n hx hb dX9_sign_14 rfl (lv_at hl 1 rfl) ?_
    have hPc := hP.sub (ws' := [(b, .inr (0, [.ref d0, .ref p0, .null])), (d0, .inl (cD, 0, .inr (.inr (.inr (.inr (fun _ => none)))))), (p0, .inl (cP, 0, .inr (.inr (.inr (.inr (fun _ => none))))))]) [2, 3, 4] rfl
    have hKc := hK.sub (tys' := [(cD, .object "PatternGate$Doc"), (cP, .object "PatternGate$Pattern")]) [1, 2] rfl
    refine va_csq (W.runV (As := [.int i0]) (rest := []) ⟨hx, hb, hml, hown, hts⟩ (c_patternAt l dC dI b d0 p0 cD cP i0) (cwV 1 hts mg_X9_sign_X0_patternAt_140 rfl rfl rfl (by decide +kernel) ⟨Nat.le_of_ble_eq_true rfl, Nat.le_of_ble_eq_true rfl⟩) ⟨fun a U g mk q => by obtain ⟨q0, qP, qK⟩ := q; exact ⟨q0, qP, va_K.moved (u := U) (U := U.calling g mk a) (Vm.Alike.refl U.vm) qK⟩, va_recv hKc hPc (ci := 0) (q0 := 0) rfl rfl, fun U hU hW => ⟨rfl, by rw [hU]; exact hPc, va_K.moved hW.alike hKc⟩⟩ rfl rfl hl.1 rfl (lv_room (Nat.le_of_ble_eq_true rfl)) dX9_sign_15 ⟨Nat.le_of_ble_eq_true rfl, Nat.le_of_ble_eq_true rfl⟩) (fun r_3 hw => ?_)
    subst hw
    refine W.eq (g2 := F0 m 18 ls [.null]) rfl ?_
    refine lv_astore_nN (lv' := [(3, .null), (0, .ref x), (1, .int i0), (2, .int i1)]) hx hb dX9_sign_18 rfl hl (by decide) rfl (fun ls hl => ?_)
    refine lv_aload_nN hx hb dX9_sign_19 rfl (lv_at hl 0 rfl) ?_
    refine lv_ifnonnullN hx hb dX9_sign_20 ?_
    refine lv_aload_n hx hb dX9_sign_23 rfl (lv_at hl 1 rfl) ?_
    refine lv_iconst (v := 2) hx hb dX9_sign_24 (by decide) ?_
    have hPc := hP.sub (ws' := [(x, .inr (9, gF q 0 0 (-1) (-1) b 0 0))]) [0] rfl
    have hKc := hK.sub (tys' := []) [] rfl
    have hDc := hD.sub (ws' := [(x, .inr (9, gF q 0 0 (-1) (-1) b 0 0))]) [0] (by decide) rfl
    have hFc := va_free (wc := [(x, .inr (9, gF q 0 0 (-1) (-1) b 0 0))]) hD hS hA [0] rfl
    refine va_calli (va_runV (As := [.int 2]) (rest := []) ⟨hx, hb, hml, hown, hts⟩ (c_refuse l dC dI x q 0 0 (-1) (-1) b 0 0 H.size 2) (cwV 1 hts mg_X9_sign_X9_refuse_80 rfl rfl rfl (by decide +kernel) ⟨Nat.le_of_ble_eq_true rfl, Nat.le_of_ble_eq_true rfl⟩) ⟨fun a U g mk q => by obtain ⟨q0, q1, qP, qK, qD⟩ := q; exact ⟨q0, q1, qP, va_K.moved (u := U) (U := U.calling g mk a) (Vm.Alike.refl U.vm) qK, qD⟩, va_recv hKc hPc (ci := 9) (q0 := 0) rfl rfl, fun U hU hW => ⟨rfl, by rw [hU], by rw [hU]; exact hPc, va_K.moved hW.alike hKc, hDc.weaken (fun _ _ _ _ => trivial)⟩⟩ rfl rfl hl.1 rfl (lv_room (Nat.le_of_ble_eq_true rfl)) dX9_sign_25 ⟨Nat.le_of_ble_eq_true rfl, Nat.le_of_ble_eq_true rfl⟩) hS (fun q _ h => hFc q h) hFc (fun r_5 u t H1 locs ht hvm hw hB hz1 hk1 hS => ?_)
    exact W.iret hx hb hr (fun t ht hW => ⟨⟨_, (), rfl, hw, trivial⟩, hS.F ht⟩) hS.2.2 dX9_sign_28
  · refine lv_aload_n hx hb dX9_sign_4 rfl (lv_at hl 0 rfl) ?_
    refine lv_iconst (v := 1) hx hb dX9_sign_5 (by decide) ?_
    have hPc := hP.sub (ws' := [(x, .inr (9, gF q 0 0 (-1) (-1) b 0 0))]) [0] rfl
    have hKc := hK.sub (tys' := []) [] rfl
    have hDc := hD.sub (ws' := [(x, .inr (9, gF q 0 0 (-1) (-1) b 0 0))]) [0] (by decide) rfl
    have hFc := va_free (wc := [(x, .inr (9, gF q 0 0 (-1) (-1) b 0 0))]) hD hS hA [0] rfl
    refine va_calli (va_runV (As := [.int 1]) (rest := []) ⟨hx, hb, hml, hown, hts⟩ (c_refuse l dC dI x q 0 0 (-1) (-1) b 0 0 H.size 1) (cwV 1 hts mg_X9_sign_X9_refuse_80 rfl rfl rfl (by decide +kernel) ⟨Nat.le_of_ble_eq_true rfl, Nat.le_of_ble_eq_true rfl⟩) ⟨fun a U g mk q => by obtain ⟨q0, q1, qP, qK, qD⟩ := q; exact ⟨q0, q1, qP, va_K.moved (u := U) (U := U.calling g mk a) (Vm.Alike.refl U.vm) qK, qD⟩, va_recv hKc hPc (ci := 9) (q0 := 0) rfl rfl, fun U hU hW => ⟨rfl, by rw [hU], by rw [hU]; exact hPc, va_K.moved hW.alike hKc, hDc.weaken (fun _ _ _ _ => trivial)⟩⟩ rfl rfl hl.1 rfl (lv_room (Nat.le_of_ble_eq_true rfl)) dX9_sign_6 ⟨Nat.le_of_ble_eq_true rfl, Nat.le_of_ble_eq_true rfl⟩) hS (fun q _ h => hFc q h) hFc (fun r_7 u t H1 locs ht hvm hw hB hz1 hk1 hS => ?_)
    exact W.iret hx hb hr (fun t ht hW => ⟨⟨_, (), rfl, hw, trivial⟩, hS.F ht⟩) hS.2.2 dX9_sign_9
theorem dX9_pattern_0 : decode cX9_pattern 0 = .ok (.iload_n 2, 1) := by decide +kernel
theorem dX9_pattern_1 : decode cX9_pattern 1 = .ok (.ifCond .lt 9, 3) := by decide +kernel
theorem dX9_pattern_4 : decode cX9_pattern 4 = .ok (.iload_n 2, 1) := by decide +kernel
theorem dX9_pattern_5 : decode cX9_pattern 5 = .ok (.bipush 7, 2) := by decide +kernel
theorem dX9_pattern_7 : decode cX9_pattern 7 = .ok (.if_icmp .le 9, 3) := by decide +kernel
theorem dX9_pattern_10 : decode cX9_pattern 10 = .ok (.aload_n 0, 1) := by decide +kernel
theorem dX9_pattern_11 : decode cX9_pattern 11 = .ok (.iconst 1, 1) := by decide +kernel
theorem dX9_pattern_12 : decode cX9_pattern 12 = .ok (.invokevirtual 80, 3) := by decide +kernel
theorem dX9_pattern_15 : decode cX9_pattern 15 = .ok (.ireturn, 1) := by decide +kernel
theorem dX9_pattern_16 : decode cX9_pattern 16 = .ok (.aload_n 0, 1) := by decide +kernel
theorem dX9_pattern_17 : decode cX9_pattern 17 = .ok (.getfield 29, 3) := by decide +kernel
theorem dX9_pattern_20 : decode cX9_pattern 20 = .ok (.iload_n 1, 1) := by decide +kernel
theorem dX9_pattern_21 : decode cX9_pattern 21 = .ok (.invokevirtual 140, 3) := by decide +kernel
theorem dX9_pattern_24 : decode cX9_pattern 24 = .ok (.astore_n 3, 1) := by decide +kernel
theorem dX9_pattern_25 : decode cX9_pattern 25 = .ok (.aload_n 3, 1) := by decide +kernel
theorem dX9_pattern_26 : decode cX9_pattern 26 = .ok (.ifnonnull 9, 3) := by decide +kernel
theorem dX9_pattern_29 : decode cX9_pattern 29 = .ok (.aload_n 0, 1) := by decide +kernel
theorem dX9_pattern_30 : decode cX9_pattern 30 = .ok (.iconst 2, 1) := by decide +kernel
theorem dX9_pattern_31 : decode cX9_pattern 31 = .ok (.invokevirtual 80, 3) := by decide +kernel
theorem dX9_pattern_34 : decode cX9_pattern 34 = .ok (.ireturn, 1) := by decide +kernel
def mwX9_pattern : List Cond := .code yX9_pattern cX9_pattern 4 (some .int) :: ([.code yX9_refuse cX9_refuse 2 (some .int), .fieldLink RX9 70 "PatternGate" "lastStatus" "I", .methodLink RX9 80 yX9_refuse, .instanceMethod yX9_refuse, .selects RX9 yX9_refuse yX9_refuse, .initialized RX9, .fieldLink RX9 29 "PatternGate" "book" "LPatternGate$Book;", .code yX0_patternAt cX0_patternAt 2 (some (.object "PatternGate$Pattern")), .fieldLink RX0 13 "PatternGate$Book" "patterns" "[LPatternGate$Pattern;", .methodLink RX9 140 yX0_patternAt, .instanceMethod yX0_patternAt, .selects RX0 yX0_patternAt yX0_patternAt, .initialized RX0] ++ wsX90 ++ wsX00)
theorem fin_X9_pattern_X9 : ∀ w ∈ wsX90, w ∈ mwX9_pattern := fun w h => List.mem_cons_of_mem _ (List.mem_append_left _ (List.mem_append_right _ h))
set_option maxRecDepth 20000 in
theorem mg_X9_pattern_X9_refuse_80 : GoodIn mwX9_pattern (wsV RX9 80 RX9 yX9_refuse mwX9_refuse) := goodIn_r _ [3, 4, 5, 6, 1, 2, 14, 15, 16, 17, 18, 19, 20, 21, 22, 23, 24, 25, 26, 27, 28, 29] (by decide +kernel) (by decide +kernel)
set_option maxRecDepth 20000 in
theorem mg_X9_pattern_X0_patternAt_140 : GoodIn mwX9_pattern (wsV RX9 140 RX0 yX0_patternAt mwX0_patternAt) := goodIn_r _ [10, 11, 12, 13, 8, 9, 30, 31, 32] (by decide +kernel) (by decide +kernel)
set_option maxHeartbeats 4000000 in
set_option maxRecDepth 100000 in
/-- pattern on a new object -/
theorem c_pattern (l : Launch) (dC : Nat → ClassId) (dI : Nat → Nat → Nat) (x : Nat) (q : Nat → Nat) (b d0 p0 : Nat) (cT cD cP cB cU : ClassId) (r : Nat → Nat) (sz : Nat) (i0 i1 : Int32) : Met l yX9_pattern mwX9_pattern ({ frames := 1, cells := 0, slots := 0, locals := 60 }) (va_Pc [.ref x, .int i0, .int i1] (fun U => U.heap.size = sz ∧ va_P (dC, dI) vwCl (gW x q b d0 p0 cT cD cP cB cU r) U.heap ∧ va_K (dC, dI) vwCl (gT cT cD cP cB cU) U ∧ va_D (fun _ => True) (gW x q b d0 p0 cT cD cP cB cU r))) (va_Qi (fun (o : Int32) (_ : Unit) => o = (-1)) (fun _ _ => True) (va_A (gW x q b d0 p0 cT cD cP cB cU r) sz)) 0 0 (va_A (gW x q b d0 p0 cT cD cP cB cU r) sz) := by
  refine Met.ofW (cc := cX9_pattern) (maxL := 4) (ret := (some .int)) (by decide +kernel) rfl ?_
  intro p e s m args below meth c s₁ B hml hv
  obtain ⟨rfl, hsz, hP, hK, hD0⟩ := hv
  have hx := B.exec
  have hb := B.bytes
  have hr := B.returns
  have hts := atoms_spec (ws := mwX9_pattern) B.pre
  have hown : s.vm.findClass RX9 = some m.cls := findClass_of_methodNamed B.named
  have hlocks := B.notSynchronized
  subst hsz
  have hD := hD0.self (sz := s.heap.size)
  generalize hAe : va_A (gW x q b d0 p0 cT cD cP cB cU r) s.heap.size = A at hD ⊢
  have hA : ∀ q : Nat, s.heap.size ≤ q → A q := fun q h => by rw [← hAe]; exact Or.inr h
  have hP : va_P (dC, dI) vwCl [(x, .inr (9, gF q 0 0 (-1) (-1) b 0 0)), (q 0, .inl (cT, 900, .inl (fun _ => 0))), (b, .inr (0, [.ref d0, .ref p0, .null])), (d0, .inl (cD, 0, .inr (.inr (.inr (.inr (fun _ => none)))))), (p0, .inl (cP, 0, .inr (.inr (.inr (.inr (fun _ => none)))))), (q 1, .inl (cB, 3, .inr (.inr (.inr (.inr (fun _ => none)))))), (q 2, .inl (cU, 3, .inl (fun _ => 0))), (q 3, .inr (6, rF r 0 0 0 0 0 0 0 0))] s.heap := hP
  have hD : va_D A [(x, .inr (9, gF q 0 0 (-1) (-1) b 0 0)), (q 0, .inl (cT, 900, .inl (fun _ => 0))), (b, .inr (0, [.ref d0, .ref p0, .null])), (d0, .inl (cD, 0, .inr (.inr (.inr (.inr (fun _ => none)))))), (p0, .inl (cP, 0, .inr (.inr (.inr (.inr (fun _ => none)))))), (q 1, .inl (cB, 3, .inr (.inr (.inr (.inr (fun _ => none)))))), (q 2, .inl (cU, 3, .inl (fun _ => 0))), (q 3, .inr (6, rF r 0 0 0 0 0 0 0 0))] := hD
  have hK : va_K (dC, dI) vwCl [(cT, .int), (cD, .object "PatternGate$Doc"), (cP, .object "PatternGate$Pattern"), (cB, .object "PatternGate$Book"), (cU, .int)] s := hK
  generalize hH : s.heap = H at hP ⊢
  have hS : va_S A s.heap H [] := by rw [← hH]; exact va_S.rf
  have hl := lv_entry ([.ref x, .int i0, .int i1]) (n := 4) (Nat.le_of_ble_eq_true rfl)
  rw [lg_entry_eq]
  generalize (lg_sl ([.ref x, .int i0, .int i1]) ++ List.replicate (4 - (lg_sl ([.ref x, .int i0, .int i1])).length) Slot.unset).toArray = ls at hl ⊢
  have hl : lv_has ls 4 [(0, .ref x), (1, .int i0), (2, .int i1)] := hl
  refine lv_iload_n hx hb dX9_pattern_0 rfl (lv_at hl 2 rfl) ?_
  refine lv_if_lt (tgt := 10) hx hb dX9_pattern_1 (by decide) (fun k_1 => ?_) (fun k_1 => ?_)
  · refine lv_aload_n hx hb dX9_pattern_10 rfl (lv_at hl 0 rfl) ?_
    refine lv_iconst (v := 1) hx hb dX9_pattern_11 (by decide) ?_
    have hPc := hP.sub (ws' := [(x, .inr (9, gF q 0 0 (-1) (-1) b 0 0))]) [0] rfl
    have hKc := hK.sub (tys' := []) [] rfl
    have hDc := hD.sub (ws' := [(x, .inr (9, gF q 0 0 (-1) (-1) b 0 0))]) [0] (by decide) rfl
    have hFc := va_free (wc := [(x, .inr (9, gF q 0 0 (-1) (-1) b 0 0))]) hD hS hA [0] rfl
    refine va_calli (va_runV (As := [.int 1]) (rest := []) ⟨hx, hb, hml, hown, hts⟩ (c_refuse l dC dI x q 0 0 (-1) (-1) b 0 0 H.size 1) (cwV 1 hts mg_X9_pattern_X9_refuse_80 rfl rfl rfl (by decide +kernel) ⟨Nat.le_of_ble_eq_true rfl, Nat.le_of_ble_eq_true rfl⟩) ⟨fun a U g mk q => by obtain ⟨q0, q1, qP, qK, qD⟩ := q; exact ⟨q0, q1, qP, va_K.moved (u := U) (U := U.calling g mk a) (Vm.Alike.refl U.vm) qK, qD⟩, va_recv hKc hPc (ci := 9) (q0 := 0) rfl rfl, fun U hU hW => ⟨rfl, by rw [hU], by rw [hU]; exact hPc, va_K.moved hW.alike hKc, hDc.weaken (fun _ _ _ _ => trivial)⟩⟩ rfl rfl hl.1 rfl (lv_room (Nat.le_of_ble_eq_true rfl)) dX9_pattern_12 ⟨Nat.le_of_ble_eq_true rfl, Nat.le_of_ble_eq_true rfl⟩) hS (fun q _ h => hFc q h) hFc (fun r_3 u t H1 locs ht hvm hw hB hz1 hk1 hS => ?_)
    exact W.iret hx hb hr (fun t ht hW => ⟨⟨_, (), rfl, hw, trivial⟩, hS.F ht⟩) hS.2.2 dX9_pattern_15
  · refine lv_iload_n hx hb dX9_pattern_4 rfl (lv_at hl 2 rfl) ?_
    refine lv_bipush (v := 7) hx hb dX9_pattern_5 (by decide) ?_
    refine lv_icmp_le (tgt := 16) hx hb dX9_pattern_7 (by decide) (fun k_4 => ?_) (fun k_4 => ?_)
    · refine lv_aload_n hx hb dX9_pattern_16 rfl (lv_at hl 0 rfl) ?_
      refine va_get (D := (dC, dI)) (ci := 9) (v := .ref b) (C := RX9) (T := TX9) (N := 16) hx hb hts fin_X9_pattern_X9 hown hK hP 0 rfl rfl 5 (by decide) (hts (.fieldLink RX9 29 "PatternGate" "book" "LPatternGate$Book;") (List.mem_of_getElem? (i := 7) (by decide +kernel))) (fun _ h9 => h9) rfl dX9_pattern_17 ?_
      refine lv_iload_n hx hb dX9_pattern_20 rfl (lv_at hl 1 rfl) ?_
      have hPc := hP.sub (ws' := [(b, .inr (0, [.ref d0, .ref p0, .null])), (d0, .inl (cD, 0, .inr (.inr (.inr (.inr (fun _ => none)))))), (p0, .inl (cP, 0, .inr (.inr (.inr (.inr (fun _ => none))))))]) [2, 3, 4] rfl
      have hKc := hK.sub (tys' := [(cD, .object "PatternGate$Doc"), (cP, .object "PatternGate$Pattern")]) [1, 2] rfl
      refine va_csq (W.runV (As := [.int i0]) (rest := []) ⟨hx, hb, hml, hown, hts⟩ (c_patternAt l dC dI b d0 p0 cD cP i0) (cwV 1 hts mg_X9_pattern_X0_patternAt_140 rfl rfl rfl (by decide +kernel) ⟨Nat.le_of_ble_eq_true rfl, Nat.le_of_ble_eq_true rfl⟩) ⟨fun a U g mk q => by obtain ⟨q0, qP, qK⟩ := q; exact ⟨q0, qP, va_K.moved (u := U) (U := U.calling g mk a) (Vm.Alike.refl U.vm) qK⟩, va_recv hKc hPc (ci := 0) (q0 := 0) rfl rfl, fun U hU hW => ⟨rfl, by rw [hU]; exact hPc, va_K.moved hW.alike hKc⟩⟩ rfl rfl hl.1 rfl (lv_room (Nat.le_of_ble_eq_true rfl)) dX9_pattern_21 ⟨Nat.le_of_ble_eq_true rfl, Nat.le_of_ble_eq_true rfl⟩) (fun r_6 hw => ?_)
      subst hw
      refine W.eq (g2 := F0 m 24 ls [.null]) rfl ?_
      refine lv_astore_nN (lv' := [(3, .null), (0, .ref x), (1, .int i0), (2, .int i1)]) hx hb dX9_pattern_24 rfl hl (by decide) rfl (fun ls hl => ?_)
      refine lv_aload_nN hx hb dX9_pattern_25 rfl (lv_at hl 0 rfl) ?_
      refine lv_ifnonnullN hx hb dX9_pattern_26 ?_
      refine lv_aload_n hx hb dX9_pattern_29 rfl (lv_at hl 1 rfl) ?_
      refine lv_iconst (v := 2) hx hb dX9_pattern_30 (by decide) ?_
      have hPc := hP.sub (ws' := [(x, .inr (9, gF q 0 0 (-1) (-1) b 0 0))]) [0] rfl
      have hKc := hK.sub (tys' := []) [] rfl
      have hDc := hD.sub (ws' := [(x, .inr (9, gF q 0 0 (-1) (-1) b 0 0))]) [0] (by decide) rfl
      have hFc := va_free (wc := [(x, .inr (9, gF q 0 0 (-1) (-1) b 0 0))]) hD hS hA [0] rfl
      refine va_calli (va_runV (As := [.int 2]) (rest := []) ⟨hx, hb, hml, hown, hts⟩ (c_refuse l dC dI x q 0 0 (-1) (-1) b 0 0 H.size 2) (cwV 1 hts mg_X9_pattern_X9_refuse_80 rfl rfl rfl (by decide +kernel) ⟨Nat.le_of_ble_eq_true rfl, Nat.le_of_ble_eq_true rfl⟩) ⟨fun a U g mk q => by obtain ⟨q0, q1, qP, qK, qD⟩ := q; exact ⟨q0, q1, qP, va_K.moved (u := U) (U := U.calling g mk a) (Vm.Alike.refl U.vm) qK, qD⟩, va_recv hKc hPc (ci := 9) (q0 := 0) rfl rfl, fun U hU hW => ⟨rfl, by rw [hU], by rw [hU]; exact hPc, va_K.moved hW.alike hKc, hDc.weaken (fun _ _ _ _ => trivial)⟩⟩ rfl rfl hl.1 rfl (lv_room (Nat.le_of_ble_eq_true rfl)) dX9_pattern_31 ⟨Nat.le_of_ble_eq_true rfl, Nat.le_of_ble_eq_true rfl⟩) hS (fun q _ h => hFc q h) hFc (fun r_8 u t H1 locs ht hvm hw hB hz1 hk1 hS => ?_)
      exact W.iret hx hb hr (fun t ht hW => ⟨⟨_, (), rfl, hw, trivial⟩, hS.F ht⟩) hS.2.2 dX9_pattern_34
    · refine lv_aload_n hx hb dX9_pattern_10 rfl (lv_at hl 0 rfl) ?_
      refine lv_iconst (v := 1) hx hb dX9_pattern_11 (by decide) ?_
      have hPc := hP.sub (ws' := [(x, .inr (9, gF q 0 0 (-1) (-1) b 0 0))]) [0] rfl
      have hKc := hK.sub (tys' := []) [] rfl
      have hDc := hD.sub (ws' := [(x, .inr (9, gF q 0 0 (-1) (-1) b 0 0))]) [0] (by decide) rfl
      have hFc := va_free (wc := [(x, .inr (9, gF q 0 0 (-1) (-1) b 0 0))]) hD hS hA [0] rfl
      refine va_calli (va_runV (As := [.int 1]) (rest := []) ⟨hx, hb, hml, hown, hts⟩ (c_refuse l dC dI x q 0 0 (-1) (-1) b 0 0 H.size 1) (cwV 1 hts mg_X9_pattern_X9_refuse_80 rfl rfl rfl (by decide +kernel) ⟨Nat.le_of_ble_eq_true rfl, Nat.le_of_ble_eq_true rfl⟩) ⟨fun a U g mk q => by obtain ⟨q0, q1, qP, qK, qD⟩ := q; exact ⟨q0, q1, qP, va_K.moved (u := U) (U := U.calling g mk a) (Vm.Alike.refl U.vm) qK, qD⟩, va_recv hKc hPc (ci := 9) (q0 := 0) rfl rfl, fun U hU hW => ⟨rfl, by rw [hU], by rw [hU]; exact hPc, va_K.moved hW.alike hKc, hDc.weaken (fun _ _ _ _ => trivial)⟩⟩ rfl rfl hl.1 rfl (lv_room (Nat.le_of_ble_eq_true rfl)) dX9_pattern_12 ⟨Nat.le_of_ble_eq_true rfl, Nat.le_of_ble_eq_true rfl⟩) hS (fun q _ h => hFc q h) hFc (fun r_10 u t H1 locs ht hvm hw hB hz1 hk1 hS => ?_)
      exact W.iret hx hb hr (fun t ht hW => ⟨⟨_, (), rfl, hw, trivial⟩, hS.F ht⟩) hS.2.2 dX9_pattern_15
theorem dX9_exact_0 : decode cX9_exact 0 = .ok (.iload_n 2, 1) := by decide +kernel
theorem dX9_exact_1 : decode cX9_exact 1 = .ok (.ifCond .lt 7, 3) := by decide +kernel
theorem dX9_exact_4 : decode cX9_exact 4 = .ok (.iload_n 3, 1) := by decide +kernel
theorem dX9_exact_5 : decode cX9_exact 5 = .ok (.ifCond .ge 9, 3) := by decide +kernel
theorem dX9_exact_8 : decode cX9_exact 8 = .ok (.aload_n 0, 1) := by decide +kernel
theorem dX9_exact_9 : decode cX9_exact 9 = .ok (.iconst 1, 1) := by decide +kernel
theorem dX9_exact_10 : decode cX9_exact 10 = .ok (.invokevirtual 80, 3) := by decide +kernel
theorem dX9_exact_13 : decode cX9_exact 13 = .ok (.ireturn, 1) := by decide +kernel
theorem dX9_exact_14 : decode cX9_exact 14 = .ok (.aload_n 0, 1) := by decide +kernel
theorem dX9_exact_15 : decode cX9_exact 15 = .ok (.getfield 29, 3) := by decide +kernel
theorem dX9_exact_18 : decode cX9_exact 18 = .ok (.iload_n 1, 1) := by decide +kernel
theorem dX9_exact_19 : decode cX9_exact 19 = .ok (.invokevirtual 140, 3) := by decide +kernel
theorem dX9_exact_22 : decode cX9_exact 22 = .ok (.astore 4, 2) := by decide +kernel
theorem dX9_exact_24 : decode cX9_exact 24 = .ok (.aload 4, 2) := by decide +kernel
theorem dX9_exact_26 : decode cX9_exact 26 = .ok (.ifnonnull 9, 3) := by decide +kernel
theorem dX9_exact_29 : decode cX9_exact 29 = .ok (.aload_n 0, 1) := by decide +kernel
theorem dX9_exact_30 : decode cX9_exact 30 = .ok (.iconst 2, 1) := by decide +kernel
theorem dX9_exact_31 : decode cX9_exact 31 = .ok (.invokevirtual 80, 3) := by decide +kernel
theorem dX9_exact_34 : decode cX9_exact 34 = .ok (.ireturn, 1) := by decide +kernel
def mwX9_exact : List Cond := .code yX9_exact cX9_exact 5 (some .int) :: ([.code yX9_refuse cX9_refuse 2 (some .int), .fieldLink RX9 70 "PatternGate" "lastStatus" "I", .methodLink RX9 80 yX9_refuse, .instanceMethod yX9_refuse, .selects RX9 yX9_refuse yX9_refuse, .initialized RX9, .fieldLink RX9 29 "PatternGate" "book" "LPatternGate$Book;", .code yX0_patternAt cX0_patternAt 2 (some (.object "PatternGate$Pattern")), .fieldLink RX0 13 "PatternGate$Book" "patterns" "[LPatternGate$Pattern;", .methodLink RX9 140 yX0_patternAt, .instanceMethod yX0_patternAt, .selects RX0 yX0_patternAt yX0_patternAt, .initialized RX0] ++ wsX90 ++ wsX00)
theorem fin_X9_exact_X9 : ∀ w ∈ wsX90, w ∈ mwX9_exact := fun w h => List.mem_cons_of_mem _ (List.mem_append_left _ (List.mem_append_right _ h))
set_option maxRecDepth 20000 in
theorem mg_X9_exact_X9_refuse_80 : GoodIn mwX9_exact (wsV RX9 80 RX9 yX9_refuse mwX9_refuse) := goodIn_r _ [3, 4, 5, 6, 1, 2, 14, 15, 16, 17, 18, 19, 20, 21, 22, 23, 24, 25, 26, 27, 28, 29] (by decide +kernel) (by decide +kernel)
set_option maxRecDepth 20000 in
theorem mg_X9_exact_X0_patternAt_140 : GoodIn mwX9_exact (wsV RX9 140 RX0 yX0_patternAt mwX0_patternAt) := goodIn_r _ [10, 11, 12, 13, 8, 9, 30, 31, 32] (by decide +kernel) (by decide +kernel)
set_option maxHeartbeats 4000000 in
set_option maxRecDepth 100000 in
/-- exact on a new object -/
theorem c_exact (l : Launch) (dC : Nat → ClassId) (dI : Nat → Nat → Nat) (x : Nat) (q : Nat → Nat) (b d0 p0 : Nat) (cT cD cP cB cU : ClassId) (r : Nat → Nat) (sz : Nat) (i0 i1 i2 : Int32) : Met l yX9_exact mwX9_exact ({ frames := 1, cells := 0, slots := 0, locals := 60 }) (va_Pc [.ref x, .int i0, .int i1, .int i2] (fun U => U.heap.size = sz ∧ va_P (dC, dI) vwCl (gW x q b d0 p0 cT cD cP cB cU r) U.heap ∧ va_K (dC, dI) vwCl (gT cT cD cP cB cU) U ∧ va_D (fun _ => True) (gW x q b d0 p0 cT cD cP cB cU r))) (va_Qi (fun (o : Int32) (_ : Unit) => o = (-1)) (fun _ _ => True) (va_A (gW x q b d0 p0 cT cD cP cB cU r) sz)) 0 0 (va_A (gW x q b d0 p0 cT cD cP cB cU r) sz) := by
  refine Met.ofW (cc := cX9_exact) (maxL := 5) (ret := (some .int)) (by decide +kernel) rfl ?_
  intro p e s m args below meth c s₁ B hml hv
  obtain ⟨rfl, hsz, hP, hK, hD0⟩ := hv
  have hx := B.exec
  have hb := B.bytes
  have hr := B.returns
  have hts := atoms_spec (ws := mwX9_exact) B.pre
  have hown : s.vm.findClass RX9 = some m.cls := findClass_of_methodNamed B.named
  have hlocks := B.notSynchronized
  subst hsz
  have hD := hD0.self (sz := s.heap.size)
  generalize hAe : va_A (gW x q b d0 p0 cT cD cP cB cU r) s.heap.size = A at hD ⊢
  have hA : ∀ q : Nat, s.heap.size ≤ q → A q := fun q h => by rw [← hAe]; exact Or.inr h
  have hP : va_P (dC, dI) vwCl [(x, .inr (9, gF q 0 0 (-1) (-1) b 0 0)), (q 0, .inl (cT, 900, .inl (fun _ => 0))), (b, .inr (0, [.ref d0, .ref p0, .null])), (d0, .inl (cD, 0, .inr (.inr (.inr (.inr (fun _ => none)))))), (p0, .inl (cP, 0, .inr (.inr (.inr (.inr (fun _ => none)))))), (q 1, .inl (cB, 3, .inr (.inr (.inr (.inr (fun _ => none)))))), (q 2, .inl (cU, 3, .inl (fun _ => 0))), (q 3, .inr (6, rF r 0 0 0 0 0 0 0 0))] s.heap := hP
  have hD : va_D A [(x, .inr (9, gF q 0 0 (-1) (-1) b 0 0)), (q 0, .inl (cT, 900, .inl (fun _ => 0))), (b, .inr (0, [.ref d0, .ref p0, .null])), (d0, .inl (cD, 0, .inr (.inr (.inr (.inr (fun _ => none)))))), (p0, .inl (cP, 0, .inr (.inr (.inr (.inr (fun _ => none)))))), (q 1, .inl (cB, 3, .inr (.inr (.inr (.inr (fun _ => none)))))), (q 2, .inl (cU, 3, .inl (fun _ => 0))), (q 3, .inr (6, rF r 0 0 0 0 0 0 0 0))] := hD
  have hK : va_K (dC, dI) vwCl [(cT, .int), (cD, .object "PatternGate$Doc"), (cP, .object "PatternGate$Pattern"), (cB, .object "PatternGate$Book"), (cU, .int)] s := hK
  generalize hH : s.heap = H at hP ⊢
  have hS : va_S A s.heap H [] := by rw [← hH]; exact va_S.rf
  have hl := lv_entry ([.ref x, .int i0, .int i1, .int i2]) (n := 5) (Nat.le_of_ble_eq_true rfl)
  rw [lg_entry_eq]
  generalize (lg_sl ([.ref x, .int i0, .int i1, .int i2]) ++ List.replicate (5 - (lg_sl ([.ref x, .int i0, .int i1, .int i2])).length) Slot.unset).toArray = ls at hl ⊢
  have hl : lv_has ls 5 [(0, .ref x), (1, .int i0), (2, .int i1), (3, .int i2)] := hl
  refine lv_iload_n hx hb dX9_exact_0 rfl (lv_at hl 2 rfl) ?_
  refine lv_if_lt (tgt := 8) hx hb dX9_exact_1 (by decide) (fun k_1 => ?_) (fun k_1 => ?_)
  · refine lv_aload_n hx hb dX9_exact_8 rfl (lv_at hl 0 rfl) ?_
    refine lv_iconst (v := 1) hx hb dX9_exact_9 (by decide) ?_
    have hPc := hP.sub (ws' := [(x, .inr (9, gF q 0 0 (-1) (-1) b 0 0))]) [0] rfl
    have hKc := hK.sub (tys' := []) [] rfl
    have hDc := hD.sub (ws' := [(x, .inr (9, gF q 0 0 (-1) (-1) b 0 0))]) [0] (by decide) rfl
    have hFc := va_free (wc := [(x, .inr (9, gF q 0 0 (-1) (-1) b 0 0))]) hD hS hA [0] rfl
    refine va_calli (va_runV (As := [.int 1]) (rest := []) ⟨hx, hb, hml, hown, hts⟩ (c_refuse l dC dI x q 0 0 (-1) (-1) b 0 0 H.size 1) (cwV 1 hts mg_X9_exact_X9_refuse_80 rfl rfl rfl (by decide +kernel) ⟨Nat.le_of_ble_eq_true rfl, Nat.le_of_ble_eq_true rfl⟩) ⟨fun a U g mk q => by obtain ⟨q0, q1, qP, qK, qD⟩ := q; exact ⟨q0, q1, qP, va_K.moved (u := U) (U := U.calling g mk a) (Vm.Alike.refl U.vm) qK, qD⟩, va_recv hKc hPc (ci := 9) (q0 := 0) rfl rfl, fun U hU hW => ⟨rfl, by rw [hU], by rw [hU]; exact hPc, va_K.moved hW.alike hKc, hDc.weaken (fun _ _ _ _ => trivial)⟩⟩ rfl rfl hl.1 rfl (lv_room (Nat.le_of_ble_eq_true rfl)) dX9_exact_10 ⟨Nat.le_of_ble_eq_true rfl, Nat.le_of_ble_eq_true rfl⟩) hS (fun q _ h => hFc q h) hFc (fun r_3 u t H1 locs ht hvm hw hB hz1 hk1 hS => ?_)
    exact W.iret hx hb hr (fun t ht hW => ⟨⟨_, (), rfl, hw, trivial⟩, hS.F ht⟩) hS.2.2 dX9_exact_13
  · refine lv_iload_n hx hb dX9_exact_4 rfl (lv_at hl 3 rfl) ?_
    refine lv_if_ge (tgt := 14) hx hb dX9_exact_5 (by decide) (fun k_4 => ?_) (fun k_4 => ?_)
    · refine lv_aload_n hx hb dX9_exact_14 rfl (lv_at hl 0 rfl) ?_
      refine va_get (D := (dC, dI)) (ci := 9) (v := .ref b) (C := RX9) (T := TX9) (N := 16) hx hb hts fin_X9_exact_X9 hown hK hP 0 rfl rfl 5 (by decide) (hts (.fieldLink RX9 29 "PatternGate" "book" "LPatternGate$Book;") (List.mem_of_getElem? (i := 7) (by decide +kernel))) (fun _ h9 => h9) rfl dX9_exact_15 ?_
      refine lv_iload_n hx hb dX9_exact_18 rfl (lv_at hl 1 rfl) ?_
      have hPc := hP.sub (ws' := [(b, .inr (0, [.ref d0, .ref p0, .null])), (d0, .inl (cD, 0, .inr (.inr (.inr (.inr (fun _ => none)))))), (p0, .inl (cP, 0, .inr (.inr (.inr (.inr (fun _ => none))))))]) [2, 3, 4] rfl
      have hKc := hK.sub (tys' := [(cD, .object "PatternGate$Doc"), (cP, .object "PatternGate$Pattern")]) [1, 2] rfl
      refine va_csq (W.runV (As := [.int i0]) (rest := []) ⟨hx, hb, hml, hown, hts⟩ (c_patternAt l dC dI b d0 p0 cD cP i0) (cwV 1 hts mg_X9_exact_X0_patternAt_140 rfl rfl rfl (by decide +kernel) ⟨Nat.le_of_ble_eq_true rfl, Nat.le_of_ble_eq_true rfl⟩) ⟨fun a U g mk q => by obtain ⟨q0, qP, qK⟩ := q; exact ⟨q0, qP, va_K.moved (u := U) (U := U.calling g mk a) (Vm.Alike.refl U.vm) qK⟩, va_recv hKc hPc (ci := 0) (q0 := 0) rfl rfl, fun U hU hW => ⟨rfl, by rw [hU]; exact hPc, va_K.moved hW.alike hKc⟩⟩ rfl rfl hl.1 rfl (lv_room (Nat.le_of_ble_eq_true rfl)) dX9_exact_19 ⟨Nat.le_of_ble_eq_true rfl, Nat.le_of_ble_eq_true rfl⟩) (fun r_6 hw => ?_)
      subst hw
      refine W.eq (g2 := F0 m 22 ls [.null]) rfl ?_
      refine lv_astoreN (lv' := [(4, .null), (0, .ref x), (1, .int i0), (2, .int i1), (3, .int i2)]) hx hb dX9_exact_22 hl (by decide) rfl (fun ls hl => ?_)
      refine lv_aloadN hx hb dX9_exact_24 (lv_at hl 0 rfl) ?_
      refine lv_ifnonnullN hx hb dX9_exact_26 ?_
      refine lv_aload_n hx hb dX9_exact_29 rfl (lv_at hl 1 rfl) ?_
      refine lv_iconst (v := 2) hx hb dX9_exact_30 (by decide) ?_
      have hPc := hP.sub (ws' := [(x, .inr (9, gF q 0 0 (-1) (-1) b 0 0))]) [0] rfl
      have hKc := hK.sub (tys' := []) [] rfl
      have hDc := hD.sub (ws' := [(x, .inr (9, gF q 0 0 (-1) (-1) b 0 0))]) [0] (by decide) rfl
      have hFc := va_free (wc := [(x, .inr (9, gF q 0 0 (-1) (-1) b 0 0))]) hD hS hA [0] rfl
      refine va_calli (va_runV (As := [.int 2]) (rest := []) ⟨hx, hb, hml, hown, hts⟩ (c_refuse l dC dI x q 0 0 (-1) (-1) b 0 0 H.size 2) (cwV 1 hts mg_X9_exact_X9_refuse_80 rfl rfl rfl (by decide +kernel) ⟨Nat.le_of_ble_eq_true rfl, Nat.le_of_ble_eq_true rfl⟩) ⟨fun a U g mk q => by obtain ⟨q0, q1, qP, qK, qD⟩ := q; exact ⟨q0, q1, qP, va_K.moved (u := U) (U := U.calling g mk a) (Vm.Alike.refl U.vm) qK, qD⟩, va_recv hKc hPc (ci := 9) (q0 := 0) rfl rfl, fun U hU hW => ⟨rfl, by rw [hU], by rw [hU]; exact hPc, va_K.moved hW.alike hKc, hDc.weaken (fun _ _ _ _ => trivial)⟩⟩ rfl rfl hl.1 rfl (lv_room (Nat.le_of_ble_eq_true rfl)) dX9_exact_31 ⟨Nat.le_of_ble_eq_true rfl, Nat.le_of_ble_eq_true rfl⟩) hS (fun q _ h => hFc q h) hFc (fun r_8 u t H1 locs ht hvm hw hB hz1 hk1 hS => ?_)
      exact W.iret hx hb hr (fun t ht hW => ⟨⟨_, (), rfl, hw, trivial⟩, hS.F ht⟩) hS.2.2 dX9_exact_34
    · refine lv_aload_n hx hb dX9_exact_8 rfl (lv_at hl 0 rfl) ?_
      refine lv_iconst (v := 1) hx hb dX9_exact_9 (by decide) ?_
      have hPc := hP.sub (ws' := [(x, .inr (9, gF q 0 0 (-1) (-1) b 0 0))]) [0] rfl
      have hKc := hK.sub (tys' := []) [] rfl
      have hDc := hD.sub (ws' := [(x, .inr (9, gF q 0 0 (-1) (-1) b 0 0))]) [0] (by decide) rfl
      have hFc := va_free (wc := [(x, .inr (9, gF q 0 0 (-1) (-1) b 0 0))]) hD hS hA [0] rfl
      refine va_calli (va_runV (As := [.int 1]) (rest := []) ⟨hx, hb, hml, hown, hts⟩ (c_refuse l dC dI x q 0 0 (-1) (-1) b 0 0 H.size 1) (cwV 1 hts mg_X9_exact_X9_refuse_80 rfl rfl rfl (by decide +kernel) ⟨Nat.le_of_ble_eq_true rfl, Nat.le_of_ble_eq_true rfl⟩) ⟨fun a U g mk q => by obtain ⟨q0, q1, qP, qK, qD⟩ := q; exact ⟨q0, q1, qP, va_K.moved (u := U) (U := U.calling g mk a) (Vm.Alike.refl U.vm) qK, qD⟩, va_recv hKc hPc (ci := 9) (q0 := 0) rfl rfl, fun U hU hW => ⟨rfl, by rw [hU], by rw [hU]; exact hPc, va_K.moved hW.alike hKc, hDc.weaken (fun _ _ _ _ => trivial)⟩⟩ rfl rfl hl.1 rfl (lv_room (Nat.le_of_ble_eq_true rfl)) dX9_exact_10 ⟨Nat.le_of_ble_eq_true rfl, Nat.le_of_ble_eq_true rfl⟩) hS (fun q _ h => hFc q h) hFc (fun r_10 u t H1 locs ht hvm hw hB hz1 hk1 hS => ?_)
      exact W.iret hx hb hr (fun t ht hW => ⟨⟨_, (), rfl, hw, trivial⟩, hS.F ht⟩) hS.2.2 dX9_exact_13
theorem dX9_need_0 : decode cX9_need 0 = .ok (.iload_n 2, 1) := by decide +kernel
theorem dX9_need_1 : decode cX9_need 1 = .ok (.ifCond .lt 7, 3) := by decide +kernel
theorem dX9_need_4 : decode cX9_need 4 = .ok (.iload_n 3, 1) := by decide +kernel
theorem dX9_need_5 : decode cX9_need 5 = .ok (.ifCond .ge 9, 3) := by decide +kernel
theorem dX9_need_8 : decode cX9_need 8 = .ok (.aload_n 0, 1) := by decide +kernel
theorem dX9_need_9 : decode cX9_need 9 = .ok (.iconst 1, 1) := by decide +kernel
theorem dX9_need_10 : decode cX9_need 10 = .ok (.invokevirtual 80, 3) := by decide +kernel
theorem dX9_need_13 : decode cX9_need 13 = .ok (.ireturn, 1) := by decide +kernel
theorem dX9_need_14 : decode cX9_need 14 = .ok (.aload_n 0, 1) := by decide +kernel
theorem dX9_need_15 : decode cX9_need 15 = .ok (.getfield 29, 3) := by decide +kernel
theorem dX9_need_18 : decode cX9_need 18 = .ok (.iload_n 1, 1) := by decide +kernel
theorem dX9_need_19 : decode cX9_need 19 = .ok (.invokevirtual 140, 3) := by decide +kernel
theorem dX9_need_22 : decode cX9_need 22 = .ok (.astore 4, 2) := by decide +kernel
theorem dX9_need_24 : decode cX9_need 24 = .ok (.aload 4, 2) := by decide +kernel
theorem dX9_need_26 : decode cX9_need 26 = .ok (.ifnonnull 9, 3) := by decide +kernel
theorem dX9_need_29 : decode cX9_need 29 = .ok (.aload_n 0, 1) := by decide +kernel
theorem dX9_need_30 : decode cX9_need 30 = .ok (.iconst 2, 1) := by decide +kernel
theorem dX9_need_31 : decode cX9_need 31 = .ok (.invokevirtual 80, 3) := by decide +kernel
theorem dX9_need_34 : decode cX9_need 34 = .ok (.ireturn, 1) := by decide +kernel
def mwX9_need : List Cond := .code yX9_need cX9_need 5 (some .int) :: ([.code yX9_refuse cX9_refuse 2 (some .int), .fieldLink RX9 70 "PatternGate" "lastStatus" "I", .methodLink RX9 80 yX9_refuse, .instanceMethod yX9_refuse, .selects RX9 yX9_refuse yX9_refuse, .initialized RX9, .fieldLink RX9 29 "PatternGate" "book" "LPatternGate$Book;", .code yX0_patternAt cX0_patternAt 2 (some (.object "PatternGate$Pattern")), .fieldLink RX0 13 "PatternGate$Book" "patterns" "[LPatternGate$Pattern;", .methodLink RX9 140 yX0_patternAt, .instanceMethod yX0_patternAt, .selects RX0 yX0_patternAt yX0_patternAt, .initialized RX0] ++ wsX90 ++ wsX00)
theorem fin_X9_need_X9 : ∀ w ∈ wsX90, w ∈ mwX9_need := fun w h => List.mem_cons_of_mem _ (List.mem_append_left _ (List.mem_append_right _ h))
set_option maxRecDepth 20000 in
theorem mg_X9_need_X9_refuse_80 : GoodIn mwX9_need (wsV RX9 80 RX9 yX9_refuse mwX9_refuse) := goodIn_r _ [3, 4, 5, 6, 1, 2, 14, 15, 16, 17, 18, 19, 20, 21, 22, 23, 24, 25, 26, 27, 28, 29] (by decide +kernel) (by decide +kernel)
set_option maxRecDepth 20000 in
theorem mg_X9_need_X0_patternAt_140 : GoodIn mwX9_need (wsV RX9 140 RX0 yX0_patternAt mwX0_patternAt) := goodIn_r _ [10, 11, 12, 13, 8, 9, 30, 31, 32] (by decide +kernel) (by decide +kernel)
set_option maxHeartbeats 4000000 in
set_option maxRecDepth 100000 in
/-- need on a new object -/
theorem c_need (l : Launch) (dC : Nat → ClassId) (dI : Nat → Nat → Nat) (x : Nat) (q : Nat → Nat) (b d0 p0 : Nat) (cT cD cP cB cU : ClassId) (r : Nat → Nat) (sz : Nat) (i0 i1 i2 : Int32) : Met l yX9_need mwX9_need ({ frames := 1, cells := 0, slots := 0, locals := 60 }) (va_Pc [.ref x, .int i0, .int i1, .int i2] (fun U => U.heap.size = sz ∧ va_P (dC, dI) vwCl (gW x q b d0 p0 cT cD cP cB cU r) U.heap ∧ va_K (dC, dI) vwCl (gT cT cD cP cB cU) U ∧ va_D (fun _ => True) (gW x q b d0 p0 cT cD cP cB cU r))) (va_Qi (fun (o : Int32) (_ : Unit) => o = (-1)) (fun _ _ => True) (va_A (gW x q b d0 p0 cT cD cP cB cU r) sz)) 0 0 (va_A (gW x q b d0 p0 cT cD cP cB cU r) sz) := by
  refine Met.ofW (cc := cX9_need) (maxL := 5) (ret := (some .int)) (by decide +kernel) rfl ?_
  intro p e s m args below meth c s₁ B hml hv
  obtain ⟨rfl, hsz, hP, hK, hD0⟩ := hv
  have hx := B.exec
  have hb := B.bytes
  have hr := B.returns
  have hts := atoms_spec (ws := mwX9_need) B.pre
  have hown : s.vm.findClass RX9 = some m.cls := findClass_of_methodNamed B.named
  have hlocks := B.notSynchronized
  subst hsz
  have hD := hD0.self (sz := s.heap.size)
  generalize hAe : va_A (gW x q b d0 p0 cT cD cP cB cU r) s.heap.size = A at hD ⊢
  have hA : ∀ q : Nat, s.heap.size ≤ q → A q := fun q h => by rw [← hAe]; exact Or.inr h
  have hP : va_P (dC, dI) vwCl [(x, .inr (9, gF q 0 0 (-1) (-1) b 0 0)), (q 0, .inl (cT, 900, .inl (fun _ => 0))), (b, .inr (0, [.ref d0, .ref p0, .null])), (d0, .inl (cD, 0, .inr (.inr (.inr (.inr (fun _ => none)))))), (p0, .inl (cP, 0, .inr (.inr (.inr (.inr (fun _ => none)))))), (q 1, .inl (cB, 3, .inr (.inr (.inr (.inr (fun _ => none)))))), (q 2, .inl (cU, 3, .inl (fun _ => 0))), (q 3, .inr (6, rF r 0 0 0 0 0 0 0 0))] s.heap := hP
  have hD : va_D A [(x, .inr (9, gF q 0 0 (-1) (-1) b 0 0)), (q 0, .inl (cT, 900, .inl (fun _ => 0))), (b, .inr (0, [.ref d0, .ref p0, .null])), (d0, .inl (cD, 0, .inr (.inr (.inr (.inr (fun _ => none)))))), (p0, .inl (cP, 0, .inr (.inr (.inr (.inr (fun _ => none)))))), (q 1, .inl (cB, 3, .inr (.inr (.inr (.inr (fun _ => none)))))), (q 2, .inl (cU, 3, .inl (fun _ => 0))), (q 3, .inr (6, rF r 0 0 0 0 0 0 0 0))] := hD
  have hK : va_K (dC, dI) vwCl [(cT, .int), (cD, .object "PatternGate$Doc"), (cP, .object "PatternGate$Pattern"), (cB, .object "PatternGate$Book"), (cU, .int)] s := hK
  generalize hH : s.heap = H at hP ⊢
  have hS : va_S A s.heap H [] := by rw [← hH]; exact va_S.rf
  have hl := lv_entry ([.ref x, .int i0, .int i1, .int i2]) (n := 5) (Nat.le_of_ble_eq_true rfl)
  rw [lg_entry_eq]
  generalize (lg_sl ([.ref x, .int i0, .int i1, .int i2]) ++ List.replicate (5 - (lg_sl ([.ref x, .int i0, .int i1, .int i2])).length) Slot.unset).toArray = ls at hl ⊢
  have hl : lv_has ls 5 [(0, .ref x), (1, .int i0), (2, .int i1), (3, .int i2)] := hl
  refine lv_iload_n hx hb dX9_need_0 rfl (lv_at hl 2 rfl) ?_
  refine lv_if_lt (tgt := 8) hx hb dX9_need_1 (by decide) (fun k_1 => ?_) (fun k_1 => ?_)
  · refine lv_aload_n hx hb dX9_need_8 rfl (lv_at hl 0 rfl) ?_
    refine lv_iconst (v := 1) hx hb dX9_need_9 (by decide) ?_
    have hPc := hP.sub (ws' := [(x, .inr (9, gF q 0 0 (-1) (-1) b 0 0))]) [0] rfl
    have hKc := hK.sub (tys' := []) [] rfl
    have hDc := hD.sub (ws' := [(x, .inr (9, gF q 0 0 (-1) (-1) b 0 0))]) [0] (by decide) rfl
    have hFc := va_free (wc := [(x, .inr (9, gF q 0 0 (-1) (-1) b 0 0))]) hD hS hA [0] rfl
    refine va_calli (va_runV (As := [.int 1]) (rest := []) ⟨hx, hb, hml, hown, hts⟩ (c_refuse l dC dI x q 0 0 (-1) (-1) b 0 0 H.size 1) (cwV 1 hts mg_X9_need_X9_refuse_80 rfl rfl rfl (by decide +kernel) ⟨Nat.le_of_ble_eq_true rfl, Nat.le_of_ble_eq_true rfl⟩) ⟨fun a U g mk q => by obtain ⟨q0, q1, qP, qK, qD⟩ := q; exact ⟨q0, q1, qP, va_K.moved (u := U) (U := U.calling g mk a) (Vm.Alike.refl U.vm) qK, qD⟩, va_recv hKc hPc (ci := 9) (q0 := 0) rfl rfl, fun U hU hW => ⟨rfl, by rw [hU], by rw [hU]; exact hPc, va_K.moved hW.alike hKc, hDc.weaken (fun _ _ _ _ => trivial)⟩⟩ rfl rfl hl.1 rfl (lv_room (Nat.le_of_ble_eq_true rfl)) dX9_need_10 ⟨Nat.le_of_ble_eq_true rfl, Nat.le_of_ble_eq_true rfl⟩) hS (fun q _ h => hFc q h) hFc (fun r_3 u t H1 locs ht hvm hw hB hz1 hk1 hS => ?_)
    exact W.iret hx hb hr (fun t ht hW => ⟨⟨_, (), rfl, hw, trivial⟩, hS.F ht⟩) hS.2.2 dX9_need_13
  · refine lv_iload_n hx hb dX9_need_4 rfl (lv_at hl 3 rfl) ?_
    refine lv_if_ge (tgt := 14) hx hb dX9_need_5 (by decide) (fun k_4 => ?_) (fun k_4 => ?_)
    · refine lv_aload_n hx hb dX9_need_14 rfl (lv_at hl 0 rfl) ?_
      refine va_get (D := (dC, dI)) (ci := 9) (v := .ref b) (C := RX9) (T := TX9) (N := 16) hx hb hts fin_X9_need_X9 hown hK hP 0 rfl rfl 5 (by decide) (hts (.fieldLink RX9 29 "PatternGate" "book" "LPatternGate$Book;") (List.mem_of_getElem? (i := 7) (by decide +kernel))) (fun _ h9 => h9) rfl dX9_need_15 ?_
      refine lv_iload_n hx hb dX9_need_18 rfl (lv_at hl 1 rfl) ?_
      have hPc := hP.sub (ws' := [(b, .inr (0, [.ref d0, .ref p0, .null])), (d0, .inl (cD, 0, .inr (.inr (.inr (.inr (fun _ => none)))))), (p0, .inl (cP, 0, .inr (.inr (.inr (.inr (fun _ => none))))))]) [2, 3, 4] rfl
      have hKc := hK.sub (tys' := [(cD, .object "PatternGate$Doc"), (cP, .object "PatternGate$Pattern")]) [1, 2] rfl
      refine va_csq (W.runV (As := [.int i0]) (rest := []) ⟨hx, hb, hml, hown, hts⟩ (c_patternAt l dC dI b d0 p0 cD cP i0) (cwV 1 hts mg_X9_need_X0_patternAt_140 rfl rfl rfl (by decide +kernel) ⟨Nat.le_of_ble_eq_true rfl, Nat.le_of_ble_eq_true rfl⟩) ⟨fun a U g mk q => by obtain ⟨q0, qP, qK⟩ := q; exact ⟨q0, qP, va_K.moved (u := U) (U := U.calling g mk a) (Vm.Alike.refl U.vm) qK⟩, va_recv hKc hPc (ci := 0) (q0 := 0) rfl rfl, fun U hU hW => ⟨rfl, by rw [hU]; exact hPc, va_K.moved hW.alike hKc⟩⟩ rfl rfl hl.1 rfl (lv_room (Nat.le_of_ble_eq_true rfl)) dX9_need_19 ⟨Nat.le_of_ble_eq_true rfl, Nat.le_of_ble_eq_true rfl⟩) (fun r_6 hw => ?_)
      subst hw
      refine W.eq (g2 := F0 m 22 ls [.null]) rfl ?_
      refine lv_astoreN (lv' := [(4, .null), (0, .ref x), (1, .int i0), (2, .int i1), (3, .int i2)]) hx hb dX9_need_22 hl (by decide) rfl (fun ls hl => ?_)
      refine lv_aloadN hx hb dX9_need_24 (lv_at hl 0 rfl) ?_
      refine lv_ifnonnullN hx hb dX9_need_26 ?_
      refine lv_aload_n hx hb dX9_need_29 rfl (lv_at hl 1 rfl) ?_
      refine lv_iconst (v := 2) hx hb dX9_need_30 (by decide) ?_
      have hPc := hP.sub (ws' := [(x, .inr (9, gF q 0 0 (-1) (-1) b 0 0))]) [0] rfl
      have hKc := hK.sub (tys' := []) [] rfl
      have hDc := hD.sub (ws' := [(x, .inr (9, gF q 0 0 (-1) (-1) b 0 0))]) [0] (by decide) rfl
      have hFc := va_free (wc := [(x, .inr (9, gF q 0 0 (-1) (-1) b 0 0))]) hD hS hA [0] rfl
      refine va_calli (va_runV (As := [.int 2]) (rest := []) ⟨hx, hb, hml, hown, hts⟩ (c_refuse l dC dI x q 0 0 (-1) (-1) b 0 0 H.size 2) (cwV 1 hts mg_X9_need_X9_refuse_80 rfl rfl rfl (by decide +kernel) ⟨Nat.le_of_ble_eq_true rfl, Nat.le_of_ble_eq_true rfl⟩) ⟨fun a U g mk q => by obtain ⟨q0, q1, qP, qK, qD⟩ := q; exact ⟨q0, q1, qP, va_K.moved (u := U) (U := U.calling g mk a) (Vm.Alike.refl U.vm) qK, qD⟩, va_recv hKc hPc (ci := 9) (q0 := 0) rfl rfl, fun U hU hW => ⟨rfl, by rw [hU], by rw [hU]; exact hPc, va_K.moved hW.alike hKc, hDc.weaken (fun _ _ _ _ => trivial)⟩⟩ rfl rfl hl.1 rfl (lv_room (Nat.le_of_ble_eq_true rfl)) dX9_need_31 ⟨Nat.le_of_ble_eq_true rfl, Nat.le_of_ble_eq_true rfl⟩) hS (fun q _ h => hFc q h) hFc (fun r_8 u t H1 locs ht hvm hw hB hz1 hk1 hS => ?_)
      exact W.iret hx hb hr (fun t ht hW => ⟨⟨_, (), rfl, hw, trivial⟩, hS.F ht⟩) hS.2.2 dX9_need_34
    · refine lv_aload_n hx hb dX9_need_8 rfl (lv_at hl 0 rfl) ?_
      refine lv_iconst (v := 1) hx hb dX9_need_9 (by decide) ?_
      have hPc := hP.sub (ws' := [(x, .inr (9, gF q 0 0 (-1) (-1) b 0 0))]) [0] rfl
      have hKc := hK.sub (tys' := []) [] rfl
      have hDc := hD.sub (ws' := [(x, .inr (9, gF q 0 0 (-1) (-1) b 0 0))]) [0] (by decide) rfl
      have hFc := va_free (wc := [(x, .inr (9, gF q 0 0 (-1) (-1) b 0 0))]) hD hS hA [0] rfl
      refine va_calli (va_runV (As := [.int 1]) (rest := []) ⟨hx, hb, hml, hown, hts⟩ (c_refuse l dC dI x q 0 0 (-1) (-1) b 0 0 H.size 1) (cwV 1 hts mg_X9_need_X9_refuse_80 rfl rfl rfl (by decide +kernel) ⟨Nat.le_of_ble_eq_true rfl, Nat.le_of_ble_eq_true rfl⟩) ⟨fun a U g mk q => by obtain ⟨q0, q1, qP, qK, qD⟩ := q; exact ⟨q0, q1, qP, va_K.moved (u := U) (U := U.calling g mk a) (Vm.Alike.refl U.vm) qK, qD⟩, va_recv hKc hPc (ci := 9) (q0 := 0) rfl rfl, fun U hU hW => ⟨rfl, by rw [hU], by rw [hU]; exact hPc, va_K.moved hW.alike hKc, hDc.weaken (fun _ _ _ _ => trivial)⟩⟩ rfl rfl hl.1 rfl (lv_room (Nat.le_of_ble_eq_true rfl)) dX9_need_10 ⟨Nat.le_of_ble_eq_true rfl, Nat.le_of_ble_eq_true rfl⟩) hS (fun q _ h => hFc q h) hFc (fun r_10 u t H1 locs ht hvm hw hB hz1 hk1 hS => ?_)
      exact W.iret hx hb hr (fun t ht hW => ⟨⟨_, (), rfl, hw, trivial⟩, hS.F ht⟩) hS.2.2 dX9_need_13
theorem dX9_often_0 : decode cX9_often 0 = .ok (.iload_n 2, 1) := by decide +kernel
theorem dX9_often_1 : decode cX9_often 1 = .ok (.invokestatic 190, 3) := by decide +kernel
theorem dX9_often_4 : decode cX9_often 4 = .ok (.ifCond .ne 9, 3) := by decide +kernel
theorem dX9_often_7 : decode cX9_often 7 = .ok (.aload_n 0, 1) := by decide +kernel
theorem dX9_often_8 : decode cX9_often 8 = .ok (.iconst 1, 1) := by decide +kernel
theorem dX9_often_9 : decode cX9_often 9 = .ok (.invokevirtual 80, 3) := by decide +kernel
theorem dX9_often_12 : decode cX9_often 12 = .ok (.ireturn, 1) := by decide +kernel
theorem dX9_often_13 : decode cX9_often 13 = .ok (.aload_n 0, 1) := by decide +kernel
theorem dX9_often_14 : decode cX9_often 14 = .ok (.getfield 29, 3) := by decide +kernel
theorem dX9_often_17 : decode cX9_often 17 = .ok (.iload_n 1, 1) := by decide +kernel
theorem dX9_often_18 : decode cX9_often 18 = .ok (.invokevirtual 123, 3) := by decide +kernel
theorem dX9_often_21 : decode cX9_often 21 = .ok (.astore_n 3, 1) := by decide +kernel
theorem dX9_often_22 : decode cX9_often 22 = .ok (.aload_n 3, 1) := by decide +kernel
theorem dX9_often_23 : decode cX9_often 23 = .ok (.ifnonnull 9, 3) := by decide +kernel
theorem dX9_often_26 : decode cX9_often 26 = .ok (.aload_n 0, 1) := by decide +kernel
theorem dX9_often_27 : decode cX9_often 27 = .ok (.iconst 2, 1) := by decide +kernel
theorem dX9_often_28 : decode cX9_often 28 = .ok (.invokevirtual 80, 3) := by decide +kernel
theorem dX9_often_31 : decode cX9_often 31 = .ok (.ireturn, 1) := by decide +kernel
def mwX9_often : List Cond := .code yX9_often cX9_often 4 (some .int) :: ([.code yX9_isTriple cX9_isTriple 1 (some .boolean), .methodLink RX9 190 yX9_isTriple, .static yX9_isTriple, .initialized RX9, .code yX9_refuse cX9_refuse 2 (some .int), .fieldLink RX9 70 "PatternGate" "lastStatus" "I", .methodLink RX9 80 yX9_refuse, .instanceMethod yX9_refuse, .selects RX9 yX9_refuse yX9_refuse, .fieldLink RX9 29 "PatternGate" "book" "LPatternGate$Book;", .code yX0_docAt cX0_docAt 2 (some (.object "PatternGate$Doc")), .fieldLink RX0 7 "PatternGate$Book" "docs" "[LPatternGate$Doc;", .methodLink RX9 123 yX0_docAt, .instanceMethod yX0_docAt, .selects RX0 yX0_docAt yX0_docAt, .initialized RX0] ++ wsX90 ++ wsX00)
theorem fin_X9_often_X9 : ∀ w ∈ wsX90, w ∈ mwX9_often := fun w h => List.mem_cons_of_mem _ (List.mem_append_left _ (List.mem_append_right _ h))
set_option maxRecDepth 20000 in
theorem mg_X9_often_X9_isTriple_190 : GoodIn mwX9_often (va_wsS RX9 190 yX9_isTriple mwX9_isTriple) := goodIn_r _ [2, 3, 4, 1] (by decide +kernel) (by decide +kernel)
set_option maxRecDepth 20000 in
theorem mg_X9_often_X9_refuse_80 : GoodIn mwX9_often (wsV RX9 80 RX9 yX9_refuse mwX9_refuse) := goodIn_r _ [7, 8, 9, 4, 5, 6, 17, 18, 19, 20, 21, 22, 23, 24, 25, 26, 27, 28, 29, 30, 31, 32] (by decide +kernel) (by decide +kernel)
set_option maxRecDepth 20000 in
theorem mg_X9_often_X0_docAt_123 : GoodIn mwX9_often (wsV RX9 123 RX0 yX0_docAt mwX0_docAt) := goodIn_r _ [13, 14, 15, 16, 11, 12, 33, 34, 35] (by decide +kernel) (by decide +kernel)
set_option maxHeartbeats 4000000 in
set_option maxRecDepth 100000 in
/-- often on a new object -/
theorem c_often (l : Launch) (dC : Nat → ClassId) (dI : Nat → Nat → Nat) (x : Nat) (q : Nat → Nat) (b d0 p0 : Nat) (cT cD cP cB cU : ClassId) (r : Nat → Nat) (sz : Nat) (i0 i1 : Int32) : Met l yX9_often mwX9_often ({ frames := 1, cells := 0, slots := 0, locals := 60 }) (va_Pc [.ref x, .int i0, .int i1] (fun U => U.heap.size = sz ∧ va_P (dC, dI) vwCl (gW x q b d0 p0 cT cD cP cB cU r) U.heap ∧ va_K (dC, dI) vwCl (gT cT cD cP cB cU) U ∧ va_D (fun _ => True) (gW x q b d0 p0 cT cD cP cB cU r))) (va_Qi (fun (o : Int32) (_ : Unit) => o = (-1)) (fun _ _ => True) (va_A (gW x q b d0 p0 cT cD cP cB cU r) sz)) 0 0 (va_A (gW x q b d0 p0 cT cD cP cB cU r) sz) := by
  refine Met.ofW (cc := cX9_often) (maxL := 4) (ret := (some .int)) (by decide +kernel) rfl ?_
  intro p e s m args below meth c s₁ B hml hv
  obtain ⟨rfl, hsz, hP, hK, hD0⟩ := hv
  have hx := B.exec
  have hb := B.bytes
  have hr := B.returns
  have hts := atoms_spec (ws := mwX9_often) B.pre
  have hown : s.vm.findClass RX9 = some m.cls := findClass_of_methodNamed B.named
  have hlocks := B.notSynchronized
  subst hsz
  have hD := hD0.self (sz := s.heap.size)
  generalize hAe : va_A (gW x q b d0 p0 cT cD cP cB cU r) s.heap.size = A at hD ⊢
  have hA : ∀ q : Nat, s.heap.size ≤ q → A q := fun q h => by rw [← hAe]; exact Or.inr h
  have hP : va_P (dC, dI) vwCl [(x, .inr (9, gF q 0 0 (-1) (-1) b 0 0)), (q 0, .inl (cT, 900, .inl (fun _ => 0))), (b, .inr (0, [.ref d0, .ref p0, .null])), (d0, .inl (cD, 0, .inr (.inr (.inr (.inr (fun _ => none)))))), (p0, .inl (cP, 0, .inr (.inr (.inr (.inr (fun _ => none)))))), (q 1, .inl (cB, 3, .inr (.inr (.inr (.inr (fun _ => none)))))), (q 2, .inl (cU, 3, .inl (fun _ => 0))), (q 3, .inr (6, rF r 0 0 0 0 0 0 0 0))] s.heap := hP
  have hD : va_D A [(x, .inr (9, gF q 0 0 (-1) (-1) b 0 0)), (q 0, .inl (cT, 900, .inl (fun _ => 0))), (b, .inr (0, [.ref d0, .ref p0, .null])), (d0, .inl (cD, 0, .inr (.inr (.inr (.inr (fun _ => none)))))), (p0, .inl (cP, 0, .inr (.inr (.inr (.inr (fun _ => none)))))), (q 1, .inl (cB, 3, .inr (.inr (.inr (.inr (fun _ => none)))))), (q 2, .inl (cU, 3, .inl (fun _ => 0))), (q 3, .inr (6, rF r 0 0 0 0 0 0 0 0))] := hD
  have hK : va_K (dC, dI) vwCl [(cT, .int), (cD, .object "PatternGate$Doc"), (cP, .object "PatternGate$Pattern"), (cB, .object "PatternGate$Book"), (cU, .int)] s := hK
  generalize hH : s.heap = H at hP ⊢
  have hS : va_S A s.heap H [] := by rw [← hH]; exact va_S.rf
  have hl := lv_entry ([.ref x, .int i0, .int i1]) (n := 4) (Nat.le_of_ble_eq_true rfl)
  rw [lg_entry_eq]
  generalize (lg_sl ([.ref x, .int i0, .int i1]) ++ List.replicate (4 - (lg_sl ([.ref x, .int i0, .int i1])).length) Slot.unset).toArray = ls at hl ⊢
  have hl : lv_has ls 4 [(0, .ref x), (1, .int i0), (2, .int i1)] := hl
  refine lv_iload_n hx hb dX9_often_0 rfl (lv_at hl 2 rfl) ?_
  refine vp_callSi (W.runS (As := [.int i1]) (rest := []) ⟨hx, hb, hml, hown, hts⟩ (c_isTriple l dC dI i1) (va_cwS 1 hts mg_X9_often_X9_isTriple_190 rfl rfl rfl (by decide +kernel) ⟨Nat.le_of_ble_eq_true rfl, Nat.le_of_ble_eq_true rfl⟩) ⟨fun a U g mk q => ⟨q.1, trivial⟩, fun U hU hW => ⟨rfl, trivial⟩⟩ rfl rfl hl.1 rfl (lv_room (Nat.le_of_ble_eq_true rfl)) dX9_often_1 ⟨Nat.le_of_ble_eq_true rfl, Nat.le_of_ble_eq_true rfl⟩) (fun r_2 hw => ?_)
  rcases hw with rfl | rfl
  · refine lv_if_ne (tgt := 13) hx hb dX9_often_4 (by decide) (fun k_3 => absurd (by decide) k_3) (fun k_3 => ?_)
    refine lv_aload_n hx hb dX9_often_7 rfl (lv_at hl 0 rfl) ?_
    refine lv_iconst (v := 1) hx hb dX9_often_8 (by decide) ?_
    have hPc := hP.sub (ws' := [(x, .inr (9, gF q 0 0 (-1) (-1) b 0 0))]) [0] rfl
    have hKc := hK.sub (tys' := []) [] rfl
    have hDc := hD.sub (ws' := [(x, .inr (9, gF q 0 0 (-1) (-1) b 0 0))]) [0] (by decide) rfl
    have hFc := va_free (wc := [(x, .inr (9, gF q 0 0 (-1) (-1) b 0 0))]) hD hS hA [0] rfl
    refine va_calli (va_runV (As := [.int 1]) (rest := []) ⟨hx, hb, hml, hown, hts⟩ (c_refuse l dC dI x q 0 0 (-1) (-1) b 0 0 H.size 1) (cwV 1 hts mg_X9_often_X9_refuse_80 rfl rfl rfl (by decide +kernel) ⟨Nat.le_of_ble_eq_true rfl, Nat.le_of_ble_eq_true rfl⟩) ⟨fun a U g mk q => by obtain ⟨q0, q1, qP, qK, qD⟩ := q; exact ⟨q0, q1, qP, va_K.moved (u := U) (U := U.calling g mk a) (Vm.Alike.refl U.vm) qK, qD⟩, va_recv hKc hPc (ci := 9) (q0 := 0) rfl rfl, fun U hU hW => ⟨rfl, by rw [hU], by rw [hU]; exact hPc, va_K.moved hW.alike hKc, hDc.weaken (fun _ _ _ _ => trivial)⟩⟩ rfl rfl hl.1 rfl (lv_room (Nat.le_of_ble_eq_true rfl)) dX9_often_9 ⟨Nat.le_of_ble_eq_true rfl, Nat.le_of_ble_eq_true rfl⟩) hS (fun q _ h => hFc q h) hFc (fun r_5 u t H1 locs ht hvm hw hB hz1 hk1 hS => ?_)
    exact W.iret hx hb hr (fun t ht hW => ⟨⟨_, (), rfl, hw, trivial⟩, hS.F ht⟩) hS.2.2 dX9_often_12
  · refine lv_if_ne (tgt := 13) hx hb dX9_often_4 (by decide) (fun k_6 => ?_) (fun k_6 => absurd k_6 (by decide))
    refine lv_aload_n hx hb dX9_often_13 rfl (lv_at hl 0 rfl) ?_
    refine va_get (D := (dC, dI)) (ci := 9) (v := .ref b) (C := RX9) (T := TX9) (N := 16) hx hb hts fin_X9_often_X9 hown hK hP 0 rfl rfl 5 (by decide) (hts (.fieldLink RX9 29 "PatternGate" "book" "LPatternGate$Book;") (List.mem_of_getElem? (i := 10) (by decide +kernel))) (fun _ h9 => h9) rfl dX9_often_14 ?_
    refine lv_iload_n hx hb dX9_often_17 rfl (lv_at hl 1 rfl) ?_
    have hPc := hP.sub (ws' := [(b, .inr (0, [.ref d0, .ref p0, .null])), (d0, .inl (cD, 0, .inr (.inr (.inr (.inr (fun _ => none)))))), (p0, .inl (cP, 0, .inr (.inr (.inr (.inr (fun _ => none))))))]) [2, 3, 4] rfl
    have hKc := hK.sub (tys' := [(cD, .object "PatternGate$Doc"), (cP, .object "PatternGate$Pattern")]) [1, 2] rfl
    refine va_csq (W.runV (As := [.int i0]) (rest := []) ⟨hx, hb, hml, hown, hts⟩ (c_docAt l dC dI b d0 p0 cD cP i0) (cwV 1 hts mg_X9_often_X0_docAt_123 rfl rfl rfl (by decide +kernel) ⟨Nat.le_of_ble_eq_true rfl, Nat.le_of_ble_eq_true rfl⟩) ⟨fun a U g mk q => by obtain ⟨q0, qP, qK⟩ := q; exact ⟨q0, qP, va_K.moved (u := U) (U := U.calling g mk a) (Vm.Alike.refl U.vm) qK⟩, va_recv hKc hPc (ci := 0) (q0 := 0) rfl rfl, fun U hU hW => ⟨rfl, by rw [hU]; exact hPc, va_K.moved hW.alike hKc⟩⟩ rfl rfl hl.1 rfl (lv_room (Nat.le_of_ble_eq_true rfl)) dX9_often_18 ⟨Nat.le_of_ble_eq_true rfl, Nat.le_of_ble_eq_true rfl⟩) (fun r_8 hw => ?_)
    subst hw
    refine W.eq (g2 := F0 m 21 ls [.null]) rfl ?_
    refine lv_astore_nN (lv' := [(3, .null), (0, .ref x), (1, .int i0), (2, .int i1)]) hx hb dX9_often_21 rfl hl (by decide) rfl (fun ls hl => ?_)
    refine lv_aload_nN hx hb dX9_often_22 rfl (lv_at hl 0 rfl) ?_
    refine lv_ifnonnullN hx hb dX9_often_23 ?_
    refine lv_aload_n hx hb dX9_often_26 rfl (lv_at hl 1 rfl) ?_
    refine lv_iconst (v := 2) hx hb dX9_often_27 (by decide) ?_
    have hPc := hP.sub (ws' := [(x, .inr (9, gF q 0 0 (-1) (-1) b 0 0))]) [0] rfl
    have hKc := hK.sub (tys' := []) [] rfl
    have hDc := hD.sub (ws' := [(x, .inr (9, gF q 0 0 (-1) (-1) b 0 0))]) [0] (by decide) rfl
    have hFc := va_free (wc := [(x, .inr (9, gF q 0 0 (-1) (-1) b 0 0))]) hD hS hA [0] rfl
    refine va_calli (va_runV (As := [.int 2]) (rest := []) ⟨hx, hb, hml, hown, hts⟩ (c_refuse l dC dI x q 0 0 (-1) (-1) b 0 0 H.size 2) (cwV 1 hts mg_X9_often_X9_refuse_80 rfl rfl rfl (by decide +kernel) ⟨Nat.le_of_ble_eq_true rfl, Nat.le_of_ble_eq_true rfl⟩) ⟨fun a U g mk q => by obtain ⟨q0, q1, qP, qK, qD⟩ := q; exact ⟨q0, q1, qP, va_K.moved (u := U) (U := U.calling g mk a) (Vm.Alike.refl U.vm) qK, qD⟩, va_recv hKc hPc (ci := 9) (q0 := 0) rfl rfl, fun U hU hW => ⟨rfl, by rw [hU], by rw [hU]; exact hPc, va_K.moved hW.alike hKc, hDc.weaken (fun _ _ _ _ => trivial)⟩⟩ rfl rfl hl.1 rfl (lv_room (Nat.le_of_ble_eq_true rfl)) dX9_often_28 ⟨Nat.le_of_ble_eq_true rfl, Nat.le_of_ble_eq_true rfl⟩) hS (fun q _ h => hFc q h) hFc (fun r_10 u t H1 locs ht hvm hw hB hz1 hk1 hS => ?_)
    exact W.iret hx hb hr (fun t ht hW => ⟨⟨_, (), rfl, hw, trivial⟩, hS.F ht⟩) hS.2.2 dX9_often_31
theorem dX9_gate_0 : decode cX9_gate 0 = .ok (.iload_n 2, 1) := by decide +kernel
theorem dX9_gate_1 : decode cX9_gate 1 = .ok (.ifCond .lt 8, 3) := by decide +kernel
theorem dX9_gate_4 : decode cX9_gate 4 = .ok (.iload_n 2, 1) := by decide +kernel
theorem dX9_gate_5 : decode cX9_gate 5 = .ok (.iconst 3, 1) := by decide +kernel
theorem dX9_gate_6 : decode cX9_gate 6 = .ok (.if_icmp .le 9, 3) := by decide +kernel
theorem dX9_gate_9 : decode cX9_gate 9 = .ok (.aload_n 0, 1) := by decide +kernel
theorem dX9_gate_10 : decode cX9_gate 10 = .ok (.iconst 1, 1) := by decide +kernel
theorem dX9_gate_11 : decode cX9_gate 11 = .ok (.invokevirtual 80, 3) := by decide +kernel
theorem dX9_gate_14 : decode cX9_gate 14 = .ok (.ireturn, 1) := by decide +kernel
theorem dX9_gate_15 : decode cX9_gate 15 = .ok (.aload_n 0, 1) := by decide +kernel
theorem dX9_gate_16 : decode cX9_gate 16 = .ok (.getfield 29, 3) := by decide +kernel
theorem dX9_gate_19 : decode cX9_gate 19 = .ok (.iload_n 1, 1) := by decide +kernel
theorem dX9_gate_20 : decode cX9_gate 20 = .ok (.invokevirtual 140, 3) := by decide +kernel
theorem dX9_gate_23 : decode cX9_gate 23 = .ok (.astore_n 3, 1) := by decide +kernel
theorem dX9_gate_24 : decode cX9_gate 24 = .ok (.aload_n 3, 1) := by decide +kernel
theorem dX9_gate_25 : decode cX9_gate 25 = .ok (.ifnonnull 9, 3) := by decide +kernel
theorem dX9_gate_28 : decode cX9_gate 28 = .ok (.aload_n 0, 1) := by decide +kernel
theorem dX9_gate_29 : decode cX9_gate 29 = .ok (.iconst 2, 1) := by decide +kernel
theorem dX9_gate_30 : decode cX9_gate 30 = .ok (.invokevirtual 80, 3) := by decide +kernel
theorem dX9_gate_33 : decode cX9_gate 33 = .ok (.ireturn, 1) := by decide +kernel
def mwX9_gate : List Cond := .code yX9_gate cX9_gate 4 (some .int) :: ([.code yX9_refuse cX9_refuse 2 (some .int), .fieldLink RX9 70 "PatternGate" "lastStatus" "I", .methodLink RX9 80 yX9_refuse, .instanceMethod yX9_refuse, .selects RX9 yX9_refuse yX9_refuse, .initialized RX9, .fieldLink RX9 29 "PatternGate" "book" "LPatternGate$Book;", .code yX0_patternAt cX0_patternAt 2 (some (.object "PatternGate$Pattern")), .fieldLink RX0 13 "PatternGate$Book" "patterns" "[LPatternGate$Pattern;", .methodLink RX9 140 yX0_patternAt, .instanceMethod yX0_patternAt, .selects RX0 yX0_patternAt yX0_patternAt, .initialized RX0] ++ wsX90 ++ wsX00)
theorem fin_X9_gate_X9 : ∀ w ∈ wsX90, w ∈ mwX9_gate := fun w h => List.mem_cons_of_mem _ (List.mem_append_left _ (List.mem_append_right _ h))
set_option maxRecDepth 20000 in
theorem mg_X9_gate_X9_refuse_80 : GoodIn mwX9_gate (wsV RX9 80 RX9 yX9_refuse mwX9_refuse) := goodIn_r _ [3, 4, 5, 6, 1, 2, 14, 15, 16, 17, 18, 19, 20, 21, 22, 23, 24, 25, 26, 27, 28, 29] (by decide +kernel) (by decide +kernel)
set_option maxRecDepth 20000 in
theorem mg_X9_gate_X0_patternAt_140 : GoodIn mwX9_gate (wsV RX9 140 RX0 yX0_patternAt mwX0_patternAt) := goodIn_r _ [10, 11, 12, 13, 8, 9, 30, 31, 32] (by decide +kernel) (by decide +kernel)
set_option maxHeartbeats 4000000 in
set_option maxRecDepth 100000 in
/-- gate on a new object -/
theorem c_gate (l : Launch) (dC : Nat → ClassId) (dI : Nat → Nat → Nat) (x : Nat) (q : Nat → Nat) (b d0 p0 : Nat) (cT cD cP cB cU : ClassId) (r : Nat → Nat) (sz : Nat) (i0 i1 : Int32) : Met l yX9_gate mwX9_gate ({ frames := 1, cells := 0, slots := 0, locals := 60 }) (va_Pc [.ref x, .int i0, .int i1] (fun U => U.heap.size = sz ∧ va_P (dC, dI) vwCl (gW x q b d0 p0 cT cD cP cB cU r) U.heap ∧ va_K (dC, dI) vwCl (gT cT cD cP cB cU) U ∧ va_D (fun _ => True) (gW x q b d0 p0 cT cD cP cB cU r))) (va_Qi (fun (o : Int32) (_ : Unit) => o = (-1)) (fun _ _ => True) (va_A (gW x q b d0 p0 cT cD cP cB cU r) sz)) 0 0 (va_A (gW x q b d0 p0 cT cD cP cB cU r) sz) := by
  refine Met.ofW (cc := cX9_gate) (maxL := 4) (ret := (some .int)) (by decide +kernel) rfl ?_
  intro p e s m args below meth c s₁ B hml hv
  obtain ⟨rfl, hsz, hP, hK, hD0⟩ := hv
  have hx := B.exec
  have hb := B.bytes
  have hr := B.returns
  have hts := atoms_spec (ws := mwX9_gate) B.pre
  have hown : s.vm.findClass RX9 = some m.cls := findClass_of_methodNamed B.named
  have hlocks := B.notSynchronized
  subst hsz
  have hD := hD0.self (sz := s.heap.size)
  generalize hAe : va_A (gW x q b d0 p0 cT cD cP cB cU r) s.heap.size = A at hD ⊢
  have hA : ∀ q : Nat, s.heap.size ≤ q → A q := fun q h => by rw [← hAe]; exact Or.inr h
  have hP : va_P (dC, dI) vwCl [(x, .inr (9, gF q 0 0 (-1) (-1) b 0 0)), (q 0, .inl (cT, 900, .inl (fun _ => 0))), (b, .inr (0, [.ref d0, .ref p0, .null])), (d0, .inl (cD, 0, .inr (.inr (.inr (.inr (fun _ => none)))))), (p0, .inl (cP, 0, .inr (.inr (.inr (.inr (fun _ => none)))))), (q 1, .inl (cB, 3, .inr (.inr (.inr (.inr (fun _ => none)))))), (q 2, .inl (cU, 3, .inl (fun _ => 0))), (q 3, .inr (6, rF r 0 0 0 0 0 0 0 0))] s.heap := hP
  have hD : va_D A [(x, .inr (9, gF q 0 0 (-1) (-1) b 0 0)), (q 0, .inl (cT, 900, .inl (fun _ => 0))), (b, .inr (0, [.ref d0, .ref p0, .null])), (d0, .inl (cD, 0, .inr (.inr (.inr (.inr (fun _ => none)))))), (p0, .inl (cP, 0, .inr (.inr (.inr (.inr (fun _ => none)))))), (q 1, .inl (cB, 3, .inr (.inr (.inr (.inr (fun _ => none)))))), (q 2, .inl (cU, 3, .inl (fun _ => 0))), (q 3, .inr (6, rF r 0 0 0 0 0 0 0 0))] := hD
  have hK : va_K (dC, dI) vwCl [(cT, .int), (cD, .object "PatternGate$Doc"), (cP, .object "PatternGate$Pattern"), (cB, .object "PatternGate$Book"), (cU, .int)] s := hK
  generalize hH : s.heap = H at hP ⊢
  have hS : va_S A s.heap H [] := by rw [← hH]; exact va_S.rf
  have hl := lv_entry ([.ref x, .int i0, .int i1]) (n := 4) (Nat.le_of_ble_eq_true rfl)
  rw [lg_entry_eq]
  generalize (lg_sl ([.ref x, .int i0, .int i1]) ++ List.replicate (4 - (lg_sl ([.ref x, .int i0, .int i1])).length) Slot.unset).toArray = ls at hl ⊢
  have hl : lv_has ls 4 [(0, .ref x), (1, .int i0), (2, .int i1)] := hl
  refine lv_iload_n hx hb dX9_gate_0 rfl (lv_at hl 2 rfl) ?_
  refine lv_if_lt (tgt := 9) hx hb dX9_gate_1 (by decide) (fun k_1 => ?_) (fun k_1 => ?_)
  · refine lv_aload_n hx hb dX9_gate_9 rfl (lv_at hl 0 rfl) ?_
    refine lv_iconst (v := 1) hx hb dX9_gate_10 (by decide) ?_
    have hPc := hP.sub (ws' := [(x, .inr (9, gF q 0 0 (-1) (-1) b 0 0))]) [0] rfl
    have hKc := hK.sub (tys' := []) [] rfl
    have hDc := hD.sub (ws' := [(x, .inr (9, gF q 0 0 (-1) (-1) b 0 0))]) [0] (by decide) rfl
    have hFc := va_free (wc := [(x, .inr (9, gF q 0 0 (-1) (-1) b 0 0))]) hD hS hA [0] rfl
    refine va_calli (va_runV (As := [.int 1]) (rest := []) ⟨hx, hb, hml, hown, hts⟩ (c_refuse l dC dI x q 0 0 (-1) (-1) b 0 0 H.size 1) (cwV 1 hts mg_X9_gate_X9_refuse_80 rfl rfl rfl (by decide +kernel) ⟨Nat.le_of_ble_eq_true rfl, Nat.le_of_ble_eq_true rfl⟩) ⟨fun a U g mk q => by obtain ⟨q0, q1, qP, qK, qD⟩ := q; exact ⟨q0, q1, qP, va_K.moved (u := U) (U := U.calling g mk a) (Vm.Alike.refl U.vm) qK, qD⟩, va_recv hKc hPc (ci := 9) (q0 := 0) rfl rfl, fun U hU hW => ⟨rfl, by rw [hU], by rw [hU]; exact hPc, va_K.moved hW.alike hKc, hDc.weaken (fun _ _ _ _ => trivial)⟩⟩ rfl rfl hl.1 rfl (lv_room (Nat.le_of_ble_eq_true rfl)) dX9_gate_11 ⟨Nat.le_of_ble_eq_true rfl, Nat.le_of_ble_eq_true rfl⟩) hS (fun q _ h => hFc q h) hFc (fun r_3 u t H1 locs ht hvm hw hB hz1 hk1 hS => ?_)
    exact W.iret hx hb hr (fun t ht hW => ⟨⟨_, (), rfl, hw, trivial⟩, hS.F ht⟩) hS.2.2 dX9_gate_14
  · refine lv_iload_n hx hb dX9_gate_4 rfl (lv_at hl 2 rfl) ?_
    refine lv_iconst (v := 3) hx hb dX9_gate_5 (by decide) ?_
    refine lv_icmp_le (tgt := 15) hx hb dX9_gate_6 (by decide) (fun k_4 => ?_) (fun k_4 => ?_)
    · refine lv_aload_n hx hb dX9_gate_15 rfl (lv_at hl 0 rfl) ?_
      refine va_get (D := (dC, dI)) (ci := 9) (v := .ref b) (C := RX9) (T := TX9) (N := 16) hx hb hts fin_X9_gate_X9 hown hK hP 0 rfl rfl 5 (by decide) (hts (.fieldLink RX9 29 "PatternGate" "book" "LPatternGate$Book;") (List.mem_of_getElem? (i := 7) (by decide +kernel))) (fun _ h9 => h9) rfl dX9_gate_16 ?_
      refine lv_iload_n hx hb dX9_gate_19 rfl (lv_at hl 1 rfl) ?_
      have hPc := hP.sub (ws' := [(b, .inr (0, [.ref d0, .ref p0, .null])), (d0, .inl (cD, 0, .inr (.inr (.inr (.inr (fun _ => none)))))), (p0, .inl (cP, 0, .inr (.inr (.inr (.inr (fun _ => none))))))]) [2, 3, 4] rfl
      have hKc := hK.sub (tys' := [(cD, .object "PatternGate$Doc"), (cP, .object "PatternGate$Pattern")]) [1, 2] rfl
      refine va_csq (W.runV (As := [.int i0]) (rest := []) ⟨hx, hb, hml, hown, hts⟩ (c_patternAt l dC dI b d0 p0 cD cP i0) (cwV 1 hts mg_X9_gate_X0_patternAt_140 rfl rfl rfl (by decide +kernel) ⟨Nat.le_of_ble_eq_true rfl, Nat.le_of_ble_eq_true rfl⟩) ⟨fun a U g mk q => by obtain ⟨q0, qP, qK⟩ := q; exact ⟨q0, qP, va_K.moved (u := U) (U := U.calling g mk a) (Vm.Alike.refl U.vm) qK⟩, va_recv hKc hPc (ci := 0) (q0 := 0) rfl rfl, fun U hU hW => ⟨rfl, by rw [hU]; exact hPc, va_K.moved hW.alike hKc⟩⟩ rfl rfl hl.1 rfl (lv_room (Nat.le_of_ble_eq_true rfl)) dX9_gate_20 ⟨Nat.le_of_ble_eq_true rfl, Nat.le_of_ble_eq_true rfl⟩) (fun r_6 hw => ?_)
      subst hw
      refine W.eq (g2 := F0 m 23 ls [.null]) rfl ?_
      refine lv_astore_nN (lv' := [(3, .null), (0, .ref x), (1, .int i0), (2, .int i1)]) hx hb dX9_gate_23 rfl hl (by decide) rfl (fun ls hl => ?_)
      refine lv_aload_nN hx hb dX9_gate_24 rfl (lv_at hl 0 rfl) ?_
      refine lv_ifnonnullN hx hb dX9_gate_25 ?_
      refine lv_aload_n hx hb dX9_gate_28 rfl (lv_at hl 1 rfl) ?_
      refine lv_iconst (v := 2) hx hb dX9_gate_29 (by decide) ?_
      have hPc := hP.sub (ws' := [(x, .inr (9, gF q 0 0 (-1) (-1) b 0 0))]) [0] rfl
      have hKc := hK.sub (tys' := []) [] rfl
      have hDc := hD.sub (ws' := [(x, .inr (9, gF q 0 0 (-1) (-1) b 0 0))]) [0] (by decide) rfl
      have hFc := va_free (wc := [(x, .inr (9, gF q 0 0 (-1) (-1) b 0 0))]) hD hS hA [0] rfl
      refine va_calli (va_runV (As := [.int 2]) (rest := []) ⟨hx, hb, hml, hown, hts⟩ (c_refuse l dC dI x q 0 0 (-1) (-1) b 0 0 H.size 2) (cwV 1 hts mg_X9_gate_X9_refuse_80 rfl rfl rfl (by decide +kernel) ⟨Nat.le_of_ble_eq_true rfl, Nat.le_of_ble_eq_true rfl⟩) ⟨fun a U g mk q => by obtain ⟨q0, q1, qP, qK, qD⟩ := q; exact ⟨q0, q1, qP, va_K.moved (u := U) (U := U.calling g mk a) (Vm.Alike.refl U.vm) qK, qD⟩, va_recv hKc hPc (ci := 9) (q0 := 0) rfl rfl, fun U hU hW => ⟨rfl, by rw [hU], by rw [hU]; exact hPc, va_K.moved hW.alike hKc, hDc.weaken (fun _ _ _ _ => trivial)⟩⟩ rfl rfl hl.1 rfl (lv_room (Nat.le_of_ble_eq_true rfl)) dX9_gate_30 ⟨Nat.le_of_ble_eq_true rfl, Nat.le_of_ble_eq_true rfl⟩) hS (fun q _ h => hFc q h) hFc (fun r_8 u t H1 locs ht hvm hw hB hz1 hk1 hS => ?_)
      exact W.iret hx hb hr (fun t ht hW => ⟨⟨_, (), rfl, hw, trivial⟩, hS.F ht⟩) hS.2.2 dX9_gate_33
    · refine lv_aload_n hx hb dX9_gate_9 rfl (lv_at hl 0 rfl) ?_
      refine lv_iconst (v := 1) hx hb dX9_gate_10 (by decide) ?_
      have hPc := hP.sub (ws' := [(x, .inr (9, gF q 0 0 (-1) (-1) b 0 0))]) [0] rfl
      have hKc := hK.sub (tys' := []) [] rfl
      have hDc := hD.sub (ws' := [(x, .inr (9, gF q 0 0 (-1) (-1) b 0 0))]) [0] (by decide) rfl
      have hFc := va_free (wc := [(x, .inr (9, gF q 0 0 (-1) (-1) b 0 0))]) hD hS hA [0] rfl
      refine va_calli (va_runV (As := [.int 1]) (rest := []) ⟨hx, hb, hml, hown, hts⟩ (c_refuse l dC dI x q 0 0 (-1) (-1) b 0 0 H.size 1) (cwV 1 hts mg_X9_gate_X9_refuse_80 rfl rfl rfl (by decide +kernel) ⟨Nat.le_of_ble_eq_true rfl, Nat.le_of_ble_eq_true rfl⟩) ⟨fun a U g mk q => by obtain ⟨q0, q1, qP, qK, qD⟩ := q; exact ⟨q0, q1, qP, va_K.moved (u := U) (U := U.calling g mk a) (Vm.Alike.refl U.vm) qK, qD⟩, va_recv hKc hPc (ci := 9) (q0 := 0) rfl rfl, fun U hU hW => ⟨rfl, by rw [hU], by rw [hU]; exact hPc, va_K.moved hW.alike hKc, hDc.weaken (fun _ _ _ _ => trivial)⟩⟩ rfl rfl hl.1 rfl (lv_room (Nat.le_of_ble_eq_true rfl)) dX9_gate_11 ⟨Nat.le_of_ble_eq_true rfl, Nat.le_of_ble_eq_true rfl⟩) hS (fun q _ h => hFc q h) hFc (fun r_10 u t H1 locs ht hvm hw hB hz1 hk1 hS => ?_)
      exact W.iret hx hb hr (fun t ht hW => ⟨⟨_, (), rfl, hw, trivial⟩, hS.F ht⟩) hS.2.2 dX9_gate_14
theorem dX9_match_0 : decode cX9_match 0 = .ok (.iload_n 3, 1) := by decide +kernel
theorem dX9_match_1 : decode cX9_match 1 = .ok (.ifCond .lt 8, 3) := by decide +kernel
theorem dX9_match_4 : decode cX9_match 4 = .ok (.iload_n 3, 1) := by decide +kernel
theorem dX9_match_5 : decode cX9_match 5 = .ok (.iconst 2, 1) := by decide +kernel
theorem dX9_match_6 : decode cX9_match 6 = .ok (.if_icmp .le 9, 3) := by decide +kernel
theorem dX9_match_9 : decode cX9_match 9 = .ok (.aload_n 0, 1) := by decide +kernel
theorem dX9_match_10 : decode cX9_match 10 = .ok (.iconst 1, 1) := by decide +kernel
theorem dX9_match_11 : decode cX9_match 11 = .ok (.invokevirtual 80, 3) := by decide +kernel
theorem dX9_match_14 : decode cX9_match 14 = .ok (.ireturn, 1) := by decide +kernel
theorem dX9_match_15 : decode cX9_match 15 = .ok (.aload_n 0, 1) := by decide +kernel
theorem dX9_match_16 : decode cX9_match 16 = .ok (.getfield 29, 3) := by decide +kernel
theorem dX9_match_19 : decode cX9_match 19 = .ok (.iload_n 1, 1) := by decide +kernel
theorem dX9_match_20 : decode cX9_match 20 = .ok (.invokevirtual 140, 3) := by decide +kernel
theorem dX9_match_23 : decode cX9_match 23 = .ok (.astore 4, 2) := by decide +kernel
theorem dX9_match_25 : decode cX9_match 25 = .ok (.aload_n 0, 1) := by decide +kernel
theorem dX9_match_26 : decode cX9_match 26 = .ok (.getfield 29, 3) := by decide +kernel
theorem dX9_match_29 : decode cX9_match 29 = .ok (.iload_n 2, 1) := by decide +kernel
theorem dX9_match_30 : decode cX9_match 30 = .ok (.invokevirtual 123, 3) := by decide +kernel
theorem dX9_match_33 : decode cX9_match 33 = .ok (.astore 5, 2) := by decide +kernel
theorem dX9_match_35 : decode cX9_match 35 = .ok (.aload 4, 2) := by decide +kernel
theorem dX9_match_37 : decode cX9_match 37 = .ok (.ifnull 8, 3) := by decide +kernel
theorem dX9_match_45 : decode cX9_match 45 = .ok (.aload_n 0, 1) := by decide +kernel
theorem dX9_match_46 : decode cX9_match 46 = .ok (.iconst 2, 1) := by decide +kernel
theorem dX9_match_47 : decode cX9_match 47 = .ok (.invokevirtual 80, 3) := by decide +kernel
theorem dX9_match_50 : decode cX9_match 50 = .ok (.ireturn, 1) := by decide +kernel
def mwX9_match : List Cond := .code yX9_match cX9_match 7 (some .int) :: ([.code yX9_refuse cX9_refuse 2 (some .int), .fieldLink RX9 70 "PatternGate" "lastStatus" "I", .methodLink RX9 80 yX9_refuse, .instanceMethod yX9_refuse, .selects RX9 yX9_refuse yX9_refuse, .initialized RX9, .fieldLink RX9 29 "PatternGate" "book" "LPatternGate$Book;", .code yX0_patternAt cX0_patternAt 2 (some (.object "PatternGate$Pattern")), .fieldLink RX0 13 "PatternGate$Book" "patterns" "[LPatternGate$Pattern;", .methodLink RX9 140 yX0_patternAt, .instanceMethod yX0_patternAt, .selects RX0 yX0_patternAt yX0_patternAt, .initialized RX0, .code yX0_docAt cX0_docAt 2 (some (.object "PatternGate$Doc")), .fieldLink RX0 7 "PatternGate$Book" "docs" "[LPatternGate$Doc;", .methodLink RX9 123 yX0_docAt, .instanceMethod yX0_docAt, .selects RX0 yX0_docAt yX0_docAt] ++ wsX90 ++ wsX00)
theorem fin_X9_match_X9 : ∀ w ∈ wsX90, w ∈ mwX9_match := fun w h => List.mem_cons_of_mem _ (List.mem_append_left _ (List.mem_append_right _ h))
set_option maxRecDepth 20000 in
theorem mg_X9_match_X9_refuse_80 : GoodIn mwX9_match (wsV RX9 80 RX9 yX9_refuse mwX9_refuse) := goodIn_r _ [3, 4, 5, 6, 1, 2, 19, 20, 21, 22, 23, 24, 25, 26, 27, 28, 29, 30, 31, 32, 33, 34] (by decide +kernel) (by decide +kernel)
set_option maxRecDepth 20000 in
theorem mg_X9_match_X0_patternAt_140 : GoodIn mwX9_match (wsV RX9 140 RX0 yX0_patternAt mwX0_patternAt) := goodIn_r _ [10, 11, 12, 13, 8, 9, 35, 36, 37] (by decide +kernel) (by decide +kernel)
set_option maxRecDepth 20000 in
theorem mg_X9_match_X0_docAt_123 : GoodIn mwX9_match (wsV RX9 123 RX0 yX0_docAt mwX0_docAt) := goodIn_r _ [16, 17, 18, 13, 14, 15, 35, 36, 37] (by decide +kernel) (by decide +kernel)
set_option maxHeartbeats 4000000 in
set_option maxRecDepth 100000 in
/-- match on a new object -/
theorem c_match (l : Launch) (dC : Nat → ClassId) (dI : Nat → Nat → Nat) (x : Nat) (q : Nat → Nat) (b d0 p0 : Nat) (cT cD cP cB cU : ClassId) (r : Nat → Nat) (sz : Nat) (i0 i1 i2 : Int32) : Met l yX9_match mwX9_match ({ frames := 1, cells := 0, slots := 0, locals := 60 }) (va_Pc [.ref x, .int i0, .int i1, .int i2] (fun U => U.heap.size = sz ∧ va_P (dC, dI) vwCl (gW x q b d0 p0 cT cD cP cB cU r) U.heap ∧ va_K (dC, dI) vwCl (gT cT cD cP cB cU) U ∧ va_D (fun _ => True) (gW x q b d0 p0 cT cD cP cB cU r))) (va_Qi (fun (o : Int32) (_ : Unit) => o = (-1)) (fun _ _ => True) (va_A (gW x q b d0 p0 cT cD cP cB cU r) sz)) 0 0 (va_A (gW x q b d0 p0 cT cD cP cB cU r) sz) := by
  refine Met.ofW (cc := cX9_match) (maxL := 7) (ret := (some .int)) (by decide +kernel) rfl ?_
  intro p e s m args below meth c s₁ B hml hv
  obtain ⟨rfl, hsz, hP, hK, hD0⟩ := hv
  have hx := B.exec
  have hb := B.bytes
  have hr := B.returns
  have hts := atoms_spec (ws := mwX9_match) B.pre
  have hown : s.vm.findClass RX9 = some m.cls := findClass_of_methodNamed B.named
  have hlocks := B.notSynchronized
  subst hsz
  have hD := hD0.self (sz := s.heap.size)
  generalize hAe : va_A (gW x q b d0 p0 cT cD cP cB cU r) s.heap.size = A at hD ⊢
  have hA : ∀ q : Nat, s.heap.size ≤ q → A q := fun q h => by rw [← hAe]; exact Or.inr h
  have hP : va_P (dC, dI) vwCl [(x, .inr (9, gF q 0 0 (-1) (-1) b 0 0)), (q 0, .inl (cT, 900, .inl (fun _ => 0))), (b, .inr (0, [.ref d0, .ref p0, .null])), (d0, .inl (cD, 0, .inr (.inr (.inr (.inr (fun _ => none)))))), (p0, .inl (cP, 0, .inr (.inr (.inr (.inr (fun _ => none)))))), (q 1, .inl (cB, 3, .inr (.inr (.inr (.inr (fun _ => none)))))), (q 2, .inl (cU, 3, .inl (fun _ => 0))), (q 3, .inr (6, rF r 0 0 0 0 0 0 0 0))] s.heap := hP
  have hD : va_D A [(x, .inr (9, gF q 0 0 (-1) (-1) b 0 0)), (q 0, .inl (cT, 900, .inl (fun _ => 0))), (b, .inr (0, [.ref d0, .ref p0, .null])), (d0, .inl (cD, 0, .inr (.inr (.inr (.inr (fun _ => none)))))), (p0, .inl (cP, 0, .inr (.inr (.inr (.inr (fun _ => none)))))), (q 1, .inl (cB, 3, .inr (.inr (.inr (.inr (fun _ => none)))))), (q 2, .inl (cU, 3, .inl (fun _ => 0))), (q 3, .inr (6, rF r 0 0 0 0 0 0 0 0))] := hD
  have hK : va_K (dC, dI) vwCl [(cT, .int), (cD, .object "PatternGate$Doc"), (cP, .object "PatternGate$Pattern"), (cB, .object "PatternGate$Book"), (cU, .int)] s := hK
  generalize hH : s.heap = H at hP ⊢
  have hS : va_S A s.heap H [] := by rw [← hH]; exact va_S.rf
  have hl := lv_entry ([.ref x, .int i0, .int i1, .int i2]) (n := 7) (Nat.le_of_ble_eq_true rfl)
  rw [lg_entry_eq]
  generalize (lg_sl ([.ref x, .int i0, .int i1, .int i2]) ++ List.replicate (7 - (lg_sl ([.ref x, .int i0, .int i1, .int i2])).length) Slot.unset).toArray = ls at hl ⊢
  have hl : lv_has ls 7 [(0, .ref x), (1, .int i0), (2, .int i1), (3, .int i2)] := hl
  refine lv_iload_n hx hb dX9_match_0 rfl (lv_at hl 3 rfl) ?_
  refine lv_if_lt (tgt := 9) hx hb dX9_match_1 (by decide) (fun k_1 => ?_) (fun k_1 => ?_)
  · refine lv_aload_n hx hb dX9_match_9 rfl (lv_at hl 0 rfl) ?_
    refine lv_iconst (v := 1) hx hb dX9_match_10 (by decide) ?_
    have hPc := hP.sub (ws' := [(x, .inr (9, gF q 0 0 (-1) (-1) b 0 0))]) [0] rfl
    have hKc := hK.sub (tys' := []) [] rfl
    have hDc := hD.sub (ws' := [(x, .inr (9, gF q 0 0 (-1) (-1) b 0 0))]) [0] (by decide) rfl
    have hFc := va_free (wc := [(x, .inr (9, gF q 0 0 (-1) (-1) b 0 0))]) hD hS hA [0] rfl
    refine va_calli (va_runV (As := [.int 1]) (rest := []) ⟨hx, hb, hml, hown, hts⟩ (c_refuse l dC dI x q 0 0 (-1) (-1) b 0 0 H.size 1) (cwV 1 hts mg_X9_match_X9_refuse_80 rfl rfl rfl (by decide +kernel) ⟨Nat.le_of_ble_eq_true rfl, Nat.le_of_ble_eq_true rfl⟩) ⟨fun a U g mk q => by obtain ⟨q0, q1, qP, qK, qD⟩ := q; exact ⟨q0, q1, qP, va_K.moved (u := U) (U := U.calling g mk a) (Vm.Alike.refl U.vm) qK, qD⟩, va_recv hKc hPc (ci := 9) (q0 := 0) rfl rfl, fun U hU hW => ⟨rfl, by rw [hU], by rw [hU]; exact hPc, va_K.moved hW.alike hKc, hDc.weaken (fun _ _ _ _ => trivial)⟩⟩ rfl rfl hl.1 rfl (lv_room (Nat.le_of_ble_eq_true rfl)) dX9_match_11 ⟨Nat.le_of_ble_eq_true rfl, Nat.le_of_ble_eq_true rfl⟩) hS (fun q _ h => hFc q h) hFc (fun r_3 u t H1 locs ht hvm hw hB hz1 hk1 hS => ?_)
    exact W.iret hx hb hr (fun t ht hW => ⟨⟨_, (), rfl, hw, trivial⟩, hS.F ht⟩) hS.2.2 dX9_match_14
  · refine lv_iload_n hx hb dX9_match_4 rfl (lv_at hl 3 rfl) ?_
    refine lv_iconst (v := 2) hx hb dX9_match_5 (by decide) ?_
    refine lv_icmp_le (tgt := 15) hx hb dX9_match_6 (by decide) (fun k_4 => ?_) (fun k_4 => ?_)
    · refine lv_aload_n hx hb dX9_match_15 rfl (lv_at hl 0 rfl) ?_
      refine va_get (D := (dC, dI)) (ci := 9) (v := .ref b) (C := RX9) (T := TX9) (N := 16) hx hb hts fin_X9_match_X9 hown hK hP 0 rfl rfl 5 (by decide) (hts (.fieldLink RX9 29 "PatternGate" "book" "LPatternGate$Book;") (List.mem_of_getElem? (i := 7) (by decide +kernel))) (fun _ h9 => h9) rfl dX9_match_16 ?_
      refine lv_iload_n hx hb dX9_match_19 rfl (lv_at hl 1 rfl) ?_
      have hPc := hP.sub (ws' := [(b, .inr (0, [.ref d0, .ref p0, .null])), (d0, .inl (cD, 0, .inr (.inr (.inr (.inr (fun _ => none)))))), (p0, .inl (cP, 0, .inr (.inr (.inr (.inr (fun _ => none))))))]) [2, 3, 4] rfl
      have hKc := hK.sub (tys' := [(cD, .object "PatternGate$Doc"), (cP, .object "PatternGate$Pattern")]) [1, 2] rfl
      refine va_csq (W.runV (As := [.int i0]) (rest := []) ⟨hx, hb, hml, hown, hts⟩ (c_patternAt l dC dI b d0 p0 cD cP i0) (cwV 1 hts mg_X9_match_X0_patternAt_140 rfl rfl rfl (by decide +kernel) ⟨Nat.le_of_ble_eq_true rfl, Nat.le_of_ble_eq_true rfl⟩) ⟨fun a U g mk q => by obtain ⟨q0, qP, qK⟩ := q; exact ⟨q0, qP, va_K.moved (u := U) (U := U.calling g mk a) (Vm.Alike.refl U.vm) qK⟩, va_recv hKc hPc (ci := 0) (q0 := 0) rfl rfl, fun U hU hW => ⟨rfl, by rw [hU]; exact hPc, va_K.moved hW.alike hKc⟩⟩ rfl rfl hl.1 rfl (lv_room (Nat.le_of_ble_eq_true rfl)) dX9_match_20 ⟨Nat.le_of_ble_eq_true rfl, Nat.le_of_ble_eq_true rfl⟩) (fun r_6 hw => ?_)
      subst hw
      refine W.eq (g2 := F0 m 23 ls [.null]) rfl ?_
      refine lv_astoreN (lv' := [(4, .null), (0, .ref x), (1, .int i0), (2, .int i1), (3, .int i2)]) hx hb dX9_match_23 hl (by decide) rfl (fun ls hl => ?_)
      refine lv_aload_n hx hb dX9_match_25 rfl (lv_at hl 1 rfl) ?_
      refine va_get (D := (dC, dI)) (ci := 9) (v := .ref b) (C := RX9) (T := TX9) (N := 16) hx hb hts fin_X9_match_X9 hown hK hP 0 rfl rfl 5 (by decide) (hts (.fieldLink RX9 29 "PatternGate" "book" "LPatternGate$Book;") (List.mem_of_getElem? (i := 7) (by decide +kernel))) (fun _ h9 => h9) rfl dX9_match_26 ?_
      refine lv_iload_n hx hb dX9_match_29 rfl (lv_at hl 3 rfl) ?_
      have hPc := hP.sub (ws' := [(b, .inr (0, [.ref d0, .ref p0, .null])), (d0, .inl (cD, 0, .inr (.inr (.inr (.inr (fun _ => none)))))), (p0, .inl (cP, 0, .inr (.inr (.inr (.inr (fun _ => none))))))]) [2, 3, 4] rfl
      have hKc := hK.sub (tys' := [(cD, .object "PatternGate$Doc"), (cP, .object "PatternGate$Pattern")]) [1, 2] rfl
      refine va_csq (W.runV (As := [.int i1]) (rest := []) ⟨hx, hb, hml, hown, hts⟩ (c_docAt l dC dI b d0 p0 cD cP i1) (cwV 1 hts mg_X9_match_X0_docAt_123 rfl rfl rfl (by decide +kernel) ⟨Nat.le_of_ble_eq_true rfl, Nat.le_of_ble_eq_true rfl⟩) ⟨fun a U g mk q => by obtain ⟨q0, qP, qK⟩ := q; exact ⟨q0, qP, va_K.moved (u := U) (U := U.calling g mk a) (Vm.Alike.refl U.vm) qK⟩, va_recv hKc hPc (ci := 0) (q0 := 0) rfl rfl, fun U hU hW => ⟨rfl, by rw [hU]; exact hPc, va_K.moved hW.alike hKc⟩⟩ rfl rfl hl.1 rfl (lv_room (Nat.le_of_ble_eq_true rfl)) dX9_match_30 ⟨Nat.le_of_ble_eq_true rfl, Nat.le_of_ble_eq_true rfl⟩) (fun r_8 hw => ?_)
      subst hw
      refine W.eq (g2 := F0 m 33 ls [.null]) rfl ?_
      refine lv_astoreN (lv' := [(5, .null), (4, .null), (0, .ref x), (1, .int i0), (2, .int i1), (3, .int i2)]) hx hb dX9_match_33 hl (by decide) rfl (fun ls hl => ?_)
      refine lv_aloadN hx hb dX9_match_35 (lv_at hl 1 rfl) ?_
      refine lv_ifnullN (tgt := 45) hx hb dX9_match_37 (by decide) ?_
      refine lv_aload_n hx hb dX9_match_45 rfl (lv_at hl 2 rfl) ?_
      refine lv_iconst (v := 2) hx hb dX9_match_46 (by decide) ?_
      have hPc := hP.sub (ws' := [(x, .inr (9, gF q 0 0 (-1) (-1) b 0 0))]) [0] rfl
      have hKc := hK.sub (tys' := []) [] rfl
      have hDc := hD.sub (ws' := [(x, .inr (9, gF q 0 0 (-1) (-1) b 0 0))]) [0] (by decide) rfl
      have hFc := va_free (wc := [(x, .inr (9, gF q 0 0 (-1) (-1) b 0 0))]) hD hS hA [0] rfl
      refine va_calli (va_runV (As := [.int 2]) (rest := []) ⟨hx, hb, hml, hown, hts⟩ (c_refuse l dC dI x q 0 0 (-1) (-1) b 0 0 H.size 2) (cwV 1 hts mg_X9_match_X9_refuse_80 rfl rfl rfl (by decide +kernel) ⟨Nat.le_of_ble_eq_true rfl, Nat.le_of_ble_eq_true rfl⟩) ⟨fun a U g mk q => by obtain ⟨q0, q1, qP, qK, qD⟩ := q; exact ⟨q0, q1, qP, va_K.moved (u := U) (U := U.calling g mk a) (Vm.Alike.refl U.vm) qK, qD⟩, va_recv hKc hPc (ci := 9) (q0 := 0) rfl rfl, fun U hU hW => ⟨rfl, by rw [hU], by rw [hU]; exact hPc, va_K.moved hW.alike hKc, hDc.weaken (fun _ _ _ _ => trivial)⟩⟩ rfl rfl hl.1 rfl (lv_room (Nat.le_of_ble_eq_true rfl)) dX9_match_47 ⟨Nat.le_of_ble_eq_true rfl, Nat.le_of_ble_eq_true rfl⟩) hS (fun q _ h => hFc q h) hFc (fun r_10 u t H1 locs ht hvm hw hB hz1 hk1 hS => ?_)
      exact W.iret hx hb hr (fun t ht hW => ⟨⟨_, (), rfl, hw, trivial⟩, hS.F ht⟩) hS.2.2 dX9_match_50
    · refine lv_aload_n hx hb dX9_match_9 rfl (lv_at hl 0 rfl) ?_
      refine lv_iconst (v := 1) hx hb dX9_match_10 (by decide) ?_
      have hPc := hP.sub (ws' := [(x, .inr (9, gF q 0 0 (-1) (-1) b 0 0))]) [0] rfl
      have hKc := hK.sub (tys' := []) [] rfl
      have hDc := hD.sub (ws' := [(x, .inr (9, gF q 0 0 (-1) (-1) b 0 0))]) [0] (by decide) rfl
      have hFc := va_free (wc := [(x, .inr (9, gF q 0 0 (-1) (-1) b 0 0))]) hD hS hA [0] rfl
      refine va_calli (va_runV (As := [.int 1]) (rest := []) ⟨hx, hb, hml, hown, hts⟩ (c_refuse l dC dI x q 0 0 (-1) (-1) b 0 0 H.size 1) (cwV 1 hts mg_X9_match_X9_refuse_80 rfl rfl rfl (by decide +kernel) ⟨Nat.le_of_ble_eq_true rfl, Nat.le_of_ble_eq_true rfl⟩) ⟨fun a U g mk q => by obtain ⟨q0, q1, qP, qK, qD⟩ := q; exact ⟨q0, q1, qP, va_K.moved (u := U) (U := U.calling g mk a) (Vm.Alike.refl U.vm) qK, qD⟩, va_recv hKc hPc (ci := 9) (q0 := 0) rfl rfl, fun U hU hW => ⟨rfl, by rw [hU], by rw [hU]; exact hPc, va_K.moved hW.alike hKc, hDc.weaken (fun _ _ _ _ => trivial)⟩⟩ rfl rfl hl.1 rfl (lv_room (Nat.le_of_ble_eq_true rfl)) dX9_match_11 ⟨Nat.le_of_ble_eq_true rfl, Nat.le_of_ble_eq_true rfl⟩) hS (fun q _ h => hFc q h) hFc (fun r_12 u t H1 locs ht hvm hw hB hz1 hk1 hS => ?_)
      exact W.iret hx hb hr (fun t ht hW => ⟨⟨_, (), rfl, hw, trivial⟩, hS.F ht⟩) hS.2.2 dX9_match_14
theorem dX9_alive_0 : decode cX9_alive 0 = .ok (.iload_n 3, 1) := by decide +kernel
theorem dX9_alive_1 : decode cX9_alive 1 = .ok (.ifCond .ge 9, 3) := by decide +kernel
theorem dX9_alive_4 : decode cX9_alive 4 = .ok (.aload_n 0, 1) := by decide +kernel
theorem dX9_alive_5 : decode cX9_alive 5 = .ok (.iconst 1, 1) := by decide +kernel
theorem dX9_alive_6 : decode cX9_alive 6 = .ok (.invokevirtual 80, 3) := by decide +kernel
theorem dX9_alive_9 : decode cX9_alive 9 = .ok (.ireturn, 1) := by decide +kernel
theorem dX9_alive_10 : decode cX9_alive 10 = .ok (.aload_n 0, 1) := by decide +kernel
theorem dX9_alive_11 : decode cX9_alive 11 = .ok (.getfield 29, 3) := by decide +kernel
theorem dX9_alive_14 : decode cX9_alive 14 = .ok (.iload_n 1, 1) := by decide +kernel
theorem dX9_alive_15 : decode cX9_alive 15 = .ok (.invokevirtual 140, 3) := by decide +kernel
theorem dX9_alive_18 : decode cX9_alive 18 = .ok (.astore 4, 2) := by decide +kernel
theorem dX9_alive_20 : decode cX9_alive 20 = .ok (.aload_n 0, 1) := by decide +kernel
theorem dX9_alive_21 : decode cX9_alive 21 = .ok (.getfield 29, 3) := by decide +kernel
theorem dX9_alive_24 : decode cX9_alive 24 = .ok (.iload_n 2, 1) := by decide +kernel
theorem dX9_alive_25 : decode cX9_alive 25 = .ok (.invokevirtual 123, 3) := by decide +kernel
theorem dX9_alive_28 : decode cX9_alive 28 = .ok (.astore 5, 2) := by decide +kernel
theorem dX9_alive_30 : decode cX9_alive 30 = .ok (.aload 4, 2) := by decide +kernel
theorem dX9_alive_32 : decode cX9_alive 32 = .ok (.ifnull 8, 3) := by decide +kernel
theorem dX9_alive_40 : decode cX9_alive 40 = .ok (.aload_n 0, 1) := by decide +kernel
theorem dX9_alive_41 : decode cX9_alive 41 = .ok (.iconst 2, 1) := by decide +kernel
theorem dX9_alive_42 : decode cX9_alive 42 = .ok (.invokevirtual 80, 3) := by decide +kernel
theorem dX9_alive_45 : decode cX9_alive 45 = .ok (.ireturn, 1) := by decide +kernel
def mwX9_alive : List Cond := .code yX9_alive cX9_alive 6 (some .int) :: ([.fieldLink RX9 29 "PatternGate" "book" "LPatternGate$Book;", .code yX0_patternAt cX0_patternAt 2 (some (.object "PatternGate$Pattern")), .fieldLink RX0 13 "PatternGate$Book" "patterns" "[LPatternGate$Pattern;", .methodLink RX9 140 yX0_patternAt, .instanceMethod yX0_patternAt, .selects RX0 yX0_patternAt yX0_patternAt, .initialized RX0, .code yX0_docAt cX0_docAt 2 (some (.object "PatternGate$Doc")), .fieldLink RX0 7 "PatternGate$Book" "docs" "[LPatternGate$Doc;", .methodLink RX9 123 yX0_docAt, .instanceMethod yX0_docAt, .selects RX0 yX0_docAt yX0_docAt, .code yX9_refuse cX9_refuse 2 (some .int), .fieldLink RX9 70 "PatternGate" "lastStatus" "I", .methodLink RX9 80 yX9_refuse, .instanceMethod yX9_refuse, .selects RX9 yX9_refuse yX9_refuse, .initialized RX9] ++ wsX90 ++ wsX00)
theorem fin_X9_alive_X9 : ∀ w ∈ wsX90, w ∈ mwX9_alive := fun w h => List.mem_cons_of_mem _ (List.mem_append_left _ (List.mem_append_right _ h))
set_option maxRecDepth 20000 in
theorem mg_X9_alive_X0_patternAt_140 : GoodIn mwX9_alive (wsV RX9 140 RX0 yX0_patternAt mwX0_patternAt) := goodIn_r _ [4, 5, 6, 7, 2, 3, 35, 36, 37] (by decide +kernel) (by decide +kernel)
set_option maxRecDepth 20000 in
theorem mg_X9_alive_X0_docAt_123 : GoodIn mwX9_alive (wsV RX9 123 RX0 yX0_docAt mwX0_docAt) := goodIn_r _ [10, 11, 12, 7, 8, 9, 35, 36, 37] (by decide +kernel) (by decide +kernel)
set_option maxRecDepth 20000 in
theorem mg_X9_alive_X9_refuse_80 : GoodIn mwX9_alive (wsV RX9 80 RX9 yX9_refuse mwX9_refuse) := goodIn_r _ [15, 16, 17, 18, 13, 14, 19, 20, 21, 22, 23, 24, 25, 26, 27, 28, 29, 30, 31, 32, 33, 34] (by decide +kernel) (by decide +kernel)
set_option maxHeartbeats 4000000 in
set_option maxRecDepth 100000 in
/-- alive on a new object -/
theorem c_alive (l : Launch) (dC : Nat → ClassId) (dI : Nat → Nat → Nat) (x : Nat) (q : Nat → Nat) (b d0 p0 : Nat) (cT cD cP cB cU : ClassId) (r : Nat → Nat) (sz : Nat) (i0 i1 i2 : Int32) : Met l yX9_alive mwX9_alive ({ frames := 1, cells := 0, slots := 0, locals := 60 }) (va_Pc [.ref x, .int i0, .int i1, .int i2] (fun U => U.heap.size = sz ∧ va_P (dC, dI) vwCl (gW x q b d0 p0 cT cD cP cB cU r) U.heap ∧ va_K (dC, dI) vwCl (gT cT cD cP cB cU) U ∧ va_D (fun _ => True) (gW x q b d0 p0 cT cD cP cB cU r))) (va_Qi (fun (o : Int32) (_ : Unit) => o = (-1)) (fun _ _ => True) (va_A (gW x q b d0 p0 cT cD cP cB cU r) sz)) 0 0 (va_A (gW x q b d0 p0 cT cD cP cB cU r) sz) := by
  refine Met.ofW (cc := cX9_alive) (maxL := 6) (ret := (some .int)) (by decide +kernel) rfl ?_
  intro p e s m args below meth c s₁ B hml hv
  obtain ⟨rfl, hsz, hP, hK, hD0⟩ := hv
  have hx := B.exec
  have hb := B.bytes
  have hr := B.returns
  have hts := atoms_spec (ws := mwX9_alive) B.pre
  have hown : s.vm.findClass RX9 = some m.cls := findClass_of_methodNamed B.named
  have hlocks := B.notSynchronized
  subst hsz
  have hD := hD0.self (sz := s.heap.size)
  generalize hAe : va_A (gW x q b d0 p0 cT cD cP cB cU r) s.heap.size = A at hD ⊢
  have hA : ∀ q : Nat, s.heap.size ≤ q → A q := fun q h => by rw [← hAe]; exact Or.inr h
  have hP : va_P (dC, dI) vwCl [(x, .inr (9, gF q 0 0 (-1) (-1) b 0 0)), (q 0, .inl (cT, 900, .inl (fun _ => 0))), (b, .inr (0, [.ref d0, .ref p0, .null])), (d0, .inl (cD, 0, .inr (.inr (.inr (.inr (fun _ => none)))))), (p0, .inl (cP, 0, .inr (.inr (.inr (.inr (fun _ => none)))))), (q 1, .inl (cB, 3, .inr (.inr (.inr (.inr (fun _ => none)))))), (q 2, .inl (cU, 3, .inl (fun _ => 0))), (q 3, .inr (6, rF r 0 0 0 0 0 0 0 0))] s.heap := hP
  have hD : va_D A [(x, .inr (9, gF q 0 0 (-1) (-1) b 0 0)), (q 0, .inl (cT, 900, .inl (fun _ => 0))), (b, .inr (0, [.ref d0, .ref p0, .null])), (d0, .inl (cD, 0, .inr (.inr (.inr (.inr (fun _ => none)))))), (p0, .inl (cP, 0, .inr (.inr (.inr (.inr (fun _ => none)))))), (q 1, .inl (cB, 3, .inr (.inr (.inr (.inr (fun _ => none)))))), (q 2, .inl (cU, 3, .inl (fun _ => 0))), (q 3, .inr (6, rF r 0 0 0 0 0 0 0 0))] := hD
  have hK : va_K (dC, dI) vwCl [(cT, .int), (cD, .object "PatternGate$Doc"), (cP, .object "PatternGate$Pattern"), (cB, .object "PatternGate$Book"), (cU, .int)] s := hK
  generalize hH : s.heap = H at hP ⊢
  have hS : va_S A s.heap H [] := by rw [← hH]; exact va_S.rf
  have hl := lv_entry ([.ref x, .int i0, .int i1, .int i2]) (n := 6) (Nat.le_of_ble_eq_true rfl)
  rw [lg_entry_eq]
  generalize (lg_sl ([.ref x, .int i0, .int i1, .int i2]) ++ List.replicate (6 - (lg_sl ([.ref x, .int i0, .int i1, .int i2])).length) Slot.unset).toArray = ls at hl ⊢
  have hl : lv_has ls 6 [(0, .ref x), (1, .int i0), (2, .int i1), (3, .int i2)] := hl
  refine lv_iload_n hx hb dX9_alive_0 rfl (lv_at hl 3 rfl) ?_
  refine lv_if_ge (tgt := 10) hx hb dX9_alive_1 (by decide) (fun k_1 => ?_) (fun k_1 => ?_)
  · refine lv_aload_n hx hb dX9_alive_10 rfl (lv_at hl 0 rfl) ?_
    refine va_get (D := (dC, dI)) (ci := 9) (v := .ref b) (C := RX9) (T := TX9) (N := 16) hx hb hts fin_X9_alive_X9 hown hK hP 0 rfl rfl 5 (by decide) (hts (.fieldLink RX9 29 "PatternGate" "book" "LPatternGate$Book;") (List.mem_of_getElem? (i := 1) (by decide +kernel))) (fun _ h9 => h9) rfl dX9_alive_11 ?_
    refine lv_iload_n hx hb dX9_alive_14 rfl (lv_at hl 1 rfl) ?_
    have hPc := hP.sub (ws' := [(b, .inr (0, [.ref d0, .ref p0, .null])), (d0, .inl (cD, 0, .inr (.inr (.inr (.inr (fun _ => none)))))), (p0, .inl (cP, 0, .inr (.inr (.inr (.inr (fun _ => none))))))]) [2, 3, 4] rfl
    have hKc := hK.sub (tys' := [(cD, .object "PatternGate$Doc"), (cP, .object "PatternGate$Pattern")]) [1, 2] rfl
    refine va_csq (W.runV (As := [.int i0]) (rest := []) ⟨hx, hb, hml, hown, hts⟩ (c_patternAt l dC dI b d0 p0 cD cP i0) (cwV 1 hts mg_X9_alive_X0_patternAt_140 rfl rfl rfl (by decide +kernel) ⟨Nat.le_of_ble_eq_true rfl, Nat.le_of_ble_eq_true rfl⟩) ⟨fun a U g mk q => by obtain ⟨q0, qP, qK⟩ := q; exact ⟨q0, qP, va_K.moved (u := U) (U := U.calling g mk a) (Vm.Alike.refl U.vm) qK⟩, va_recv hKc hPc (ci := 0) (q0 := 0) rfl rfl, fun U hU hW => ⟨rfl, by rw [hU]; exact hPc, va_K.moved hW.alike hKc⟩⟩ rfl rfl hl.1 rfl (lv_room (Nat.le_of_ble_eq_true rfl)) dX9_alive_15 ⟨Nat.le_of_ble_eq_true rfl, Nat.le_of_ble_eq_true rfl⟩) (fun r_3 hw => ?_)
    subst hw
    refine W.eq (g2 := F0 m 18 ls [.null]) rfl ?_
    refine lv_astoreN (lv' := [(4, .null), (0, .ref x), (1, .int i0), (2, .int i1), (3, .int i2)]) hx hb dX9_alive_18 hl (by decide) rfl (fun ls hl => ?_)
    refine lv_aload_n hx hb dX9_alive_20 rfl (lv_at hl 1 rfl) ?_
    refine va_get (D := (dC, dI)) (ci := 9) (v := .ref b) (C := RX9) (T := TX9) (N := 16) hx hb hts fin_X9_alive_X9 hown hK hP 0 rfl rfl 5 (by decide) (hts (.fieldLink RX9 29 "PatternGate" "book" "LPatternGate$Book;") (List.mem_of_getElem? (i := 1) (by decide +kernel))) (fun _ h9 => h9) rfl dX9_alive_21 ?_
    refine lv_iload_n hx hb dX9_alive_24 rfl (lv_at hl 3 rfl) ?_
    have hPc := hP.sub (ws' := [(b, .inr (0, [.ref d0, .ref p0, .null])), (d0, .inl (cD, 0, .inr (.inr (.inr (.inr (fun _ => none)))))), (p0, .inl (cP, 0, .inr (.inr (.inr (.inr (fun _ => none))))))]) [2, 3, 4] rfl
    have hKc := hK.sub (tys' := [(cD, .object "PatternGate$Doc"), (cP, .object "PatternGate$Pattern")]) [1, 2] rfl
    refine va_csq (W.runV (As := [.int i1]) (rest := []) ⟨hx, hb, hml, hown, hts⟩ (c_docAt l dC dI b d0 p0 cD cP i1) (cwV 1 hts mg_X9_alive_X0_docAt_123 rfl rfl rfl (by decide +kernel) ⟨Nat.le_of_ble_eq_true rfl, Nat.le_of_ble_eq_true rfl⟩) ⟨fun a U g mk q => by obtain ⟨q0, qP, qK⟩ := q; exact ⟨q0, qP, va_K.moved (u := U) (U := U.calling g mk a) (Vm.Alike.refl U.vm) qK⟩, va_recv hKc hPc (ci := 0) (q0 := 0) rfl rfl, fun U hU hW => ⟨rfl, by rw [hU]; exact hPc, va_K.moved hW.alike hKc⟩⟩ rfl rfl hl.1 rfl (lv_room (Nat.le_of_ble_eq_true rfl)) dX9_alive_25 ⟨Nat.le_of_ble_eq_true rfl, Nat.le_of_ble_eq_true rfl⟩) (fun r_5 hw => ?_)
    subst hw
    refine W.eq (g2 := F0 m 28 ls [.null]) rfl ?_
    refine lv_astoreN (lv' := [(5, .null), (4, .null), (0, .ref x), (1, .int i0), (2, .int i1), (3, .int i2)]) hx hb dX9_alive_28 hl (by decide) rfl (fun ls hl => ?_)
    refine lv_aloadN hx hb dX9_alive_30 (lv_at hl 1 rfl) ?_
    refine lv_ifnullN (tgt := 40) hx hb dX9_alive_32 (by decide) ?_
    refine lv_aload_n hx hb dX9_alive_40 rfl (lv_at hl 2 rfl) ?_
    refine lv_iconst (v := 2) hx hb dX9_alive_41 (by decide) ?_
    have hPc := hP.sub (ws' := [(x, .inr (9, gF q 0 0 (-1) (-1) b 0 0))]) [0] rfl
    have hKc := hK.sub (tys' := []) [] rfl
    have hDc := hD.sub (ws' := [(x, .inr (9, gF q 0 0 (-1) (-1) b 0 0))]) [0] (by decide) rfl
    have hFc := va_free (wc := [(x, .inr (9, gF q 0 0 (-1) (-1) b 0 0))]) hD hS hA [0] rfl
    refine va_calli (va_runV (As := [.int 2]) (rest := []) ⟨hx, hb, hml, hown, hts⟩ (c_refuse l dC dI x q 0 0 (-1) (-1) b 0 0 H.size 2) (cwV 1 hts mg_X9_alive_X9_refuse_80 rfl rfl rfl (by decide +kernel) ⟨Nat.le_of_ble_eq_true rfl, Nat.le_of_ble_eq_true rfl⟩) ⟨fun a U g mk q => by obtain ⟨q0, q1, qP, qK, qD⟩ := q; exact ⟨q0, q1, qP, va_K.moved (u := U) (U := U.calling g mk a) (Vm.Alike.refl U.vm) qK, qD⟩, va_recv hKc hPc (ci := 9) (q0 := 0) rfl rfl, fun U hU hW => ⟨rfl, by rw [hU], by rw [hU]; exact hPc, va_K.moved hW.alike hKc, hDc.weaken (fun _ _ _ _ => trivial)⟩⟩ rfl rfl hl.1 rfl (lv_room (Nat.le_of_ble_eq_true rfl)) dX9_alive_42 ⟨Nat.le_of_ble_eq_true rfl, Nat.le_of_ble_eq_true rfl⟩) hS (fun q _ h => hFc q h) hFc (fun r_7 u t H1 locs ht hvm hw hB hz1 hk1 hS => ?_)
    exact W.iret hx hb hr (fun t ht hW => ⟨⟨_, (), rfl, hw, trivial⟩, hS.F ht⟩) hS.2.2 dX9_alive_45
  · refine lv_aload_n hx hb dX9_alive_4 rfl (lv_at hl 0 rfl) ?_
    refine lv_iconst (v := 1) hx hb dX9_alive_5 (by decide) ?_
    have hPc := hP.sub (ws' := [(x, .inr (9, gF q 0 0 (-1) (-1) b 0 0))]) [0] rfl
    have hKc := hK.sub (tys' := []) [] rfl
    have hDc := hD.sub (ws' := [(x, .inr (9, gF q 0 0 (-1) (-1) b 0 0))]) [0] (by decide) rfl
    have hFc := va_free (wc := [(x, .inr (9, gF q 0 0 (-1) (-1) b 0 0))]) hD hS hA [0] rfl
    refine va_calli (va_runV (As := [.int 1]) (rest := []) ⟨hx, hb, hml, hown, hts⟩ (c_refuse l dC dI x q 0 0 (-1) (-1) b 0 0 H.size 1) (cwV 1 hts mg_X9_alive_X9_refuse_80 rfl rfl rfl (by decide +kernel) ⟨Nat.le_of_ble_eq_true rfl, Nat.le_of_ble_eq_true rfl⟩) ⟨fun a U g mk q => by obtain ⟨q0, q1, qP, qK, qD⟩ := q; exact ⟨q0, q1, qP, va_K.moved (u := U) (U := U.calling g mk a) (Vm.Alike.refl U.vm) qK, qD⟩, va_recv hKc hPc (ci := 9) (q0 := 0) rfl rfl, fun U hU hW => ⟨rfl, by rw [hU], by rw [hU]; exact hPc, va_K.moved hW.alike hKc, hDc.weaken (fun _ _ _ _ => trivial)⟩⟩ rfl rfl hl.1 rfl (lv_room (Nat.le_of_ble_eq_true rfl)) dX9_alive_6 ⟨Nat.le_of_ble_eq_true rfl, Nat.le_of_ble_eq_true rfl⟩) hS (fun q _ h => hFc q h) hFc (fun r_9 u t H1 locs ht hvm hw hB hz1 hk1 hS => ?_)
    exact W.iret hx hb hr (fun t ht hW => ⟨⟨_, (), rfl, hw, trivial⟩, hS.F ht⟩) hS.2.2 dX9_alive_9
theorem dX9_rarest_0 : decode cX9_rarest 0 = .ok (.aload_n 0, 1) := by decide +kernel
theorem dX9_rarest_1 : decode cX9_rarest 1 = .ok (.getfield 29, 3) := by decide +kernel
theorem dX9_rarest_4 : decode cX9_rarest 4 = .ok (.iload_n 1, 1) := by decide +kernel
theorem dX9_rarest_5 : decode cX9_rarest 5 = .ok (.invokevirtual 140, 3) := by decide +kernel
theorem dX9_rarest_8 : decode cX9_rarest 8 = .ok (.astore_n 2, 1) := by decide +kernel
theorem dX9_rarest_9 : decode cX9_rarest 9 = .ok (.aload_n 2, 1) := by decide +kernel
theorem dX9_rarest_10 : decode cX9_rarest 10 = .ok (.ifnonnull 9, 3) := by decide +kernel
theorem dX9_rarest_13 : decode cX9_rarest 13 = .ok (.aload_n 0, 1) := by decide +kernel
theorem dX9_rarest_14 : decode cX9_rarest 14 = .ok (.iconst 2, 1) := by decide +kernel
theorem dX9_rarest_15 : decode cX9_rarest 15 = .ok (.invokevirtual 80, 3) := by decide +kernel
theorem dX9_rarest_18 : decode cX9_rarest 18 = .ok (.ireturn, 1) := by decide +kernel
def mwX9_rarest : List Cond := .code yX9_rarest cX9_rarest 7 (some .int) :: ([.fieldLink RX9 29 "PatternGate" "book" "LPatternGate$Book;", .code yX0_patternAt cX0_patternAt 2 (some (.object "PatternGate$Pattern")), .fieldLink RX0 13 "PatternGate$Book" "patterns" "[LPatternGate$Pattern;", .methodLink RX9 140 yX0_patternAt, .instanceMethod yX0_patternAt, .selects RX0 yX0_patternAt yX0_patternAt, .initialized RX0, .code yX9_refuse cX9_refuse 2 (some .int), .fieldLink RX9 70 "PatternGate" "lastStatus" "I", .methodLink RX9 80 yX9_refuse, .instanceMethod yX9_refuse, .selects RX9 yX9_refuse yX9_refuse, .initialized RX9] ++ wsX90 ++ wsX00)
theorem fin_X9_rarest_X9 : ∀ w ∈ wsX90, w ∈ mwX9_rarest := fun w h => List.mem_cons_of_mem _ (List.mem_append_left _ (List.mem_append_right _ h))
set_option maxRecDepth 20000 in
theorem mg_X9_rarest_X0_patternAt_140 : GoodIn mwX9_rarest (wsV RX9 140 RX0 yX0_patternAt mwX0_patternAt) := goodIn_r _ [4, 5, 6, 7, 2, 3, 30, 31, 32] (by decide +kernel) (by decide +kernel)
set_option maxRecDepth 20000 in
theorem mg_X9_rarest_X9_refuse_80 : GoodIn mwX9_rarest (wsV RX9 80 RX9 yX9_refuse mwX9_refuse) := goodIn_r _ [10, 11, 12, 13, 8, 9, 14, 15, 16, 17, 18, 19, 20, 21, 22, 23, 24, 25, 26, 27, 28, 29] (by decide +kernel) (by decide +kernel)
set_option maxHeartbeats 4000000 in
set_option maxRecDepth 100000 in
/-- rarest on a new object -/
theorem c_rarest (l : Launch) (dC : Nat → ClassId) (dI : Nat → Nat → Nat) (x : Nat) (q : Nat → Nat) (b d0 p0 : Nat) (cT cD cP cB cU : ClassId) (r : Nat → Nat) (sz : Nat) (i0 : Int32) : Met l yX9_rarest mwX9_rarest ({ frames := 1, cells := 0, slots := 0, locals := 60 }) (va_Pc [.ref x, .int i0] (fun U => U.heap.size = sz ∧ va_P (dC, dI) vwCl (gW x q b d0 p0 cT cD cP cB cU r) U.heap ∧ va_K (dC, dI) vwCl (gT cT cD cP cB cU) U ∧ va_D (fun _ => True) (gW x q b d0 p0 cT cD cP cB cU r))) (va_Qi (fun (o : Int32) (_ : Unit) => o = (-1)) (fun _ _ => True) (va_A (gW x q b d0 p0 cT cD cP cB cU r) sz)) 0 0 (va_A (gW x q b d0 p0 cT cD cP cB cU r) sz) := by
  refine Met.ofW (cc := cX9_rarest) (maxL := 7) (ret := (some .int)) (by decide +kernel) rfl ?_
  intro p e s m args below meth c s₁ B hml hv
  obtain ⟨rfl, hsz, hP, hK, hD0⟩ := hv
  have hx := B.exec
  have hb := B.bytes
  have hr := B.returns
  have hts := atoms_spec (ws := mwX9_rarest) B.pre
  have hown : s.vm.findClass RX9 = some m.cls := findClass_of_methodNamed B.named
  have hlocks := B.notSynchronized
  subst hsz
  have hD := hD0.self (sz := s.heap.size)
  generalize hAe : va_A (gW x q b d0 p0 cT cD cP cB cU r) s.heap.size = A at hD ⊢
  have hA : ∀ q : Nat, s.heap.size ≤ q → A q := fun q h => by rw [← hAe]; exact Or.inr h
  have hP : va_P (dC, dI) vwCl [(x, .inr (9, gF q 0 0 (-1) (-1) b 0 0)), (q 0, .inl (cT, 900, .inl (fun _ => 0))), (b, .inr (0, [.ref d0, .ref p0, .null])), (d0, .inl (cD, 0, .inr (.inr (.inr (.inr (fun _ => none)))))), (p0, .inl (cP, 0, .inr (.inr (.inr (.inr (fun _ => none)))))), (q 1, .inl (cB, 3, .inr (.inr (.inr (.inr (fun _ => none)))))), (q 2, .inl (cU, 3, .inl (fun _ => 0))), (q 3, .inr (6, rF r 0 0 0 0 0 0 0 0))] s.heap := hP
  have hD : va_D A [(x, .inr (9, gF q 0 0 (-1) (-1) b 0 0)), (q 0, .inl (cT, 900, .inl (fun _ => 0))), (b, .inr (0, [.ref d0, .ref p0, .null])), (d0, .inl (cD, 0, .inr (.inr (.inr (.inr (fun _ => none)))))), (p0, .inl (cP, 0, .inr (.inr (.inr (.inr (fun _ => none)))))), (q 1, .inl (cB, 3, .inr (.inr (.inr (.inr (fun _ => none)))))), (q 2, .inl (cU, 3, .inl (fun _ => 0))), (q 3, .inr (6, rF r 0 0 0 0 0 0 0 0))] := hD
  have hK : va_K (dC, dI) vwCl [(cT, .int), (cD, .object "PatternGate$Doc"), (cP, .object "PatternGate$Pattern"), (cB, .object "PatternGate$Book"), (cU, .int)] s := hK
  generalize hH : s.heap = H at hP ⊢
  have hS : va_S A s.heap H [] := by rw [← hH]; exact va_S.rf
  have hl := lv_entry ([.ref x, .int i0]) (n := 7) (Nat.le_of_ble_eq_true rfl)
  rw [lg_entry_eq]
  generalize (lg_sl ([.ref x, .int i0]) ++ List.replicate (7 - (lg_sl ([.ref x, .int i0])).length) Slot.unset).toArray = ls at hl ⊢
  have hl : lv_has ls 7 [(0, .ref x), (1, .int i0)] := hl
  refine lv_aload_n hx hb dX9_rarest_0 rfl (lv_at hl 0 rfl) ?_
  refine va_get (D := (dC, dI)) (ci := 9) (v := .ref b) (C := RX9) (T := TX9) (N := 16) hx hb hts fin_X9_rarest_X9 hown hK hP 0 rfl rfl 5 (by decide) (hts (.fieldLink RX9 29 "PatternGate" "book" "LPatternGate$Book;") (List.mem_of_getElem? (i := 1) (by decide +kernel))) (fun _ h9 => h9) rfl dX9_rarest_1 ?_
  refine lv_iload_n hx hb dX9_rarest_4 rfl (lv_at hl 1 rfl) ?_
  have hPc := hP.sub (ws' := [(b, .inr (0, [.ref d0, .ref p0, .null])), (d0, .inl (cD, 0, .inr (.inr (.inr (.inr (fun _ => none)))))), (p0, .inl (cP, 0, .inr (.inr (.inr (.inr (fun _ => none))))))]) [2, 3, 4] rfl
  have hKc := hK.sub (tys' := [(cD, .object "PatternGate$Doc"), (cP, .object "PatternGate$Pattern")]) [1, 2] rfl
  refine va_csq (W.runV (As := [.int i0]) (rest := []) ⟨hx, hb, hml, hown, hts⟩ (c_patternAt l dC dI b d0 p0 cD cP i0) (cwV 1 hts mg_X9_rarest_X0_patternAt_140 rfl rfl rfl (by decide +kernel) ⟨Nat.le_of_ble_eq_true rfl, Nat.le_of_ble_eq_true rfl⟩) ⟨fun a U g mk q => by obtain ⟨q0, qP, qK⟩ := q; exact ⟨q0, qP, va_K.moved (u := U) (U := U.calling g mk a) (Vm.Alike.refl U.vm) qK⟩, va_recv hKc hPc (ci := 0) (q0 := 0) rfl rfl, fun U hU hW => ⟨rfl, by rw [hU]; exact hPc, va_K.moved hW.alike hKc⟩⟩ rfl rfl hl.1 rfl (lv_room (Nat.le_of_ble_eq_true rfl)) dX9_rarest_5 ⟨Nat.le_of_ble_eq_true rfl, Nat.le_of_ble_eq_true rfl⟩) (fun r_2 hw => ?_)
  subst hw
  refine W.eq (g2 := F0 m 8 ls [.null]) rfl ?_
  refine lv_astore_nN (lv' := [(2, .null), (0, .ref x), (1, .int i0)]) hx hb dX9_rarest_8 rfl hl (by decide) rfl (fun ls hl => ?_)
  refine lv_aload_nN hx hb dX9_rarest_9 rfl (lv_at hl 0 rfl) ?_
  refine lv_ifnonnullN hx hb dX9_rarest_10 ?_
  refine lv_aload_n hx hb dX9_rarest_13 rfl (lv_at hl 1 rfl) ?_
  refine lv_iconst (v := 2) hx hb dX9_rarest_14 (by decide) ?_
  have hPc := hP.sub (ws' := [(x, .inr (9, gF q 0 0 (-1) (-1) b 0 0))]) [0] rfl
  have hKc := hK.sub (tys' := []) [] rfl
  have hDc := hD.sub (ws' := [(x, .inr (9, gF q 0 0 (-1) (-1) b 0 0))]) [0] (by decide) rfl
  have hFc := va_free (wc := [(x, .inr (9, gF q 0 0 (-1) (-1) b 0 0))]) hD hS hA [0] rfl
  refine va_calli (va_runV (As := [.int 2]) (rest := []) ⟨hx, hb, hml, hown, hts⟩ (c_refuse l dC dI x q 0 0 (-1) (-1) b 0 0 H.size 2) (cwV 1 hts mg_X9_rarest_X9_refuse_80 rfl rfl rfl (by decide +kernel) ⟨Nat.le_of_ble_eq_true rfl, Nat.le_of_ble_eq_true rfl⟩) ⟨fun a U g mk q => by obtain ⟨q0, q1, qP, qK, qD⟩ := q; exact ⟨q0, q1, qP, va_K.moved (u := U) (U := U.calling g mk a) (Vm.Alike.refl U.vm) qK, qD⟩, va_recv hKc hPc (ci := 9) (q0 := 0) rfl rfl, fun U hU hW => ⟨rfl, by rw [hU], by rw [hU]; exact hPc, va_K.moved hW.alike hKc, hDc.weaken (fun _ _ _ _ => trivial)⟩⟩ rfl rfl hl.1 rfl (lv_room (Nat.le_of_ble_eq_true rfl)) dX9_rarest_15 ⟨Nat.le_of_ble_eq_true rfl, Nat.le_of_ble_eq_true rfl⟩) hS (fun q _ h => hFc q h) hFc (fun r_4 u t H1 locs ht hvm hw hB hz1 hk1 hS => ?_)
  exact W.iret hx hb hr (fun t ht hW => ⟨⟨_, (), rfl, hw, trivial⟩, hS.F ht⟩) hS.2.2 dX9_rarest_18
theorem dX9_within_0 : decode cX9_within 0 = .ok (.aload_n 0, 1) := by decide +kernel
theorem dX9_within_1 : decode cX9_within 1 = .ok (.getfield 29, 3) := by decide +kernel
theorem dX9_within_4 : decode cX9_within 4 = .ok (.iload_n 1, 1) := by decide +kernel
theorem dX9_within_5 : decode cX9_within 5 = .ok (.invokevirtual 140, 3) := by decide +kernel
theorem dX9_within_8 : decode cX9_within 8 = .ok (.astore_n 3, 1) := by decide +kernel
theorem dX9_within_9 : decode cX9_within 9 = .ok (.aload_n 0, 1) := by decide +kernel
theorem dX9_within_10 : decode cX9_within 10 = .ok (.getfield 29, 3) := by decide +kernel
theorem dX9_within_13 : decode cX9_within 13 = .ok (.iload_n 2, 1) := by decide +kernel
theorem dX9_within_14 : decode cX9_within 14 = .ok (.invokevirtual 140, 3) := by decide +kernel
theorem dX9_within_17 : decode cX9_within 17 = .ok (.astore 4, 2) := by decide +kernel
theorem dX9_within_19 : decode cX9_within 19 = .ok (.aload_n 3, 1) := by decide +kernel
theorem dX9_within_20 : decode cX9_within 20 = .ok (.ifnull 8, 3) := by decide +kernel
theorem dX9_within_28 : decode cX9_within 28 = .ok (.aload_n 0, 1) := by decide +kernel
theorem dX9_within_29 : decode cX9_within 29 = .ok (.iconst 2, 1) := by decide +kernel
theorem dX9_within_30 : decode cX9_within 30 = .ok (.invokevirtual 80, 3) := by decide +kernel
theorem dX9_within_33 : decode cX9_within 33 = .ok (.ireturn, 1) := by decide +kernel
def mwX9_within : List Cond := .code yX9_within cX9_within 6 (some .int) :: ([.fieldLink RX9 29 "PatternGate" "book" "LPatternGate$Book;", .code yX0_patternAt cX0_patternAt 2 (some (.object "PatternGate$Pattern")), .fieldLink RX0 13 "PatternGate$Book" "patterns" "[LPatternGate$Pattern;", .methodLink RX9 140 yX0_patternAt, .instanceMethod yX0_patternAt, .selects RX0 yX0_patternAt yX0_patternAt, .initialized RX0, .code yX9_refuse cX9_refuse 2 (some .int), .fieldLink RX9 70 "PatternGate" "lastStatus" "I", .methodLink RX9 80 yX9_refuse, .instanceMethod yX9_refuse, .selects RX9 yX9_refuse yX9_refuse, .initialized RX9] ++ wsX90 ++ wsX00)
theorem fin_X9_within_X9 : ∀ w ∈ wsX90, w ∈ mwX9_within := fun w h => List.mem_cons_of_mem _ (List.mem_append_left _ (List.mem_append_right _ h))
set_option maxRecDepth 20000 in
theorem mg_X9_within_X0_patternAt_140 : GoodIn mwX9_within (wsV RX9 140 RX0 yX0_patternAt mwX0_patternAt) := goodIn_r _ [4, 5, 6, 7, 2, 3, 30, 31, 32] (by decide +kernel) (by decide +kernel)
set_option maxRecDepth 20000 in
theorem mg_X9_within_X9_refuse_80 : GoodIn mwX9_within (wsV RX9 80 RX9 yX9_refuse mwX9_refuse) := goodIn_r _ [10, 11, 12, 13, 8, 9, 14, 15, 16, 17, 18, 19, 20, 21, 22, 23, 24, 25, 26, 27, 28, 29] (by decide +kernel) (by decide +kernel)
set_option maxHeartbeats 4000000 in
set_option maxRecDepth 100000 in
/-- within on a new object -/
theorem c_within (l : Launch) (dC : Nat → ClassId) (dI : Nat → Nat → Nat) (x : Nat) (q : Nat → Nat) (b d0 p0 : Nat) (cT cD cP cB cU : ClassId) (r : Nat → Nat) (sz : Nat) (i0 i1 : Int32) : Met l yX9_within mwX9_within ({ frames := 1, cells := 0, slots := 0, locals := 60 }) (va_Pc [.ref x, .int i0, .int i1] (fun U => U.heap.size = sz ∧ va_P (dC, dI) vwCl (gW x q b d0 p0 cT cD cP cB cU r) U.heap ∧ va_K (dC, dI) vwCl (gT cT cD cP cB cU) U ∧ va_D (fun _ => True) (gW x q b d0 p0 cT cD cP cB cU r))) (va_Qi (fun (o : Int32) (_ : Unit) => o = (-1)) (fun _ _ => True) (va_A (gW x q b d0 p0 cT cD cP cB cU r) sz)) 0 0 (va_A (gW x q b d0 p0 cT cD cP cB cU r) sz) := by
  refine Met.ofW (cc := cX9_within) (maxL := 6) (ret := (some .int)) (by decide +kernel) rfl ?_
  intro p e s m args below meth c s₁ B hml hv
  obtain ⟨rfl, hsz, hP, hK, hD0⟩ := hv
  have hx := B.exec
  have hb := B.bytes
  have hr := B.returns
  have hts := atoms_spec (ws := mwX9_within) B.pre
  have hown : s.vm.findClass RX9 = some m.cls := findClass_of_methodNamed B.named
  have hlocks := B.notSynchronized
  subst hsz
  have hD := hD0.self (sz := s.heap.size)
  generalize hAe : va_A (gW x q b d0 p0 cT cD cP cB cU r) s.heap.size = A at hD ⊢
  have hA : ∀ q : Nat, s.heap.size ≤ q → A q := fun q h => by rw [← hAe]; exact Or.inr h
  have hP : va_P (dC, dI) vwCl [(x, .inr (9, gF q 0 0 (-1) (-1) b 0 0)), (q 0, .inl (cT, 900, .inl (fun _ => 0))), (b, .inr (0, [.ref d0, .ref p0, .null])), (d0, .inl (cD, 0, .inr (.inr (.inr (.inr (fun _ => none)))))), (p0, .inl (cP, 0, .inr (.inr (.inr (.inr (fun _ => none)))))), (q 1, .inl (cB, 3, .inr (.inr (.inr (.inr (fun _ => none)))))), (q 2, .inl (cU, 3, .inl (fun _ => 0))), (q 3, .inr (6, rF r 0 0 0 0 0 0 0 0))] s.heap := hP
  have hD : va_D A [(x, .inr (9, gF q 0 0 (-1) (-1) b 0 0)), (q 0, .inl (cT, 900, .inl (fun _ => 0))), (b, .inr (0, [.ref d0, .ref p0, .null])), (d0, .inl (cD, 0, .inr (.inr (.inr (.inr (fun _ => none)))))), (p0, .inl (cP, 0, .inr (.inr (.inr (.inr (fun _ => none)))))), (q 1, .inl (cB, 3, .inr (.inr (.inr (.inr (fun _ => none)))))), (q 2, .inl (cU, 3, .inl (fun _ => 0))), (q 3, .inr (6, rF r 0 0 0 0 0 0 0 0))] := hD
  have hK : va_K (dC, dI) vwCl [(cT, .int), (cD, .object "PatternGate$Doc"), (cP, .object "PatternGate$Pattern"), (cB, .object "PatternGate$Book"), (cU, .int)] s := hK
  generalize hH : s.heap = H at hP ⊢
  have hS : va_S A s.heap H [] := by rw [← hH]; exact va_S.rf
  have hl := lv_entry ([.ref x, .int i0, .int i1]) (n := 6) (Nat.le_of_ble_eq_true rfl)
  rw [lg_entry_eq]
  generalize (lg_sl ([.ref x, .int i0, .int i1]) ++ List.replicate (6 - (lg_sl ([.ref x, .int i0, .int i1])).length) Slot.unset).toArray = ls at hl ⊢
  have hl : lv_has ls 6 [(0, .ref x), (1, .int i0), (2, .int i1)] := hl
  refine lv_aload_n hx hb dX9_within_0 rfl (lv_at hl 0 rfl) ?_
  refine va_get (D := (dC, dI)) (ci := 9) (v := .ref b) (C := RX9) (T := TX9) (N := 16) hx hb hts fin_X9_within_X9 hown hK hP 0 rfl rfl 5 (by decide) (hts (.fieldLink RX9 29 "PatternGate" "book" "LPatternGate$Book;") (List.mem_of_getElem? (i := 1) (by decide +kernel))) (fun _ h9 => h9) rfl dX9_within_1 ?_
  refine lv_iload_n hx hb dX9_within_4 rfl (lv_at hl 1 rfl) ?_
  have hPc := hP.sub (ws' := [(b, .inr (0, [.ref d0, .ref p0, .null])), (d0, .inl (cD, 0, .inr (.inr (.inr (.inr (fun _ => none)))))), (p0, .inl (cP, 0, .inr (.inr (.inr (.inr (fun _ => none))))))]) [2, 3, 4] rfl
  have hKc := hK.sub (tys' := [(cD, .object "PatternGate$Doc"), (cP, .object "PatternGate$Pattern")]) [1, 2] rfl
  refine va_csq (W.runV (As := [.int i0]) (rest := []) ⟨hx, hb, hml, hown, hts⟩ (c_patternAt l dC dI b d0 p0 cD cP i0) (cwV 1 hts mg_X9_within_X0_patternAt_140 rfl rfl rfl (by decide +kernel) ⟨Nat.le_of_ble_eq_true rfl, Nat.le_of_ble_eq_true rfl⟩) ⟨fun a U g mk q => by obtain ⟨q0, qP, qK⟩ := q; exact ⟨q0, qP, va_K.moved (u := U) (U := U.calling g mk a) (Vm.Alike.refl U.vm) qK⟩, va_recv hKc hPc (ci := 0) (q0 := 0) rfl rfl, fun U hU hW => ⟨rfl, by rw [hU]; exact hPc, va_K.moved hW.alike hKc⟩⟩ rfl rfl hl.1 rfl (lv_room (Nat.le_of_ble_eq_true rfl)) dX9_within_5 ⟨Nat.le_of_ble_eq_true rfl, Nat.le_of_ble_eq_true rfl⟩) (fun r_2 hw => ?_)
  subst hw
  refine W.eq (g2 := F0 m 8 ls [.null]) rfl ?_
  refine lv_astore_nN (lv' := [(3, .null), (0, .ref x), (1, .int i0), (2, .int i1)]) hx hb dX9_within_8 rfl hl (by decide) rfl (fun ls hl => ?_)
  refine lv_aload_n hx hb dX9_within_9 rfl (lv_at hl 1 rfl) ?_
  refine va_get (D := (dC, dI)) (ci := 9) (v := .ref b) (C := RX9) (T := TX9) (N := 16) hx hb hts fin_X9_within_X9 hown hK hP 0 rfl rfl 5 (by decide) (hts (.fieldLink RX9 29 "PatternGate" "book" "LPatternGate$Book;") (List.mem_of_getElem? (i := 1) (by decide +kernel))) (fun _ h9 => h9) rfl dX9_within_10 ?_
  refine lv_iload_n hx hb dX9_within_13 rfl (lv_at hl 3 rfl) ?_
  have hPc := hP.sub (ws' := [(b, .inr (0, [.ref d0, .ref p0, .null])), (d0, .inl (cD, 0, .inr (.inr (.inr (.inr (fun _ => none)))))), (p0, .inl (cP, 0, .inr (.inr (.inr (.inr (fun _ => none))))))]) [2, 3, 4] rfl
  have hKc := hK.sub (tys' := [(cD, .object "PatternGate$Doc"), (cP, .object "PatternGate$Pattern")]) [1, 2] rfl
  refine va_csq (W.runV (As := [.int i1]) (rest := []) ⟨hx, hb, hml, hown, hts⟩ (c_patternAt l dC dI b d0 p0 cD cP i1) (cwV 1 hts mg_X9_within_X0_patternAt_140 rfl rfl rfl (by decide +kernel) ⟨Nat.le_of_ble_eq_true rfl, Nat.le_of_ble_eq_true rfl⟩) ⟨fun a U g mk q => by obtain ⟨q0, qP, qK⟩ := q; exact ⟨q0, qP, va_K.moved (u := U) (U := U.calling g mk a) (Vm.Alike.refl U.vm) qK⟩, va_recv hKc hPc (ci := 0) (q0 := 0) rfl rfl, fun U hU hW => ⟨rfl, by rw [hU]; exact hPc, va_K.moved hW.alike hKc⟩⟩ rfl rfl hl.1 rfl (lv_room (Nat.le_of_ble_eq_true rfl)) dX9_within_14 ⟨Nat.le_of_ble_eq_true rfl, Nat.le_of_ble_eq_true rfl⟩) (fun r_4 hw => ?_)
  subst hw
  refine W.eq (g2 := F0 m 17 ls [.null]) rfl ?_
  refine lv_astoreN (lv' := [(4, .null), (3, .null), (0, .ref x), (1, .int i0), (2, .int i1)]) hx hb dX9_within_17 hl (by decide) rfl (fun ls hl => ?_)
  refine lv_aload_nN hx hb dX9_within_19 rfl (lv_at hl 1 rfl) ?_
  refine lv_ifnullN (tgt := 28) hx hb dX9_within_20 (by decide) ?_
  refine lv_aload_n hx hb dX9_within_28 rfl (lv_at hl 2 rfl) ?_
  refine lv_iconst (v := 2) hx hb dX9_within_29 (by decide) ?_
  have hPc := hP.sub (ws' := [(x, .inr (9, gF q 0 0 (-1) (-1) b 0 0))]) [0] rfl
  have hKc := hK.sub (tys' := []) [] rfl
  have hDc := hD.sub (ws' := [(x, .inr (9, gF q 0 0 (-1) (-1) b 0 0))]) [0] (by decide) rfl
  have hFc := va_free (wc := [(x, .inr (9, gF q 0 0 (-1) (-1) b 0 0))]) hD hS hA [0] rfl
  refine va_calli (va_runV (As := [.int 2]) (rest := []) ⟨hx, hb, hml, hown, hts⟩ (c_refuse l dC dI x q 0 0 (-1) (-1) b 0 0 H.size 2) (cwV 1 hts mg_X9_within_X9_refuse_80 rfl rfl rfl (by decide +kernel) ⟨Nat.le_of_ble_eq_true rfl, Nat.le_of_ble_eq_true rfl⟩) ⟨fun a U g mk q => by obtain ⟨q0, q1, qP, qK, qD⟩ := q; exact ⟨q0, q1, qP, va_K.moved (u := U) (U := U.calling g mk a) (Vm.Alike.refl U.vm) qK, qD⟩, va_recv hKc hPc (ci := 9) (q0 := 0) rfl rfl, fun U hU hW => ⟨rfl, by rw [hU], by rw [hU]; exact hPc, va_K.moved hW.alike hKc, hDc.weaken (fun _ _ _ _ => trivial)⟩⟩ rfl rfl hl.1 rfl (lv_room (Nat.le_of_ble_eq_true rfl)) dX9_within_30 ⟨Nat.le_of_ble_eq_true rfl, Nat.le_of_ble_eq_true rfl⟩) hS (fun q _ h => hFc q h) hFc (fun r_6 u t H1 locs ht hvm hw hB hz1 hk1 hS => ?_)
  exact W.iret hx hb hr (fun t ht hW => ⟨⟨_, (), rfl, hw, trivial⟩, hS.F ht⟩) hS.2.2 dX9_within_33
theorem dX9_put_0 : decode cX9_put 0 = .ok (.iload_n 3, 1) := by decide +kernel
theorem dX9_put_1 : decode cX9_put 1 = .ok (.invokestatic 239, 3) := by decide +kernel
theorem dX9_put_4 : decode cX9_put 4 = .ok (.ifCond .eq 7, 3) := by decide +kernel
theorem dX9_put_7 : decode cX9_put 7 = .ok (.iload_n 2, 1) := by decide +kernel
theorem dX9_put_8 : decode cX9_put 8 = .ok (.ifCond .ge 9, 3) := by decide +kernel
theorem dX9_put_11 : decode cX9_put 11 = .ok (.aload_n 0, 1) := by decide +kernel
theorem dX9_put_12 : decode cX9_put 12 = .ok (.iconst 1, 1) := by decide +kernel
theorem dX9_put_13 : decode cX9_put 13 = .ok (.invokevirtual 80, 3) := by decide +kernel
theorem dX9_put_16 : decode cX9_put 16 = .ok (.ireturn, 1) := by decide +kernel
theorem dX9_put_17 : decode cX9_put 17 = .ok (.aload_n 0, 1) := by decide +kernel
theorem dX9_put_18 : decode cX9_put 18 = .ok (.getfield 29, 3) := by decide +kernel
theorem dX9_put_21 : decode cX9_put 21 = .ok (.iload_n 1, 1) := by decide +kernel
theorem dX9_put_22 : decode cX9_put 22 = .ok (.invokevirtual 123, 3) := by decide +kernel
theorem dX9_put_25 : decode cX9_put 25 = .ok (.astore 4, 2) := by decide +kernel
theorem dX9_put_27 : decode cX9_put 27 = .ok (.aload 4, 2) := by decide +kernel
theorem dX9_put_29 : decode cX9_put 29 = .ok (.ifnonnull 9, 3) := by decide +kernel
theorem dX9_put_32 : decode cX9_put 32 = .ok (.aload_n 0, 1) := by decide +kernel
theorem dX9_put_33 : decode cX9_put 33 = .ok (.iconst 2, 1) := by decide +kernel
theorem dX9_put_34 : decode cX9_put 34 = .ok (.invokevirtual 80, 3) := by decide +kernel
theorem dX9_put_37 : decode cX9_put 37 = .ok (.ireturn, 1) := by decide +kernel
def mwX9_put : List Cond := .code yX9_put cX9_put 7 (some .int) :: ([.code yX9_isLetter cX9_isLetter 1 (some .boolean), .methodLink RX9 239 yX9_isLetter, .static yX9_isLetter, .initialized RX9, .code yX9_refuse cX9_refuse 2 (some .int), .fieldLink RX9 70 "PatternGate" "lastStatus" "I", .methodLink RX9 80 yX9_refuse, .instanceMethod yX9_refuse, .selects RX9 yX9_refuse yX9_refuse, .fieldLink RX9 29 "PatternGate" "book" "LPatternGate$Book;", .code yX0_docAt cX0_docAt 2 (some (.object "PatternGate$Doc")), .fieldLink RX0 7 "PatternGate$Book" "docs" "[LPatternGate$Doc;", .methodLink RX9 123 yX0_docAt, .instanceMethod yX0_docAt, .selects RX0 yX0_docAt yX0_docAt, .initialized RX0] ++ wsX90 ++ wsX00)
theorem fin_X9_put_X9 : ∀ w ∈ wsX90, w ∈ mwX9_put := fun w h => List.mem_cons_of_mem _ (List.mem_append_left _ (List.mem_append_right _ h))
set_option maxRecDepth 20000 in
theorem mg_X9_put_X9_isLetter_239 : GoodIn mwX9_put (va_wsS RX9 239 yX9_isLetter mwX9_isLetter) := goodIn_r _ [2, 3, 4, 1] (by decide +kernel) (by decide +kernel)
set_option maxRecDepth 20000 in
theorem mg_X9_put_X9_refuse_80 : GoodIn mwX9_put (wsV RX9 80 RX9 yX9_refuse mwX9_refuse) := goodIn_r _ [7, 8, 9, 4, 5, 6, 17, 18, 19, 20, 21, 22, 23, 24, 25, 26, 27, 28, 29, 30, 31, 32] (by decide +kernel) (by decide +kernel)
set_option maxRecDepth 20000 in
theorem mg_X9_put_X0_docAt_123 : GoodIn mwX9_put (wsV RX9 123 RX0 yX0_docAt mwX0_docAt) := goodIn_r _ [13, 14, 15, 16, 11, 12, 33, 34, 35] (by decide +kernel) (by decide +kernel)
set_option maxHeartbeats 4000000 in
set_option maxRecDepth 100000 in
/-- put on a new object -/
theorem c_put (l : Launch) (dC : Nat → ClassId) (dI : Nat → Nat → Nat) (x : Nat) (q : Nat → Nat) (b d0 p0 : Nat) (cT cD cP cB cU : ClassId) (r : Nat → Nat) (sz : Nat) (i0 i1 i2 : Int32) : Met l yX9_put mwX9_put ({ frames := 1, cells := 0, slots := 0, locals := 60 }) (va_Pc [.ref x, .int i0, .int i1, .int i2] (fun U => U.heap.size = sz ∧ va_P (dC, dI) vwCl (gW x q b d0 p0 cT cD cP cB cU r) U.heap ∧ va_K (dC, dI) vwCl (gT cT cD cP cB cU) U ∧ va_D (fun _ => True) (gW x q b d0 p0 cT cD cP cB cU r))) (va_Qi (fun (o : Int32) (_ : Unit) => o = (-1)) (fun _ _ => True) (va_A (gW x q b d0 p0 cT cD cP cB cU r) sz)) 0 0 (va_A (gW x q b d0 p0 cT cD cP cB cU r) sz) := by
  refine Met.ofW (cc := cX9_put) (maxL := 7) (ret := (some .int)) (by decide +kernel) rfl ?_
  intro p e s m args below meth c s₁ B hml hv
  obtain ⟨rfl, hsz, hP, hK, hD0⟩ := hv
  have hx := B.exec
  have hb := B.bytes
  have hr := B.returns
  have hts := atoms_spec (ws := mwX9_put) B.pre
  have hown : s.vm.findClass RX9 = some m.cls := findClass_of_methodNamed B.named
  have hlocks := B.notSynchronized
  subst hsz
  have hD := hD0.self (sz := s.heap.size)
  generalize hAe : va_A (gW x q b d0 p0 cT cD cP cB cU r) s.heap.size = A at hD ⊢
  have hA : ∀ q : Nat, s.heap.size ≤ q → A q := fun q h => by rw [← hAe]; exact Or.inr h
  have hP : va_P (dC, dI) vwCl [(x, .inr (9, gF q 0 0 (-1) (-1) b 0 0)), (q 0, .inl (cT, 900, .inl (fun _ => 0))), (b, .inr (0, [.ref d0, .ref p0, .null])), (d0, .inl (cD, 0, .inr (.inr (.inr (.inr (fun _ => none)))))), (p0, .inl (cP, 0, .inr (.inr (.inr (.inr (fun _ => none)))))), (q 1, .inl (cB, 3, .inr (.inr (.inr (.inr (fun _ => none)))))), (q 2, .inl (cU, 3, .inl (fun _ => 0))), (q 3, .inr (6, rF r 0 0 0 0 0 0 0 0))] s.heap := hP
  have hD : va_D A [(x, .inr (9, gF q 0 0 (-1) (-1) b 0 0)), (q 0, .inl (cT, 900, .inl (fun _ => 0))), (b, .inr (0, [.ref d0, .ref p0, .null])), (d0, .inl (cD, 0, .inr (.inr (.inr (.inr (fun _ => none)))))), (p0, .inl (cP, 0, .inr (.inr (.inr (.inr (fun _ => none)))))), (q 1, .inl (cB, 3, .inr (.inr (.inr (.inr (fun _ => none)))))), (q 2, .inl (cU, 3, .inl (fun _ => 0))), (q 3, .inr (6, rF r 0 0 0 0 0 0 0 0))] := hD
  have hK : va_K (dC, dI) vwCl [(cT, .int), (cD, .object "PatternGate$Doc"), (cP, .object "PatternGate$Pattern"), (cB, .object "PatternGate$Book"), (cU, .int)] s := hK
  generalize hH : s.heap = H at hP ⊢
  have hS : va_S A s.heap H [] := by rw [← hH]; exact va_S.rf
  have hl := lv_entry ([.ref x, .int i0, .int i1, .int i2]) (n := 7) (Nat.le_of_ble_eq_true rfl)
  rw [lg_entry_eq]
  generalize (lg_sl ([.ref x, .int i0, .int i1, .int i2]) ++ List.replicate (7 - (lg_sl ([.ref x, .int i0, .int i1, .int i2])).length) Slot.unset).toArray = ls at hl ⊢
  have hl : lv_has ls 7 [(0, .ref x), (1, .int i0), (2, .int i1), (3, .int i2)] := hl
  refine lv_iload_n hx hb dX9_put_0 rfl (lv_at hl 3 rfl) ?_
  refine vp_callSi (W.runS (As := [.int i2]) (rest := []) ⟨hx, hb, hml, hown, hts⟩ (c_isLetter l dC dI i2) (va_cwS 1 hts mg_X9_put_X9_isLetter_239 rfl rfl rfl (by decide +kernel) ⟨Nat.le_of_ble_eq_true rfl, Nat.le_of_ble_eq_true rfl⟩) ⟨fun a U g mk q => ⟨q.1, trivial⟩, fun U hU hW => ⟨rfl, trivial⟩⟩ rfl rfl hl.1 rfl (lv_room (Nat.le_of_ble_eq_true rfl)) dX9_put_1 ⟨Nat.le_of_ble_eq_true rfl, Nat.le_of_ble_eq_true rfl⟩) (fun r_2 hw => ?_)
  rcases hw with rfl | rfl
  · refine lv_if_eq (tgt := 11) hx hb dX9_put_4 (by decide) (fun k_3 => ?_) (fun k_3 => absurd (by decide) k_3)
    refine lv_aload_n hx hb dX9_put_11 rfl (lv_at hl 0 rfl) ?_
    refine lv_iconst (v := 1) hx hb dX9_put_12 (by decide) ?_
    have hPc := hP.sub (ws' := [(x, .inr (9, gF q 0 0 (-1) (-1) b 0 0))]) [0] rfl
    have hKc := hK.sub (tys' := []) [] rfl
    have hDc := hD.sub (ws' := [(x, .inr (9, gF q 0 0 (-1) (-1) b 0 0))]) [0] (by decide) rfl
    have hFc := va_free (wc := [(x, .inr (9, gF q 0 0 (-1) (-1) b 0 0))]) hD hS hA [0] rfl
    refine va_calli (va_runV (As := [.int 1]) (rest := []) ⟨hx, hb, hml, hown, hts⟩ (c_refuse l dC dI x q 0 0 (-1) (-1) b 0 0 H.size 1) (cwV 1 hts mg_X9_put_X9_refuse_80 rfl rfl rfl (by decide +kernel) ⟨Nat.le_of_ble_eq_true rfl, Nat.le_of_ble_eq_true rfl⟩) ⟨fun a U g mk q => by obtain ⟨q0, q1, qP, qK, qD⟩ := q; exact ⟨q0, q1, qP, va_K.moved (u := U) (U := U.calling g mk a) (Vm.Alike.refl U.vm) qK, qD⟩, va_recv hKc hPc (ci := 9) (q0 := 0) rfl rfl, fun U hU hW => ⟨rfl, by rw [hU], by rw [hU]; exact hPc, va_K.moved hW.alike hKc, hDc.weaken (fun _ _ _ _ => trivial)⟩⟩ rfl rfl hl.1 rfl (lv_room (Nat.le_of_ble_eq_true rfl)) dX9_put_13 ⟨Nat.le_of_ble_eq_true rfl, Nat.le_of_ble_eq_true rfl⟩) hS (fun q _ h => hFc q h) hFc (fun r_5 u t H1 locs ht hvm hw hB hz1 hk1 hS => ?_)
    exact W.iret hx hb hr (fun t ht hW => ⟨⟨_, (), rfl, hw, trivial⟩, hS.F ht⟩) hS.2.2 dX9_put_16
  · refine lv_if_eq (tgt := 11) hx hb dX9_put_4 (by decide) (fun k_6 => absurd k_6 (by decide)) (fun k_6 => ?_)
    refine lv_iload_n hx hb dX9_put_7 rfl (lv_at hl 2 rfl) ?_
    refine lv_if_ge (tgt := 17) hx hb dX9_put_8 (by decide) (fun k_7 => ?_) (fun k_7 => ?_)
    · refine lv_aload_n hx hb dX9_put_17 rfl (lv_at hl 0 rfl) ?_
      refine va_get (D := (dC, dI)) (ci := 9) (v := .ref b) (C := RX9) (T := TX9) (N := 16) hx hb hts fin_X9_put_X9 hown hK hP 0 rfl rfl 5 (by decide) (hts (.fieldLink RX9 29 "PatternGate" "book" "LPatternGate$Book;") (List.mem_of_getElem? (i := 10) (by decide +kernel))) (fun _ h9 => h9) rfl dX9_put_18 ?_
      refine lv_iload_n hx hb dX9_put_21 rfl (lv_at hl 1 rfl) ?_
      have hPc := hP.sub (ws' := [(b, .inr (0, [.ref d0, .ref p0, .null])), (d0, .inl (cD, 0, .inr (.inr (.inr (.inr (fun _ => none)))))), (p0, .inl (cP, 0, .inr (.inr (.inr (.inr (fun _ => none))))))]) [2, 3, 4] rfl
      have hKc := hK.sub (tys' := [(cD, .object "PatternGate$Doc"), (cP, .object "PatternGate$Pattern")]) [1, 2] rfl
      refine va_csq (W.runV (As := [.int i0]) (rest := []) ⟨hx, hb, hml, hown, hts⟩ (c_docAt l dC dI b d0 p0 cD cP i0) (cwV 1 hts mg_X9_put_X0_docAt_123 rfl rfl rfl (by decide +kernel) ⟨Nat.le_of_ble_eq_true rfl, Nat.le_of_ble_eq_true rfl⟩) ⟨fun a U g mk q => by obtain ⟨q0, qP, qK⟩ := q; exact ⟨q0, qP, va_K.moved (u := U) (U := U.calling g mk a) (Vm.Alike.refl U.vm) qK⟩, va_recv hKc hPc (ci := 0) (q0 := 0) rfl rfl, fun U hU hW => ⟨rfl, by rw [hU]; exact hPc, va_K.moved hW.alike hKc⟩⟩ rfl rfl hl.1 rfl (lv_room (Nat.le_of_ble_eq_true rfl)) dX9_put_22 ⟨Nat.le_of_ble_eq_true rfl, Nat.le_of_ble_eq_true rfl⟩) (fun r_9 hw => ?_)
      subst hw
      refine W.eq (g2 := F0 m 25 ls [.null]) rfl ?_
      refine lv_astoreN (lv' := [(4, .null), (0, .ref x), (1, .int i0), (2, .int i1), (3, .int i2)]) hx hb dX9_put_25 hl (by decide) rfl (fun ls hl => ?_)
      refine lv_aloadN hx hb dX9_put_27 (lv_at hl 0 rfl) ?_
      refine lv_ifnonnullN hx hb dX9_put_29 ?_
      refine lv_aload_n hx hb dX9_put_32 rfl (lv_at hl 1 rfl) ?_
      refine lv_iconst (v := 2) hx hb dX9_put_33 (by decide) ?_
      have hPc := hP.sub (ws' := [(x, .inr (9, gF q 0 0 (-1) (-1) b 0 0))]) [0] rfl
      have hKc := hK.sub (tys' := []) [] rfl
      have hDc := hD.sub (ws' := [(x, .inr (9, gF q 0 0 (-1) (-1) b 0 0))]) [0] (by decide) rfl
      have hFc := va_free (wc := [(x, .inr (9, gF q 0 0 (-1) (-1) b 0 0))]) hD hS hA [0] rfl
      refine va_calli (va_runV (As := [.int 2]) (rest := []) ⟨hx, hb, hml, hown, hts⟩ (c_refuse l dC dI x q 0 0 (-1) (-1) b 0 0 H.size 2) (cwV 1 hts mg_X9_put_X9_refuse_80 rfl rfl rfl (by decide +kernel) ⟨Nat.le_of_ble_eq_true rfl, Nat.le_of_ble_eq_true rfl⟩) ⟨fun a U g mk q => by obtain ⟨q0, q1, qP, qK, qD⟩ := q; exact ⟨q0, q1, qP, va_K.moved (u := U) (U := U.calling g mk a) (Vm.Alike.refl U.vm) qK, qD⟩, va_recv hKc hPc (ci := 9) (q0 := 0) rfl rfl, fun U hU hW => ⟨rfl, by rw [hU], by rw [hU]; exact hPc, va_K.moved hW.alike hKc, hDc.weaken (fun _ _ _ _ => trivial)⟩⟩ rfl rfl hl.1 rfl (lv_room (Nat.le_of_ble_eq_true rfl)) dX9_put_34 ⟨Nat.le_of_ble_eq_true rfl, Nat.le_of_ble_eq_true rfl⟩) hS (fun q _ h => hFc q h) hFc (fun r_11 u t H1 locs ht hvm hw hB hz1 hk1 hS => ?_)
      exact W.iret hx hb hr (fun t ht hW => ⟨⟨_, (), rfl, hw, trivial⟩, hS.F ht⟩) hS.2.2 dX9_put_37
    · refine lv_aload_n hx hb dX9_put_11 rfl (lv_at hl 0 rfl) ?_
      refine lv_iconst (v := 1) hx hb dX9_put_12 (by decide) ?_
      have hPc := hP.sub (ws' := [(x, .inr (9, gF q 0 0 (-1) (-1) b 0 0))]) [0] rfl
      have hKc := hK.sub (tys' := []) [] rfl
      have hDc := hD.sub (ws' := [(x, .inr (9, gF q 0 0 (-1) (-1) b 0 0))]) [0] (by decide) rfl
      have hFc := va_free (wc := [(x, .inr (9, gF q 0 0 (-1) (-1) b 0 0))]) hD hS hA [0] rfl
      refine va_calli (va_runV (As := [.int 1]) (rest := []) ⟨hx, hb, hml, hown, hts⟩ (c_refuse l dC dI x q 0 0 (-1) (-1) b 0 0 H.size 1) (cwV 1 hts mg_X9_put_X9_refuse_80 rfl rfl rfl (by decide +kernel) ⟨Nat.le_of_ble_eq_true rfl, Nat.le_of_ble_eq_true rfl⟩) ⟨fun a U g mk q => by obtain ⟨q0, q1, qP, qK, qD⟩ := q; exact ⟨q0, q1, qP, va_K.moved (u := U) (U := U.calling g mk a) (Vm.Alike.refl U.vm) qK, qD⟩, va_recv hKc hPc (ci := 9) (q0 := 0) rfl rfl, fun U hU hW => ⟨rfl, by rw [hU], by rw [hU]; exact hPc, va_K.moved hW.alike hKc, hDc.weaken (fun _ _ _ _ => trivial)⟩⟩ rfl rfl hl.1 rfl (lv_room (Nat.le_of_ble_eq_true rfl)) dX9_put_13 ⟨Nat.le_of_ble_eq_true rfl, Nat.le_of_ble_eq_true rfl⟩) hS (fun q _ h => hFc q h) hFc (fun r_13 u t H1 locs ht hvm hw hB hz1 hk1 hS => ?_)
      exact W.iret hx hb hr (fun t ht hW => ⟨⟨_, (), rfl, hw, trivial⟩, hS.F ht⟩) hS.2.2 dX9_put_16
theorem dX9_let_0 : decode cX9_let 0 = .ok (.iload_n 3, 1) := by decide +kernel
theorem dX9_let_1 : decode cX9_let 1 = .ok (.invokestatic 239, 3) := by decide +kernel
theorem dX9_let_4 : decode cX9_let 4 = .ok (.ifCond .eq 7, 3) := by decide +kernel
theorem dX9_let_7 : decode cX9_let 7 = .ok (.iload_n 2, 1) := by decide +kernel
theorem dX9_let_8 : decode cX9_let 8 = .ok (.ifCond .ge 9, 3) := by decide +kernel
theorem dX9_let_11 : decode cX9_let 11 = .ok (.aload_n 0, 1) := by decide +kernel
theorem dX9_let_12 : decode cX9_let 12 = .ok (.iconst 1, 1) := by decide +kernel
theorem dX9_let_13 : decode cX9_let 13 = .ok (.invokevirtual 80, 3) := by decide +kernel
theorem dX9_let_16 : decode cX9_let 16 = .ok (.ireturn, 1) := by decide +kernel
theorem dX9_let_17 : decode cX9_let 17 = .ok (.aload_n 0, 1) := by decide +kernel
theorem dX9_let_18 : decode cX9_let 18 = .ok (.getfield 29, 3) := by decide +kernel
theorem dX9_let_21 : decode cX9_let 21 = .ok (.iload_n 1, 1) := by decide +kernel
theorem dX9_let_22 : decode cX9_let 22 = .ok (.invokevirtual 123, 3) := by decide +kernel
theorem dX9_let_25 : decode cX9_let 25 = .ok (.astore 4, 2) := by decide +kernel
theorem dX9_let_27 : decode cX9_let 27 = .ok (.aload 4, 2) := by decide +kernel
theorem dX9_let_29 : decode cX9_let 29 = .ok (.ifnonnull 9, 3) := by decide +kernel
theorem dX9_let_32 : decode cX9_let 32 = .ok (.aload_n 0, 1) := by decide +kernel
theorem dX9_let_33 : decode cX9_let 33 = .ok (.iconst 2, 1) := by decide +kernel
theorem dX9_let_34 : decode cX9_let 34 = .ok (.invokevirtual 80, 3) := by decide +kernel
theorem dX9_let_37 : decode cX9_let 37 = .ok (.ireturn, 1) := by decide +kernel
def mwX9_let : List Cond := .code yX9_let cX9_let 7 (some .int) :: ([.code yX9_isLetter cX9_isLetter 1 (some .boolean), .methodLink RX9 239 yX9_isLetter, .static yX9_isLetter, .initialized RX9, .code yX9_refuse cX9_refuse 2 (some .int), .fieldLink RX9 70 "PatternGate" "lastStatus" "I", .methodLink RX9 80 yX9_refuse, .instanceMethod yX9_refuse, .selects RX9 yX9_refuse yX9_refuse, .fieldLink RX9 29 "PatternGate" "book" "LPatternGate$Book;", .code yX0_docAt cX0_docAt 2 (some (.object "PatternGate$Doc")), .fieldLink RX0 7 "PatternGate$Book" "docs" "[LPatternGate$Doc;", .methodLink RX9 123 yX0_docAt, .instanceMethod yX0_docAt, .selects RX0 yX0_docAt yX0_docAt, .initialized RX0] ++ wsX90 ++ wsX00)
theorem fin_X9_let_X9 : ∀ w ∈ wsX90, w ∈ mwX9_let := fun w h => List.mem_cons_of_mem _ (List.mem_append_left _ (List.mem_append_right _ h))
set_option maxRecDepth 20000 in
theorem mg_X9_let_X9_isLetter_239 : GoodIn mwX9_let (va_wsS RX9 239 yX9_isLetter mwX9_isLetter) := goodIn_r _ [2, 3, 4, 1] (by decide +kernel) (by decide +kernel)
set_option maxRecDepth 20000 in
theorem mg_X9_let_X9_refuse_80 : GoodIn mwX9_let (wsV RX9 80 RX9 yX9_refuse mwX9_refuse) := goodIn_r _ [7, 8, 9, 4, 5, 6, 17, 18, 19, 20, 21, 22, 23, 24, 25, 26, 27, 28, 29, 30, 31, 32] (by decide +kernel) (by decide +kernel)
set_option maxRecDepth 20000 in
theorem mg_X9_let_X0_docAt_123 : GoodIn mwX9_let (wsV RX9 123 RX0 yX0_docAt mwX0_docAt) := goodIn_r _ [13, 14, 15, 16, 11, 12, 33, 34, 35] (by decide +kernel) (by decide +kernel)
set_option maxHeartbeats 4000000 in
set_option maxRecDepth 100000 in
/-- let on a new object -/
theorem c_let (l : Launch) (dC : Nat → ClassId) (dI : Nat → Nat → Nat) (x : Nat) (q : Nat → Nat) (b d0 p0 : Nat) (cT cD cP cB cU : ClassId) (r : Nat → Nat) (sz : Nat) (i0 i1 i2 : Int32) : Met l yX9_let mwX9_let ({ frames := 1, cells := 0, slots := 0, locals := 60 }) (va_Pc [.ref x, .int i0, .int i1, .int i2] (fun U => U.heap.size = sz ∧ va_P (dC, dI) vwCl (gW x q b d0 p0 cT cD cP cB cU r) U.heap ∧ va_K (dC, dI) vwCl (gT cT cD cP cB cU) U ∧ va_D (fun _ => True) (gW x q b d0 p0 cT cD cP cB cU r))) (va_Qi (fun (o : Int32) (_ : Unit) => o = (-1)) (fun _ _ => True) (va_A (gW x q b d0 p0 cT cD cP cB cU r) sz)) 0 0 (va_A (gW x q b d0 p0 cT cD cP cB cU r) sz) := by
  refine Met.ofW (cc := cX9_let) (maxL := 7) (ret := (some .int)) (by decide +kernel) rfl ?_
  intro p e s m args below meth c s₁ B hml hv
  obtain ⟨rfl, hsz, hP, hK, hD0⟩ := hv
  have hx := B.exec
  have hb := B.bytes
  have hr := B.returns
  have hts := atoms_spec (ws := mwX9_let) B.pre
  have hown : s.vm.findClass RX9 = some m.cls := findClass_of_methodNamed B.named
  have hlocks := B.notSynchronized
  subst hsz
  have hD := hD0.self (sz := s.heap.size)
  generalize hAe : va_A (gW x q b d0 p0 cT cD cP cB cU r) s.heap.size = A at hD ⊢
  have hA : ∀ q : Nat, s.heap.size ≤ q → A q := fun q h => by rw [← hAe]; exact Or.inr h
  have hP : va_P (dC, dI) vwCl [(x, .inr (9, gF q 0 0 (-1) (-1) b 0 0)), (q 0, .inl (cT, 900, .inl (fun _ => 0))), (b, .inr (0, [.ref d0, .ref p0, .null])), (d0, .inl (cD, 0, .inr (.inr (.inr (.inr (fun _ => none)))))), (p0, .inl (cP, 0, .inr (.inr (.inr (.inr (fun _ => none)))))), (q 1, .inl (cB, 3, .inr (.inr (.inr (.inr (fun _ => none)))))), (q 2, .inl (cU, 3, .inl (fun _ => 0))), (q 3, .inr (6, rF r 0 0 0 0 0 0 0 0))] s.heap := hP
  have hD : va_D A [(x, .inr (9, gF q 0 0 (-1) (-1) b 0 0)), (q 0, .inl (cT, 900, .inl (fun _ => 0))), (b, .inr (0, [.ref d0, .ref p0, .null])), (d0, .inl (cD, 0, .inr (.inr (.inr (.inr (fun _ => none)))))), (p0, .inl (cP, 0, .inr (.inr (.inr (.inr (fun _ => none)))))), (q 1, .inl (cB, 3, .inr (.inr (.inr (.inr (fun _ => none)))))), (q 2, .inl (cU, 3, .inl (fun _ => 0))), (q 3, .inr (6, rF r 0 0 0 0 0 0 0 0))] := hD
  have hK : va_K (dC, dI) vwCl [(cT, .int), (cD, .object "PatternGate$Doc"), (cP, .object "PatternGate$Pattern"), (cB, .object "PatternGate$Book"), (cU, .int)] s := hK
  generalize hH : s.heap = H at hP ⊢
  have hS : va_S A s.heap H [] := by rw [← hH]; exact va_S.rf
  have hl := lv_entry ([.ref x, .int i0, .int i1, .int i2]) (n := 7) (Nat.le_of_ble_eq_true rfl)
  rw [lg_entry_eq]
  generalize (lg_sl ([.ref x, .int i0, .int i1, .int i2]) ++ List.replicate (7 - (lg_sl ([.ref x, .int i0, .int i1, .int i2])).length) Slot.unset).toArray = ls at hl ⊢
  have hl : lv_has ls 7 [(0, .ref x), (1, .int i0), (2, .int i1), (3, .int i2)] := hl
  refine lv_iload_n hx hb dX9_let_0 rfl (lv_at hl 3 rfl) ?_
  refine vp_callSi (W.runS (As := [.int i2]) (rest := []) ⟨hx, hb, hml, hown, hts⟩ (c_isLetter l dC dI i2) (va_cwS 1 hts mg_X9_let_X9_isLetter_239 rfl rfl rfl (by decide +kernel) ⟨Nat.le_of_ble_eq_true rfl, Nat.le_of_ble_eq_true rfl⟩) ⟨fun a U g mk q => ⟨q.1, trivial⟩, fun U hU hW => ⟨rfl, trivial⟩⟩ rfl rfl hl.1 rfl (lv_room (Nat.le_of_ble_eq_true rfl)) dX9_let_1 ⟨Nat.le_of_ble_eq_true rfl, Nat.le_of_ble_eq_true rfl⟩) (fun r_2 hw => ?_)
  rcases hw with rfl | rfl
  · refine lv_if_eq (tgt := 11) hx hb dX9_let_4 (by decide) (fun k_3 => ?_) (fun k_3 => absurd (by decide) k_3)
    refine lv_aload_n hx hb dX9_let_11 rfl (lv_at hl 0 rfl) ?_
    refine lv_iconst (v := 1) hx hb dX9_let_12 (by decide) ?_
    have hPc := hP.sub (ws' := [(x, .inr (9, gF q 0 0 (-1) (-1) b 0 0))]) [0] rfl
    have hKc := hK.sub (tys' := []) [] rfl
    have hDc := hD.sub (ws' := [(x, .inr (9, gF q 0 0 (-1) (-1) b 0 0))]) [0] (by decide) rfl
    have hFc := va_free (wc := [(x, .inr (9, gF q 0 0 (-1) (-1) b 0 0))]) hD hS hA [0] rfl
    refine va_calli (va_runV (As := [.int 1]) (rest := []) ⟨hx, hb, hml, hown, hts⟩ (c_refuse l dC dI x q 0 0 (-1) (-1) b 0 0 H.size 1) (cwV 1 hts mg_X9_let_X9_refuse_80 rfl rfl rfl (by decide +kernel) ⟨Nat.le_of_ble_eq_true rfl, Nat.le_of_ble_eq_true rfl⟩) ⟨fun a U g mk q => by obtain ⟨q0, q1, qP, qK, qD⟩ := q; exact ⟨q0, q1, qP, va_K.moved (u := U) (U := U.calling g mk a) (Vm.Alike.refl U.vm) qK, qD⟩, va_recv hKc hPc (ci := 9) (q0 := 0) rfl rfl, fun U hU hW => ⟨rfl, by rw [hU], by rw [hU]; exact hPc, va_K.moved hW.alike hKc, hDc.weaken (fun _ _ _ _ => trivial)⟩⟩ rfl rfl hl.1 rfl (lv_room (Nat.le_of_ble_eq_true rfl)) dX9_let_13 ⟨Nat.le_of_ble_eq_true rfl, Nat.le_of_ble_eq_true rfl⟩) hS (fun q _ h => hFc q h) hFc (fun r_5 u t H1 locs ht hvm hw hB hz1 hk1 hS => ?_)
    exact W.iret hx hb hr (fun t ht hW => ⟨⟨_, (), rfl, hw, trivial⟩, hS.F ht⟩) hS.2.2 dX9_let_16
  · refine lv_if_eq (tgt := 11) hx hb dX9_let_4 (by decide) (fun k_6 => absurd k_6 (by decide)) (fun k_6 => ?_)
    refine lv_iload_n hx hb dX9_let_7 rfl (lv_at hl 2 rfl) ?_
    refine lv_if_ge (tgt := 17) hx hb dX9_let_8 (by decide) (fun k_7 => ?_) (fun k_7 => ?_)
    · refine lv_aload_n hx hb dX9_let_17 rfl (lv_at hl 0 rfl) ?_
      refine va_get (D := (dC, dI)) (ci := 9) (v := .ref b) (C := RX9) (T := TX9) (N := 16) hx hb hts fin_X9_let_X9 hown hK hP 0 rfl rfl 5 (by decide) (hts (.fieldLink RX9 29 "PatternGate" "book" "LPatternGate$Book;") (List.mem_of_getElem? (i := 10) (by decide +kernel))) (fun _ h9 => h9) rfl dX9_let_18 ?_
      refine lv_iload_n hx hb dX9_let_21 rfl (lv_at hl 1 rfl) ?_
      have hPc := hP.sub (ws' := [(b, .inr (0, [.ref d0, .ref p0, .null])), (d0, .inl (cD, 0, .inr (.inr (.inr (.inr (fun _ => none)))))), (p0, .inl (cP, 0, .inr (.inr (.inr (.inr (fun _ => none))))))]) [2, 3, 4] rfl
      have hKc := hK.sub (tys' := [(cD, .object "PatternGate$Doc"), (cP, .object "PatternGate$Pattern")]) [1, 2] rfl
      refine va_csq (W.runV (As := [.int i0]) (rest := []) ⟨hx, hb, hml, hown, hts⟩ (c_docAt l dC dI b d0 p0 cD cP i0) (cwV 1 hts mg_X9_let_X0_docAt_123 rfl rfl rfl (by decide +kernel) ⟨Nat.le_of_ble_eq_true rfl, Nat.le_of_ble_eq_true rfl⟩) ⟨fun a U g mk q => by obtain ⟨q0, qP, qK⟩ := q; exact ⟨q0, qP, va_K.moved (u := U) (U := U.calling g mk a) (Vm.Alike.refl U.vm) qK⟩, va_recv hKc hPc (ci := 0) (q0 := 0) rfl rfl, fun U hU hW => ⟨rfl, by rw [hU]; exact hPc, va_K.moved hW.alike hKc⟩⟩ rfl rfl hl.1 rfl (lv_room (Nat.le_of_ble_eq_true rfl)) dX9_let_22 ⟨Nat.le_of_ble_eq_true rfl, Nat.le_of_ble_eq_true rfl⟩) (fun r_9 hw => ?_)
      subst hw
      refine W.eq (g2 := F0 m 25 ls [.null]) rfl ?_
      refine lv_astoreN (lv' := [(4, .null), (0, .ref x), (1, .int i0), (2, .int i1), (3, .int i2)]) hx hb dX9_let_25 hl (by decide) rfl (fun ls hl => ?_)
      refine lv_aloadN hx hb dX9_let_27 (lv_at hl 0 rfl) ?_
      refine lv_ifnonnullN hx hb dX9_let_29 ?_
      refine lv_aload_n hx hb dX9_let_32 rfl (lv_at hl 1 rfl) ?_
      refine lv_iconst (v := 2) hx hb dX9_let_33 (by decide) ?_
      have hPc := hP.sub (ws' := [(x, .inr (9, gF q 0 0 (-1) (-1) b 0 0))]) [0] rfl
      have hKc := hK.sub (tys' := []) [] rfl
      have hDc := hD.sub (ws' := [(x, .inr (9, gF q 0 0 (-1) (-1) b 0 0))]) [0] (by decide) rfl
      have hFc := va_free (wc := [(x, .inr (9, gF q 0 0 (-1) (-1) b 0 0))]) hD hS hA [0] rfl
      refine va_calli (va_runV (As := [.int 2]) (rest := []) ⟨hx, hb, hml, hown, hts⟩ (c_refuse l dC dI x q 0 0 (-1) (-1) b 0 0 H.size 2) (cwV 1 hts mg_X9_let_X9_refuse_80 rfl rfl rfl (by decide +kernel) ⟨Nat.le_of_ble_eq_true rfl, Nat.le_of_ble_eq_true rfl⟩) ⟨fun a U g mk q => by obtain ⟨q0, q1, qP, qK, qD⟩ := q; exact ⟨q0, q1, qP, va_K.moved (u := U) (U := U.calling g mk a) (Vm.Alike.refl U.vm) qK, qD⟩, va_recv hKc hPc (ci := 9) (q0 := 0) rfl rfl, fun U hU hW => ⟨rfl, by rw [hU], by rw [hU]; exact hPc, va_K.moved hW.alike hKc, hDc.weaken (fun _ _ _ _ => trivial)⟩⟩ rfl rfl hl.1 rfl (lv_room (Nat.le_of_ble_eq_true rfl)) dX9_let_34 ⟨Nat.le_of_ble_eq_true rfl, Nat.le_of_ble_eq_true rfl⟩) hS (fun q _ h => hFc q h) hFc (fun r_11 u t H1 locs ht hvm hw hB hz1 hk1 hS => ?_)
      exact W.iret hx hb hr (fun t ht hW => ⟨⟨_, (), rfl, hw, trivial⟩, hS.F ht⟩) hS.2.2 dX9_let_37
    · refine lv_aload_n hx hb dX9_let_11 rfl (lv_at hl 0 rfl) ?_
      refine lv_iconst (v := 1) hx hb dX9_let_12 (by decide) ?_
      have hPc := hP.sub (ws' := [(x, .inr (9, gF q 0 0 (-1) (-1) b 0 0))]) [0] rfl
      have hKc := hK.sub (tys' := []) [] rfl
      have hDc := hD.sub (ws' := [(x, .inr (9, gF q 0 0 (-1) (-1) b 0 0))]) [0] (by decide) rfl
      have hFc := va_free (wc := [(x, .inr (9, gF q 0 0 (-1) (-1) b 0 0))]) hD hS hA [0] rfl
      refine va_calli (va_runV (As := [.int 1]) (rest := []) ⟨hx, hb, hml, hown, hts⟩ (c_refuse l dC dI x q 0 0 (-1) (-1) b 0 0 H.size 1) (cwV 1 hts mg_X9_let_X9_refuse_80 rfl rfl rfl (by decide +kernel) ⟨Nat.le_of_ble_eq_true rfl, Nat.le_of_ble_eq_true rfl⟩) ⟨fun a U g mk q => by obtain ⟨q0, q1, qP, qK, qD⟩ := q; exact ⟨q0, q1, qP, va_K.moved (u := U) (U := U.calling g mk a) (Vm.Alike.refl U.vm) qK, qD⟩, va_recv hKc hPc (ci := 9) (q0 := 0) rfl rfl, fun U hU hW => ⟨rfl, by rw [hU], by rw [hU]; exact hPc, va_K.moved hW.alike hKc, hDc.weaken (fun _ _ _ _ => trivial)⟩⟩ rfl rfl hl.1 rfl (lv_room (Nat.le_of_ble_eq_true rfl)) dX9_let_13 ⟨Nat.le_of_ble_eq_true rfl, Nat.le_of_ble_eq_true rfl⟩) hS (fun q _ h => hFc q h) hFc (fun r_13 u t H1 locs ht hvm hw hB hz1 hk1 hS => ?_)
      exact W.iret hx hb hr (fun t ht hW => ⟨⟨_, (), rfl, hw, trivial⟩, hS.F ht⟩) hS.2.2 dX9_let_16
theorem dX9_cut_0 : decode cX9_cut 0 = .ok (.iload_n 2, 1) := by decide +kernel
theorem dX9_cut_1 : decode cX9_cut 1 = .ok (.ifCond .lt 8, 3) := by decide +kernel
theorem dX9_cut_4 : decode cX9_cut 4 = .ok (.iload_n 3, 1) := by decide +kernel
theorem dX9_cut_5 : decode cX9_cut 5 = .ok (.iconst 1, 1) := by decide +kernel
theorem dX9_cut_6 : decode cX9_cut 6 = .ok (.if_icmp .ge 9, 3) := by decide +kernel
theorem dX9_cut_9 : decode cX9_cut 9 = .ok (.aload_n 0, 1) := by decide +kernel
theorem dX9_cut_10 : decode cX9_cut 10 = .ok (.iconst 1, 1) := by decide +kernel
theorem dX9_cut_11 : decode cX9_cut 11 = .ok (.invokevirtual 80, 3) := by decide +kernel
theorem dX9_cut_14 : decode cX9_cut 14 = .ok (.ireturn, 1) := by decide +kernel
theorem dX9_cut_15 : decode cX9_cut 15 = .ok (.aload_n 0, 1) := by decide +kernel
theorem dX9_cut_16 : decode cX9_cut 16 = .ok (.getfield 29, 3) := by decide +kernel
theorem dX9_cut_19 : decode cX9_cut 19 = .ok (.iload_n 1, 1) := by decide +kernel
theorem dX9_cut_20 : decode cX9_cut 20 = .ok (.invokevirtual 123, 3) := by decide +kernel
theorem dX9_cut_23 : decode cX9_cut 23 = .ok (.astore 4, 2) := by decide +kernel
theorem dX9_cut_25 : decode cX9_cut 25 = .ok (.aload 4, 2) := by decide +kernel
theorem dX9_cut_27 : decode cX9_cut 27 = .ok (.ifnonnull 9, 3) := by decide +kernel
theorem dX9_cut_30 : decode cX9_cut 30 = .ok (.aload_n 0, 1) := by decide +kernel
theorem dX9_cut_31 : decode cX9_cut 31 = .ok (.iconst 2, 1) := by decide +kernel
theorem dX9_cut_32 : decode cX9_cut 32 = .ok (.invokevirtual 80, 3) := by decide +kernel
theorem dX9_cut_35 : decode cX9_cut 35 = .ok (.ireturn, 1) := by decide +kernel
def mwX9_cut : List Cond := .code yX9_cut cX9_cut 8 (some .int) :: ([.code yX9_refuse cX9_refuse 2 (some .int), .fieldLink RX9 70 "PatternGate" "lastStatus" "I", .methodLink RX9 80 yX9_refuse, .instanceMethod yX9_refuse, .selects RX9 yX9_refuse yX9_refuse, .initialized RX9, .fieldLink RX9 29 "PatternGate" "book" "LPatternGate$Book;", .code yX0_docAt cX0_docAt 2 (some (.object "PatternGate$Doc")), .fieldLink RX0 7 "PatternGate$Book" "docs" "[LPatternGate$Doc;", .methodLink RX9 123 yX0_docAt, .instanceMethod yX0_docAt, .selects RX0 yX0_docAt yX0_docAt, .initialized RX0] ++ wsX90 ++ wsX00)
theorem fin_X9_cut_X9 : ∀ w ∈ wsX90, w ∈ mwX9_cut := fun w h => List.mem_cons_of_mem _ (List.mem_append_left _ (List.mem_append_right _ h))
set_option maxRecDepth 20000 in
theorem mg_X9_cut_X9_refuse_80 : GoodIn mwX9_cut (wsV RX9 80 RX9 yX9_refuse mwX9_refuse) := goodIn_r _ [3, 4, 5, 6, 1, 2, 14, 15, 16, 17, 18, 19, 20, 21, 22, 23, 24, 25, 26, 27, 28, 29] (by decide +kernel) (by decide +kernel)
set_option maxRecDepth 20000 in
theorem mg_X9_cut_X0_docAt_123 : GoodIn mwX9_cut (wsV RX9 123 RX0 yX0_docAt mwX0_docAt) := goodIn_r _ [10, 11, 12, 13, 8, 9, 30, 31, 32] (by decide +kernel) (by decide +kernel)
set_option maxHeartbeats 4000000 in
set_option maxRecDepth 100000 in
/-- cut on a new object -/
theorem c_cut (l : Launch) (dC : Nat → ClassId) (dI : Nat → Nat → Nat) (x : Nat) (q : Nat → Nat) (b d0 p0 : Nat) (cT cD cP cB cU : ClassId) (r : Nat → Nat) (sz : Nat) (i0 i1 i2 : Int32) : Met l yX9_cut mwX9_cut ({ frames := 1, cells := 0, slots := 0, locals := 60 }) (va_Pc [.ref x, .int i0, .int i1, .int i2] (fun U => U.heap.size = sz ∧ va_P (dC, dI) vwCl (gW x q b d0 p0 cT cD cP cB cU r) U.heap ∧ va_K (dC, dI) vwCl (gT cT cD cP cB cU) U ∧ va_D (fun _ => True) (gW x q b d0 p0 cT cD cP cB cU r))) (va_Qi (fun (o : Int32) (_ : Unit) => o = (-1)) (fun _ _ => True) (va_A (gW x q b d0 p0 cT cD cP cB cU r) sz)) 0 0 (va_A (gW x q b d0 p0 cT cD cP cB cU r) sz) := by
  refine Met.ofW (cc := cX9_cut) (maxL := 8) (ret := (some .int)) (by decide +kernel) rfl ?_
  intro p e s m args below meth c s₁ B hml hv
  obtain ⟨rfl, hsz, hP, hK, hD0⟩ := hv
  have hx := B.exec
  have hb := B.bytes
  have hr := B.returns
  have hts := atoms_spec (ws := mwX9_cut) B.pre
  have hown : s.vm.findClass RX9 = some m.cls := findClass_of_methodNamed B.named
  have hlocks := B.notSynchronized
  subst hsz
  have hD := hD0.self (sz := s.heap.size)
  generalize hAe : va_A (gW x q b d0 p0 cT cD cP cB cU r) s.heap.size = A at hD ⊢
  have hA : ∀ q : Nat, s.heap.size ≤ q → A q := fun q h => by rw [← hAe]; exact Or.inr h
  have hP : va_P (dC, dI) vwCl [(x, .inr (9, gF q 0 0 (-1) (-1) b 0 0)), (q 0, .inl (cT, 900, .inl (fun _ => 0))), (b, .inr (0, [.ref d0, .ref p0, .null])), (d0, .inl (cD, 0, .inr (.inr (.inr (.inr (fun _ => none)))))), (p0, .inl (cP, 0, .inr (.inr (.inr (.inr (fun _ => none)))))), (q 1, .inl (cB, 3, .inr (.inr (.inr (.inr (fun _ => none)))))), (q 2, .inl (cU, 3, .inl (fun _ => 0))), (q 3, .inr (6, rF r 0 0 0 0 0 0 0 0))] s.heap := hP
  have hD : va_D A [(x, .inr (9, gF q 0 0 (-1) (-1) b 0 0)), (q 0, .inl (cT, 900, .inl (fun _ => 0))), (b, .inr (0, [.ref d0, .ref p0, .null])), (d0, .inl (cD, 0, .inr (.inr (.inr (.inr (fun _ => none)))))), (p0, .inl (cP, 0, .inr (.inr (.inr (.inr (fun _ => none)))))), (q 1, .inl (cB, 3, .inr (.inr (.inr (.inr (fun _ => none)))))), (q 2, .inl (cU, 3, .inl (fun _ => 0))), (q 3, .inr (6, rF r 0 0 0 0 0 0 0 0))] := hD
  have hK : va_K (dC, dI) vwCl [(cT, .int), (cD, .object "PatternGate$Doc"), (cP, .object "PatternGate$Pattern"), (cB, .object "PatternGate$Book"), (cU, .int)] s := hK
  generalize hH : s.heap = H at hP ⊢
  have hS : va_S A s.heap H [] := by rw [← hH]; exact va_S.rf
  have hl := lv_entry ([.ref x, .int i0, .int i1, .int i2]) (n := 8) (Nat.le_of_ble_eq_true rfl)
  rw [lg_entry_eq]
  generalize (lg_sl ([.ref x, .int i0, .int i1, .int i2]) ++ List.replicate (8 - (lg_sl ([.ref x, .int i0, .int i1, .int i2])).length) Slot.unset).toArray = ls at hl ⊢
  have hl : lv_has ls 8 [(0, .ref x), (1, .int i0), (2, .int i1), (3, .int i2)] := hl
  refine lv_iload_n hx hb dX9_cut_0 rfl (lv_at hl 2 rfl) ?_
  refine lv_if_lt (tgt := 9) hx hb dX9_cut_1 (by decide) (fun k_1 => ?_) (fun k_1 => ?_)
  · refine lv_aload_n hx hb dX9_cut_9 rfl (lv_at hl 0 rfl) ?_
    refine lv_iconst (v := 1) hx hb dX9_cut_10 (by decide) ?_
    have hPc := hP.sub (ws' := [(x, .inr (9, gF q 0 0 (-1) (-1) b 0 0))]) [0] rfl
    have hKc := hK.sub (tys' := []) [] rfl
    have hDc := hD.sub (ws' := [(x, .inr (9, gF q 0 0 (-1) (-1) b 0 0))]) [0] (by decide) rfl
    have hFc := va_free (wc := [(x, .inr (9, gF q 0 0 (-1) (-1) b 0 0))]) hD hS hA [0] rfl
    refine va_calli (va_runV (As := [.int 1]) (rest := []) ⟨hx, hb, hml, hown, hts⟩ (c_refuse l dC dI x q 0 0 (-1) (-1) b 0 0 H.size 1) (cwV 1 hts mg_X9_cut_X9_refuse_80 rfl rfl rfl (by decide +kernel) ⟨Nat.le_of_ble_eq_true rfl, Nat.le_of_ble_eq_true rfl⟩) ⟨fun a U g mk q => by obtain ⟨q0, q1, qP, qK, qD⟩ := q; exact ⟨q0, q1, qP, va_K.moved (u := U) (U := U.calling g mk a) (Vm.Alike.refl U.vm) qK, qD⟩, va_recv hKc hPc (ci := 9) (q0 := 0) rfl rfl, fun U hU hW => ⟨rfl, by rw [hU], by rw [hU]; exact hPc, va_K.moved hW.alike hKc, hDc.weaken (fun _ _ _ _ => trivial)⟩⟩ rfl rfl hl.1 rfl (lv_room (Nat.le_of_ble_eq_true rfl)) dX9_cut_11 ⟨Nat.le_of_ble_eq_true rfl, Nat.le_of_ble_eq_true rfl⟩) hS (fun q _ h => hFc q h) hFc (fun r_3 u t H1 locs ht hvm hw hB hz1 hk1 hS => ?_)
    exact W.iret hx hb hr (fun t ht hW => ⟨⟨_, (), rfl, hw, trivial⟩, hS.F ht⟩) hS.2.2 dX9_cut_14
  · refine lv_iload_n hx hb dX9_cut_4 rfl (lv_at hl 3 rfl) ?_
    refine lv_iconst (v := 1) hx hb dX9_cut_5 (by decide) ?_
    refine lv_icmp_ge (tgt := 15) hx hb dX9_cut_6 (by decide) (fun k_4 => ?_) (fun k_4 => ?_)
    · refine lv_aload_n hx hb dX9_cut_15 rfl (lv_at hl 0 rfl) ?_
      refine va_get (D := (dC, dI)) (ci := 9) (v := .ref b) (C := RX9) (T := TX9) (N := 16) hx hb hts fin_X9_cut_X9 hown hK hP 0 rfl rfl 5 (by decide) (hts (.fieldLink RX9 29 "PatternGate" "book" "LPatternGate$Book;") (List.mem_of_getElem? (i := 7) (by decide +kernel))) (fun _ h9 => h9) rfl dX9_cut_16 ?_
      refine lv_iload_n hx hb dX9_cut_19 rfl (lv_at hl 1 rfl) ?_
      have hPc := hP.sub (ws' := [(b, .inr (0, [.ref d0, .ref p0, .null])), (d0, .inl (cD, 0, .inr (.inr (.inr (.inr (fun _ => none)))))), (p0, .inl (cP, 0, .inr (.inr (.inr (.inr (fun _ => none))))))]) [2, 3, 4] rfl
      have hKc := hK.sub (tys' := [(cD, .object "PatternGate$Doc"), (cP, .object "PatternGate$Pattern")]) [1, 2] rfl
      refine va_csq (W.runV (As := [.int i0]) (rest := []) ⟨hx, hb, hml, hown, hts⟩ (c_docAt l dC dI b d0 p0 cD cP i0) (cwV 1 hts mg_X9_cut_X0_docAt_123 rfl rfl rfl (by decide +kernel) ⟨Nat.le_of_ble_eq_true rfl, Nat.le_of_ble_eq_true rfl⟩) ⟨fun a U g mk q => by obtain ⟨q0, qP, qK⟩ := q; exact ⟨q0, qP, va_K.moved (u := U) (U := U.calling g mk a) (Vm.Alike.refl U.vm) qK⟩, va_recv hKc hPc (ci := 0) (q0 := 0) rfl rfl, fun U hU hW => ⟨rfl, by rw [hU]; exact hPc, va_K.moved hW.alike hKc⟩⟩ rfl rfl hl.1 rfl (lv_room (Nat.le_of_ble_eq_true rfl)) dX9_cut_20 ⟨Nat.le_of_ble_eq_true rfl, Nat.le_of_ble_eq_true rfl⟩) (fun r_6 hw => ?_)
      subst hw
      refine W.eq (g2 := F0 m 23 ls [.null]) rfl ?_
      refine lv_astoreN (lv' := [(4, .null), (0, .ref x), (1, .int i0), (2, .int i1), (3, .int i2)]) hx hb dX9_cut_23 hl (by decide) rfl (fun ls hl => ?_)
      refine lv_aloadN hx hb dX9_cut_25 (lv_at hl 0 rfl) ?_
      refine lv_ifnonnullN hx hb dX9_cut_27 ?_
      refine lv_aload_n hx hb dX9_cut_30 rfl (lv_at hl 1 rfl) ?_
      refine lv_iconst (v := 2) hx hb dX9_cut_31 (by decide) ?_
      have hPc := hP.sub (ws' := [(x, .inr (9, gF q 0 0 (-1) (-1) b 0 0))]) [0] rfl
      have hKc := hK.sub (tys' := []) [] rfl
      have hDc := hD.sub (ws' := [(x, .inr (9, gF q 0 0 (-1) (-1) b 0 0))]) [0] (by decide) rfl
      have hFc := va_free (wc := [(x, .inr (9, gF q 0 0 (-1) (-1) b 0 0))]) hD hS hA [0] rfl
      refine va_calli (va_runV (As := [.int 2]) (rest := []) ⟨hx, hb, hml, hown, hts⟩ (c_refuse l dC dI x q 0 0 (-1) (-1) b 0 0 H.size 2) (cwV 1 hts mg_X9_cut_X9_refuse_80 rfl rfl rfl (by decide +kernel) ⟨Nat.le_of_ble_eq_true rfl, Nat.le_of_ble_eq_true rfl⟩) ⟨fun a U g mk q => by obtain ⟨q0, q1, qP, qK, qD⟩ := q; exact ⟨q0, q1, qP, va_K.moved (u := U) (U := U.calling g mk a) (Vm.Alike.refl U.vm) qK, qD⟩, va_recv hKc hPc (ci := 9) (q0 := 0) rfl rfl, fun U hU hW => ⟨rfl, by rw [hU], by rw [hU]; exact hPc, va_K.moved hW.alike hKc, hDc.weaken (fun _ _ _ _ => trivial)⟩⟩ rfl rfl hl.1 rfl (lv_room (Nat.le_of_ble_eq_true rfl)) dX9_cut_32 ⟨Nat.le_of_ble_eq_true rfl, Nat.le_of_ble_eq_true rfl⟩) hS (fun q _ h => hFc q h) hFc (fun r_8 u t H1 locs ht hvm hw hB hz1 hk1 hS => ?_)
      exact W.iret hx hb hr (fun t ht hW => ⟨⟨_, (), rfl, hw, trivial⟩, hS.F ht⟩) hS.2.2 dX9_cut_35
    · refine lv_aload_n hx hb dX9_cut_9 rfl (lv_at hl 0 rfl) ?_
      refine lv_iconst (v := 1) hx hb dX9_cut_10 (by decide) ?_
      have hPc := hP.sub (ws' := [(x, .inr (9, gF q 0 0 (-1) (-1) b 0 0))]) [0] rfl
      have hKc := hK.sub (tys' := []) [] rfl
      have hDc := hD.sub (ws' := [(x, .inr (9, gF q 0 0 (-1) (-1) b 0 0))]) [0] (by decide) rfl
      have hFc := va_free (wc := [(x, .inr (9, gF q 0 0 (-1) (-1) b 0 0))]) hD hS hA [0] rfl
      refine va_calli (va_runV (As := [.int 1]) (rest := []) ⟨hx, hb, hml, hown, hts⟩ (c_refuse l dC dI x q 0 0 (-1) (-1) b 0 0 H.size 1) (cwV 1 hts mg_X9_cut_X9_refuse_80 rfl rfl rfl (by decide +kernel) ⟨Nat.le_of_ble_eq_true rfl, Nat.le_of_ble_eq_true rfl⟩) ⟨fun a U g mk q => by obtain ⟨q0, q1, qP, qK, qD⟩ := q; exact ⟨q0, q1, qP, va_K.moved (u := U) (U := U.calling g mk a) (Vm.Alike.refl U.vm) qK, qD⟩, va_recv hKc hPc (ci := 9) (q0 := 0) rfl rfl, fun U hU hW => ⟨rfl, by rw [hU], by rw [hU]; exact hPc, va_K.moved hW.alike hKc, hDc.weaken (fun _ _ _ _ => trivial)⟩⟩ rfl rfl hl.1 rfl (lv_room (Nat.le_of_ble_eq_true rfl)) dX9_cut_11 ⟨Nat.le_of_ble_eq_true rfl, Nat.le_of_ble_eq_true rfl⟩) hS (fun q _ h => hFc q h) hFc (fun r_10 u t H1 locs ht hvm hw hB hz1 hk1 hS => ?_)
      exact W.iret hx hb hr (fun t ht hW => ⟨⟨_, (), rfl, hw, trivial⟩, hS.F ht⟩) hS.2.2 dX9_cut_14
theorem dX9_copy_0 : decode cX9_copy 0 = .ok (.iload_n 2, 1) := by decide +kernel
theorem dX9_copy_1 : decode cX9_copy 1 = .ok (.ifCond .lt 8, 3) := by decide +kernel
theorem dX9_copy_4 : decode cX9_copy 4 = .ok (.iload_n 3, 1) := by decide +kernel
theorem dX9_copy_5 : decode cX9_copy 5 = .ok (.iconst 1, 1) := by decide +kernel
theorem dX9_copy_6 : decode cX9_copy 6 = .ok (.if_icmp .ge 9, 3) := by decide +kernel
theorem dX9_copy_9 : decode cX9_copy 9 = .ok (.aload_n 0, 1) := by decide +kernel
theorem dX9_copy_10 : decode cX9_copy 10 = .ok (.iconst 1, 1) := by decide +kernel
theorem dX9_copy_11 : decode cX9_copy 11 = .ok (.invokevirtual 80, 3) := by decide +kernel
theorem dX9_copy_14 : decode cX9_copy 14 = .ok (.ireturn, 1) := by decide +kernel
theorem dX9_copy_15 : decode cX9_copy 15 = .ok (.aload_n 0, 1) := by decide +kernel
theorem dX9_copy_16 : decode cX9_copy 16 = .ok (.getfield 29, 3) := by decide +kernel
theorem dX9_copy_19 : decode cX9_copy 19 = .ok (.iload_n 1, 1) := by decide +kernel
theorem dX9_copy_20 : decode cX9_copy 20 = .ok (.invokevirtual 123, 3) := by decide +kernel
theorem dX9_copy_23 : decode cX9_copy 23 = .ok (.astore 4, 2) := by decide +kernel
theorem dX9_copy_25 : decode cX9_copy 25 = .ok (.aload 4, 2) := by decide +kernel
theorem dX9_copy_27 : decode cX9_copy 27 = .ok (.ifnonnull 9, 3) := by decide +kernel
theorem dX9_copy_30 : decode cX9_copy 30 = .ok (.aload_n 0, 1) := by decide +kernel
theorem dX9_copy_31 : decode cX9_copy 31 = .ok (.iconst 2, 1) := by decide +kernel
theorem dX9_copy_32 : decode cX9_copy 32 = .ok (.invokevirtual 80, 3) := by decide +kernel
theorem dX9_copy_35 : decode cX9_copy 35 = .ok (.ireturn, 1) := by decide +kernel
def mwX9_copy : List Cond := .code yX9_copy cX9_copy 7 (some .int) :: ([.code yX9_refuse cX9_refuse 2 (some .int), .fieldLink RX9 70 "PatternGate" "lastStatus" "I", .methodLink RX9 80 yX9_refuse, .instanceMethod yX9_refuse, .selects RX9 yX9_refuse yX9_refuse, .initialized RX9, .fieldLink RX9 29 "PatternGate" "book" "LPatternGate$Book;", .code yX0_docAt cX0_docAt 2 (some (.object "PatternGate$Doc")), .fieldLink RX0 7 "PatternGate$Book" "docs" "[LPatternGate$Doc;", .methodLink RX9 123 yX0_docAt, .instanceMethod yX0_docAt, .selects RX0 yX0_docAt yX0_docAt, .initialized RX0] ++ wsX90 ++ wsX00)
theorem fin_X9_copy_X9 : ∀ w ∈ wsX90, w ∈ mwX9_copy := fun w h => List.mem_cons_of_mem _ (List.mem_append_left _ (List.mem_append_right _ h))
set_option maxRecDepth 20000 in
theorem mg_X9_copy_X9_refuse_80 : GoodIn mwX9_copy (wsV RX9 80 RX9 yX9_refuse mwX9_refuse) := goodIn_r _ [3, 4, 5, 6, 1, 2, 14, 15, 16, 17, 18, 19, 20, 21, 22, 23, 24, 25, 26, 27, 28, 29] (by decide +kernel) (by decide +kernel)
set_option maxRecDepth 20000 in
theorem mg_X9_copy_X0_docAt_123 : GoodIn mwX9_copy (wsV RX9 123 RX0 yX0_docAt mwX0_docAt) := goodIn_r _ [10, 11, 12, 13, 8, 9, 30, 31, 32] (by decide +kernel) (by decide +kernel)
set_option maxHeartbeats 4000000 in
set_option maxRecDepth 100000 in
/-- copy on a new object -/
theorem c_copy (l : Launch) (dC : Nat → ClassId) (dI : Nat → Nat → Nat) (x : Nat) (q : Nat → Nat) (b d0 p0 : Nat) (cT cD cP cB cU : ClassId) (r : Nat → Nat) (sz : Nat) (i0 i1 i2 : Int32) : Met l yX9_copy mwX9_copy ({ frames := 1, cells := 0, slots := 0, locals := 60 }) (va_Pc [.ref x, .int i0, .int i1, .int i2] (fun U => U.heap.size = sz ∧ va_P (dC, dI) vwCl (gW x q b d0 p0 cT cD cP cB cU r) U.heap ∧ va_K (dC, dI) vwCl (gT cT cD cP cB cU) U ∧ va_D (fun _ => True) (gW x q b d0 p0 cT cD cP cB cU r))) (va_Qi (fun (o : Int32) (_ : Unit) => o = (-1)) (fun _ _ => True) (va_A (gW x q b d0 p0 cT cD cP cB cU r) sz)) 0 0 (va_A (gW x q b d0 p0 cT cD cP cB cU r) sz) := by
  refine Met.ofW (cc := cX9_copy) (maxL := 7) (ret := (some .int)) (by decide +kernel) rfl ?_
  intro p e s m args below meth c s₁ B hml hv
  obtain ⟨rfl, hsz, hP, hK, hD0⟩ := hv
  have hx := B.exec
  have hb := B.bytes
  have hr := B.returns
  have hts := atoms_spec (ws := mwX9_copy) B.pre
  have hown : s.vm.findClass RX9 = some m.cls := findClass_of_methodNamed B.named
  have hlocks := B.notSynchronized
  subst hsz
  have hD := hD0.self (sz := s.heap.size)
  generalize hAe : va_A (gW x q b d0 p0 cT cD cP cB cU r) s.heap.size = A at hD ⊢
  have hA : ∀ q : Nat, s.heap.size ≤ q → A q := fun q h => by rw [← hAe]; exact Or.inr h
  have hP : va_P (dC, dI) vwCl [(x, .inr (9, gF q 0 0 (-1) (-1) b 0 0)), (q 0, .inl (cT, 900, .inl (fun _ => 0))), (b, .inr (0, [.ref d0, .ref p0, .null])), (d0, .inl (cD, 0, .inr (.inr (.inr (.inr (fun _ => none)))))), (p0, .inl (cP, 0, .inr (.inr (.inr (.inr (fun _ => none)))))), (q 1, .inl (cB, 3, .inr (.inr (.inr (.inr (fun _ => none)))))), (q 2, .inl (cU, 3, .inl (fun _ => 0))), (q 3, .inr (6, rF r 0 0 0 0 0 0 0 0))] s.heap := hP
  have hD : va_D A [(x, .inr (9, gF q 0 0 (-1) (-1) b 0 0)), (q 0, .inl (cT, 900, .inl (fun _ => 0))), (b, .inr (0, [.ref d0, .ref p0, .null])), (d0, .inl (cD, 0, .inr (.inr (.inr (.inr (fun _ => none)))))), (p0, .inl (cP, 0, .inr (.inr (.inr (.inr (fun _ => none)))))), (q 1, .inl (cB, 3, .inr (.inr (.inr (.inr (fun _ => none)))))), (q 2, .inl (cU, 3, .inl (fun _ => 0))), (q 3, .inr (6, rF r 0 0 0 0 0 0 0 0))] := hD
  have hK : va_K (dC, dI) vwCl [(cT, .int), (cD, .object "PatternGate$Doc"), (cP, .object "PatternGate$Pattern"), (cB, .object "PatternGate$Book"), (cU, .int)] s := hK
  generalize hH : s.heap = H at hP ⊢
  have hS : va_S A s.heap H [] := by rw [← hH]; exact va_S.rf
  have hl := lv_entry ([.ref x, .int i0, .int i1, .int i2]) (n := 7) (Nat.le_of_ble_eq_true rfl)
  rw [lg_entry_eq]
  generalize (lg_sl ([.ref x, .int i0, .int i1, .int i2]) ++ List.replicate (7 - (lg_sl ([.ref x, .int i0, .int i1, .int i2])).length) Slot.unset).toArray = ls at hl ⊢
  have hl : lv_has ls 7 [(0, .ref x), (1, .int i0), (2, .int i1), (3, .int i2)] := hl
  refine lv_iload_n hx hb dX9_copy_0 rfl (lv_at hl 2 rfl) ?_
  refine lv_if_lt (tgt := 9) hx hb dX9_copy_1 (by decide) (fun k_1 => ?_) (fun k_1 => ?_)
  · refine lv_aload_n hx hb dX9_copy_9 rfl (lv_at hl 0 rfl) ?_
    refine lv_iconst (v := 1) hx hb dX9_copy_10 (by decide) ?_
    have hPc := hP.sub (ws' := [(x, .inr (9, gF q 0 0 (-1) (-1) b 0 0))]) [0] rfl
    have hKc := hK.sub (tys' := []) [] rfl
    have hDc := hD.sub (ws' := [(x, .inr (9, gF q 0 0 (-1) (-1) b 0 0))]) [0] (by decide) rfl
    have hFc := va_free (wc := [(x, .inr (9, gF q 0 0 (-1) (-1) b 0 0))]) hD hS hA [0] rfl
    refine va_calli (va_runV (As := [.int 1]) (rest := []) ⟨hx, hb, hml, hown, hts⟩ (c_refuse l dC dI x q 0 0 (-1) (-1) b 0 0 H.size 1) (cwV 1 hts mg_X9_copy_X9_refuse_80 rfl rfl rfl (by decide +kernel) ⟨Nat.le_of_ble_eq_true rfl, Nat.le_of_ble_eq_true rfl⟩) ⟨fun a U g mk q => by obtain ⟨q0, q1, qP, qK, qD⟩ := q; exact ⟨q0, q1, qP, va_K.moved (u := U) (U := U.calling g mk a) (Vm.Alike.refl U.vm) qK, qD⟩, va_recv hKc hPc (ci := 9) (q0 := 0) rfl rfl, fun U hU hW => ⟨rfl, by rw [hU], by rw [hU]; exact hPc, va_K.moved hW.alike hKc, hDc.weaken (fun _ _ _ _ => trivial)⟩⟩ rfl rfl hl.1 rfl (lv_room (Nat.le_of_ble_eq_true rfl)) dX9_copy_11 ⟨Nat.le_of_ble_eq_true rfl, Nat.le_of_ble_eq_true rfl⟩) hS (fun q _ h => hFc q h) hFc (fun r_3 u t H1 locs ht hvm hw hB hz1 hk1 hS => ?_)
    exact W.iret hx hb hr (fun t ht hW => ⟨⟨_, (), rfl, hw, trivial⟩, hS.F ht⟩) hS.2.2 dX9_copy_14
  · refine lv_iload_n hx hb dX9_copy_4 rfl (lv_at hl 3 rfl) ?_
    refine lv_iconst (v := 1) hx hb dX9_copy_5 (by decide) ?_
    refine lv_icmp_ge (tgt := 15) hx hb dX9_copy_6 (by decide) (fun k_4 => ?_) (fun k_4 => ?_)
    · refine lv_aload_n hx hb dX9_copy_15 rfl (lv_at hl 0 rfl) ?_
      refine va_get (D := (dC, dI)) (ci := 9) (v := .ref b) (C := RX9) (T := TX9) (N := 16) hx hb hts fin_X9_copy_X9 hown hK hP 0 rfl rfl 5 (by decide) (hts (.fieldLink RX9 29 "PatternGate" "book" "LPatternGate$Book;") (List.mem_of_getElem? (i := 7) (by decide +kernel))) (fun _ h9 => h9) rfl dX9_copy_16 ?_
      refine lv_iload_n hx hb dX9_copy_19 rfl (lv_at hl 1 rfl) ?_
      have hPc := hP.sub (ws' := [(b, .inr (0, [.ref d0, .ref p0, .null])), (d0, .inl (cD, 0, .inr (.inr (.inr (.inr (fun _ => none)))))), (p0, .inl (cP, 0, .inr (.inr (.inr (.inr (fun _ => none))))))]) [2, 3, 4] rfl
      have hKc := hK.sub (tys' := [(cD, .object "PatternGate$Doc"), (cP, .object "PatternGate$Pattern")]) [1, 2] rfl
      refine va_csq (W.runV (As := [.int i0]) (rest := []) ⟨hx, hb, hml, hown, hts⟩ (c_docAt l dC dI b d0 p0 cD cP i0) (cwV 1 hts mg_X9_copy_X0_docAt_123 rfl rfl rfl (by decide +kernel) ⟨Nat.le_of_ble_eq_true rfl, Nat.le_of_ble_eq_true rfl⟩) ⟨fun a U g mk q => by obtain ⟨q0, qP, qK⟩ := q; exact ⟨q0, qP, va_K.moved (u := U) (U := U.calling g mk a) (Vm.Alike.refl U.vm) qK⟩, va_recv hKc hPc (ci := 0) (q0 := 0) rfl rfl, fun U hU hW => ⟨rfl, by rw [hU]; exact hPc, va_K.moved hW.alike hKc⟩⟩ rfl rfl hl.1 rfl (lv_room (Nat.le_of_ble_eq_true rfl)) dX9_copy_20 ⟨Nat.le_of_ble_eq_true rfl, Nat.le_of_ble_eq_true rfl⟩) (fun r_6 hw => ?_)
      subst hw
      refine W.eq (g2 := F0 m 23 ls [.null]) rfl ?_
      refine lv_astoreN (lv' := [(4, .null), (0, .ref x), (1, .int i0), (2, .int i1), (3, .int i2)]) hx hb dX9_copy_23 hl (by decide) rfl (fun ls hl => ?_)
      refine lv_aloadN hx hb dX9_copy_25 (lv_at hl 0 rfl) ?_
      refine lv_ifnonnullN hx hb dX9_copy_27 ?_
      refine lv_aload_n hx hb dX9_copy_30 rfl (lv_at hl 1 rfl) ?_
      refine lv_iconst (v := 2) hx hb dX9_copy_31 (by decide) ?_
      have hPc := hP.sub (ws' := [(x, .inr (9, gF q 0 0 (-1) (-1) b 0 0))]) [0] rfl
      have hKc := hK.sub (tys' := []) [] rfl
      have hDc := hD.sub (ws' := [(x, .inr (9, gF q 0 0 (-1) (-1) b 0 0))]) [0] (by decide) rfl
      have hFc := va_free (wc := [(x, .inr (9, gF q 0 0 (-1) (-1) b 0 0))]) hD hS hA [0] rfl
      refine va_calli (va_runV (As := [.int 2]) (rest := []) ⟨hx, hb, hml, hown, hts⟩ (c_refuse l dC dI x q 0 0 (-1) (-1) b 0 0 H.size 2) (cwV 1 hts mg_X9_copy_X9_refuse_80 rfl rfl rfl (by decide +kernel) ⟨Nat.le_of_ble_eq_true rfl, Nat.le_of_ble_eq_true rfl⟩) ⟨fun a U g mk q => by obtain ⟨q0, q1, qP, qK, qD⟩ := q; exact ⟨q0, q1, qP, va_K.moved (u := U) (U := U.calling g mk a) (Vm.Alike.refl U.vm) qK, qD⟩, va_recv hKc hPc (ci := 9) (q0 := 0) rfl rfl, fun U hU hW => ⟨rfl, by rw [hU], by rw [hU]; exact hPc, va_K.moved hW.alike hKc, hDc.weaken (fun _ _ _ _ => trivial)⟩⟩ rfl rfl hl.1 rfl (lv_room (Nat.le_of_ble_eq_true rfl)) dX9_copy_32 ⟨Nat.le_of_ble_eq_true rfl, Nat.le_of_ble_eq_true rfl⟩) hS (fun q _ h => hFc q h) hFc (fun r_8 u t H1 locs ht hvm hw hB hz1 hk1 hS => ?_)
      exact W.iret hx hb hr (fun t ht hW => ⟨⟨_, (), rfl, hw, trivial⟩, hS.F ht⟩) hS.2.2 dX9_copy_35
    · refine lv_aload_n hx hb dX9_copy_9 rfl (lv_at hl 0 rfl) ?_
      refine lv_iconst (v := 1) hx hb dX9_copy_10 (by decide) ?_
      have hPc := hP.sub (ws' := [(x, .inr (9, gF q 0 0 (-1) (-1) b 0 0))]) [0] rfl
      have hKc := hK.sub (tys' := []) [] rfl
      have hDc := hD.sub (ws' := [(x, .inr (9, gF q 0 0 (-1) (-1) b 0 0))]) [0] (by decide) rfl
      have hFc := va_free (wc := [(x, .inr (9, gF q 0 0 (-1) (-1) b 0 0))]) hD hS hA [0] rfl
      refine va_calli (va_runV (As := [.int 1]) (rest := []) ⟨hx, hb, hml, hown, hts⟩ (c_refuse l dC dI x q 0 0 (-1) (-1) b 0 0 H.size 1) (cwV 1 hts mg_X9_copy_X9_refuse_80 rfl rfl rfl (by decide +kernel) ⟨Nat.le_of_ble_eq_true rfl, Nat.le_of_ble_eq_true rfl⟩) ⟨fun a U g mk q => by obtain ⟨q0, q1, qP, qK, qD⟩ := q; exact ⟨q0, q1, qP, va_K.moved (u := U) (U := U.calling g mk a) (Vm.Alike.refl U.vm) qK, qD⟩, va_recv hKc hPc (ci := 9) (q0 := 0) rfl rfl, fun U hU hW => ⟨rfl, by rw [hU], by rw [hU]; exact hPc, va_K.moved hW.alike hKc, hDc.weaken (fun _ _ _ _ => trivial)⟩⟩ rfl rfl hl.1 rfl (lv_room (Nat.le_of_ble_eq_true rfl)) dX9_copy_11 ⟨Nat.le_of_ble_eq_true rfl, Nat.le_of_ble_eq_true rfl⟩) hS (fun q _ h => hFc q h) hFc (fun r_10 u t H1 locs ht hvm hw hB hz1 hk1 hS => ?_)
      exact W.iret hx hb hr (fun t ht hW => ⟨⟨_, (), rfl, hw, trivial⟩, hS.F ht⟩) hS.2.2 dX9_copy_14
theorem dX9_drop_0 : decode cX9_drop 0 = .ok (.aload_n 0, 1) := by decide +kernel
theorem dX9_drop_1 : decode cX9_drop 1 = .ok (.getfield 29, 3) := by decide +kernel
theorem dX9_drop_4 : decode cX9_drop 4 = .ok (.iload_n 1, 1) := by decide +kernel
theorem dX9_drop_5 : decode cX9_drop 5 = .ok (.invokevirtual 123, 3) := by decide +kernel
theorem dX9_drop_8 : decode cX9_drop 8 = .ok (.ifnonnull 9, 3) := by decide +kernel
theorem dX9_drop_11 : decode cX9_drop 11 = .ok (.aload_n 0, 1) := by decide +kernel
theorem dX9_drop_12 : decode cX9_drop 12 = .ok (.iconst 2, 1) := by decide +kernel
theorem dX9_drop_13 : decode cX9_drop 13 = .ok (.invokevirtual 80, 3) := by decide +kernel
theorem dX9_drop_16 : decode cX9_drop 16 = .ok (.ireturn, 1) := by decide +kernel
def mwX9_drop : List Cond := .code yX9_drop cX9_drop 2 (some .int) :: ([.fieldLink RX9 29 "PatternGate" "book" "LPatternGate$Book;", .code yX0_docAt cX0_docAt 2 (some (.object "PatternGate$Doc")), .fieldLink RX0 7 "PatternGate$Book" "docs" "[LPatternGate$Doc;", .methodLink RX9 123 yX0_docAt, .instanceMethod yX0_docAt, .selects RX0 yX0_docAt yX0_docAt, .initialized RX0, .code yX9_refuse cX9_refuse 2 (some .int), .fieldLink RX9 70 "PatternGate" "lastStatus" "I", .methodLink RX9 80 yX9_refuse, .instanceMethod yX9_refuse, .selects RX9 yX9_refuse yX9_refuse, .initialized RX9] ++ wsX90 ++ wsX00)
theorem fin_X9_drop_X9 : ∀ w ∈ wsX90, w ∈ mwX9_drop := fun w h => List.mem_cons_of_mem _ (List.mem_append_left _ (List.mem_append_right _ h))
set_option maxRecDepth 20000 in
theorem mg_X9_drop_X0_docAt_123 : GoodIn mwX9_drop (wsV RX9 123 RX0 yX0_docAt mwX0_docAt) := goodIn_r _ [4, 5, 6, 7, 2, 3, 30, 31, 32] (by decide +kernel) (by decide +kernel)
set_option maxRecDepth 20000 in
theorem mg_X9_drop_X9_refuse_80 : GoodIn mwX9_drop (wsV RX9 80 RX9 yX9_refuse mwX9_refuse) := goodIn_r _ [10, 11, 12, 13, 8, 9, 14, 15, 16, 17, 18, 19, 20, 21, 22, 23, 24, 25, 26, 27, 28, 29] (by decide +kernel) (by decide +kernel)
set_option maxHeartbeats 4000000 in
set_option maxRecDepth 100000 in
/-- drop on a new object -/
theorem c_drop (l : Launch) (dC : Nat → ClassId) (dI : Nat → Nat → Nat) (x : Nat) (q : Nat → Nat) (b d0 p0 : Nat) (cT cD cP cB cU : ClassId) (r : Nat → Nat) (sz : Nat) (i0 : Int32) : Met l yX9_drop mwX9_drop ({ frames := 1, cells := 0, slots := 0, locals := 60 }) (va_Pc [.ref x, .int i0] (fun U => U.heap.size = sz ∧ va_P (dC, dI) vwCl (gW x q b d0 p0 cT cD cP cB cU r) U.heap ∧ va_K (dC, dI) vwCl (gT cT cD cP cB cU) U ∧ va_D (fun _ => True) (gW x q b d0 p0 cT cD cP cB cU r))) (va_Qi (fun (o : Int32) (_ : Unit) => o = (-1)) (fun _ _ => True) (va_A (gW x q b d0 p0 cT cD cP cB cU r) sz)) 0 0 (va_A (gW x q b d0 p0 cT cD cP cB cU r) sz) := by
  refine Met.ofW (cc := cX9_drop) (maxL := 2) (ret := (some .int)) (by decide +kernel) rfl ?_
  intro p e s m args below meth c s₁ B hml hv
  obtain ⟨rfl, hsz, hP, hK, hD0⟩ := hv
  have hx := B.exec
  have hb := B.bytes
  have hr := B.returns
  have hts := atoms_spec (ws := mwX9_drop) B.pre
  have hown : s.vm.findClass RX9 = some m.cls := findClass_of_methodNamed B.named
  have hlocks := B.notSynchronized
  subst hsz
  have hD := hD0.self (sz := s.heap.size)
  generalize hAe : va_A (gW x q b d0 p0 cT cD cP cB cU r) s.heap.size = A at hD ⊢
  have hA : ∀ q : Nat, s.heap.size ≤ q → A q := fun q h => by rw [← hAe]; exact Or.inr h
  have hP : va_P (dC, dI) vwCl [(x, .inr (9, gF q 0 0 (-1) (-1) b 0 0)), (q 0, .inl (cT, 900, .inl (fun _ => 0))), (b, .inr (0, [.ref d0, .ref p0, .null])), (d0, .inl (cD, 0, .inr (.inr (.inr (.inr (fun _ => none)))))), (p0, .inl (cP, 0, .inr (.inr (.inr (.inr (fun _ => none)))))), (q 1, .inl (cB, 3, .inr (.inr (.inr (.inr (fun _ => none)))))), (q 2, .inl (cU, 3, .inl (fun _ => 0))), (q 3, .inr (6, rF r 0 0 0 0 0 0 0 0))] s.heap := hP
  have hD : va_D A [(x, .inr (9, gF q 0 0 (-1) (-1) b 0 0)), (q 0, .inl (cT, 900, .inl (fun _ => 0))), (b, .inr (0, [.ref d0, .ref p0, .null])), (d0, .inl (cD, 0, .inr (.inr (.inr (.inr (fun _ => none)))))), (p0, .inl (cP, 0, .inr (.inr (.inr (.inr (fun _ => none)))))), (q 1, .inl (cB, 3, .inr (.inr (.inr (.inr (fun _ => none)))))), (q 2, .inl (cU, 3, .inl (fun _ => 0))), (q 3, .inr (6, rF r 0 0 0 0 0 0 0 0))] := hD
  have hK : va_K (dC, dI) vwCl [(cT, .int), (cD, .object "PatternGate$Doc"), (cP, .object "PatternGate$Pattern"), (cB, .object "PatternGate$Book"), (cU, .int)] s := hK
  generalize hH : s.heap = H at hP ⊢
  have hS : va_S A s.heap H [] := by rw [← hH]; exact va_S.rf
  have hl := lv_entry ([.ref x, .int i0]) (n := 2) (Nat.le_of_ble_eq_true rfl)
  rw [lg_entry_eq]
  generalize (lg_sl ([.ref x, .int i0]) ++ List.replicate (2 - (lg_sl ([.ref x, .int i0])).length) Slot.unset).toArray = ls at hl ⊢
  have hl : lv_has ls 2 [(0, .ref x), (1, .int i0)] := hl
  refine lv_aload_n hx hb dX9_drop_0 rfl (lv_at hl 0 rfl) ?_
  refine va_get (D := (dC, dI)) (ci := 9) (v := .ref b) (C := RX9) (T := TX9) (N := 16) hx hb hts fin_X9_drop_X9 hown hK hP 0 rfl rfl 5 (by decide) (hts (.fieldLink RX9 29 "PatternGate" "book" "LPatternGate$Book;") (List.mem_of_getElem? (i := 1) (by decide +kernel))) (fun _ h9 => h9) rfl dX9_drop_1 ?_
  refine lv_iload_n hx hb dX9_drop_4 rfl (lv_at hl 1 rfl) ?_
  have hPc := hP.sub (ws' := [(b, .inr (0, [.ref d0, .ref p0, .null])), (d0, .inl (cD, 0, .inr (.inr (.inr (.inr (fun _ => none)))))), (p0, .inl (cP, 0, .inr (.inr (.inr (.inr (fun _ => none))))))]) [2, 3, 4] rfl
  have hKc := hK.sub (tys' := [(cD, .object "PatternGate$Doc"), (cP, .object "PatternGate$Pattern")]) [1, 2] rfl
  refine va_csq (W.runV (As := [.int i0]) (rest := []) ⟨hx, hb, hml, hown, hts⟩ (c_docAt l dC dI b d0 p0 cD cP i0) (cwV 1 hts mg_X9_drop_X0_docAt_123 rfl rfl rfl (by decide +kernel) ⟨Nat.le_of_ble_eq_true rfl, Nat.le_of_ble_eq_true rfl⟩) ⟨fun a U g mk q => by obtain ⟨q0, qP, qK⟩ := q; exact ⟨q0, qP, va_K.moved (u := U) (U := U.calling g mk a) (Vm.Alike.refl U.vm) qK⟩, va_recv hKc hPc (ci := 0) (q0 := 0) rfl rfl, fun U hU hW => ⟨rfl, by rw [hU]; exact hPc, va_K.moved hW.alike hKc⟩⟩ rfl rfl hl.1 rfl (lv_room (Nat.le_of_ble_eq_true rfl)) dX9_drop_5 ⟨Nat.le_of_ble_eq_true rfl, Nat.le_of_ble_eq_true rfl⟩) (fun r_2 hw => ?_)
  subst hw
  refine W.eq (g2 := F0 m 8 ls [.null]) rfl ?_
  refine lv_ifnonnullN hx hb dX9_drop_8 ?_
  refine lv_aload_n hx hb dX9_drop_11 rfl (lv_at hl 0 rfl) ?_
  refine lv_iconst (v := 2) hx hb dX9_drop_12 (by decide) ?_
  have hPc := hP.sub (ws' := [(x, .inr (9, gF q 0 0 (-1) (-1) b 0 0))]) [0] rfl
  have hKc := hK.sub (tys' := []) [] rfl
  have hDc := hD.sub (ws' := [(x, .inr (9, gF q 0 0 (-1) (-1) b 0 0))]) [0] (by decide) rfl
  have hFc := va_free (wc := [(x, .inr (9, gF q 0 0 (-1) (-1) b 0 0))]) hD hS hA [0] rfl
  refine va_calli (va_runV (As := [.int 2]) (rest := []) ⟨hx, hb, hml, hown, hts⟩ (c_refuse l dC dI x q 0 0 (-1) (-1) b 0 0 H.size 2) (cwV 1 hts mg_X9_drop_X9_refuse_80 rfl rfl rfl (by decide +kernel) ⟨Nat.le_of_ble_eq_true rfl, Nat.le_of_ble_eq_true rfl⟩) ⟨fun a U g mk q => by obtain ⟨q0, q1, qP, qK, qD⟩ := q; exact ⟨q0, q1, qP, va_K.moved (u := U) (U := U.calling g mk a) (Vm.Alike.refl U.vm) qK, qD⟩, va_recv hKc hPc (ci := 9) (q0 := 0) rfl rfl, fun U hU hW => ⟨rfl, by rw [hU], by rw [hU]; exact hPc, va_K.moved hW.alike hKc, hDc.weaken (fun _ _ _ _ => trivial)⟩⟩ rfl rfl hl.1 rfl (lv_room (Nat.le_of_ble_eq_true rfl)) dX9_drop_13 ⟨Nat.le_of_ble_eq_true rfl, Nat.le_of_ble_eq_true rfl⟩) hS (fun q _ h => hFc q h) hFc (fun r_4 u t H1 locs ht hvm hw hB hz1 hk1 hS => ?_)
  exact W.iret hx hb hr (fun t ht hW => ⟨⟨_, (), rfl, hw, trivial⟩, hS.F ht⟩) hS.2.2 dX9_drop_16
theorem dX9_forget_0 : decode cX9_forget 0 = .ok (.aload_n 0, 1) := by decide +kernel
theorem dX9_forget_1 : decode cX9_forget 1 = .ok (.getfield 29, 3) := by decide +kernel
theorem dX9_forget_4 : decode cX9_forget 4 = .ok (.iload_n 1, 1) := by decide +kernel
theorem dX9_forget_5 : decode cX9_forget 5 = .ok (.invokevirtual 140, 3) := by decide +kernel
theorem dX9_forget_8 : decode cX9_forget 8 = .ok (.ifnonnull 9, 3) := by decide +kernel
theorem dX9_forget_11 : decode cX9_forget 11 = .ok (.aload_n 0, 1) := by decide +kernel
theorem dX9_forget_12 : decode cX9_forget 12 = .ok (.iconst 2, 1) := by decide +kernel
theorem dX9_forget_13 : decode cX9_forget 13 = .ok (.invokevirtual 80, 3) := by decide +kernel
theorem dX9_forget_16 : decode cX9_forget 16 = .ok (.ireturn, 1) := by decide +kernel
def mwX9_forget : List Cond := .code yX9_forget cX9_forget 2 (some .int) :: ([.fieldLink RX9 29 "PatternGate" "book" "LPatternGate$Book;", .code yX0_patternAt cX0_patternAt 2 (some (.object "PatternGate$Pattern")), .fieldLink RX0 13 "PatternGate$Book" "patterns" "[LPatternGate$Pattern;", .methodLink RX9 140 yX0_patternAt, .instanceMethod yX0_patternAt, .selects RX0 yX0_patternAt yX0_patternAt, .initialized RX0, .code yX9_refuse cX9_refuse 2 (some .int), .fieldLink RX9 70 "PatternGate" "lastStatus" "I", .methodLink RX9 80 yX9_refuse, .instanceMethod yX9_refuse, .selects RX9 yX9_refuse yX9_refuse, .initialized RX9] ++ wsX90 ++ wsX00)
theorem fin_X9_forget_X9 : ∀ w ∈ wsX90, w ∈ mwX9_forget := fun w h => List.mem_cons_of_mem _ (List.mem_append_left _ (List.mem_append_right _ h))
set_option maxRecDepth 20000 in
theorem mg_X9_forget_X0_patternAt_140 : GoodIn mwX9_forget (wsV RX9 140 RX0 yX0_patternAt mwX0_patternAt) := goodIn_r _ [4, 5, 6, 7, 2, 3, 30, 31, 32] (by decide +kernel) (by decide +kernel)
set_option maxRecDepth 20000 in
theorem mg_X9_forget_X9_refuse_80 : GoodIn mwX9_forget (wsV RX9 80 RX9 yX9_refuse mwX9_refuse) := goodIn_r _ [10, 11, 12, 13, 8, 9, 14, 15, 16, 17, 18, 19, 20, 21, 22, 23, 24, 25, 26, 27, 28, 29] (by decide +kernel) (by decide +kernel)
set_option maxHeartbeats 4000000 in
set_option maxRecDepth 100000 in
/-- forget on a new object -/
theorem c_forget (l : Launch) (dC : Nat → ClassId) (dI : Nat → Nat → Nat) (x : Nat) (q : Nat → Nat) (b d0 p0 : Nat) (cT cD cP cB cU : ClassId) (r : Nat → Nat) (sz : Nat) (i0 : Int32) : Met l yX9_forget mwX9_forget ({ frames := 1, cells := 0, slots := 0, locals := 60 }) (va_Pc [.ref x, .int i0] (fun U => U.heap.size = sz ∧ va_P (dC, dI) vwCl (gW x q b d0 p0 cT cD cP cB cU r) U.heap ∧ va_K (dC, dI) vwCl (gT cT cD cP cB cU) U ∧ va_D (fun _ => True) (gW x q b d0 p0 cT cD cP cB cU r))) (va_Qi (fun (o : Int32) (_ : Unit) => o = (-1)) (fun _ _ => True) (va_A (gW x q b d0 p0 cT cD cP cB cU r) sz)) 0 0 (va_A (gW x q b d0 p0 cT cD cP cB cU r) sz) := by
  refine Met.ofW (cc := cX9_forget) (maxL := 2) (ret := (some .int)) (by decide +kernel) rfl ?_
  intro p e s m args below meth c s₁ B hml hv
  obtain ⟨rfl, hsz, hP, hK, hD0⟩ := hv
  have hx := B.exec
  have hb := B.bytes
  have hr := B.returns
  have hts := atoms_spec (ws := mwX9_forget) B.pre
  have hown : s.vm.findClass RX9 = some m.cls := findClass_of_methodNamed B.named
  have hlocks := B.notSynchronized
  subst hsz
  have hD := hD0.self (sz := s.heap.size)
  generalize hAe : va_A (gW x q b d0 p0 cT cD cP cB cU r) s.heap.size = A at hD ⊢
  have hA : ∀ q : Nat, s.heap.size ≤ q → A q := fun q h => by rw [← hAe]; exact Or.inr h
  have hP : va_P (dC, dI) vwCl [(x, .inr (9, gF q 0 0 (-1) (-1) b 0 0)), (q 0, .inl (cT, 900, .inl (fun _ => 0))), (b, .inr (0, [.ref d0, .ref p0, .null])), (d0, .inl (cD, 0, .inr (.inr (.inr (.inr (fun _ => none)))))), (p0, .inl (cP, 0, .inr (.inr (.inr (.inr (fun _ => none)))))), (q 1, .inl (cB, 3, .inr (.inr (.inr (.inr (fun _ => none)))))), (q 2, .inl (cU, 3, .inl (fun _ => 0))), (q 3, .inr (6, rF r 0 0 0 0 0 0 0 0))] s.heap := hP
  have hD : va_D A [(x, .inr (9, gF q 0 0 (-1) (-1) b 0 0)), (q 0, .inl (cT, 900, .inl (fun _ => 0))), (b, .inr (0, [.ref d0, .ref p0, .null])), (d0, .inl (cD, 0, .inr (.inr (.inr (.inr (fun _ => none)))))), (p0, .inl (cP, 0, .inr (.inr (.inr (.inr (fun _ => none)))))), (q 1, .inl (cB, 3, .inr (.inr (.inr (.inr (fun _ => none)))))), (q 2, .inl (cU, 3, .inl (fun _ => 0))), (q 3, .inr (6, rF r 0 0 0 0 0 0 0 0))] := hD
  have hK : va_K (dC, dI) vwCl [(cT, .int), (cD, .object "PatternGate$Doc"), (cP, .object "PatternGate$Pattern"), (cB, .object "PatternGate$Book"), (cU, .int)] s := hK
  generalize hH : s.heap = H at hP ⊢
  have hS : va_S A s.heap H [] := by rw [← hH]; exact va_S.rf
  have hl := lv_entry ([.ref x, .int i0]) (n := 2) (Nat.le_of_ble_eq_true rfl)
  rw [lg_entry_eq]
  generalize (lg_sl ([.ref x, .int i0]) ++ List.replicate (2 - (lg_sl ([.ref x, .int i0])).length) Slot.unset).toArray = ls at hl ⊢
  have hl : lv_has ls 2 [(0, .ref x), (1, .int i0)] := hl
  refine lv_aload_n hx hb dX9_forget_0 rfl (lv_at hl 0 rfl) ?_
  refine va_get (D := (dC, dI)) (ci := 9) (v := .ref b) (C := RX9) (T := TX9) (N := 16) hx hb hts fin_X9_forget_X9 hown hK hP 0 rfl rfl 5 (by decide) (hts (.fieldLink RX9 29 "PatternGate" "book" "LPatternGate$Book;") (List.mem_of_getElem? (i := 1) (by decide +kernel))) (fun _ h9 => h9) rfl dX9_forget_1 ?_
  refine lv_iload_n hx hb dX9_forget_4 rfl (lv_at hl 1 rfl) ?_
  have hPc := hP.sub (ws' := [(b, .inr (0, [.ref d0, .ref p0, .null])), (d0, .inl (cD, 0, .inr (.inr (.inr (.inr (fun _ => none)))))), (p0, .inl (cP, 0, .inr (.inr (.inr (.inr (fun _ => none))))))]) [2, 3, 4] rfl
  have hKc := hK.sub (tys' := [(cD, .object "PatternGate$Doc"), (cP, .object "PatternGate$Pattern")]) [1, 2] rfl
  refine va_csq (W.runV (As := [.int i0]) (rest := []) ⟨hx, hb, hml, hown, hts⟩ (c_patternAt l dC dI b d0 p0 cD cP i0) (cwV 1 hts mg_X9_forget_X0_patternAt_140 rfl rfl rfl (by decide +kernel) ⟨Nat.le_of_ble_eq_true rfl, Nat.le_of_ble_eq_true rfl⟩) ⟨fun a U g mk q => by obtain ⟨q0, qP, qK⟩ := q; exact ⟨q0, qP, va_K.moved (u := U) (U := U.calling g mk a) (Vm.Alike.refl U.vm) qK⟩, va_recv hKc hPc (ci := 0) (q0 := 0) rfl rfl, fun U hU hW => ⟨rfl, by rw [hU]; exact hPc, va_K.moved hW.alike hKc⟩⟩ rfl rfl hl.1 rfl (lv_room (Nat.le_of_ble_eq_true rfl)) dX9_forget_5 ⟨Nat.le_of_ble_eq_true rfl, Nat.le_of_ble_eq_true rfl⟩) (fun r_2 hw => ?_)
  subst hw
  refine W.eq (g2 := F0 m 8 ls [.null]) rfl ?_
  refine lv_ifnonnullN hx hb dX9_forget_8 ?_
  refine lv_aload_n hx hb dX9_forget_11 rfl (lv_at hl 0 rfl) ?_
  refine lv_iconst (v := 2) hx hb dX9_forget_12 (by decide) ?_
  have hPc := hP.sub (ws' := [(x, .inr (9, gF q 0 0 (-1) (-1) b 0 0))]) [0] rfl
  have hKc := hK.sub (tys' := []) [] rfl
  have hDc := hD.sub (ws' := [(x, .inr (9, gF q 0 0 (-1) (-1) b 0 0))]) [0] (by decide) rfl
  have hFc := va_free (wc := [(x, .inr (9, gF q 0 0 (-1) (-1) b 0 0))]) hD hS hA [0] rfl
  refine va_calli (va_runV (As := [.int 2]) (rest := []) ⟨hx, hb, hml, hown, hts⟩ (c_refuse l dC dI x q 0 0 (-1) (-1) b 0 0 H.size 2) (cwV 1 hts mg_X9_forget_X9_refuse_80 rfl rfl rfl (by decide +kernel) ⟨Nat.le_of_ble_eq_true rfl, Nat.le_of_ble_eq_true rfl⟩) ⟨fun a U g mk q => by obtain ⟨q0, q1, qP, qK, qD⟩ := q; exact ⟨q0, q1, qP, va_K.moved (u := U) (U := U.calling g mk a) (Vm.Alike.refl U.vm) qK, qD⟩, va_recv hKc hPc (ci := 9) (q0 := 0) rfl rfl, fun U hU hW => ⟨rfl, by rw [hU], by rw [hU]; exact hPc, va_K.moved hW.alike hKc, hDc.weaken (fun _ _ _ _ => trivial)⟩⟩ rfl rfl hl.1 rfl (lv_room (Nat.le_of_ble_eq_true rfl)) dX9_forget_13 ⟨Nat.le_of_ble_eq_true rfl, Nat.le_of_ble_eq_true rfl⟩) hS (fun q _ h => hFc q h) hFc (fun r_4 u t H1 locs ht hvm hw hB hz1 hk1 hS => ?_)
  exact W.iret hx hb hr (fun t ht hW => ⟨⟨_, (), rfl, hw, trivial⟩, hS.F ht⟩) hS.2.2 dX9_forget_16
theorem dX9_would_0 : decode cX9_would 0 = .ok (.iload_n 3, 1) := by decide +kernel
theorem dX9_would_1 : decode cX9_would 1 = .ok (.invokestatic 239, 3) := by decide +kernel
theorem dX9_would_4 : decode cX9_would 4 = .ok (.ifCond .eq 7, 3) := by decide +kernel
theorem dX9_would_7 : decode cX9_would 7 = .ok (.iload_n 2, 1) := by decide +kernel
theorem dX9_would_8 : decode cX9_would 8 = .ok (.ifCond .ge 9, 3) := by decide +kernel
theorem dX9_would_11 : decode cX9_would 11 = .ok (.aload_n 0, 1) := by decide +kernel
theorem dX9_would_12 : decode cX9_would 12 = .ok (.iconst 1, 1) := by decide +kernel
theorem dX9_would_13 : decode cX9_would 13 = .ok (.invokevirtual 80, 3) := by decide +kernel
theorem dX9_would_16 : decode cX9_would 16 = .ok (.ireturn, 1) := by decide +kernel
theorem dX9_would_17 : decode cX9_would 17 = .ok (.aload_n 0, 1) := by decide +kernel
theorem dX9_would_18 : decode cX9_would 18 = .ok (.getfield 29, 3) := by decide +kernel
theorem dX9_would_21 : decode cX9_would 21 = .ok (.iload_n 1, 1) := by decide +kernel
theorem dX9_would_22 : decode cX9_would 22 = .ok (.invokevirtual 123, 3) := by decide +kernel
theorem dX9_would_25 : decode cX9_would 25 = .ok (.astore 4, 2) := by decide +kernel
theorem dX9_would_27 : decode cX9_would 27 = .ok (.aload 4, 2) := by decide +kernel
theorem dX9_would_29 : decode cX9_would 29 = .ok (.ifnonnull 9, 3) := by decide +kernel
theorem dX9_would_32 : decode cX9_would 32 = .ok (.aload_n 0, 1) := by decide +kernel
theorem dX9_would_33 : decode cX9_would 33 = .ok (.iconst 2, 1) := by decide +kernel
theorem dX9_would_34 : decode cX9_would 34 = .ok (.invokevirtual 80, 3) := by decide +kernel
theorem dX9_would_37 : decode cX9_would 37 = .ok (.ireturn, 1) := by decide +kernel
def mwX9_would : List Cond := .code yX9_would cX9_would 6 (some .int) :: ([.code yX9_isLetter cX9_isLetter 1 (some .boolean), .methodLink RX9 239 yX9_isLetter, .static yX9_isLetter, .initialized RX9, .code yX9_refuse cX9_refuse 2 (some .int), .fieldLink RX9 70 "PatternGate" "lastStatus" "I", .methodLink RX9 80 yX9_refuse, .instanceMethod yX9_refuse, .selects RX9 yX9_refuse yX9_refuse, .fieldLink RX9 29 "PatternGate" "book" "LPatternGate$Book;", .code yX0_docAt cX0_docAt 2 (some (.object "PatternGate$Doc")), .fieldLink RX0 7 "PatternGate$Book" "docs" "[LPatternGate$Doc;", .methodLink RX9 123 yX0_docAt, .instanceMethod yX0_docAt, .selects RX0 yX0_docAt yX0_docAt, .initialized RX0] ++ wsX90 ++ wsX00)
theorem fin_X9_would_X9 : ∀ w ∈ wsX90, w ∈ mwX9_would := fun w h => List.mem_cons_of_mem _ (List.mem_append_left _ (List.mem_append_right _ h))
set_option maxRecDepth 20000 in
theorem mg_X9_would_X9_isLetter_239 : GoodIn mwX9_would (va_wsS RX9 239 yX9_isLetter mwX9_isLetter) := goodIn_r _ [2, 3, 4, 1] (by decide +kernel) (by decide +kernel)
set_option maxRecDepth 20000 in
theorem mg_X9_would_X9_refuse_80 : GoodIn mwX9_would (wsV RX9 80 RX9 yX9_refuse mwX9_refuse) := goodIn_r _ [7, 8, 9, 4, 5, 6, 17, 18, 19, 20, 21, 22, 23, 24, 25, 26, 27, 28, 29, 30, 31, 32] (by decide +kernel) (by decide +kernel)
set_option maxRecDepth 20000 in
theorem mg_X9_would_X0_docAt_123 : GoodIn mwX9_would (wsV RX9 123 RX0 yX0_docAt mwX0_docAt) := goodIn_r _ [13, 14, 15, 16, 11, 12, 33, 34, 35] (by decide +kernel) (by decide +kernel)
set_option maxHeartbeats 4000000 in
set_option maxRecDepth 100000 in
/-- would on a new object -/
theorem c_would (l : Launch) (dC : Nat → ClassId) (dI : Nat → Nat → Nat) (x : Nat) (q : Nat → Nat) (b d0 p0 : Nat) (cT cD cP cB cU : ClassId) (r : Nat → Nat) (sz : Nat) (i0 i1 i2 : Int32) : Met l yX9_would mwX9_would ({ frames := 1, cells := 0, slots := 0, locals := 60 }) (va_Pc [.ref x, .int i0, .int i1, .int i2] (fun U => U.heap.size = sz ∧ va_P (dC, dI) vwCl (gW x q b d0 p0 cT cD cP cB cU r) U.heap ∧ va_K (dC, dI) vwCl (gT cT cD cP cB cU) U ∧ va_D (fun _ => True) (gW x q b d0 p0 cT cD cP cB cU r))) (va_Qi (fun (o : Int32) (_ : Unit) => o = (-1)) (fun _ _ => True) (va_A (gW x q b d0 p0 cT cD cP cB cU r) sz)) 0 0 (va_A (gW x q b d0 p0 cT cD cP cB cU r) sz) := by
  refine Met.ofW (cc := cX9_would) (maxL := 6) (ret := (some .int)) (by decide +kernel) rfl ?_
  intro p e s m args below meth c s₁ B hml hv
  obtain ⟨rfl, hsz, hP, hK, hD0⟩ := hv
  have hx := B.exec
  have hb := B.bytes
  have hr := B.returns
  have hts := atoms_spec (ws := mwX9_would) B.pre
  have hown : s.vm.findClass RX9 = some m.cls := findClass_of_methodNamed B.named
  have hlocks := B.notSynchronized
  subst hsz
  have hD := hD0.self (sz := s.heap.size)
  generalize hAe : va_A (gW x q b d0 p0 cT cD cP cB cU r) s.heap.size = A at hD ⊢
  have hA : ∀ q : Nat, s.heap.size ≤ q → A q := fun q h => by rw [← hAe]; exact Or.inr h
  have hP : va_P (dC, dI) vwCl [(x, .inr (9, gF q 0 0 (-1) (-1) b 0 0)), (q 0, .inl (cT, 900, .inl (fun _ => 0))), (b, .inr (0, [.ref d0, .ref p0, .null])), (d0, .inl (cD, 0, .inr (.inr (.inr (.inr (fun _ => none)))))), (p0, .inl (cP, 0, .inr (.inr (.inr (.inr (fun _ => none)))))), (q 1, .inl (cB, 3, .inr (.inr (.inr (.inr (fun _ => none)))))), (q 2, .inl (cU, 3, .inl (fun _ => 0))), (q 3, .inr (6, rF r 0 0 0 0 0 0 0 0))] s.heap := hP
  have hD : va_D A [(x, .inr (9, gF q 0 0 (-1) (-1) b 0 0)), (q 0, .inl (cT, 900, .inl (fun _ => 0))), (b, .inr (0, [.ref d0, .ref p0, .null])), (d0, .inl (cD, 0, .inr (.inr (.inr (.inr (fun _ => none)))))), (p0, .inl (cP, 0, .inr (.inr (.inr (.inr (fun _ => none)))))), (q 1, .inl (cB, 3, .inr (.inr (.inr (.inr (fun _ => none)))))), (q 2, .inl (cU, 3, .inl (fun _ => 0))), (q 3, .inr (6, rF r 0 0 0 0 0 0 0 0))] := hD
  have hK : va_K (dC, dI) vwCl [(cT, .int), (cD, .object "PatternGate$Doc"), (cP, .object "PatternGate$Pattern"), (cB, .object "PatternGate$Book"), (cU, .int)] s := hK
  generalize hH : s.heap = H at hP ⊢
  have hS : va_S A s.heap H [] := by rw [← hH]; exact va_S.rf
  have hl := lv_entry ([.ref x, .int i0, .int i1, .int i2]) (n := 6) (Nat.le_of_ble_eq_true rfl)
  rw [lg_entry_eq]
  generalize (lg_sl ([.ref x, .int i0, .int i1, .int i2]) ++ List.replicate (6 - (lg_sl ([.ref x, .int i0, .int i1, .int i2])).length) Slot.unset).toArray = ls at hl ⊢
  have hl : lv_has ls 6 [(0, .ref x), (1, .int i0), (2, .int i1), (3, .int i2)] := hl
  refine lv_iload_n hx hb dX9_would_0 rfl (lv_at hl 3 rfl) ?_
  refine vp_callSi (W.runS (As := [.int i2]) (rest := []) ⟨hx, hb, hml, hown, hts⟩ (c_isLetter l dC dI i2) (va_cwS 1 hts mg_X9_would_X9_isLetter_239 rfl rfl rfl (by decide +kernel) ⟨Nat.le_of_ble_eq_true rfl, Nat.le_of_ble_eq_true rfl⟩) ⟨fun a U g mk q => ⟨q.1, trivial⟩, fun U hU hW => ⟨rfl, trivial⟩⟩ rfl rfl hl.1 rfl (lv_room (Nat.le_of_ble_eq_true rfl)) dX9_would_1 ⟨Nat.le_of_ble_eq_true rfl, Nat.le_of_ble_eq_true rfl⟩) (fun r_2 hw => ?_)
  rcases hw with rfl | rfl
  · refine lv_if_eq (tgt := 11) hx hb dX9_would_4 (by decide) (fun k_3 => ?_) (fun k_3 => absurd (by decide) k_3)
    refine lv_aload_n hx hb dX9_would_11 rfl (lv_at hl 0 rfl) ?_
    refine lv_iconst (v := 1) hx hb dX9_would_12 (by decide) ?_
    have hPc := hP.sub (ws' := [(x, .inr (9, gF q 0 0 (-1) (-1) b 0 0))]) [0] rfl
    have hKc := hK.sub (tys' := []) [] rfl
    have hDc := hD.sub (ws' := [(x, .inr (9, gF q 0 0 (-1) (-1) b 0 0))]) [0] (by decide) rfl
    have hFc := va_free (wc := [(x, .inr (9, gF q 0 0 (-1) (-1) b 0 0))]) hD hS hA [0] rfl
    refine va_calli (va_runV (As := [.int 1]) (rest := []) ⟨hx, hb, hml, hown, hts⟩ (c_refuse l dC dI x q 0 0 (-1) (-1) b 0 0 H.size 1) (cwV 1 hts mg_X9_would_X9_refuse_80 rfl rfl rfl (by decide +kernel) ⟨Nat.le_of_ble_eq_true rfl, Nat.le_of_ble_eq_true rfl⟩) ⟨fun a U g mk q => by obtain ⟨q0, q1, qP, qK, qD⟩ := q; exact ⟨q0, q1, qP, va_K.moved (u := U) (U := U.calling g mk a) (Vm.Alike.refl U.vm) qK, qD⟩, va_recv hKc hPc (ci := 9) (q0 := 0) rfl rfl, fun U hU hW => ⟨rfl, by rw [hU], by rw [hU]; exact hPc, va_K.moved hW.alike hKc, hDc.weaken (fun _ _ _ _ => trivial)⟩⟩ rfl rfl hl.1 rfl (lv_room (Nat.le_of_ble_eq_true rfl)) dX9_would_13 ⟨Nat.le_of_ble_eq_true rfl, Nat.le_of_ble_eq_true rfl⟩) hS (fun q _ h => hFc q h) hFc (fun r_5 u t H1 locs ht hvm hw hB hz1 hk1 hS => ?_)
    exact W.iret hx hb hr (fun t ht hW => ⟨⟨_, (), rfl, hw, trivial⟩, hS.F ht⟩) hS.2.2 dX9_would_16
  · refine lv_if_eq (tgt := 11) hx hb dX9_would_4 (by decide) (fun k_6 => absurd k_6 (by decide)) (fun k_6 => ?_)
    refine lv_iload_n hx hb dX9_would_7 rfl (lv_at hl 2 rfl) ?_
    refine lv_if_ge (tgt := 17) hx hb dX9_would_8 (by decide) (fun k_7 => ?_) (fun k_7 => ?_)
    · refine lv_aload_n hx hb dX9_would_17 rfl (lv_at hl 0 rfl) ?_
      refine va_get (D := (dC, dI)) (ci := 9) (v := .ref b) (C := RX9) (T := TX9) (N := 16) hx hb hts fin_X9_would_X9 hown hK hP 0 rfl rfl 5 (by decide) (hts (.fieldLink RX9 29 "PatternGate" "book" "LPatternGate$Book;") (List.mem_of_getElem? (i := 10) (by decide +kernel))) (fun _ h9 => h9) rfl dX9_would_18 ?_
      refine lv_iload_n hx hb dX9_would_21 rfl (lv_at hl 1 rfl) ?_
      have hPc := hP.sub (ws' := [(b, .inr (0, [.ref d0, .ref p0, .null])), (d0, .inl (cD, 0, .inr (.inr (.inr (.inr (fun _ => none)))))), (p0, .inl (cP, 0, .inr (.inr (.inr (.inr (fun _ => none))))))]) [2, 3, 4] rfl
      have hKc := hK.sub (tys' := [(cD, .object "PatternGate$Doc"), (cP, .object "PatternGate$Pattern")]) [1, 2] rfl
      refine va_csq (W.runV (As := [.int i0]) (rest := []) ⟨hx, hb, hml, hown, hts⟩ (c_docAt l dC dI b d0 p0 cD cP i0) (cwV 1 hts mg_X9_would_X0_docAt_123 rfl rfl rfl (by decide +kernel) ⟨Nat.le_of_ble_eq_true rfl, Nat.le_of_ble_eq_true rfl⟩) ⟨fun a U g mk q => by obtain ⟨q0, qP, qK⟩ := q; exact ⟨q0, qP, va_K.moved (u := U) (U := U.calling g mk a) (Vm.Alike.refl U.vm) qK⟩, va_recv hKc hPc (ci := 0) (q0 := 0) rfl rfl, fun U hU hW => ⟨rfl, by rw [hU]; exact hPc, va_K.moved hW.alike hKc⟩⟩ rfl rfl hl.1 rfl (lv_room (Nat.le_of_ble_eq_true rfl)) dX9_would_22 ⟨Nat.le_of_ble_eq_true rfl, Nat.le_of_ble_eq_true rfl⟩) (fun r_9 hw => ?_)
      subst hw
      refine W.eq (g2 := F0 m 25 ls [.null]) rfl ?_
      refine lv_astoreN (lv' := [(4, .null), (0, .ref x), (1, .int i0), (2, .int i1), (3, .int i2)]) hx hb dX9_would_25 hl (by decide) rfl (fun ls hl => ?_)
      refine lv_aloadN hx hb dX9_would_27 (lv_at hl 0 rfl) ?_
      refine lv_ifnonnullN hx hb dX9_would_29 ?_
      refine lv_aload_n hx hb dX9_would_32 rfl (lv_at hl 1 rfl) ?_
      refine lv_iconst (v := 2) hx hb dX9_would_33 (by decide) ?_
      have hPc := hP.sub (ws' := [(x, .inr (9, gF q 0 0 (-1) (-1) b 0 0))]) [0] rfl
      have hKc := hK.sub (tys' := []) [] rfl
      have hDc := hD.sub (ws' := [(x, .inr (9, gF q 0 0 (-1) (-1) b 0 0))]) [0] (by decide) rfl
      have hFc := va_free (wc := [(x, .inr (9, gF q 0 0 (-1) (-1) b 0 0))]) hD hS hA [0] rfl
      refine va_calli (va_runV (As := [.int 2]) (rest := []) ⟨hx, hb, hml, hown, hts⟩ (c_refuse l dC dI x q 0 0 (-1) (-1) b 0 0 H.size 2) (cwV 1 hts mg_X9_would_X9_refuse_80 rfl rfl rfl (by decide +kernel) ⟨Nat.le_of_ble_eq_true rfl, Nat.le_of_ble_eq_true rfl⟩) ⟨fun a U g mk q => by obtain ⟨q0, q1, qP, qK, qD⟩ := q; exact ⟨q0, q1, qP, va_K.moved (u := U) (U := U.calling g mk a) (Vm.Alike.refl U.vm) qK, qD⟩, va_recv hKc hPc (ci := 9) (q0 := 0) rfl rfl, fun U hU hW => ⟨rfl, by rw [hU], by rw [hU]; exact hPc, va_K.moved hW.alike hKc, hDc.weaken (fun _ _ _ _ => trivial)⟩⟩ rfl rfl hl.1 rfl (lv_room (Nat.le_of_ble_eq_true rfl)) dX9_would_34 ⟨Nat.le_of_ble_eq_true rfl, Nat.le_of_ble_eq_true rfl⟩) hS (fun q _ h => hFc q h) hFc (fun r_11 u t H1 locs ht hvm hw hB hz1 hk1 hS => ?_)
      exact W.iret hx hb hr (fun t ht hW => ⟨⟨_, (), rfl, hw, trivial⟩, hS.F ht⟩) hS.2.2 dX9_would_37
    · refine lv_aload_n hx hb dX9_would_11 rfl (lv_at hl 0 rfl) ?_
      refine lv_iconst (v := 1) hx hb dX9_would_12 (by decide) ?_
      have hPc := hP.sub (ws' := [(x, .inr (9, gF q 0 0 (-1) (-1) b 0 0))]) [0] rfl
      have hKc := hK.sub (tys' := []) [] rfl
      have hDc := hD.sub (ws' := [(x, .inr (9, gF q 0 0 (-1) (-1) b 0 0))]) [0] (by decide) rfl
      have hFc := va_free (wc := [(x, .inr (9, gF q 0 0 (-1) (-1) b 0 0))]) hD hS hA [0] rfl
      refine va_calli (va_runV (As := [.int 1]) (rest := []) ⟨hx, hb, hml, hown, hts⟩ (c_refuse l dC dI x q 0 0 (-1) (-1) b 0 0 H.size 1) (cwV 1 hts mg_X9_would_X9_refuse_80 rfl rfl rfl (by decide +kernel) ⟨Nat.le_of_ble_eq_true rfl, Nat.le_of_ble_eq_true rfl⟩) ⟨fun a U g mk q => by obtain ⟨q0, q1, qP, qK, qD⟩ := q; exact ⟨q0, q1, qP, va_K.moved (u := U) (U := U.calling g mk a) (Vm.Alike.refl U.vm) qK, qD⟩, va_recv hKc hPc (ci := 9) (q0 := 0) rfl rfl, fun U hU hW => ⟨rfl, by rw [hU], by rw [hU]; exact hPc, va_K.moved hW.alike hKc, hDc.weaken (fun _ _ _ _ => trivial)⟩⟩ rfl rfl hl.1 rfl (lv_room (Nat.le_of_ble_eq_true rfl)) dX9_would_13 ⟨Nat.le_of_ble_eq_true rfl, Nat.le_of_ble_eq_true rfl⟩) hS (fun q _ h => hFc q h) hFc (fun r_13 u t H1 locs ht hvm hw hB hz1 hk1 hS => ?_)
      exact W.iret hx hb hr (fun t ht hW => ⟨⟨_, (), rfl, hw, trivial⟩, hS.F ht⟩) hS.2.2 dX9_would_16
theorem dX9_best_0 : decode cX9_best 0 = .ok (.iload_n 2, 1) := by decide +kernel
theorem dX9_best_1 : decode cX9_best 1 = .ok (.ifCond .ge 9, 3) := by decide +kernel
theorem dX9_best_4 : decode cX9_best 4 = .ok (.aload_n 0, 1) := by decide +kernel
theorem dX9_best_5 : decode cX9_best 5 = .ok (.iconst 1, 1) := by decide +kernel
theorem dX9_best_6 : decode cX9_best 6 = .ok (.invokevirtual 80, 3) := by decide +kernel
theorem dX9_best_9 : decode cX9_best 9 = .ok (.ireturn, 1) := by decide +kernel
theorem dX9_best_10 : decode cX9_best 10 = .ok (.aload_n 0, 1) := by decide +kernel
theorem dX9_best_11 : decode cX9_best 11 = .ok (.getfield 29, 3) := by decide +kernel
theorem dX9_best_14 : decode cX9_best 14 = .ok (.iload_n 1, 1) := by decide +kernel
theorem dX9_best_15 : decode cX9_best 15 = .ok (.invokevirtual 123, 3) := by decide +kernel
theorem dX9_best_18 : decode cX9_best 18 = .ok (.astore_n 3, 1) := by decide +kernel
theorem dX9_best_19 : decode cX9_best 19 = .ok (.aload_n 3, 1) := by decide +kernel
theorem dX9_best_20 : decode cX9_best 20 = .ok (.ifnonnull 9, 3) := by decide +kernel
theorem dX9_best_23 : decode cX9_best 23 = .ok (.aload_n 0, 1) := by decide +kernel
theorem dX9_best_24 : decode cX9_best 24 = .ok (.iconst 2, 1) := by decide +kernel
theorem dX9_best_25 : decode cX9_best 25 = .ok (.invokevirtual 80, 3) := by decide +kernel
theorem dX9_best_28 : decode cX9_best 28 = .ok (.ireturn, 1) := by decide +kernel
def mwX9_best : List Cond := .code yX9_best cX9_best 6 (some .int) :: ([.fieldLink RX9 29 "PatternGate" "book" "LPatternGate$Book;", .code yX0_docAt cX0_docAt 2 (some (.object "PatternGate$Doc")), .fieldLink RX0 7 "PatternGate$Book" "docs" "[LPatternGate$Doc;", .methodLink RX9 123 yX0_docAt, .instanceMethod yX0_docAt, .selects RX0 yX0_docAt yX0_docAt, .initialized RX0, .code yX9_refuse cX9_refuse 2 (some .int), .fieldLink RX9 70 "PatternGate" "lastStatus" "I", .methodLink RX9 80 yX9_refuse, .instanceMethod yX9_refuse, .selects RX9 yX9_refuse yX9_refuse, .initialized RX9] ++ wsX90 ++ wsX00)
theorem fin_X9_best_X9 : ∀ w ∈ wsX90, w ∈ mwX9_best := fun w h => List.mem_cons_of_mem _ (List.mem_append_left _ (List.mem_append_right _ h))
set_option maxRecDepth 20000 in
theorem mg_X9_best_X0_docAt_123 : GoodIn mwX9_best (wsV RX9 123 RX0 yX0_docAt mwX0_docAt) := goodIn_r _ [4, 5, 6, 7, 2, 3, 30, 31, 32] (by decide +kernel) (by decide +kernel)
set_option maxRecDepth 20000 in
theorem mg_X9_best_X9_refuse_80 : GoodIn mwX9_best (wsV RX9 80 RX9 yX9_refuse mwX9_refuse) := goodIn_r _ [10, 11, 12, 13, 8, 9, 14, 15, 16, 17, 18, 19, 20, 21, 22, 23, 24, 25, 26, 27, 28, 29] (by decide +kernel) (by decide +kernel)
set_option maxHeartbeats 4000000 in
set_option maxRecDepth 100000 in
/-- best on a new object -/
theorem c_best (l : Launch) (dC : Nat → ClassId) (dI : Nat → Nat → Nat) (x : Nat) (q : Nat → Nat) (b d0 p0 : Nat) (cT cD cP cB cU : ClassId) (r : Nat → Nat) (sz : Nat) (i0 i1 : Int32) : Met l yX9_best mwX9_best ({ frames := 1, cells := 0, slots := 0, locals := 60 }) (va_Pc [.ref x, .int i0, .int i1] (fun U => U.heap.size = sz ∧ va_P (dC, dI) vwCl (gW x q b d0 p0 cT cD cP cB cU r) U.heap ∧ va_K (dC, dI) vwCl (gT cT cD cP cB cU) U ∧ va_D (fun _ => True) (gW x q b d0 p0 cT cD cP cB cU r))) (va_Qi (fun (o : Int32) (_ : Unit) => o = (-1)) (fun _ _ => True) (va_A (gW x q b d0 p0 cT cD cP cB cU r) sz)) 0 0 (va_A (gW x q b d0 p0 cT cD cP cB cU r) sz) := by
  refine Met.ofW (cc := cX9_best) (maxL := 6) (ret := (some .int)) (by decide +kernel) rfl ?_
  intro p e s m args below meth c s₁ B hml hv
  obtain ⟨rfl, hsz, hP, hK, hD0⟩ := hv
  have hx := B.exec
  have hb := B.bytes
  have hr := B.returns
  have hts := atoms_spec (ws := mwX9_best) B.pre
  have hown : s.vm.findClass RX9 = some m.cls := findClass_of_methodNamed B.named
  have hlocks := B.notSynchronized
  subst hsz
  have hD := hD0.self (sz := s.heap.size)
  generalize hAe : va_A (gW x q b d0 p0 cT cD cP cB cU r) s.heap.size = A at hD ⊢
  have hA : ∀ q : Nat, s.heap.size ≤ q → A q := fun q h => by rw [← hAe]; exact Or.inr h
  have hP : va_P (dC, dI) vwCl [(x, .inr (9, gF q 0 0 (-1) (-1) b 0 0)), (q 0, .inl (cT, 900, .inl (fun _ => 0))), (b, .inr (0, [.ref d0, .ref p0, .null])), (d0, .inl (cD, 0, .inr (.inr (.inr (.inr (fun _ => none)))))), (p0, .inl (cP, 0, .inr (.inr (.inr (.inr (fun _ => none)))))), (q 1, .inl (cB, 3, .inr (.inr (.inr (.inr (fun _ => none)))))), (q 2, .inl (cU, 3, .inl (fun _ => 0))), (q 3, .inr (6, rF r 0 0 0 0 0 0 0 0))] s.heap := hP
  have hD : va_D A [(x, .inr (9, gF q 0 0 (-1) (-1) b 0 0)), (q 0, .inl (cT, 900, .inl (fun _ => 0))), (b, .inr (0, [.ref d0, .ref p0, .null])), (d0, .inl (cD, 0, .inr (.inr (.inr (.inr (fun _ => none)))))), (p0, .inl (cP, 0, .inr (.inr (.inr (.inr (fun _ => none)))))), (q 1, .inl (cB, 3, .inr (.inr (.inr (.inr (fun _ => none)))))), (q 2, .inl (cU, 3, .inl (fun _ => 0))), (q 3, .inr (6, rF r 0 0 0 0 0 0 0 0))] := hD
  have hK : va_K (dC, dI) vwCl [(cT, .int), (cD, .object "PatternGate$Doc"), (cP, .object "PatternGate$Pattern"), (cB, .object "PatternGate$Book"), (cU, .int)] s := hK
  generalize hH : s.heap = H at hP ⊢
  have hS : va_S A s.heap H [] := by rw [← hH]; exact va_S.rf
  have hl := lv_entry ([.ref x, .int i0, .int i1]) (n := 6) (Nat.le_of_ble_eq_true rfl)
  rw [lg_entry_eq]
  generalize (lg_sl ([.ref x, .int i0, .int i1]) ++ List.replicate (6 - (lg_sl ([.ref x, .int i0, .int i1])).length) Slot.unset).toArray = ls at hl ⊢
  have hl : lv_has ls 6 [(0, .ref x), (1, .int i0), (2, .int i1)] := hl
  refine lv_iload_n hx hb dX9_best_0 rfl (lv_at hl 2 rfl) ?_
  refine lv_if_ge (tgt := 10) hx hb dX9_best_1 (by decide) (fun k_1 => ?_) (fun k_1 => ?_)
  · refine lv_aload_n hx hb dX9_best_10 rfl (lv_at hl 0 rfl) ?_
    refine va_get (D := (dC, dI)) (ci := 9) (v := .ref b) (C := RX9) (T := TX9) (N := 16) hx hb hts fin_X9_best_X9 hown hK hP 0 rfl rfl 5 (by decide) (hts (.fieldLink RX9 29 "PatternGate" "book" "LPatternGate$Book;") (List.mem_of_getElem? (i := 1) (by decide +kernel))) (fun _ h9 => h9) rfl dX9_best_11 ?_
    refine lv_iload_n hx hb dX9_best_14 rfl (lv_at hl 1 rfl) ?_
    have hPc := hP.sub (ws' := [(b, .inr (0, [.ref d0, .ref p0, .null])), (d0, .inl (cD, 0, .inr (.inr (.inr (.inr (fun _ => none)))))), (p0, .inl (cP, 0, .inr (.inr (.inr (.inr (fun _ => none))))))]) [2, 3, 4] rfl
    have hKc := hK.sub (tys' := [(cD, .object "PatternGate$Doc"), (cP, .object "PatternGate$Pattern")]) [1, 2] rfl
    refine va_csq (W.runV (As := [.int i0]) (rest := []) ⟨hx, hb, hml, hown, hts⟩ (c_docAt l dC dI b d0 p0 cD cP i0) (cwV 1 hts mg_X9_best_X0_docAt_123 rfl rfl rfl (by decide +kernel) ⟨Nat.le_of_ble_eq_true rfl, Nat.le_of_ble_eq_true rfl⟩) ⟨fun a U g mk q => by obtain ⟨q0, qP, qK⟩ := q; exact ⟨q0, qP, va_K.moved (u := U) (U := U.calling g mk a) (Vm.Alike.refl U.vm) qK⟩, va_recv hKc hPc (ci := 0) (q0 := 0) rfl rfl, fun U hU hW => ⟨rfl, by rw [hU]; exact hPc, va_K.moved hW.alike hKc⟩⟩ rfl rfl hl.1 rfl (lv_room (Nat.le_of_ble_eq_true rfl)) dX9_best_15 ⟨Nat.le_of_ble_eq_true rfl, Nat.le_of_ble_eq_true rfl⟩) (fun r_3 hw => ?_)
    subst hw
    refine W.eq (g2 := F0 m 18 ls [.null]) rfl ?_
    refine lv_astore_nN (lv' := [(3, .null), (0, .ref x), (1, .int i0), (2, .int i1)]) hx hb dX9_best_18 rfl hl (by decide) rfl (fun ls hl => ?_)
    refine lv_aload_nN hx hb dX9_best_19 rfl (lv_at hl 0 rfl) ?_
    refine lv_ifnonnullN hx hb dX9_best_20 ?_
    refine lv_aload_n hx hb dX9_best_23 rfl (lv_at hl 1 rfl) ?_
    refine lv_iconst (v := 2) hx hb dX9_best_24 (by decide) ?_
    have hPc := hP.sub (ws' := [(x, .inr (9, gF q 0 0 (-1) (-1) b 0 0))]) [0] rfl
    have hKc := hK.sub (tys' := []) [] rfl
    have hDc := hD.sub (ws' := [(x, .inr (9, gF q 0 0 (-1) (-1) b 0 0))]) [0] (by decide) rfl
    have hFc := va_free (wc := [(x, .inr (9, gF q 0 0 (-1) (-1) b 0 0))]) hD hS hA [0] rfl
    refine va_calli (va_runV (As := [.int 2]) (rest := []) ⟨hx, hb, hml, hown, hts⟩ (c_refuse l dC dI x q 0 0 (-1) (-1) b 0 0 H.size 2) (cwV 1 hts mg_X9_best_X9_refuse_80 rfl rfl rfl (by decide +kernel) ⟨Nat.le_of_ble_eq_true rfl, Nat.le_of_ble_eq_true rfl⟩) ⟨fun a U g mk q => by obtain ⟨q0, q1, qP, qK, qD⟩ := q; exact ⟨q0, q1, qP, va_K.moved (u := U) (U := U.calling g mk a) (Vm.Alike.refl U.vm) qK, qD⟩, va_recv hKc hPc (ci := 9) (q0 := 0) rfl rfl, fun U hU hW => ⟨rfl, by rw [hU], by rw [hU]; exact hPc, va_K.moved hW.alike hKc, hDc.weaken (fun _ _ _ _ => trivial)⟩⟩ rfl rfl hl.1 rfl (lv_room (Nat.le_of_ble_eq_true rfl)) dX9_best_25 ⟨Nat.le_of_ble_eq_true rfl, Nat.le_of_ble_eq_true rfl⟩) hS (fun q _ h => hFc q h) hFc (fun r_5 u t H1 locs ht hvm hw hB hz1 hk1 hS => ?_)
    exact W.iret hx hb hr (fun t ht hW => ⟨⟨_, (), rfl, hw, trivial⟩, hS.F ht⟩) hS.2.2 dX9_best_28
  · refine lv_aload_n hx hb dX9_best_4 rfl (lv_at hl 0 rfl) ?_
    refine lv_iconst (v := 1) hx hb dX9_best_5 (by decide) ?_
    have hPc := hP.sub (ws' := [(x, .inr (9, gF q 0 0 (-1) (-1) b 0 0))]) [0] rfl
    have hKc := hK.sub (tys' := []) [] rfl
    have hDc := hD.sub (ws' := [(x, .inr (9, gF q 0 0 (-1) (-1) b 0 0))]) [0] (by decide) rfl
    have hFc := va_free (wc := [(x, .inr (9, gF q 0 0 (-1) (-1) b 0 0))]) hD hS hA [0] rfl
    refine va_calli (va_runV (As := [.int 1]) (rest := []) ⟨hx, hb, hml, hown, hts⟩ (c_refuse l dC dI x q 0 0 (-1) (-1) b 0 0 H.size 1) (cwV 1 hts mg_X9_best_X9_refuse_80 rfl rfl rfl (by decide +kernel) ⟨Nat.le_of_ble_eq_true rfl, Nat.le_of_ble_eq_true rfl⟩) ⟨fun a U g mk q => by obtain ⟨q0, q1, qP, qK, qD⟩ := q; exact ⟨q0, q1, qP, va_K.moved (u := U) (U := U.calling g mk a) (Vm.Alike.refl U.vm) qK, qD⟩, va_recv hKc hPc (ci := 9) (q0 := 0) rfl rfl, fun U hU hW => ⟨rfl, by rw [hU], by rw [hU]; exact hPc, va_K.moved hW.alike hKc, hDc.weaken (fun _ _ _ _ => trivial)⟩⟩ rfl rfl hl.1 rfl (lv_room (Nat.le_of_ble_eq_true rfl)) dX9_best_6 ⟨Nat.le_of_ble_eq_true rfl, Nat.le_of_ble_eq_true rfl⟩) hS (fun q _ h => hFc q h) hFc (fun r_7 u t H1 locs ht hvm hw hB hz1 hk1 hS => ?_)
    exact W.iret hx hb hr (fun t ht hW => ⟨⟨_, (), rfl, hw, trivial⟩, hS.F ht⟩) hS.2.2 dX9_best_9
theorem dX9_document_0 : decode cX9_document 0 = .ok (.iload_n 2, 1) := by decide +kernel
theorem dX9_document_1 : decode cX9_document 1 = .ok (.ifCond .lt 8, 3) := by decide +kernel
theorem dX9_document_4 : decode cX9_document 4 = .ok (.iload_n 2, 1) := by decide +kernel
theorem dX9_document_5 : decode cX9_document 5 = .ok (.iconst 3, 1) := by decide +kernel
theorem dX9_document_6 : decode cX9_document 6 = .ok (.if_icmp .le 9, 3) := by decide +kernel
theorem dX9_document_9 : decode cX9_document 9 = .ok (.aload_n 0, 1) := by decide +kernel
theorem dX9_document_10 : decode cX9_document 10 = .ok (.iconst 1, 1) := by decide +kernel
theorem dX9_document_11 : decode cX9_document 11 = .ok (.invokevirtual 80, 3) := by decide +kernel
theorem dX9_document_14 : decode cX9_document 14 = .ok (.ireturn, 1) := by decide +kernel
theorem dX9_document_15 : decode cX9_document 15 = .ok (.aload_n 0, 1) := by decide +kernel
theorem dX9_document_16 : decode cX9_document 16 = .ok (.getfield 29, 3) := by decide +kernel
theorem dX9_document_19 : decode cX9_document 19 = .ok (.iload_n 1, 1) := by decide +kernel
theorem dX9_document_20 : decode cX9_document 20 = .ok (.invokevirtual 123, 3) := by decide +kernel
theorem dX9_document_23 : decode cX9_document 23 = .ok (.astore_n 3, 1) := by decide +kernel
theorem dX9_document_24 : decode cX9_document 24 = .ok (.aload_n 3, 1) := by decide +kernel
theorem dX9_document_25 : decode cX9_document 25 = .ok (.ifnonnull 9, 3) := by decide +kernel
theorem dX9_document_28 : decode cX9_document 28 = .ok (.aload_n 0, 1) := by decide +kernel
theorem dX9_document_29 : decode cX9_document 29 = .ok (.iconst 2, 1) := by decide +kernel
theorem dX9_document_30 : decode cX9_document 30 = .ok (.invokevirtual 80, 3) := by decide +kernel
theorem dX9_document_33 : decode cX9_document 33 = .ok (.ireturn, 1) := by decide +kernel
def mwX9_document : List Cond := .code yX9_document cX9_document 4 (some .int) :: ([.code yX9_refuse cX9_refuse 2 (some .int), .fieldLink RX9 70 "PatternGate" "lastStatus" "I", .methodLink RX9 80 yX9_refuse, .instanceMethod yX9_refuse, .selects RX9 yX9_refuse yX9_refuse, .initialized RX9, .fieldLink RX9 29 "PatternGate" "book" "LPatternGate$Book;", .code yX0_docAt cX0_docAt 2 (some (.object "PatternGate$Doc")), .fieldLink RX0 7 "PatternGate$Book" "docs" "[LPatternGate$Doc;", .methodLink RX9 123 yX0_docAt, .instanceMethod yX0_docAt, .selects RX0 yX0_docAt yX0_docAt, .initialized RX0] ++ wsX90 ++ wsX00)
theorem fin_X9_document_X9 : ∀ w ∈ wsX90, w ∈ mwX9_document := fun w h => List.mem_cons_of_mem _ (List.mem_append_left _ (List.mem_append_right _ h))
set_option maxRecDepth 20000 in
theorem mg_X9_document_X9_refuse_80 : GoodIn mwX9_document (wsV RX9 80 RX9 yX9_refuse mwX9_refuse) := goodIn_r _ [3, 4, 5, 6, 1, 2, 14, 15, 16, 17, 18, 19, 20, 21, 22, 23, 24, 25, 26, 27, 28, 29] (by decide +kernel) (by decide +kernel)
set_option maxRecDepth 20000 in
theorem mg_X9_document_X0_docAt_123 : GoodIn mwX9_document (wsV RX9 123 RX0 yX0_docAt mwX0_docAt) := goodIn_r _ [10, 11, 12, 13, 8, 9, 30, 31, 32] (by decide +kernel) (by decide +kernel)
set_option maxHeartbeats 4000000 in
set_option maxRecDepth 100000 in
/-- document on a new object -/
theorem c_document (l : Launch) (dC : Nat → ClassId) (dI : Nat → Nat → Nat) (x : Nat) (q : Nat → Nat) (b d0 p0 : Nat) (cT cD cP cB cU : ClassId) (r : Nat → Nat) (sz : Nat) (i0 i1 : Int32) : Met l yX9_document mwX9_document ({ frames := 1, cells := 0, slots := 0, locals := 60 }) (va_Pc [.ref x, .int i0, .int i1] (fun U => U.heap.size = sz ∧ va_P (dC, dI) vwCl (gW x q b d0 p0 cT cD cP cB cU r) U.heap ∧ va_K (dC, dI) vwCl (gT cT cD cP cB cU) U ∧ va_D (fun _ => True) (gW x q b d0 p0 cT cD cP cB cU r))) (va_Qi (fun (o : Int32) (_ : Unit) => o = (-1)) (fun _ _ => True) (va_A (gW x q b d0 p0 cT cD cP cB cU r) sz)) 0 0 (va_A (gW x q b d0 p0 cT cD cP cB cU r) sz) := by
  refine Met.ofW (cc := cX9_document) (maxL := 4) (ret := (some .int)) (by decide +kernel) rfl ?_
  intro p e s m args below meth c s₁ B hml hv
  obtain ⟨rfl, hsz, hP, hK, hD0⟩ := hv
  have hx := B.exec
  have hb := B.bytes
  have hr := B.returns
  have hts := atoms_spec (ws := mwX9_document) B.pre
  have hown : s.vm.findClass RX9 = some m.cls := findClass_of_methodNamed B.named
  have hlocks := B.notSynchronized
  subst hsz
  have hD := hD0.self (sz := s.heap.size)
  generalize hAe : va_A (gW x q b d0 p0 cT cD cP cB cU r) s.heap.size = A at hD ⊢
  have hA : ∀ q : Nat, s.heap.size ≤ q → A q := fun q h => by rw [← hAe]; exact Or.inr h
  have hP : va_P (dC, dI) vwCl [(x, .inr (9, gF q 0 0 (-1) (-1) b 0 0)), (q 0, .inl (cT, 900, .inl (fun _ => 0))), (b, .inr (0, [.ref d0, .ref p0, .null])), (d0, .inl (cD, 0, .inr (.inr (.inr (.inr (fun _ => none)))))), (p0, .inl (cP, 0, .inr (.inr (.inr (.inr (fun _ => none)))))), (q 1, .inl (cB, 3, .inr (.inr (.inr (.inr (fun _ => none)))))), (q 2, .inl (cU, 3, .inl (fun _ => 0))), (q 3, .inr (6, rF r 0 0 0 0 0 0 0 0))] s.heap := hP
  have hD : va_D A [(x, .inr (9, gF q 0 0 (-1) (-1) b 0 0)), (q 0, .inl (cT, 900, .inl (fun _ => 0))), (b, .inr (0, [.ref d0, .ref p0, .null])), (d0, .inl (cD, 0, .inr (.inr (.inr (.inr (fun _ => none)))))), (p0, .inl (cP, 0, .inr (.inr (.inr (.inr (fun _ => none)))))), (q 1, .inl (cB, 3, .inr (.inr (.inr (.inr (fun _ => none)))))), (q 2, .inl (cU, 3, .inl (fun _ => 0))), (q 3, .inr (6, rF r 0 0 0 0 0 0 0 0))] := hD
  have hK : va_K (dC, dI) vwCl [(cT, .int), (cD, .object "PatternGate$Doc"), (cP, .object "PatternGate$Pattern"), (cB, .object "PatternGate$Book"), (cU, .int)] s := hK
  generalize hH : s.heap = H at hP ⊢
  have hS : va_S A s.heap H [] := by rw [← hH]; exact va_S.rf
  have hl := lv_entry ([.ref x, .int i0, .int i1]) (n := 4) (Nat.le_of_ble_eq_true rfl)
  rw [lg_entry_eq]
  generalize (lg_sl ([.ref x, .int i0, .int i1]) ++ List.replicate (4 - (lg_sl ([.ref x, .int i0, .int i1])).length) Slot.unset).toArray = ls at hl ⊢
  have hl : lv_has ls 4 [(0, .ref x), (1, .int i0), (2, .int i1)] := hl
  refine lv_iload_n hx hb dX9_document_0 rfl (lv_at hl 2 rfl) ?_
  refine lv_if_lt (tgt := 9) hx hb dX9_document_1 (by decide) (fun k_1 => ?_) (fun k_1 => ?_)
  · refine lv_aload_n hx hb dX9_document_9 rfl (lv_at hl 0 rfl) ?_
    refine lv_iconst (v := 1) hx hb dX9_document_10 (by decide) ?_
    have hPc := hP.sub (ws' := [(x, .inr (9, gF q 0 0 (-1) (-1) b 0 0))]) [0] rfl
    have hKc := hK.sub (tys' := []) [] rfl
    have hDc := hD.sub (ws' := [(x, .inr (9, gF q 0 0 (-1) (-1) b 0 0))]) [0] (by decide) rfl
    have hFc := va_free (wc := [(x, .inr (9, gF q 0 0 (-1) (-1) b 0 0))]) hD hS hA [0] rfl
    refine va_calli (va_runV (As := [.int 1]) (rest := []) ⟨hx, hb, hml, hown, hts⟩ (c_refuse l dC dI x q 0 0 (-1) (-1) b 0 0 H.size 1) (cwV 1 hts mg_X9_document_X9_refuse_80 rfl rfl rfl (by decide +kernel) ⟨Nat.le_of_ble_eq_true rfl, Nat.le_of_ble_eq_true rfl⟩) ⟨fun a U g mk q => by obtain ⟨q0, q1, qP, qK, qD⟩ := q; exact ⟨q0, q1, qP, va_K.moved (u := U) (U := U.calling g mk a) (Vm.Alike.refl U.vm) qK, qD⟩, va_recv hKc hPc (ci := 9) (q0 := 0) rfl rfl, fun U hU hW => ⟨rfl, by rw [hU], by rw [hU]; exact hPc, va_K.moved hW.alike hKc, hDc.weaken (fun _ _ _ _ => trivial)⟩⟩ rfl rfl hl.1 rfl (lv_room (Nat.le_of_ble_eq_true rfl)) dX9_document_11 ⟨Nat.le_of_ble_eq_true rfl, Nat.le_of_ble_eq_true rfl⟩) hS (fun q _ h => hFc q h) hFc (fun r_3 u t H1 locs ht hvm hw hB hz1 hk1 hS => ?_)
    exact W.iret hx hb hr (fun t ht hW => ⟨⟨_, (), rfl, hw, trivial⟩, hS.F ht⟩) hS.2.2 dX9_document_14
  · refine lv_iload_n hx hb dX9_document_4 rfl (lv_at hl 2 rfl) ?_
    refine lv_iconst (v := 3) hx hb dX9_document_5 (by decide) ?_
    refine lv_icmp_le (tgt := 15) hx hb dX9_document_6 (by decide) (fun k_4 => ?_) (fun k_4 => ?_)
    · refine lv_aload_n hx hb dX9_document_15 rfl (lv_at hl 0 rfl) ?_
      refine va_get (D := (dC, dI)) (ci := 9) (v := .ref b) (C := RX9) (T := TX9) (N := 16) hx hb hts fin_X9_document_X9 hown hK hP 0 rfl rfl 5 (by decide) (hts (.fieldLink RX9 29 "PatternGate" "book" "LPatternGate$Book;") (List.mem_of_getElem? (i := 7) (by decide +kernel))) (fun _ h9 => h9) rfl dX9_document_16 ?_
      refine lv_iload_n hx hb dX9_document_19 rfl (lv_at hl 1 rfl) ?_
      have hPc := hP.sub (ws' := [(b, .inr (0, [.ref d0, .ref p0, .null])), (d0, .inl (cD, 0, .inr (.inr (.inr (.inr (fun _ => none)))))), (p0, .inl (cP, 0, .inr (.inr (.inr (.inr (fun _ => none))))))]) [2, 3, 4] rfl
      have hKc := hK.sub (tys' := [(cD, .object "PatternGate$Doc"), (cP, .object "PatternGate$Pattern")]) [1, 2] rfl
      refine va_csq (W.runV (As := [.int i0]) (rest := []) ⟨hx, hb, hml, hown, hts⟩ (c_docAt l dC dI b d0 p0 cD cP i0) (cwV 1 hts mg_X9_document_X0_docAt_123 rfl rfl rfl (by decide +kernel) ⟨Nat.le_of_ble_eq_true rfl, Nat.le_of_ble_eq_true rfl⟩) ⟨fun a U g mk q => by obtain ⟨q0, qP, qK⟩ := q; exact ⟨q0, qP, va_K.moved (u := U) (U := U.calling g mk a) (Vm.Alike.refl U.vm) qK⟩, va_recv hKc hPc (ci := 0) (q0 := 0) rfl rfl, fun U hU hW => ⟨rfl, by rw [hU]; exact hPc, va_K.moved hW.alike hKc⟩⟩ rfl rfl hl.1 rfl (lv_room (Nat.le_of_ble_eq_true rfl)) dX9_document_20 ⟨Nat.le_of_ble_eq_true rfl, Nat.le_of_ble_eq_true rfl⟩) (fun r_6 hw => ?_)
      subst hw
      refine W.eq (g2 := F0 m 23 ls [.null]) rfl ?_
      refine lv_astore_nN (lv' := [(3, .null), (0, .ref x), (1, .int i0), (2, .int i1)]) hx hb dX9_document_23 rfl hl (by decide) rfl (fun ls hl => ?_)
      refine lv_aload_nN hx hb dX9_document_24 rfl (lv_at hl 0 rfl) ?_
      refine lv_ifnonnullN hx hb dX9_document_25 ?_
      refine lv_aload_n hx hb dX9_document_28 rfl (lv_at hl 1 rfl) ?_
      refine lv_iconst (v := 2) hx hb dX9_document_29 (by decide) ?_
      have hPc := hP.sub (ws' := [(x, .inr (9, gF q 0 0 (-1) (-1) b 0 0))]) [0] rfl
      have hKc := hK.sub (tys' := []) [] rfl
      have hDc := hD.sub (ws' := [(x, .inr (9, gF q 0 0 (-1) (-1) b 0 0))]) [0] (by decide) rfl
      have hFc := va_free (wc := [(x, .inr (9, gF q 0 0 (-1) (-1) b 0 0))]) hD hS hA [0] rfl
      refine va_calli (va_runV (As := [.int 2]) (rest := []) ⟨hx, hb, hml, hown, hts⟩ (c_refuse l dC dI x q 0 0 (-1) (-1) b 0 0 H.size 2) (cwV 1 hts mg_X9_document_X9_refuse_80 rfl rfl rfl (by decide +kernel) ⟨Nat.le_of_ble_eq_true rfl, Nat.le_of_ble_eq_true rfl⟩) ⟨fun a U g mk q => by obtain ⟨q0, q1, qP, qK, qD⟩ := q; exact ⟨q0, q1, qP, va_K.moved (u := U) (U := U.calling g mk a) (Vm.Alike.refl U.vm) qK, qD⟩, va_recv hKc hPc (ci := 9) (q0 := 0) rfl rfl, fun U hU hW => ⟨rfl, by rw [hU], by rw [hU]; exact hPc, va_K.moved hW.alike hKc, hDc.weaken (fun _ _ _ _ => trivial)⟩⟩ rfl rfl hl.1 rfl (lv_room (Nat.le_of_ble_eq_true rfl)) dX9_document_30 ⟨Nat.le_of_ble_eq_true rfl, Nat.le_of_ble_eq_true rfl⟩) hS (fun q _ h => hFc q h) hFc (fun r_8 u t H1 locs ht hvm hw hB hz1 hk1 hS => ?_)
      exact W.iret hx hb hr (fun t ht hW => ⟨⟨_, (), rfl, hw, trivial⟩, hS.F ht⟩) hS.2.2 dX9_document_33
    · refine lv_aload_n hx hb dX9_document_9 rfl (lv_at hl 0 rfl) ?_
      refine lv_iconst (v := 1) hx hb dX9_document_10 (by decide) ?_
      have hPc := hP.sub (ws' := [(x, .inr (9, gF q 0 0 (-1) (-1) b 0 0))]) [0] rfl
      have hKc := hK.sub (tys' := []) [] rfl
      have hDc := hD.sub (ws' := [(x, .inr (9, gF q 0 0 (-1) (-1) b 0 0))]) [0] (by decide) rfl
      have hFc := va_free (wc := [(x, .inr (9, gF q 0 0 (-1) (-1) b 0 0))]) hD hS hA [0] rfl
      refine va_calli (va_runV (As := [.int 1]) (rest := []) ⟨hx, hb, hml, hown, hts⟩ (c_refuse l dC dI x q 0 0 (-1) (-1) b 0 0 H.size 1) (cwV 1 hts mg_X9_document_X9_refuse_80 rfl rfl rfl (by decide +kernel) ⟨Nat.le_of_ble_eq_true rfl, Nat.le_of_ble_eq_true rfl⟩) ⟨fun a U g mk q => by obtain ⟨q0, q1, qP, qK, qD⟩ := q; exact ⟨q0, q1, qP, va_K.moved (u := U) (U := U.calling g mk a) (Vm.Alike.refl U.vm) qK, qD⟩, va_recv hKc hPc (ci := 9) (q0 := 0) rfl rfl, fun U hU hW => ⟨rfl, by rw [hU], by rw [hU]; exact hPc, va_K.moved hW.alike hKc, hDc.weaken (fun _ _ _ _ => trivial)⟩⟩ rfl rfl hl.1 rfl (lv_room (Nat.le_of_ble_eq_true rfl)) dX9_document_11 ⟨Nat.le_of_ble_eq_true rfl, Nat.le_of_ble_eq_true rfl⟩) hS (fun q _ h => hFc q h) hFc (fun r_10 u t H1 locs ht hvm hw hB hz1 hk1 hS => ?_)
      exact W.iret hx hb hr (fun t ht hW => ⟨⟨_, (), rfl, hw, trivial⟩, hS.F ht⟩) hS.2.2 dX9_document_14
theorem dX9_status_0 : decode cX9_status 0 = .ok (.aload_n 0, 1) := by decide +kernel
theorem dX9_status_1 : decode cX9_status 1 = .ok (.getfield 70, 3) := by decide +kernel
theorem dX9_status_4 : decode cX9_status 4 = .ok (.ireturn, 1) := by decide +kernel
def mwX9_status : List Cond := .code yX9_status cX9_status 1 (some .int) :: ([.fieldLink RX9 70 "PatternGate" "lastStatus" "I"] ++ wsX90)
theorem fin_X9_status_X9 : ∀ w ∈ wsX90, w ∈ mwX9_status := fun w h => List.mem_cons_of_mem _ (List.mem_append_right _ h)
set_option maxHeartbeats 4000000 in
set_option maxRecDepth 100000 in
/-- status on a new object -/
theorem c_status (l : Launch) (dC : Nat → ClassId) (dI : Nat → Nat → Nat) (x : Nat) (q : Nat → Nat) (b d0 p0 : Nat) (cT cD cP cB cU : ClassId) (r : Nat → Nat) (sz : Nat) : Met l yX9_status mwX9_status ({ frames := 1, cells := 0, slots := 0, locals := 60 }) (va_Pc [.ref x] (fun U => U.heap.size = sz ∧ va_P (dC, dI) vwCl (gW x q b d0 p0 cT cD cP cB cU r) U.heap ∧ va_K (dC, dI) vwCl (gT cT cD cP cB cU) U ∧ va_D (fun _ => True) (gW x q b d0 p0 cT cD cP cB cU r))) (va_Qi (fun (o : Int32) (_ : Unit) => o = 0) (fun _ _ => True) (va_A (gW x q b d0 p0 cT cD cP cB cU r) sz)) 0 0 (va_A (gW x q b d0 p0 cT cD cP cB cU r) sz) := by
  refine Met.ofW (cc := cX9_status) (maxL := 1) (ret := (some .int)) (by decide +kernel) rfl ?_
  intro p e s m args below meth c s₁ B hml hv
  obtain ⟨rfl, hsz, hP, hK, hD0⟩ := hv
  have hx := B.exec
  have hb := B.bytes
  have hr := B.returns
  have hts := atoms_spec (ws := mwX9_status) B.pre
  have hown : s.vm.findClass RX9 = some m.cls := findClass_of_methodNamed B.named
  have hlocks := B.notSynchronized
  subst hsz
  have hD := hD0.self (sz := s.heap.size)
  generalize hAe : va_A (gW x q b d0 p0 cT cD cP cB cU r) s.heap.size = A at hD ⊢
  have hA : ∀ q : Nat, s.heap.size ≤ q → A q := fun q h => by rw [← hAe]; exact Or.inr h
  have hP : va_P (dC, dI) vwCl [(x, .inr (9, gF q 0 0 (-1) (-1) b 0 0)), (q 0, .inl (cT, 900, .inl (fun _ => 0))), (b, .inr (0, [.ref d0, .ref p0, .null])), (d0, .inl (cD, 0, .inr (.inr (.inr (.inr (fun _ => none)))))), (p0, .inl (cP, 0, .inr (.inr (.inr (.inr (fun _ => none)))))), (q 1, .inl (cB, 3, .inr (.inr (.inr (.inr (fun _ => none)))))), (q 2, .inl (cU, 3, .inl (fun _ => 0))), (q 3, .inr (6, rF r 0 0 0 0 0 0 0 0))] s.heap := hP
  have hD : va_D A [(x, .inr (9, gF q 0 0 (-1) (-1) b 0 0)), (q 0, .inl (cT, 900, .inl (fun _ => 0))), (b, .inr (0, [.ref d0, .ref p0, .null])), (d0, .inl (cD, 0, .inr (.inr (.inr (.inr (fun _ => none)))))), (p0, .inl (cP, 0, .inr (.inr (.inr (.inr (fun _ => none)))))), (q 1, .inl (cB, 3, .inr (.inr (.inr (.inr (fun _ => none)))))), (q 2, .inl (cU, 3, .inl (fun _ => 0))), (q 3, .inr (6, rF r 0 0 0 0 0 0 0 0))] := hD
  have hK : va_K (dC, dI) vwCl [(cT, .int), (cD, .object "PatternGate$Doc"), (cP, .object "PatternGate$Pattern"), (cB, .object "PatternGate$Book"), (cU, .int)] s := hK
  generalize hH : s.heap = H at hP ⊢
  have hS : va_S A s.heap H [] := by rw [← hH]; exact va_S.rf
  have hl := lv_entry ([.ref x]) (n := 1) (Nat.le_of_ble_eq_true rfl)
  rw [lg_entry_eq]
  generalize (lg_sl ([.ref x]) ++ List.replicate (1 - (lg_sl ([.ref x])).length) Slot.unset).toArray = ls at hl ⊢
  have hl : lv_has ls 1 [(0, .ref x)] := hl
  refine lv_aload_n hx hb dX9_status_0 rfl (lv_at hl 0 rfl) ?_
  refine va_get (D := (dC, dI)) (ci := 9) (v := .int 0) (C := RX9) (T := TX9) (N := 16) hx hb hts fin_X9_status_X9 hown hK hP 0 rfl rfl 0 (by decide) (hts (.fieldLink RX9 70 "PatternGate" "lastStatus" "I") (List.mem_of_getElem? (i := 1) (by decide +kernel))) (fun _ h9 => h9) rfl dX9_status_1 ?_
  exact W.iret hx hb hr (fun t ht hW => ⟨⟨_, (), rfl, rfl, trivial⟩, hS.F ht⟩) hS.2.2 dX9_status_4
theorem dX9_list_0 : decode cX9_list 0 = .ok (.iload_n 1, 1) := by decide +kernel
theorem dX9_list_1 : decode cX9_list 1 = .ok (.invokestatic 190, 3) := by decide +kernel
theorem dX9_list_4 : decode cX9_list 4 = .ok (.ifCond .eq 7, 3) := by decide +kernel
theorem dX9_list_7 : decode cX9_list 7 = .ok (.iload_n 2, 1) := by decide +kernel
theorem dX9_list_8 : decode cX9_list 8 = .ok (.ifCond .ge 9, 3) := by decide +kernel
theorem dX9_list_11 : decode cX9_list 11 = .ok (.aload_n 0, 1) := by decide +kernel
theorem dX9_list_12 : decode cX9_list 12 = .ok (.iconst 1, 1) := by decide +kernel
theorem dX9_list_13 : decode cX9_list 13 = .ok (.invokevirtual 80, 3) := by decide +kernel
theorem dX9_list_16 : decode cX9_list 16 = .ok (.ireturn, 1) := by decide +kernel
theorem dX9_list_17 : decode cX9_list 17 = .ok (.aload_n 0, 1) := by decide +kernel
theorem dX9_list_18 : decode cX9_list 18 = .ok (.getfield 29, 3) := by decide +kernel
theorem dX9_list_21 : decode cX9_list 21 = .ok (.iload_n 1, 1) := by decide +kernel
theorem dX9_list_22 : decode cX9_list 22 = .ok (.invokevirtual 194, 3) := by decide +kernel
theorem dX9_list_25 : decode cX9_list 25 = .ok (.istore_n 3, 1) := by decide +kernel
theorem dX9_list_26 : decode cX9_list 26 = .ok (.iload_n 2, 1) := by decide +kernel
theorem dX9_list_27 : decode cX9_list 27 = .ok (.iload_n 3, 1) := by decide +kernel
theorem dX9_list_28 : decode cX9_list 28 = .ok (.invokestatic 197, 3) := by decide +kernel
theorem dX9_list_31 : decode cX9_list 31 = .ok (.if_icmp .lt 9, 3) := by decide +kernel
theorem dX9_list_34 : decode cX9_list 34 = .ok (.aload_n 0, 1) := by decide +kernel
theorem dX9_list_35 : decode cX9_list 35 = .ok (.iconst 5, 1) := by decide +kernel
theorem dX9_list_36 : decode cX9_list 36 = .ok (.invokevirtual 80, 3) := by decide +kernel
theorem dX9_list_39 : decode cX9_list 39 = .ok (.ireturn, 1) := by decide +kernel
def mwX9_list : List Cond := .code yX9_list cX9_list 5 (some .int) :: ([.code yX9_isTriple cX9_isTriple 1 (some .boolean), .methodLink RX9 190 yX9_isTriple, .static yX9_isTriple, .initialized RX9, .code yX9_refuse cX9_refuse 2 (some .int), .fieldLink RX9 70 "PatternGate" "lastStatus" "I", .methodLink RX9 80 yX9_refuse, .instanceMethod yX9_refuse, .selects RX9 yX9_refuse yX9_refuse, .fieldLink RX9 29 "PatternGate" "book" "LPatternGate$Book;", .code yX0_listBits cX0_listBits 4 (some .int), .fieldLink RX0 7 "PatternGate$Book" "docs" "[LPatternGate$Doc;", .methodLink RX9 194 yX0_listBits, .instanceMethod yX0_listBits, .selects RX0 yX0_listBits yX0_listBits, .initialized RX0, .code yJ6_bitCount_0f7a4 cJ6_bitCount_0f7a4 1 (some .int), .constant RJ6 265 (1431655765), .constant RJ6 266 (858993459), .constant RJ6 267 (252645135), .methodLink RX9 197 yJ6_bitCount_0f7a4, .static yJ6_bitCount_0f7a4, .initialized RJ6] ++ wsX90 ++ wsX00)
theorem fin_X9_list_X9 : ∀ w ∈ wsX90, w ∈ mwX9_list := fun w h => List.mem_cons_of_mem _ (List.mem_append_left _ (List.mem_append_right _ h))
set_option maxRecDepth 20000 in
theorem mg_X9_list_X9_isTriple_190 : GoodIn mwX9_list (va_wsS RX9 190 yX9_isTriple mwX9_isTriple) := goodIn_r _ [2, 3, 4, 1] (by decide +kernel) (by decide +kernel)
set_option maxRecDepth 20000 in
theorem mg_X9_list_X9_refuse_80 : GoodIn mwX9_list (wsV RX9 80 RX9 yX9_refuse mwX9_refuse) := goodIn_r _ [7, 8, 9, 4, 5, 6, 24, 25, 26, 27, 28, 29, 30, 31, 32, 33, 34, 35, 36, 37, 38, 39] (by decide +kernel) (by decide +kernel)
set_option maxRecDepth 20000 in
theorem mg_X9_list_X0_listBits_194 : GoodIn mwX9_list (wsV RX9 194 RX0 yX0_listBits mwX0_listBits) := goodIn_r _ [13, 14, 15, 16, 11, 12, 40, 41, 42] (by decide +kernel) (by decide +kernel)
set_option maxRecDepth 20000 in
theorem mg_X9_list_J6_bitCount_0f7a4_197 : GoodIn mwX9_list (va_wsS RX9 197 yJ6_bitCount_0f7a4 mwJ6_bitCount_0f7a4) := goodIn_r _ [21, 22, 23, 17, 18, 19, 20] (by decide +kernel) (by decide +kernel)
set_option maxHeartbeats 4000000 in
set_option maxRecDepth 100000 in
/-- list on a new object -/
theorem c_list (l : Launch) (dC : Nat → ClassId) (dI : Nat → Nat → Nat) (x : Nat) (q : Nat → Nat) (b d0 p0 : Nat) (cT cD cP cB cU : ClassId) (r : Nat → Nat) (sz : Nat) (i0 i1 : Int32) : Met l yX9_list mwX9_list ({ frames := 1, cells := 0, slots := 0, locals := 60 }) (va_Pc [.ref x, .int i0, .int i1] (fun U => U.heap.size = sz ∧ va_P (dC, dI) vwCl (gW x q b d0 p0 cT cD cP cB cU r) U.heap ∧ va_K (dC, dI) vwCl (gT cT cD cP cB cU) U ∧ va_D (fun _ => True) (gW x q b d0 p0 cT cD cP cB cU r))) (va_Qi (fun (o : Int32) (_ : Unit) => o = (-1)) (fun _ _ => True) (va_A (gW x q b d0 p0 cT cD cP cB cU r) sz)) 0 0 (va_A (gW x q b d0 p0 cT cD cP cB cU r) sz) := by
  refine Met.ofW (cc := cX9_list) (maxL := 5) (ret := (some .int)) (by decide +kernel) rfl ?_
  intro p e s m args below meth c s₁ B hml hv
  obtain ⟨rfl, hsz, hP, hK, hD0⟩ := hv
  have hx := B.exec
  have hb := B.bytes
  have hr := B.returns
  have hts := atoms_spec (ws := mwX9_list) B.pre
  have hown : s.vm.findClass RX9 = some m.cls := findClass_of_methodNamed B.named
  have hlocks := B.notSynchronized
  subst hsz
  have hD := hD0.self (sz := s.heap.size)
  generalize hAe : va_A (gW x q b d0 p0 cT cD cP cB cU r) s.heap.size = A at hD ⊢
  have hA : ∀ q : Nat, s.heap.size ≤ q → A q := fun q h => by rw [← hAe]; exact Or.inr h
  have hP : va_P (dC, dI) vwCl [(x, .inr (9, gF q 0 0 (-1) (-1) b 0 0)), (q 0, .inl (cT, 900, .inl (fun _ => 0))), (b, .inr (0, [.ref d0, .ref p0, .null])), (d0, .inl (cD, 0, .inr (.inr (.inr (.inr (fun _ => none)))))), (p0, .inl (cP, 0, .inr (.inr (.inr (.inr (fun _ => none)))))), (q 1, .inl (cB, 3, .inr (.inr (.inr (.inr (fun _ => none)))))), (q 2, .inl (cU, 3, .inl (fun _ => 0))), (q 3, .inr (6, rF r 0 0 0 0 0 0 0 0))] s.heap := hP
  have hD : va_D A [(x, .inr (9, gF q 0 0 (-1) (-1) b 0 0)), (q 0, .inl (cT, 900, .inl (fun _ => 0))), (b, .inr (0, [.ref d0, .ref p0, .null])), (d0, .inl (cD, 0, .inr (.inr (.inr (.inr (fun _ => none)))))), (p0, .inl (cP, 0, .inr (.inr (.inr (.inr (fun _ => none)))))), (q 1, .inl (cB, 3, .inr (.inr (.inr (.inr (fun _ => none)))))), (q 2, .inl (cU, 3, .inl (fun _ => 0))), (q 3, .inr (6, rF r 0 0 0 0 0 0 0 0))] := hD
  have hK : va_K (dC, dI) vwCl [(cT, .int), (cD, .object "PatternGate$Doc"), (cP, .object "PatternGate$Pattern"), (cB, .object "PatternGate$Book"), (cU, .int)] s := hK
  generalize hH : s.heap = H at hP ⊢
  have hS : va_S A s.heap H [] := by rw [← hH]; exact va_S.rf
  have hl := lv_entry ([.ref x, .int i0, .int i1]) (n := 5) (Nat.le_of_ble_eq_true rfl)
  rw [lg_entry_eq]
  generalize (lg_sl ([.ref x, .int i0, .int i1]) ++ List.replicate (5 - (lg_sl ([.ref x, .int i0, .int i1])).length) Slot.unset).toArray = ls at hl ⊢
  have hl : lv_has ls 5 [(0, .ref x), (1, .int i0), (2, .int i1)] := hl
  refine lv_iload_n hx hb dX9_list_0 rfl (lv_at hl 1 rfl) ?_
  refine vp_callSi (W.runS (As := [.int i0]) (rest := []) ⟨hx, hb, hml, hown, hts⟩ (c_isTriple l dC dI i0) (va_cwS 1 hts mg_X9_list_X9_isTriple_190 rfl rfl rfl (by decide +kernel) ⟨Nat.le_of_ble_eq_true rfl, Nat.le_of_ble_eq_true rfl⟩) ⟨fun a U g mk q => ⟨q.1, trivial⟩, fun U hU hW => ⟨rfl, trivial⟩⟩ rfl rfl hl.1 rfl (lv_room (Nat.le_of_ble_eq_true rfl)) dX9_list_1 ⟨Nat.le_of_ble_eq_true rfl, Nat.le_of_ble_eq_true rfl⟩) (fun r_2 hw => ?_)
  rcases hw with rfl | rfl
  · refine lv_if_eq (tgt := 11) hx hb dX9_list_4 (by decide) (fun k_3 => ?_) (fun k_3 => absurd (by decide) k_3)
    refine lv_aload_n hx hb dX9_list_11 rfl (lv_at hl 0 rfl) ?_
    refine lv_iconst (v := 1) hx hb dX9_list_12 (by decide) ?_
    have hPc := hP.sub (ws' := [(x, .inr (9, gF q 0 0 (-1) (-1) b 0 0))]) [0] rfl
    have hKc := hK.sub (tys' := []) [] rfl
    have hDc := hD.sub (ws' := [(x, .inr (9, gF q 0 0 (-1) (-1) b 0 0))]) [0] (by decide) rfl
    have hFc := va_free (wc := [(x, .inr (9, gF q 0 0 (-1) (-1) b 0 0))]) hD hS hA [0] rfl
    refine va_calli (va_runV (As := [.int 1]) (rest := []) ⟨hx, hb, hml, hown, hts⟩ (c_refuse l dC dI x q 0 0 (-1) (-1) b 0 0 H.size 1) (cwV 1 hts mg_X9_list_X9_refuse_80 rfl rfl rfl (by decide +kernel) ⟨Nat.le_of_ble_eq_true rfl, Nat.le_of_ble_eq_true rfl⟩) ⟨fun a U g mk q => by obtain ⟨q0, q1, qP, qK, qD⟩ := q; exact ⟨q0, q1, qP, va_K.moved (u := U) (U := U.calling g mk a) (Vm.Alike.refl U.vm) qK, qD⟩, va_recv hKc hPc (ci := 9) (q0 := 0) rfl rfl, fun U hU hW => ⟨rfl, by rw [hU], by rw [hU]; exact hPc, va_K.moved hW.alike hKc, hDc.weaken (fun _ _ _ _ => trivial)⟩⟩ rfl rfl hl.1 rfl (lv_room (Nat.le_of_ble_eq_true rfl)) dX9_list_13 ⟨Nat.le_of_ble_eq_true rfl, Nat.le_of_ble_eq_true rfl⟩) hS (fun q _ h => hFc q h) hFc (fun r_5 u t H1 locs ht hvm hw hB hz1 hk1 hS => ?_)
    exact W.iret hx hb hr (fun t ht hW => ⟨⟨_, (), rfl, hw, trivial⟩, hS.F ht⟩) hS.2.2 dX9_list_16
  · refine lv_if_eq (tgt := 11) hx hb dX9_list_4 (by decide) (fun k_6 => absurd k_6 (by decide)) (fun k_6 => ?_)
    refine lv_iload_n hx hb dX9_list_7 rfl (lv_at hl 2 rfl) ?_
    refine lv_if_ge (tgt := 17) hx hb dX9_list_8 (by decide) (fun k_7 => ?_) (fun k_7 => ?_)
    · refine lv_aload_n hx hb dX9_list_17 rfl (lv_at hl 0 rfl) ?_
      refine va_get (D := (dC, dI)) (ci := 9) (v := .ref b) (C := RX9) (T := TX9) (N := 16) hx hb hts fin_X9_list_X9 hown hK hP 0 rfl rfl 5 (by decide) (hts (.fieldLink RX9 29 "PatternGate" "book" "LPatternGate$Book;") (List.mem_of_getElem? (i := 10) (by decide +kernel))) (fun _ h9 => h9) rfl dX9_list_18 ?_
      refine lv_iload_n hx hb dX9_list_21 rfl (lv_at hl 1 rfl) ?_
      have hPc := hP.sub (ws' := [(b, .inr (0, [.ref d0, .ref p0, .null])), (d0, .inl (cD, 0, .inr (.inr (.inr (.inr (fun _ => none)))))), (p0, .inl (cP, 0, .inr (.inr (.inr (.inr (fun _ => none))))))]) [2, 3, 4] rfl
      have hKc := hK.sub (tys' := [(cD, .object "PatternGate$Doc"), (cP, .object "PatternGate$Pattern")]) [1, 2] rfl
      refine vp_callSi (W.runV (As := [.int i0]) (rest := []) ⟨hx, hb, hml, hown, hts⟩ (c_listBits l dC dI b d0 p0 cD cP i0) (cwV 1 hts mg_X9_list_X0_listBits_194 rfl rfl rfl (by decide +kernel) ⟨Nat.le_of_ble_eq_true rfl, Nat.le_of_ble_eq_true rfl⟩) ⟨fun a U g mk q => by obtain ⟨q0, qP, qK⟩ := q; exact ⟨q0, qP, va_K.moved (u := U) (U := U.calling g mk a) (Vm.Alike.refl U.vm) qK⟩, va_recv hKc hPc (ci := 0) (q0 := 0) rfl rfl, fun U hU hW => ⟨rfl, by rw [hU]; exact hPc, va_K.moved hW.alike hKc⟩⟩ rfl rfl hl.1 rfl (lv_room (Nat.le_of_ble_eq_true rfl)) dX9_list_22 ⟨Nat.le_of_ble_eq_true rfl, Nat.le_of_ble_eq_true rfl⟩) (fun r_9 hw => ?_)
      subst hw
      refine lv_istore_n (lv' := [(3, .int 0), (0, .ref x), (1, .int i0), (2, .int i1)]) hx hb dX9_list_25 rfl hl (by decide) rfl (fun ls hl => ?_)
      refine lv_iload_n hx hb dX9_list_26 rfl (lv_at hl 3 rfl) ?_
      refine lv_iload_n hx hb dX9_list_27 rfl (lv_at hl 0 rfl) ?_
      refine vp_callSi (W.runS (As := [.int 0]) (rest := [.int i1]) ⟨hx, hb, hml, hown, hts⟩ (c_bitCount l dC dI ) (va_cwS 1 hts mg_X9_list_J6_bitCount_0f7a4_197 rfl rfl rfl (by decide +kernel) ⟨Nat.le_of_ble_eq_true rfl, Nat.le_of_ble_eq_true rfl⟩) ⟨fun a U g mk q => ⟨q.1, trivial⟩, fun U hU hW => ⟨rfl, trivial⟩⟩ rfl rfl hl.1 rfl (lv_room (Nat.le_of_ble_eq_true rfl)) dX9_list_28 ⟨Nat.le_of_ble_eq_true rfl, Nat.le_of_ble_eq_true rfl⟩) (fun r_11 hw => ?_)
      subst hw
      refine lv_icmp_lt (tgt := 40) hx hb dX9_list_31 (by decide) (fun k_12 => absurd k_12 (fun h => zz_dn k_7 h)) (fun k_12 => ?_)
      refine lv_aload_n hx hb dX9_list_34 rfl (lv_at hl 1 rfl) ?_
      refine lv_iconst (v := 5) hx hb dX9_list_35 (by decide) ?_
      have hPc := hP.sub (ws' := [(x, .inr (9, gF q 0 0 (-1) (-1) b 0 0))]) [0] rfl
      have hKc := hK.sub (tys' := []) [] rfl
      have hDc := hD.sub (ws' := [(x, .inr (9, gF q 0 0 (-1) (-1) b 0 0))]) [0] (by decide) rfl
      have hFc := va_free (wc := [(x, .inr (9, gF q 0 0 (-1) (-1) b 0 0))]) hD hS hA [0] rfl
      refine va_calli (va_runV (As := [.int 5]) (rest := []) ⟨hx, hb, hml, hown, hts⟩ (c_refuse l dC dI x q 0 0 (-1) (-1) b 0 0 H.size 5) (cwV 1 hts mg_X9_list_X9_refuse_80 rfl rfl rfl (by decide +kernel) ⟨Nat.le_of_ble_eq_true rfl, Nat.le_of_ble_eq_true rfl⟩) ⟨fun a U g mk q => by obtain ⟨q0, q1, qP, qK, qD⟩ := q; exact ⟨q0, q1, qP, va_K.moved (u := U) (U := U.calling g mk a) (Vm.Alike.refl U.vm) qK, qD⟩, va_recv hKc hPc (ci := 9) (q0 := 0) rfl rfl, fun U hU hW => ⟨rfl, by rw [hU], by rw [hU]; exact hPc, va_K.moved hW.alike hKc, hDc.weaken (fun _ _ _ _ => trivial)⟩⟩ rfl rfl hl.1 rfl (lv_room (Nat.le_of_ble_eq_true rfl)) dX9_list_36 ⟨Nat.le_of_ble_eq_true rfl, Nat.le_of_ble_eq_true rfl⟩) hS (fun q _ h => hFc q h) hFc (fun r_14 u t H1 locs ht hvm hw hB hz1 hk1 hS => ?_)
      exact W.iret hx hb hr (fun t ht hW => ⟨⟨_, (), rfl, hw, trivial⟩, hS.F ht⟩) hS.2.2 dX9_list_39
    · refine lv_aload_n hx hb dX9_list_11 rfl (lv_at hl 0 rfl) ?_
      refine lv_iconst (v := 1) hx hb dX9_list_12 (by decide) ?_
      have hPc := hP.sub (ws' := [(x, .inr (9, gF q 0 0 (-1) (-1) b 0 0))]) [0] rfl
      have hKc := hK.sub (tys' := []) [] rfl
      have hDc := hD.sub (ws' := [(x, .inr (9, gF q 0 0 (-1) (-1) b 0 0))]) [0] (by decide) rfl
      have hFc := va_free (wc := [(x, .inr (9, gF q 0 0 (-1) (-1) b 0 0))]) hD hS hA [0] rfl
      refine va_calli (va_runV (As := [.int 1]) (rest := []) ⟨hx, hb, hml, hown, hts⟩ (c_refuse l dC dI x q 0 0 (-1) (-1) b 0 0 H.size 1) (cwV 1 hts mg_X9_list_X9_refuse_80 rfl rfl rfl (by decide +kernel) ⟨Nat.le_of_ble_eq_true rfl, Nat.le_of_ble_eq_true rfl⟩) ⟨fun a U g mk q => by obtain ⟨q0, q1, qP, qK, qD⟩ := q; exact ⟨q0, q1, qP, va_K.moved (u := U) (U := U.calling g mk a) (Vm.Alike.refl U.vm) qK, qD⟩, va_recv hKc hPc (ci := 9) (q0 := 0) rfl rfl, fun U hU hW => ⟨rfl, by rw [hU], by rw [hU]; exact hPc, va_K.moved hW.alike hKc, hDc.weaken (fun _ _ _ _ => trivial)⟩⟩ rfl rfl hl.1 rfl (lv_room (Nat.le_of_ble_eq_true rfl)) dX9_list_13 ⟨Nat.le_of_ble_eq_true rfl, Nat.le_of_ble_eq_true rfl⟩) hS (fun q _ h => hFc q h) hFc (fun r_16 u t H1 locs ht hvm hw hB hz1 hk1 hS => ?_)
      exact W.iret hx hb hr (fun t ht hW => ⟨⟨_, (), rfl, hw, trivial⟩, hS.F ht⟩) hS.2.2 dX9_list_16
theorem dX9_undo_0 : decode cX9_undo 0 = .ok (.aload_n 0, 1) := by decide +kernel
theorem dX9_undo_1 : decode cX9_undo 1 = .ok (.getfield 29, 3) := by decide +kernel
theorem dX9_undo_4 : decode cX9_undo 4 = .ok (.getfield 278, 3) := by decide +kernel
theorem dX9_undo_7 : decode cX9_undo 7 = .ok (.astore_n 1, 1) := by decide +kernel
theorem dX9_undo_8 : decode cX9_undo 8 = .ok (.aload_n 0, 1) := by decide +kernel
theorem dX9_undo_9 : decode cX9_undo 9 = .ok (.getfield 117, 3) := by decide +kernel
theorem dX9_undo_12 : decode cX9_undo 12 = .ok (.ifCond .le 7, 3) := by decide +kernel
theorem dX9_undo_19 : decode cX9_undo 19 = .ok (.aload_n 0, 1) := by decide +kernel
theorem dX9_undo_20 : decode cX9_undo 20 = .ok (.iconst 5, 1) := by decide +kernel
theorem dX9_undo_21 : decode cX9_undo 21 = .ok (.invokevirtual 80, 3) := by decide +kernel
theorem dX9_undo_24 : decode cX9_undo 24 = .ok (.ireturn, 1) := by decide +kernel
def mwX9_undo : List Cond := .code yX9_undo cX9_undo 2 (some .int) :: ([.fieldLink RX9 29 "PatternGate" "book" "LPatternGate$Book;", .fieldLink RX9 278 "PatternGate$Book" "earlier" "LPatternGate$Book;", .fieldLink RX9 117 "PatternGate" "undoable" "I", .code yX9_refuse cX9_refuse 2 (some .int), .fieldLink RX9 70 "PatternGate" "lastStatus" "I", .methodLink RX9 80 yX9_refuse, .instanceMethod yX9_refuse, .selects RX9 yX9_refuse yX9_refuse, .initialized RX9] ++ wsX90 ++ wsX00)
theorem fin_X9_undo_X0 : ∀ w ∈ wsX00, w ∈ mwX9_undo := fun w h => List.mem_cons_of_mem _ (List.mem_append_right _ h)
theorem fin_X9_undo_X9 : ∀ w ∈ wsX90, w ∈ mwX9_undo := fun w h => List.mem_cons_of_mem _ (List.mem_append_left _ (List.mem_append_right _ h))
set_option maxRecDepth 20000 in
theorem mg_X9_undo_X9_refuse_80 : GoodIn mwX9_undo (wsV RX9 80 RX9 yX9_refuse mwX9_refuse) := goodIn_r _ [6, 7, 8, 9, 4, 5, 10, 11, 12, 13, 14, 15, 16, 17, 18, 19, 20, 21, 22, 23, 24, 25] (by decide +kernel) (by decide +kernel)
set_option maxHeartbeats 4000000 in
set_option maxRecDepth 100000 in
/-- undo on a new object -/
theorem c_undo (l : Launch) (dC : Nat → ClassId) (dI : Nat → Nat → Nat) (x : Nat) (q : Nat → Nat) (b d0 p0 : Nat) (cT cD cP cB cU : ClassId) (r : Nat → Nat) (sz : Nat) : Met l yX9_undo mwX9_undo ({ frames := 1, cells := 0, slots := 0, locals := 60 }) (va_Pc [.ref x] (fun U => U.heap.size = sz ∧ va_P (dC, dI) vwCl (gW x q b d0 p0 cT cD cP cB cU r) U.heap ∧ va_K (dC, dI) vwCl (gT cT cD cP cB cU) U ∧ va_D (fun _ => True) (gW x q b d0 p0 cT cD cP cB cU r))) (va_Qi (fun (o : Int32) (_ : Unit) => o = (-1)) (fun _ _ => True) (va_A (gW x q b d0 p0 cT cD cP cB cU r) sz)) 0 0 (va_A (gW x q b d0 p0 cT cD cP cB cU r) sz) := by
  refine Met.ofW (cc := cX9_undo) (maxL := 2) (ret := (some .int)) (by decide +kernel) rfl ?_
  intro p e s m args below meth c s₁ B hml hv
  obtain ⟨rfl, hsz, hP, hK, hD0⟩ := hv
  have hx := B.exec
  have hb := B.bytes
  have hr := B.returns
  have hts := atoms_spec (ws := mwX9_undo) B.pre
  have hown : s.vm.findClass RX9 = some m.cls := findClass_of_methodNamed B.named
  have hlocks := B.notSynchronized
  subst hsz
  have hD := hD0.self (sz := s.heap.size)
  generalize hAe : va_A (gW x q b d0 p0 cT cD cP cB cU r) s.heap.size = A at hD ⊢
  have hA : ∀ q : Nat, s.heap.size ≤ q → A q := fun q h => by rw [← hAe]; exact Or.inr h
  have hP : va_P (dC, dI) vwCl [(x, .inr (9, gF q 0 0 (-1) (-1) b 0 0)), (q 0, .inl (cT, 900, .inl (fun _ => 0))), (b, .inr (0, [.ref d0, .ref p0, .null])), (d0, .inl (cD, 0, .inr (.inr (.inr (.inr (fun _ => none)))))), (p0, .inl (cP, 0, .inr (.inr (.inr (.inr (fun _ => none)))))), (q 1, .inl (cB, 3, .inr (.inr (.inr (.inr (fun _ => none)))))), (q 2, .inl (cU, 3, .inl (fun _ => 0))), (q 3, .inr (6, rF r 0 0 0 0 0 0 0 0))] s.heap := hP
  have hD : va_D A [(x, .inr (9, gF q 0 0 (-1) (-1) b 0 0)), (q 0, .inl (cT, 900, .inl (fun _ => 0))), (b, .inr (0, [.ref d0, .ref p0, .null])), (d0, .inl (cD, 0, .inr (.inr (.inr (.inr (fun _ => none)))))), (p0, .inl (cP, 0, .inr (.inr (.inr (.inr (fun _ => none)))))), (q 1, .inl (cB, 3, .inr (.inr (.inr (.inr (fun _ => none)))))), (q 2, .inl (cU, 3, .inl (fun _ => 0))), (q 3, .inr (6, rF r 0 0 0 0 0 0 0 0))] := hD
  have hK : va_K (dC, dI) vwCl [(cT, .int), (cD, .object "PatternGate$Doc"), (cP, .object "PatternGate$Pattern"), (cB, .object "PatternGate$Book"), (cU, .int)] s := hK
  generalize hH : s.heap = H at hP ⊢
  have hS : va_S A s.heap H [] := by rw [← hH]; exact va_S.rf
  have hl := lv_entry ([.ref x]) (n := 2) (Nat.le_of_ble_eq_true rfl)
  rw [lg_entry_eq]
  generalize (lg_sl ([.ref x]) ++ List.replicate (2 - (lg_sl ([.ref x])).length) Slot.unset).toArray = ls at hl ⊢
  have hl : lv_has ls 2 [(0, .ref x)] := hl
  refine lv_aload_n hx hb dX9_undo_0 rfl (lv_at hl 0 rfl) ?_
  refine va_get (D := (dC, dI)) (ci := 9) (v := .ref b) (C := RX9) (T := TX9) (N := 16) hx hb hts fin_X9_undo_X9 hown hK hP 0 rfl rfl 5 (by decide) (hts (.fieldLink RX9 29 "PatternGate" "book" "LPatternGate$Book;") (List.mem_of_getElem? (i := 1) (by decide +kernel))) (fun _ h9 => h9) rfl dX9_undo_1 ?_
  refine va_get (D := (dC, dI)) (ci := 0) (v := .null) (C := RX0) (T := TX0) (N := 3) hx hb hts fin_X9_undo_X0 hown hK hP 2 rfl rfl 2 (by decide) (hts (.fieldLink RX9 278 "PatternGate$Book" "earlier" "LPatternGate$Book;") (List.mem_of_getElem? (i := 2) (by decide +kernel))) (fun _ h9 => h9) rfl dX9_undo_4 ?_
  refine lv_astore_nN (lv' := [(1, .null), (0, .ref x)]) hx hb dX9_undo_7 rfl hl (by decide) rfl (fun ls hl => ?_)
  refine lv_aload_n hx hb dX9_undo_8 rfl (lv_at hl 1 rfl) ?_
  refine va_get (D := (dC, dI)) (ci := 9) (v := .int 0) (C := RX9) (T := TX9) (N := 16) hx hb hts fin_X9_undo_X9 hown hK hP 0 rfl rfl 6 (by decide) (hts (.fieldLink RX9 117 "PatternGate" "undoable" "I") (List.mem_of_getElem? (i := 3) (by decide +kernel))) (fun _ h9 => h9) rfl dX9_undo_9 ?_
  refine lv_if_le (tgt := 19) hx hb dX9_undo_12 (by decide) (fun k_1 => ?_) (fun k_1 => absurd (by decide) k_1)
  refine lv_aload_n hx hb dX9_undo_19 rfl (lv_at hl 1 rfl) ?_
  refine lv_iconst (v := 5) hx hb dX9_undo_20 (by decide) ?_
  have hPc := hP.sub (ws' := [(x, .inr (9, gF q 0 0 (-1) (-1) b 0 0))]) [0] rfl
  have hKc := hK.sub (tys' := []) [] rfl
  have hDc := hD.sub (ws' := [(x, .inr (9, gF q 0 0 (-1) (-1) b 0 0))]) [0] (by decide) rfl
  have hFc := va_free (wc := [(x, .inr (9, gF q 0 0 (-1) (-1) b 0 0))]) hD hS hA [0] rfl
  refine va_calli (va_runV (As := [.int 5]) (rest := []) ⟨hx, hb, hml, hown, hts⟩ (c_refuse l dC dI x q 0 0 (-1) (-1) b 0 0 H.size 5) (cwV 1 hts mg_X9_undo_X9_refuse_80 rfl rfl rfl (by decide +kernel) ⟨Nat.le_of_ble_eq_true rfl, Nat.le_of_ble_eq_true rfl⟩) ⟨fun a U g mk q => by obtain ⟨q0, q1, qP, qK, qD⟩ := q; exact ⟨q0, q1, qP, va_K.moved (u := U) (U := U.calling g mk a) (Vm.Alike.refl U.vm) qK, qD⟩, va_recv hKc hPc (ci := 9) (q0 := 0) rfl rfl, fun U hU hW => ⟨rfl, by rw [hU], by rw [hU]; exact hPc, va_K.moved hW.alike hKc, hDc.weaken (fun _ _ _ _ => trivial)⟩⟩ rfl rfl hl.1 rfl (lv_room (Nat.le_of_ble_eq_true rfl)) dX9_undo_21 ⟨Nat.le_of_ble_eq_true rfl, Nat.le_of_ble_eq_true rfl⟩) hS (fun q _ h => hFc q h) hFc (fun r_3 u t H1 locs ht hvm hw hB hz1 hk1 hS => ?_)
  exact W.iret hx hb hr (fun t ht hW => ⟨⟨_, (), rfl, hw, trivial⟩, hS.F ht⟩) hS.2.2 dX9_undo_24
theorem dX9_back_0 : decode cX9_back 0 = .ok (.aload_n 0, 1) := by decide +kernel
theorem dX9_back_1 : decode cX9_back 1 = .ok (.getfield 120, 3) := by decide +kernel
theorem dX9_back_4 : decode cX9_back 4 = .ok (.ifCond .le 11, 3) := by decide +kernel
theorem dX9_back_15 : decode cX9_back 15 = .ok (.aload_n 0, 1) := by decide +kernel
theorem dX9_back_16 : decode cX9_back 16 = .ok (.iconst 5, 1) := by decide +kernel
theorem dX9_back_17 : decode cX9_back 17 = .ok (.invokevirtual 80, 3) := by decide +kernel
theorem dX9_back_20 : decode cX9_back 20 = .ok (.ireturn, 1) := by decide +kernel
def mwX9_back : List Cond := .code yX9_back cX9_back 2 (some .int) :: ([.fieldLink RX9 120 "PatternGate" "marks" "I", .code yX9_refuse cX9_refuse 2 (some .int), .fieldLink RX9 70 "PatternGate" "lastStatus" "I", .methodLink RX9 80 yX9_refuse, .instanceMethod yX9_refuse, .selects RX9 yX9_refuse yX9_refuse, .initialized RX9] ++ wsX90)
theorem fin_X9_back_X9 : ∀ w ∈ wsX90, w ∈ mwX9_back := fun w h => List.mem_cons_of_mem _ (List.mem_append_right _ h)
set_option maxRecDepth 20000 in
theorem mg_X9_back_X9_refuse_80 : GoodIn mwX9_back (wsV RX9 80 RX9 yX9_refuse mwX9_refuse) := goodIn_r _ [4, 5, 6, 7, 2, 3, 8, 9, 10, 11, 12, 13, 14, 15, 16, 17, 18, 19, 20, 21, 22, 23] (by decide +kernel) (by decide +kernel)
set_option maxHeartbeats 4000000 in
set_option maxRecDepth 100000 in
/-- back on a new object -/
theorem c_back (l : Launch) (dC : Nat → ClassId) (dI : Nat → Nat → Nat) (x : Nat) (q : Nat → Nat) (b d0 p0 : Nat) (cT cD cP cB cU : ClassId) (r : Nat → Nat) (sz : Nat) : Met l yX9_back mwX9_back ({ frames := 1, cells := 0, slots := 0, locals := 60 }) (va_Pc [.ref x] (fun U => U.heap.size = sz ∧ va_P (dC, dI) vwCl (gW x q b d0 p0 cT cD cP cB cU r) U.heap ∧ va_K (dC, dI) vwCl (gT cT cD cP cB cU) U ∧ va_D (fun _ => True) (gW x q b d0 p0 cT cD cP cB cU r))) (va_Qi (fun (o : Int32) (_ : Unit) => o = (-1)) (fun _ _ => True) (va_A (gW x q b d0 p0 cT cD cP cB cU r) sz)) 0 0 (va_A (gW x q b d0 p0 cT cD cP cB cU r) sz) := by
  refine Met.ofW (cc := cX9_back) (maxL := 2) (ret := (some .int)) (by decide +kernel) rfl ?_
  intro p e s m args below meth c s₁ B hml hv
  obtain ⟨rfl, hsz, hP, hK, hD0⟩ := hv
  have hx := B.exec
  have hb := B.bytes
  have hr := B.returns
  have hts := atoms_spec (ws := mwX9_back) B.pre
  have hown : s.vm.findClass RX9 = some m.cls := findClass_of_methodNamed B.named
  have hlocks := B.notSynchronized
  subst hsz
  have hD := hD0.self (sz := s.heap.size)
  generalize hAe : va_A (gW x q b d0 p0 cT cD cP cB cU r) s.heap.size = A at hD ⊢
  have hA : ∀ q : Nat, s.heap.size ≤ q → A q := fun q h => by rw [← hAe]; exact Or.inr h
  have hP : va_P (dC, dI) vwCl [(x, .inr (9, gF q 0 0 (-1) (-1) b 0 0)), (q 0, .inl (cT, 900, .inl (fun _ => 0))), (b, .inr (0, [.ref d0, .ref p0, .null])), (d0, .inl (cD, 0, .inr (.inr (.inr (.inr (fun _ => none)))))), (p0, .inl (cP, 0, .inr (.inr (.inr (.inr (fun _ => none)))))), (q 1, .inl (cB, 3, .inr (.inr (.inr (.inr (fun _ => none)))))), (q 2, .inl (cU, 3, .inl (fun _ => 0))), (q 3, .inr (6, rF r 0 0 0 0 0 0 0 0))] s.heap := hP
  have hD : va_D A [(x, .inr (9, gF q 0 0 (-1) (-1) b 0 0)), (q 0, .inl (cT, 900, .inl (fun _ => 0))), (b, .inr (0, [.ref d0, .ref p0, .null])), (d0, .inl (cD, 0, .inr (.inr (.inr (.inr (fun _ => none)))))), (p0, .inl (cP, 0, .inr (.inr (.inr (.inr (fun _ => none)))))), (q 1, .inl (cB, 3, .inr (.inr (.inr (.inr (fun _ => none)))))), (q 2, .inl (cU, 3, .inl (fun _ => 0))), (q 3, .inr (6, rF r 0 0 0 0 0 0 0 0))] := hD
  have hK : va_K (dC, dI) vwCl [(cT, .int), (cD, .object "PatternGate$Doc"), (cP, .object "PatternGate$Pattern"), (cB, .object "PatternGate$Book"), (cU, .int)] s := hK
  generalize hH : s.heap = H at hP ⊢
  have hS : va_S A s.heap H [] := by rw [← hH]; exact va_S.rf
  have hl := lv_entry ([.ref x]) (n := 2) (Nat.le_of_ble_eq_true rfl)
  rw [lg_entry_eq]
  generalize (lg_sl ([.ref x]) ++ List.replicate (2 - (lg_sl ([.ref x])).length) Slot.unset).toArray = ls at hl ⊢
  have hl : lv_has ls 2 [(0, .ref x)] := hl
  refine lv_aload_n hx hb dX9_back_0 rfl (lv_at hl 0 rfl) ?_
  refine va_get (D := (dC, dI)) (ci := 9) (v := .int 0) (C := RX9) (T := TX9) (N := 16) hx hb hts fin_X9_back_X9 hown hK hP 0 rfl rfl 9 (by decide) (hts (.fieldLink RX9 120 "PatternGate" "marks" "I") (List.mem_of_getElem? (i := 1) (by decide +kernel))) (fun _ h9 => h9) rfl dX9_back_1 ?_
  refine lv_if_le (tgt := 15) hx hb dX9_back_4 (by decide) (fun k_1 => ?_) (fun k_1 => absurd (by decide) k_1)
  refine lv_aload_n hx hb dX9_back_15 rfl (lv_at hl 0 rfl) ?_
  refine lv_iconst (v := 5) hx hb dX9_back_16 (by decide) ?_
  have hPc := hP.sub (ws' := [(x, .inr (9, gF q 0 0 (-1) (-1) b 0 0))]) [0] rfl
  have hKc := hK.sub (tys' := []) [] rfl
  have hDc := hD.sub (ws' := [(x, .inr (9, gF q 0 0 (-1) (-1) b 0 0))]) [0] (by decide) rfl
  have hFc := va_free (wc := [(x, .inr (9, gF q 0 0 (-1) (-1) b 0 0))]) hD hS hA [0] rfl
  refine va_calli (va_runV (As := [.int 5]) (rest := []) ⟨hx, hb, hml, hown, hts⟩ (c_refuse l dC dI x q 0 0 (-1) (-1) b 0 0 H.size 5) (cwV 1 hts mg_X9_back_X9_refuse_80 rfl rfl rfl (by decide +kernel) ⟨Nat.le_of_ble_eq_true rfl, Nat.le_of_ble_eq_true rfl⟩) ⟨fun a U g mk q => by obtain ⟨q0, q1, qP, qK, qD⟩ := q; exact ⟨q0, q1, qP, va_K.moved (u := U) (U := U.calling g mk a) (Vm.Alike.refl U.vm) qK, qD⟩, va_recv hKc hPc (ci := 9) (q0 := 0) rfl rfl, fun U hU hW => ⟨rfl, by rw [hU], by rw [hU]; exact hPc, va_K.moved hW.alike hKc, hDc.weaken (fun _ _ _ _ => trivial)⟩⟩ rfl rfl hl.1 rfl (lv_room (Nat.le_of_ble_eq_true rfl)) dX9_back_17 ⟨Nat.le_of_ble_eq_true rfl, Nat.le_of_ble_eq_true rfl⟩) hS (fun q _ h => hFc q h) hFc (fun r_3 u t H1 locs ht hvm hw hB hz1 hk1 hS => ?_)
  exact W.iret hx hb hr (fun t ht hW => ⟨⟨_, (), rfl, hw, trivial⟩, hS.F ht⟩) hS.2.2 dX9_back_20
theorem dX9_fault_0 : decode cX9_fault 0 = .ok (.iload_n 1, 1) := by decide +kernel
theorem dX9_fault_1 : decode cX9_fault 1 = .ok (.ifCond .ne 8, 3) := by decide +kernel
theorem dX9_fault_4 : decode cX9_fault 4 = .ok (.aload_n 0, 1) := by decide +kernel
theorem dX9_fault_5 : decode cX9_fault 5 = .ok (.getfield 13, 3) := by decide +kernel
theorem dX9_fault_8 : decode cX9_fault 8 = .ok (.ireturn, 1) := by decide +kernel
theorem dX9_fault_9 : decode cX9_fault 9 = .ok (.iload_n 1, 1) := by decide +kernel
theorem dX9_fault_10 : decode cX9_fault 10 = .ok (.iconst 1, 1) := by decide +kernel
theorem dX9_fault_11 : decode cX9_fault 11 = .ok (.if_icmp .ne 10, 3) := by decide +kernel
theorem dX9_fault_14 : decode cX9_fault 14 = .ok (.aload_n 0, 1) := by decide +kernel
theorem dX9_fault_15 : decode cX9_fault 15 = .ok (.getfield 17, 3) := by decide +kernel
theorem dX9_fault_18 : decode cX9_fault 18 = .ok (.goto 4, 3) := by decide +kernel
theorem dX9_fault_21 : decode cX9_fault 21 = .ok (.iconst (-1), 1) := by decide +kernel
theorem dX9_fault_22 : decode cX9_fault 22 = .ok (.ireturn, 1) := by decide +kernel
def mwX9_fault : List Cond := .code yX9_fault cX9_fault 2 (some .int) :: ([.fieldLink RX9 17 "PatternGate" "faultPlace" "I", .fieldLink RX9 13 "PatternGate" "faultKind" "I"] ++ wsX90)
theorem fin_X9_fault_X9 : ∀ w ∈ wsX90, w ∈ mwX9_fault := fun w h => List.mem_cons_of_mem _ (List.mem_append_right _ h)
set_option maxHeartbeats 4000000 in
set_option maxRecDepth 100000 in
/-- fault on a new object -/
theorem c_fault (l : Launch) (dC : Nat → ClassId) (dI : Nat → Nat → Nat) (x : Nat) (q : Nat → Nat) (b d0 p0 : Nat) (cT cD cP cB cU : ClassId) (r : Nat → Nat) (sz : Nat) (i0 : Int32) : Met l yX9_fault mwX9_fault ({ frames := 0, cells := 0, slots := 0, locals := 0 }) (va_Pc [.ref x, .int i0] (fun U => U.heap.size = sz ∧ va_P (dC, dI) vwCl (gW x q b d0 p0 cT cD cP cB cU r) U.heap ∧ va_K (dC, dI) vwCl (gT cT cD cP cB cU) U ∧ va_D (fun _ => True) (gW x q b d0 p0 cT cD cP cB cU r))) (va_Qi (fun (o : Int32) (_ : Unit) => o = (-1)) (fun _ _ => True) (va_A (gW x q b d0 p0 cT cD cP cB cU r) sz)) 0 0 (va_A (gW x q b d0 p0 cT cD cP cB cU r) sz) := by
  refine Met.ofW (cc := cX9_fault) (maxL := 2) (ret := (some .int)) (by decide +kernel) rfl ?_
  intro p e s m args below meth c s₁ B hml hv
  obtain ⟨rfl, hsz, hP, hK, hD0⟩ := hv
  have hx := B.exec
  have hb := B.bytes
  have hr := B.returns
  have hts := atoms_spec (ws := mwX9_fault) B.pre
  have hown : s.vm.findClass RX9 = some m.cls := findClass_of_methodNamed B.named
  have hlocks := B.notSynchronized
  subst hsz
  have hD := hD0.self (sz := s.heap.size)
  generalize hAe : va_A (gW x q b d0 p0 cT cD cP cB cU r) s.heap.size = A at hD ⊢
  have hA : ∀ q : Nat, s.heap.size ≤ q → A q := fun q h => by rw [← hAe]; exact Or.inr h
  have hP : va_P (dC, dI) vwCl [(x, .inr (9, gF q 0 0 (-1) (-1) b 0 0)), (q 0, .inl (cT, 900, .inl (fun _ => 0))), (b, .inr (0, [.ref d0, .ref p0, .null])), (d0, .inl (cD, 0, .inr (.inr (.inr (.inr (fun _ => none)))))), (p0, .inl (cP, 0, .inr (.inr (.inr (.inr (fun _ => none)))))), (q 1, .inl (cB, 3, .inr (.inr (.inr (.inr (fun _ => none)))))), (q 2, .inl (cU, 3, .inl (fun _ => 0))), (q 3, .inr (6, rF r 0 0 0 0 0 0 0 0))] s.heap := hP
  have hD : va_D A [(x, .inr (9, gF q 0 0 (-1) (-1) b 0 0)), (q 0, .inl (cT, 900, .inl (fun _ => 0))), (b, .inr (0, [.ref d0, .ref p0, .null])), (d0, .inl (cD, 0, .inr (.inr (.inr (.inr (fun _ => none)))))), (p0, .inl (cP, 0, .inr (.inr (.inr (.inr (fun _ => none)))))), (q 1, .inl (cB, 3, .inr (.inr (.inr (.inr (fun _ => none)))))), (q 2, .inl (cU, 3, .inl (fun _ => 0))), (q 3, .inr (6, rF r 0 0 0 0 0 0 0 0))] := hD
  have hK : va_K (dC, dI) vwCl [(cT, .int), (cD, .object "PatternGate$Doc"), (cP, .object "PatternGate$Pattern"), (cB, .object "PatternGate$Book"), (cU, .int)] s := hK
  generalize hH : s.heap = H at hP ⊢
  have hS : va_S A s.heap H [] := by rw [← hH]; exact va_S.rf
  have hl := lv_entry ([.ref x, .int i0]) (n := 2) (Nat.le_of_ble_eq_true rfl)
  rw [lg_entry_eq]
  generalize (lg_sl ([.ref x, .int i0]) ++ List.replicate (2 - (lg_sl ([.ref x, .int i0])).length) Slot.unset).toArray = ls at hl ⊢
  have hl : lv_has ls 2 [(0, .ref x), (1, .int i0)] := hl
  refine lv_iload_n hx hb dX9_fault_0 rfl (lv_at hl 1 rfl) ?_
  refine lv_if_ne (tgt := 9) hx hb dX9_fault_1 (by decide) (fun k_1 => ?_) (fun k_1 => ?_)
  · refine lv_iload_n hx hb dX9_fault_9 rfl (lv_at hl 1 rfl) ?_
    refine lv_iconst (v := 1) hx hb dX9_fault_10 (by decide) ?_
    refine lv_icmp_ne (tgt := 21) hx hb dX9_fault_11 (by decide) (fun k_2 => ?_) (fun k_2 => ?_)
    · refine lv_iconst (v := (-1)) hx hb dX9_fault_21 (by decide) ?_
      exact W.iret hx hb hr (fun t ht hW => ⟨⟨_, (), rfl, rfl, trivial⟩, hS.F ht⟩) hS.2.2 dX9_fault_22
    · refine lv_aload_n hx hb dX9_fault_14 rfl (lv_at hl 0 rfl) ?_
      refine va_get (D := (dC, dI)) (ci := 9) (v := .int (-1)) (C := RX9) (T := TX9) (N := 16) hx hb hts fin_X9_fault_X9 hown hK hP 0 rfl rfl 4 (by decide) (hts (.fieldLink RX9 17 "PatternGate" "faultPlace" "I") (List.mem_of_getElem? (i := 1) (by decide +kernel))) (fun _ h9 => h9) rfl dX9_fault_15 ?_
      refine lv_goto (tgt := 22) hx hb dX9_fault_18 (by decide) ?_
      exact W.iret hx hb hr (fun t ht hW => ⟨⟨_, (), rfl, rfl, trivial⟩, hS.F ht⟩) hS.2.2 dX9_fault_22
  · refine lv_aload_n hx hb dX9_fault_4 rfl (lv_at hl 0 rfl) ?_
    refine va_get (D := (dC, dI)) (ci := 9) (v := .int (-1)) (C := RX9) (T := TX9) (N := 16) hx hb hts fin_X9_fault_X9 hown hK hP 0 rfl rfl 3 (by decide) (hts (.fieldLink RX9 13 "PatternGate" "faultKind" "I") (List.mem_of_getElem? (i := 2) (by decide +kernel))) (fun _ h9 => h9) rfl dX9_fault_5 ?_
    exact W.iret hx hb hr (fun t ht hW => ⟨⟨_, (), rfl, rfl, trivial⟩, hS.F ht⟩) hS.2.2 dX9_fault_8
end
section
theorem dX9_mark_0 : decode cX9_mark 0 = .ok (.aload_n 0, 1) := by decide +kernel
theorem dX9_mark_1 : decode cX9_mark 1 = .ok (.getfield 120, 3) := by decide +kernel
theorem dX9_mark_4 : decode cX9_mark 4 = .ok (.iconst 3, 1) := by decide +kernel
theorem dX9_mark_5 : decode cX9_mark 5 = .ok (.if_icmp .lt 9, 3) := by decide +kernel
theorem dX9_mark_14 : decode cX9_mark 14 = .ok (.aload_n 0, 1) := by decide +kernel
theorem dX9_mark_15 : decode cX9_mark 15 = .ok (.getfield 33, 3) := by decide +kernel
theorem dX9_mark_18 : decode cX9_mark 18 = .ok (.aload_n 0, 1) := by decide +kernel
theorem dX9_mark_19 : decode cX9_mark 19 = .ok (.getfield 120, 3) := by decide +kernel
theorem dX9_mark_22 : decode cX9_mark 22 = .ok (.aload_n 0, 1) := by decide +kernel
theorem dX9_mark_23 : decode cX9_mark 23 = .ok (.getfield 29, 3) := by decide +kernel
theorem dX9_mark_26 : decode cX9_mark 26 = .ok (.aastore, 1) := by decide +kernel
theorem dX9_mark_27 : decode cX9_mark 27 = .ok (.aload_n 0, 1) := by decide +kernel
theorem dX9_mark_28 : decode cX9_mark 28 = .ok (.getfield 37, 3) := by decide +kernel
theorem dX9_mark_31 : decode cX9_mark 31 = .ok (.aload_n 0, 1) := by decide +kernel
theorem dX9_mark_32 : decode cX9_mark 32 = .ok (.getfield 120, 3) := by decide +kernel
theorem dX9_mark_35 : decode cX9_mark 35 = .ok (.aload_n 0, 1) := by decide +kernel
theorem dX9_mark_36 : decode cX9_mark 36 = .ok (.getfield 117, 3) := by decide +kernel
theorem dX9_mark_39 : decode cX9_mark 39 = .ok (.iastore, 1) := by decide +kernel
theorem dX9_mark_40 : decode cX9_mark 40 = .ok (.aload_n 0, 1) := by decide +kernel
theorem dX9_mark_41 : decode cX9_mark 41 = .ok (.dup, 1) := by decide +kernel
theorem dX9_mark_42 : decode cX9_mark 42 = .ok (.getfield 120, 3) := by decide +kernel
theorem dX9_mark_45 : decode cX9_mark 45 = .ok (.iconst 1, 1) := by decide +kernel
theorem dX9_mark_46 : decode cX9_mark 46 = .ok (.iadd, 1) := by decide +kernel
theorem dX9_mark_47 : decode cX9_mark 47 = .ok (.putfield 120, 3) := by decide +kernel
theorem dX9_mark_50 : decode cX9_mark 50 = .ok (.aload_n 0, 1) := by decide +kernel
theorem dX9_mark_51 : decode cX9_mark 51 = .ok (.aload_n 0, 1) := by decide +kernel
theorem dX9_mark_52 : decode cX9_mark 52 = .ok (.getfield 120, 3) := by decide +kernel
theorem dX9_mark_55 : decode cX9_mark 55 = .ok (.invokevirtual 100, 3) := by decide +kernel
theorem dX9_mark_58 : decode cX9_mark 58 = .ok (.ireturn, 1) := by decide +kernel
def mwX9_mark : List Cond := .code yX9_mark cX9_mark 1 (some .int) :: ([.fieldLink RX9 120 "PatternGate" "marks" "I", .fieldLink RX9 33 "PatternGate" "markedBooks" "[LPatternGate$Book;", .fieldLink RX9 29 "PatternGate" "book" "LPatternGate$Book;", .fieldLink RX9 37 "PatternGate" "markedUndoable" "[I", .fieldLink RX9 117 "PatternGate" "undoable" "I", .code yX9_answer cX9_answer 2 (some .int), .fieldLink RX9 70 "PatternGate" "lastStatus" "I", .methodLink RX9 100 yX9_answer, .instanceMethod yX9_answer, .selects RX9 yX9_answer yX9_answer, .initialized RX9] ++ wsX90)
theorem fin_X9_mark_X9 : ∀ w ∈ wsX90, w ∈ mwX9_mark := fun w h => List.mem_cons_of_mem _ (List.mem_append_right _ h)
set_option maxRecDepth 20000 in
theorem mg_X9_mark_X9_answer_100 : GoodIn mwX9_mark (wsV RX9 100 RX9 yX9_answer mwX9_answer) := goodIn_r _ [8, 9, 10, 11, 6, 7, 12, 13, 14, 15, 16, 17, 18, 19, 20, 21, 22, 23, 24, 25, 26, 27] (by decide +kernel) (by decide +kernel)
set_option maxHeartbeats 4000000 in
set_option maxRecDepth 100000 in
/-- mark on a new object -/
theorem c_mark (l : Launch) (dC : Nat → ClassId) (dI : Nat → Nat → Nat) (x : Nat) (q : Nat → Nat) (b d0 p0 : Nat) (cT cD cP cB cU : ClassId) (r : Nat → Nat) (sz : Nat) : Met l yX9_mark mwX9_mark ({ frames := 1, cells := 0, slots := 0, locals := 60 }) (va_Pc [.ref x] (fun U => U.heap.size = sz ∧ va_P (dC, dI) vwCl (gW x q b d0 p0 cT cD cP cB cU r) U.heap ∧ va_K (dC, dI) vwCl (gT cT cD cP cB cU) U ∧ va_D (fun _ => True) (gW x q b d0 p0 cT cD cP cB cU r))) (va_Qi (fun (o : Int32) (_ : Unit) => o = 1) (fun _ _ => True) (va_A (gW x q b d0 p0 cT cD cP cB cU r) sz)) 0 0 (va_A (gW x q b d0 p0 cT cD cP cB cU r) sz) := by
  refine Met.ofW (cc := cX9_mark) (maxL := 1) (ret := (some .int)) (by decide +kernel) rfl ?_
  intro p e s m args below meth c s₁ B hml hv
  obtain ⟨rfl, hsz, hP, hK, hD0⟩ := hv
  have hx := B.exec
  have hb := B.bytes
  have hr := B.returns
  have hts := atoms_spec (ws := mwX9_mark) B.pre
  have hown : s.vm.findClass RX9 = some m.cls := findClass_of_methodNamed B.named
  have hlocks := B.notSynchronized
  subst hsz
  have hD := hD0.self (sz := s.heap.size)
  generalize hAe : va_A (gW x q b d0 p0 cT cD cP cB cU r) s.heap.size = A at hD ⊢
  have hA : ∀ q : Nat, s.heap.size ≤ q → A q := fun q h => by rw [← hAe]; exact Or.inr h
  have hP : va_P (dC, dI) vwCl [(x, .inr (9, gF q 0 0 (-1) (-1) b 0 0)), (q 0, .inl (cT, 900, .inl (fun _ => 0))), (b, .inr (0, [.ref d0, .ref p0, .null])), (d0, .inl (cD, 0, .inr (.inr (.inr (.inr (fun _ => none)))))), (p0, .inl (cP, 0, .inr (.inr (.inr (.inr (fun _ => none)))))), (q 1, .inl (cB, 3, .inr (.inr (.inr (.inr (fun _ => none)))))), (q 2, .inl (cU, 3, .inl (fun _ => 0))), (q 3, .inr (6, rF r 0 0 0 0 0 0 0 0))] s.heap := hP
  have hD : va_D A [(x, .inr (9, gF q 0 0 (-1) (-1) b 0 0)), (q 0, .inl (cT, 900, .inl (fun _ => 0))), (b, .inr (0, [.ref d0, .ref p0, .null])), (d0, .inl (cD, 0, .inr (.inr (.inr (.inr (fun _ => none)))))), (p0, .inl (cP, 0, .inr (.inr (.inr (.inr (fun _ => none)))))), (q 1, .inl (cB, 3, .inr (.inr (.inr (.inr (fun _ => none)))))), (q 2, .inl (cU, 3, .inl (fun _ => 0))), (q 3, .inr (6, rF r 0 0 0 0 0 0 0 0))] := hD
  have hK : va_K (dC, dI) vwCl [(cT, .int), (cD, .object "PatternGate$Doc"), (cP, .object "PatternGate$Pattern"), (cB, .object "PatternGate$Book"), (cU, .int)] s := hK
  generalize hH : s.heap = H at hP ⊢
  have hS : va_S A s.heap H [] := by rw [← hH]; exact va_S.rf
  have hl := lv_entry ([.ref x]) (n := 1) (Nat.le_of_ble_eq_true rfl)
  rw [lg_entry_eq]
  generalize (lg_sl ([.ref x]) ++ List.replicate (1 - (lg_sl ([.ref x])).length) Slot.unset).toArray = ls at hl ⊢
  have hl : lv_has ls 1 [(0, .ref x)] := hl
  refine lv_aload_n hx hb dX9_mark_0 rfl (lv_at hl 0 rfl) ?_
  refine va_get (D := (dC, dI)) (ci := 9) (v := .int 0) (C := RX9) (T := TX9) (N := 16) hx hb hts fin_X9_mark_X9 hown hK hP 0 rfl rfl 9 (by decide) (hts (.fieldLink RX9 120 "PatternGate" "marks" "I") (List.mem_of_getElem? (i := 1) (by decide +kernel))) (fun _ h9 => h9) rfl dX9_mark_1 ?_
  refine lv_iconst (v := 3) hx hb dX9_mark_4 (by decide) ?_
  refine lv_icmp_lt (tgt := 14) hx hb dX9_mark_5 (by decide) (fun k_1 => ?_) (fun k_1 => absurd (by decide) k_1)
  refine lv_aload_n hx hb dX9_mark_14 rfl (lv_at hl 0 rfl) ?_
  refine va_get (D := (dC, dI)) (ci := 9) (v := .ref (q 1)) (C := RX9) (T := TX9) (N := 16) hx hb hts fin_X9_mark_X9 hown hK hP 0 rfl rfl 7 (by decide) (hts (.fieldLink RX9 33 "PatternGate" "markedBooks" "[LPatternGate$Book;") (List.mem_of_getElem? (i := 2) (by decide +kernel))) (fun _ h9 => h9) rfl dX9_mark_15 ?_
  refine lv_aload_n hx hb dX9_mark_18 rfl (lv_at hl 0 rfl) ?_
  refine va_get (D := (dC, dI)) (ci := 9) (v := .int 0) (C := RX9) (T := TX9) (N := 16) hx hb hts fin_X9_mark_X9 hown hK hP 0 rfl rfl 9 (by decide) (hts (.fieldLink RX9 120 "PatternGate" "marks" "I") (List.mem_of_getElem? (i := 1) (by decide +kernel))) (fun _ h9 => h9) rfl dX9_mark_19 ?_
  refine lv_aload_n hx hb dX9_mark_22 rfl (lv_at hl 0 rfl) ?_
  refine va_get (D := (dC, dI)) (ci := 9) (v := .ref b) (C := RX9) (T := TX9) (N := 16) hx hb hts fin_X9_mark_X9 hown hK hP 0 rfl rfl 5 (by decide) (hts (.fieldLink RX9 29 "PatternGate" "book" "LPatternGate$Book;") (List.mem_of_getElem? (i := 3) (by decide +kernel))) (fun _ h9 => h9) rfl dX9_mark_23 ?_
  refine va_astq (r := (RX0, TX0, 3)) hx hb hK hP hD hS 5 3 2 0 rfl rfl rfl rfl (i := 0) (by unfold vp_in; decide +kernel) dX9_mark_26 (fun H locs hP hD hS => ?_)
  generalize hf_f_2 : va_up (fun _ => none) _ _ = f_2 at hP hD
  have hP : va_P (dC, dI) vwCl [(x, .inr (9, gF q 0 0 (-1) (-1) b 0 0)), (q 0, .inl (cT, 900, .inl (fun _ => 0))), (b, .inr (0, [.ref d0, .ref p0, .null])), (d0, .inl (cD, 0, .inr (.inr (.inr (.inr (fun _ => none)))))), (p0, .inl (cP, 0, .inr (.inr (.inr (.inr (fun _ => none)))))), (q 1, .inl (cB, 3, .inr (.inr (.inr (.inr f_2))))), (q 2, .inl (cU, 3, .inl (fun _ => 0))), (q 3, .inr (6, rF r 0 0 0 0 0 0 0 0))] H := hP
  have hD : va_D A [(x, .inr (9, gF q 0 0 (-1) (-1) b 0 0)), (q 0, .inl (cT, 900, .inl (fun _ => 0))), (b, .inr (0, [.ref d0, .ref p0, .null])), (d0, .inl (cD, 0, .inr (.inr (.inr (.inr (fun _ => none)))))), (p0, .inl (cP, 0, .inr (.inr (.inr (.inr (fun _ => none)))))), (q 1, .inl (cB, 3, .inr (.inr (.inr (.inr f_2))))), (q 2, .inl (cU, 3, .inl (fun _ => 0))), (q 3, .inr (6, rF r 0 0 0 0 0 0 0 0))] := hD
  refine lv_aload_n hx hb dX9_mark_27 rfl (lv_at hl 0 rfl) ?_
  refine va_get (D := (dC, dI)) (ci := 9) (v := .ref (q 2)) (C := RX9) (T := TX9) (N := 16) hx hb hts fin_X9_mark_X9 hown hK hP 0 rfl rfl 8 (by decide) (hts (.fieldLink RX9 37 "PatternGate" "markedUndoable" "[I") (List.mem_of_getElem? (i := 4) (by decide +kernel))) (fun _ h9 => h9) rfl dX9_mark_28 ?_
  refine lv_aload_n hx hb dX9_mark_31 rfl (lv_at hl 0 rfl) ?_
  refine va_get (D := (dC, dI)) (ci := 9) (v := .int 0) (C := RX9) (T := TX9) (N := 16) hx hb hts fin_X9_mark_X9 hown hK hP 0 rfl rfl 9 (by decide) (hts (.fieldLink RX9 120 "PatternGate" "marks" "I") (List.mem_of_getElem? (i := 1) (by decide +kernel))) (fun _ h9 => h9) rfl dX9_mark_32 ?_
  refine lv_aload_n hx hb dX9_mark_35 rfl (lv_at hl 0 rfl) ?_
  refine va_get (D := (dC, dI)) (ci := 9) (v := .int 0) (C := RX9) (T := TX9) (N := 16) hx hb hts fin_X9_mark_X9 hown hK hP 0 rfl rfl 6 (by decide) (hts (.fieldLink RX9 117 "PatternGate" "undoable" "I") (List.mem_of_getElem? (i := 5) (by decide +kernel))) (fun _ h9 => h9) rfl dX9_mark_36 ?_
  refine va_iast hx hb hK hP hD hS 6 4 rfl rfl (i := 0) (by unfold vp_in; decide +kernel) dX9_mark_39 (fun H locs hP hD hS => ?_)
  rw [zz_i] at hP hD
  have hP : va_P (dC, dI) vwCl [(x, .inr (9, gF q 0 0 (-1) (-1) b 0 0)), (q 0, .inl (cT, 900, .inl (fun _ => 0))), (b, .inr (0, [.ref d0, .ref p0, .null])), (d0, .inl (cD, 0, .inr (.inr (.inr (.inr (fun _ => none)))))), (p0, .inl (cP, 0, .inr (.inr (.inr (.inr (fun _ => none)))))), (q 1, .inl (cB, 3, .inr (.inr (.inr (.inr f_2))))), (q 2, .inl (cU, 3, .inl (fun _ => 0))), (q 3, .inr (6, rF r 0 0 0 0 0 0 0 0))] H := hP
  have hD : va_D A [(x, .inr (9, gF q 0 0 (-1) (-1) b 0 0)), (q 0, .inl (cT, 900, .inl (fun _ => 0))), (b, .inr (0, [.ref d0, .ref p0, .null])), (d0, .inl (cD, 0, .inr (.inr (.inr (.inr (fun _ => none)))))), (p0, .inl (cP, 0, .inr (.inr (.inr (.inr (fun _ => none)))))), (q 1, .inl (cB, 3, .inr (.inr (.inr (.inr f_2))))), (q 2, .inl (cU, 3, .inl (fun _ => 0))), (q 3, .inr (6, rF r 0 0 0 0 0 0 0 0))] := hD
  refine lv_aload_n hx hb dX9_mark_40 rfl (lv_at hl 0 rfl) ?_
  refine lv_dup hx hb dX9_mark_41 rfl ?_
  refine va_get (D := (dC, dI)) (ci := 9) (v := .int 0) (C := RX9) (T := TX9) (N := 16) hx hb hts fin_X9_mark_X9 hown hK hP 0 rfl rfl 9 (by decide) (hts (.fieldLink RX9 120 "PatternGate" "marks" "I") (List.mem_of_getElem? (i := 1) (by decide +kernel))) (fun _ h9 => h9) rfl dX9_mark_42 ?_
  refine lv_iconst (v := 1) hx hb dX9_mark_45 (by decide) ?_
  refine lv_iadd hx hb dX9_mark_46 ?_
  refine lv_topi (fun y_3 ey_3 => ?_)
  obtain rfl : y_3 = 1 := ey_3.trans (by first | rfl | decide)
  refine va_put (D := (dC, dI)) (ci := 9) (v := .int 1) (ty := .int) (C := RX9) (T := TX9) (N := 16) hx hb hts fin_X9_mark_X9 tyX9 tyX9_ok nmX9 hown hK hP hD hS 0 rfl rfl 9 (by decide) (hts (.fieldLink RX9 120 "PatternGate" "marks" "I") (List.mem_of_getElem? (i := 1) (by decide +kernel))) (fun _ h9 => h9) rfl (by decide +kernel) rfl rfl (Nat.le_of_ble_eq_true rfl) dX9_mark_47 (fun H locs hP hD hS => ?_)
  have hP : va_P (dC, dI) vwCl [(x, .inr (9, gF q 0 0 (-1) (-1) b 0 1)), (q 0, .inl (cT, 900, .inl (fun _ => 0))), (b, .inr (0, [.ref d0, .ref p0, .null])), (d0, .inl (cD, 0, .inr (.inr (.inr (.inr (fun _ => none)))))), (p0, .inl (cP, 0, .inr (.inr (.inr (.inr (fun _ => none)))))), (q 1, .inl (cB, 3, .inr (.inr (.inr (.inr f_2))))), (q 2, .inl (cU, 3, .inl (fun _ => 0))), (q 3, .inr (6, rF r 0 0 0 0 0 0 0 0))] H := hP
  have hD : va_D A [(x, .inr (9, gF q 0 0 (-1) (-1) b 0 1)), (q 0, .inl (cT, 900, .inl (fun _ => 0))), (b, .inr (0, [.ref d0, .ref p0, .null])), (d0, .inl (cD, 0, .inr (.inr (.inr (.inr (fun _ => none)))))), (p0, .inl (cP, 0, .inr (.inr (.inr (.inr (fun _ => none)))))), (q 1, .inl (cB, 3, .inr (.inr (.inr (.inr f_2))))), (q 2, .inl (cU, 3, .inl (fun _ => 0))), (q 3, .inr (6, rF r 0 0 0 0 0 0 0 0))] := hD
  refine lv_aload_n hx hb dX9_mark_50 rfl (lv_at hl 0 rfl) ?_
  refine lv_aload_n hx hb dX9_mark_51 rfl (lv_at hl 0 rfl) ?_
  refine va_get (D := (dC, dI)) (ci := 9) (v := .int 1) (C := RX9) (T := TX9) (N := 16) hx hb hts fin_X9_mark_X9 hown hK hP 0 rfl rfl 9 (by decide) (hts (.fieldLink RX9 120 "PatternGate" "marks" "I") (List.mem_of_getElem? (i := 1) (by decide +kernel))) (fun _ h9 => h9) rfl dX9_mark_52 ?_
  have hPc := hP.sub (ws' := [(x, .inr (9, gF q 0 0 (-1) (-1) b 0 1))]) [0] rfl
  have hKc := hK.sub (tys' := []) [] rfl
  have hDc := hD.sub (ws' := [(x, .inr (9, gF q 0 0 (-1) (-1) b 0 1))]) [0] (by decide) rfl
  have hFc := va_free (wc := [(x, .inr (9, gF q 0 0 (-1) (-1) b 0 1))]) hD hS hA [0] rfl
  refine va_calli (va_runV (As := [.int 1]) (rest := []) ⟨hx, hb, hml, hown, hts⟩ (c_answer l dC dI x q 0 0 (-1) (-1) b 0 1 H.size 1) (cwV 1 hts mg_X9_mark_X9_answer_100 rfl rfl rfl (by decide +kernel) ⟨Nat.le_of_ble_eq_true rfl, Nat.le_of_ble_eq_true rfl⟩) ⟨fun a U g mk q => by obtain ⟨q0, q1, qP, qK, qD⟩ := q; exact ⟨q0, q1, qP, va_K.moved (u := U) (U := U.calling g mk a) (Vm.Alike.refl U.vm) qK, qD⟩, va_recv hKc hPc (ci := 9) (q0 := 0) rfl rfl, fun U hU hW => ⟨rfl, by rw [hU], by rw [hU]; exact hPc, va_K.moved hW.alike hKc, hDc.weaken (fun _ _ _ _ => trivial)⟩⟩ rfl rfl hl.1 rfl (lv_room (Nat.le_of_ble_eq_true rfl)) dX9_mark_55 ⟨Nat.le_of_ble_eq_true rfl, Nat.le_of_ble_eq_true rfl⟩) hS (fun q _ h => hFc q h) hFc (fun r_5 u t H1 locs ht hvm hw hB hz1 hk1 hS => ?_)
  exact W.iret hx hb hr (fun t ht hW => ⟨⟨_, (), rfl, hw, trivial⟩, hS.F ht⟩) hS.2.2 dX9_mark_58
theorem dX9_many_0 : decode cX9_many 0 = .ok (.iload_n 1, 1) := by decide +kernel
theorem dX9_many_1 : decode cX9_many 1 = .ok (.tableswitch 107 0 5 #[39, 52, 65, 77, 89, 98], 39) := by decide +kernel
theorem dX9_many_40 : decode cX9_many 40 = .ok (.aload_n 0, 1) := by decide +kernel
theorem dX9_many_41 : decode cX9_many 41 = .ok (.aload_n 0, 1) := by decide +kernel
theorem dX9_many_42 : decode cX9_many 42 = .ok (.getfield 29, 3) := by decide +kernel
theorem dX9_many_45 : decode cX9_many 45 = .ok (.getfield 96, 3) := by decide +kernel
theorem dX9_many_48 : decode cX9_many 48 = .ok (.arraylength, 1) := by decide +kernel
theorem dX9_many_49 : decode cX9_many 49 = .ok (.invokevirtual 100, 3) := by decide +kernel
theorem dX9_many_52 : decode cX9_many 52 = .ok (.ireturn, 1) := by decide +kernel
theorem dX9_many_53 : decode cX9_many 53 = .ok (.aload_n 0, 1) := by decide +kernel
theorem dX9_many_54 : decode cX9_many 54 = .ok (.aload_n 0, 1) := by decide +kernel
theorem dX9_many_55 : decode cX9_many 55 = .ok (.getfield 29, 3) := by decide +kernel
theorem dX9_many_58 : decode cX9_many 58 = .ok (.getfield 103, 3) := by decide +kernel
theorem dX9_many_61 : decode cX9_many 61 = .ok (.arraylength, 1) := by decide +kernel
theorem dX9_many_62 : decode cX9_many 62 = .ok (.invokevirtual 100, 3) := by decide +kernel
theorem dX9_many_65 : decode cX9_many 65 = .ok (.ireturn, 1) := by decide +kernel
theorem dX9_many_66 : decode cX9_many 66 = .ok (.aload_n 0, 1) := by decide +kernel
theorem dX9_many_67 : decode cX9_many 67 = .ok (.aload_n 0, 1) := by decide +kernel
theorem dX9_many_68 : decode cX9_many 68 = .ok (.getfield 29, 3) := by decide +kernel
theorem dX9_many_71 : decode cX9_many 71 = .ok (.invokevirtual 110, 3) := by decide +kernel
theorem dX9_many_74 : decode cX9_many 74 = .ok (.invokevirtual 100, 3) := by decide +kernel
theorem dX9_many_77 : decode cX9_many 77 = .ok (.ireturn, 1) := by decide +kernel
theorem dX9_many_78 : decode cX9_many 78 = .ok (.aload_n 0, 1) := by decide +kernel
theorem dX9_many_79 : decode cX9_many 79 = .ok (.aload_n 0, 1) := by decide +kernel
theorem dX9_many_80 : decode cX9_many 80 = .ok (.getfield 29, 3) := by decide +kernel
theorem dX9_many_83 : decode cX9_many 83 = .ok (.invokevirtual 114, 3) := by decide +kernel
theorem dX9_many_86 : decode cX9_many 86 = .ok (.invokevirtual 100, 3) := by decide +kernel
theorem dX9_many_89 : decode cX9_many 89 = .ok (.ireturn, 1) := by decide +kernel
theorem dX9_many_90 : decode cX9_many 90 = .ok (.aload_n 0, 1) := by decide +kernel
theorem dX9_many_91 : decode cX9_many 91 = .ok (.aload_n 0, 1) := by decide +kernel
theorem dX9_many_92 : decode cX9_many 92 = .ok (.getfield 117, 3) := by decide +kernel
theorem dX9_many_95 : decode cX9_many 95 = .ok (.invokevirtual 100, 3) := by decide +kernel
theorem dX9_many_98 : decode cX9_many 98 = .ok (.ireturn, 1) := by decide +kernel
theorem dX9_many_99 : decode cX9_many 99 = .ok (.aload_n 0, 1) := by decide +kernel
theorem dX9_many_100 : decode cX9_many 100 = .ok (.aload_n 0, 1) := by decide +kernel
theorem dX9_many_101 : decode cX9_many 101 = .ok (.getfield 120, 3) := by decide +kernel
theorem dX9_many_104 : decode cX9_many 104 = .ok (.invokevirtual 100, 3) := by decide +kernel
theorem dX9_many_107 : decode cX9_many 107 = .ok (.ireturn, 1) := by decide +kernel
theorem dX9_many_108 : decode cX9_many 108 = .ok (.aload_n 0, 1) := by decide +kernel
theorem dX9_many_109 : decode cX9_many 109 = .ok (.iconst 1, 1) := by decide +kernel
theorem dX9_many_110 : decode cX9_many 110 = .ok (.invokevirtual 80, 3) := by decide +kernel
theorem dX9_many_113 : decode cX9_many 113 = .ok (.ireturn, 1) := by decide +kernel
def mwX9_many : List Cond := .code yX9_many cX9_many 2 (some .int) :: ([.code yX9_refuse cX9_refuse 2 (some .int), .fieldLink RX9 70 "PatternGate" "lastStatus" "I", .methodLink RX9 80 yX9_refuse, .instanceMethod yX9_refuse, .selects RX9 yX9_refuse yX9_refuse, .initialized RX9, .fieldLink RX9 29 "PatternGate" "book" "LPatternGate$Book;", .fieldLink RX9 96 "PatternGate$Book" "docs" "[LPatternGate$Doc;", .code yX9_answer cX9_answer 2 (some .int), .methodLink RX9 100 yX9_answer, .instanceMethod yX9_answer, .selects RX9 yX9_answer yX9_answer, .fieldLink RX9 103 "PatternGate$Book" "patterns" "[LPatternGate$Pattern;", .code yX0_allLetters cX0_allLetters 3 (some .int), .fieldLink RX0 7 "PatternGate$Book" "docs" "[LPatternGate$Doc;", .methodLink RX9 110 yX0_allLetters, .instanceMethod yX0_allLetters, .selects RX0 yX0_allLetters yX0_allLetters, .initialized RX0, .code yX0_allTriples cX0_allTriples 5 (some .int), .methodLink RX9 114 yX0_allTriples, .instanceMethod yX0_allTriples, .selects RX0 yX0_allTriples yX0_allTriples, .fieldLink RX9 117 "PatternGate" "undoable" "I", .fieldLink RX9 120 "PatternGate" "marks" "I"] ++ wsX90 ++ wsX00)
theorem fin_X9_many_X0 : ∀ w ∈ wsX00, w ∈ mwX9_many := fun w h => List.mem_cons_of_mem _ (List.mem_append_right _ h)
theorem fin_X9_many_X9 : ∀ w ∈ wsX90, w ∈ mwX9_many := fun w h => List.mem_cons_of_mem _ (List.mem_append_left _ (List.mem_append_right _ h))
set_option maxRecDepth 20000 in
theorem mg_X9_many_X9_refuse_80 : GoodIn mwX9_many (wsV RX9 80 RX9 yX9_refuse mwX9_refuse) := goodIn_r _ [3, 4, 5, 6, 1, 2, 26, 27, 28, 29, 30, 31, 32, 33, 34, 35, 36, 37, 38, 39, 40, 41] (by decide +kernel) (by decide +kernel)
set_option maxRecDepth 20000 in
theorem mg_X9_many_X9_answer_100 : GoodIn mwX9_many (wsV RX9 100 RX9 yX9_answer mwX9_answer) := goodIn_r _ [10, 11, 12, 6, 9, 2, 26, 27, 28, 29, 30, 31, 32, 33, 34, 35, 36, 37, 38, 39, 40, 41] (by decide +kernel) (by decide +kernel)
set_option maxRecDepth 20000 in
theorem mg_X9_many_X0_allLetters_110 : GoodIn mwX9_many (wsV RX9 110 RX0 yX0_allLetters mwX0_allLetters) := goodIn_r _ [16, 17, 18, 19, 14, 15, 42, 43, 44] (by decide +kernel) (by decide +kernel)
set_option maxRecDepth 20000 in
theorem mg_X9_many_X0_allTriples_114 : GoodIn mwX9_many (wsV RX9 114 RX0 yX0_allTriples mwX0_allTriples) := goodIn_r _ [21, 22, 23, 19, 20, 15, 42, 43, 44] (by decide +kernel) (by decide +kernel)
set_option maxHeartbeats 4000000 in
set_option maxRecDepth 100000 in
/-- many on a new object -/
theorem c_many (l : Launch) (dC : Nat → ClassId) (dI : Nat → Nat → Nat) (x : Nat) (q : Nat → Nat) (b d0 p0 : Nat) (cT cD cP cB cU : ClassId) (r : Nat → Nat) (sz : Nat) (i0 : Int32) : Met l yX9_many mwX9_many ({ frames := 1, cells := 0, slots := 0, locals := 60 }) (va_Pc [.ref x, .int i0] (fun U => U.heap.size = sz ∧ va_P (dC, dI) vwCl (gW x q b d0 p0 cT cD cP cB cU r) U.heap ∧ va_K (dC, dI) vwCl (gT cT cD cP cB cU) U ∧ va_D (fun _ => True) (gW x q b d0 p0 cT cD cP cB cU r))) (va_Qi (fun (o : Int32) (_ : Unit) => o = s_many i0) (fun _ _ => True) (va_A (gW x q b d0 p0 cT cD cP cB cU r) sz)) 0 0 (va_A (gW x q b d0 p0 cT cD cP cB cU r) sz) := by
  refine Met.ofW (cc := cX9_many) (maxL := 2) (ret := (some .int)) (by decide +kernel) rfl ?_
  intro p e s m args below meth c s₁ B hml hv
  obtain ⟨rfl, hsz, hP, hK, hD0⟩ := hv
  have hx := B.exec
  have hb := B.bytes
  have hr := B.returns
  have hts := atoms_spec (ws := mwX9_many) B.pre
  have hown : s.vm.findClass RX9 = some m.cls := findClass_of_methodNamed B.named
  have hlocks := B.notSynchronized
  subst hsz
  have hD := hD0.self (sz := s.heap.size)
  generalize hAe : va_A (gW x q b d0 p0 cT cD cP cB cU r) s.heap.size = A at hD ⊢
  have hA : ∀ q : Nat, s.heap.size ≤ q → A q := fun q h => by rw [← hAe]; exact Or.inr h
  have hP : va_P (dC, dI) vwCl [(x, .inr (9, gF q 0 0 (-1) (-1) b 0 0)), (q 0, .inl (cT, 900, .inl (fun _ => 0))), (b, .inr (0, [.ref d0, .ref p0, .null])), (d0, .inl (cD, 0, .inr (.inr (.inr (.inr (fun _ => none)))))), (p0, .inl (cP, 0, .inr (.inr (.inr (.inr (fun _ => none)))))), (q 1, .inl (cB, 3, .inr (.inr (.inr (.inr (fun _ => none)))))), (q 2, .inl (cU, 3, .inl (fun _ => 0))), (q 3, .inr (6, rF r 0 0 0 0 0 0 0 0))] s.heap := hP
  have hD : va_D A [(x, .inr (9, gF q 0 0 (-1) (-1) b 0 0)), (q 0, .inl (cT, 900, .inl (fun _ => 0))), (b, .inr (0, [.ref d0, .ref p0, .null])), (d0, .inl (cD, 0, .inr (.inr (.inr (.inr (fun _ => none)))))), (p0, .inl (cP, 0, .inr (.inr (.inr (.inr (fun _ => none)))))), (q 1, .inl (cB, 3, .inr (.inr (.inr (.inr (fun _ => none)))))), (q 2, .inl (cU, 3, .inl (fun _ => 0))), (q 3, .inr (6, rF r 0 0 0 0 0 0 0 0))] := hD
  have hK : va_K (dC, dI) vwCl [(cT, .int), (cD, .object "PatternGate$Doc"), (cP, .object "PatternGate$Pattern"), (cB, .object "PatternGate$Book"), (cU, .int)] s := hK
  generalize hH : s.heap = H at hP ⊢
  have hS : va_S A s.heap H [] := by rw [← hH]; exact va_S.rf
  have hl := lv_entry ([.ref x, .int i0]) (n := 2) (Nat.le_of_ble_eq_true rfl)
  rw [lg_entry_eq]
  generalize (lg_sl ([.ref x, .int i0]) ++ List.replicate (2 - (lg_sl ([.ref x, .int i0])).length) Slot.unset).toArray = ls at hl ⊢
  have hl : lv_has ls 2 [(0, .ref x), (1, .int i0)] := hl
  refine lv_iload_n hx hb dX9_many_0 rfl (lv_at hl 1 rfl) ?_
  by_cases hA1 : i0.toInt < 0 ∨ 5 < i0.toInt
  · refine lv_tableOut (tgt := 108) hx hb dX9_many_1 hA1 (by decide) ?_
    refine lv_aload_n hx hb dX9_many_108 rfl (lv_at hl 0 rfl) ?_
    refine lv_iconst (v := 1) hx hb dX9_many_109 (by decide) ?_
    have hPc := hP.sub (ws' := [(x, .inr (9, gF q 0 0 (-1) (-1) b 0 0))]) [0] rfl
    have hKc := hK.sub (tys' := []) [] rfl
    have hDc := hD.sub (ws' := [(x, .inr (9, gF q 0 0 (-1) (-1) b 0 0))]) [0] (by decide) rfl
    have hFc := va_free (wc := [(x, .inr (9, gF q 0 0 (-1) (-1) b 0 0))]) hD hS hA [0] rfl
    refine va_calli (va_runV (As := [.int 1]) (rest := []) ⟨hx, hb, hml, hown, hts⟩ (c_refuse l dC dI x q 0 0 (-1) (-1) b 0 0 H.size 1) (cwV 1 hts mg_X9_many_X9_refuse_80 rfl rfl rfl (by decide +kernel) ⟨Nat.le_of_ble_eq_true rfl, Nat.le_of_ble_eq_true rfl⟩) ⟨fun a U g mk q => by obtain ⟨q0, q1, qP, qK, qD⟩ := q; exact ⟨q0, q1, qP, va_K.moved (u := U) (U := U.calling g mk a) (Vm.Alike.refl U.vm) qK, qD⟩, va_recv hKc hPc (ci := 9) (q0 := 0) rfl rfl, fun U hU hW => ⟨rfl, by rw [hU], by rw [hU]; exact hPc, va_K.moved hW.alike hKc, hDc.weaken (fun _ _ _ _ => trivial)⟩⟩ rfl rfl hl.1 rfl (lv_room (Nat.le_of_ble_eq_true rfl)) dX9_many_110 ⟨Nat.le_of_ble_eq_true rfl, Nat.le_of_ble_eq_true rfl⟩) hS (fun q _ h => hFc q h) hFc (fun r_2 u t H1 locs ht hvm hw hB hz1 hk1 hS => ?_)
    exact W.iret hx hb hr (fun t ht hW => ⟨⟨_, (), rfl, (hw.trans (if_pos hA1).symm), trivial⟩, hS.F ht⟩) hS.2.2 dX9_many_113
  · have hA2 : ¬ i0.toInt < 0 := fun h => hA1 (Or.inl h)
    have hA3 : ¬ 5 < i0.toInt := fun h => hA1 (Or.inr h)
    rcases (show i0.toInt = 0 ∨ i0.toInt = 1 ∨ i0.toInt = 2 ∨ i0.toInt = 3 ∨ i0.toInt = 4 ∨ i0.toInt = 5 by omega) with hA4 | hA4 | hA4 | hA4 | hA4 | hA4
    · refine lv_tableIn (off := 39) (tgt := 40) hx hb dX9_many_1 hA2 hA3 (by rw [hA4]; rfl) (by decide) ?_
      refine lv_aload_n hx hb dX9_many_40 rfl (lv_at hl 0 rfl) ?_
      refine lv_aload_n hx hb dX9_many_41 rfl (lv_at hl 0 rfl) ?_
      refine va_get (D := (dC, dI)) (ci := 9) (v := .ref b) (C := RX9) (T := TX9) (N := 16) hx hb hts fin_X9_many_X9 hown hK hP 0 rfl rfl 5 (by decide) (hts (.fieldLink RX9 29 "PatternGate" "book" "LPatternGate$Book;") (List.mem_of_getElem? (i := 7) (by decide +kernel))) (fun _ h9 => h9) rfl dX9_many_42 ?_
      refine va_get (D := (dC, dI)) (ci := 0) (v := .ref d0) (C := RX0) (T := TX0) (N := 3) hx hb hts fin_X9_many_X0 hown hK hP 2 rfl rfl 0 (by decide) (hts (.fieldLink RX9 96 "PatternGate$Book" "docs" "[LPatternGate$Doc;") (List.mem_of_getElem? (i := 8) (by decide +kernel))) (fun _ h9 => h9) rfl dX9_many_45 ?_
      refine va_alen (v := 0) hx hb hK hP 3 1 rfl rfl rfl dX9_many_48 ?_
      have hPc := hP.sub (ws' := [(x, .inr (9, gF q 0 0 (-1) (-1) b 0 0))]) [0] rfl
      have hKc := hK.sub (tys' := []) [] rfl
      have hDc := hD.sub (ws' := [(x, .inr (9, gF q 0 0 (-1) (-1) b 0 0))]) [0] (by decide) rfl
      have hFc := va_free (wc := [(x, .inr (9, gF q 0 0 (-1) (-1) b 0 0))]) hD hS hA [0] rfl
      refine va_calli (va_runV (As := [.int 0]) (rest := []) ⟨hx, hb, hml, hown, hts⟩ (c_answer l dC dI x q 0 0 (-1) (-1) b 0 0 H.size 0) (cwV 1 hts mg_X9_many_X9_answer_100 rfl rfl rfl (by decide +kernel) ⟨Nat.le_of_ble_eq_true rfl, Nat.le_of_ble_eq_true rfl⟩) ⟨fun a U g mk q => by obtain ⟨q0, q1, qP, qK, qD⟩ := q; exact ⟨q0, q1, qP, va_K.moved (u := U) (U := U.calling g mk a) (Vm.Alike.refl U.vm) qK, qD⟩, va_recv hKc hPc (ci := 9) (q0 := 0) rfl rfl, fun U hU hW => ⟨rfl, by rw [hU], by rw [hU]; exact hPc, va_K.moved hW.alike hKc, hDc.weaken (fun _ _ _ _ => trivial)⟩⟩ rfl rfl hl.1 rfl (lv_room (Nat.le_of_ble_eq_true rfl)) dX9_many_49 ⟨Nat.le_of_ble_eq_true rfl, Nat.le_of_ble_eq_true rfl⟩) hS (fun q _ h => hFc q h) hFc (fun r_4 u t H1 locs ht hvm hw hB hz1 hk1 hS => ?_)
      exact W.iret hx hb hr (fun t ht hW => ⟨⟨_, (), rfl, (hw.trans (if_neg hA1).symm), trivial⟩, hS.F ht⟩) hS.2.2 dX9_many_52
    · refine lv_tableIn (off := 52) (tgt := 53) hx hb dX9_many_1 hA2 hA3 (by rw [hA4]; rfl) (by decide) ?_
      refine lv_aload_n hx hb dX9_many_53 rfl (lv_at hl 0 rfl) ?_
      refine lv_aload_n hx hb dX9_many_54 rfl (lv_at hl 0 rfl) ?_
      refine va_get (D := (dC, dI)) (ci := 9) (v := .ref b) (C := RX9) (T := TX9) (N := 16) hx hb hts fin_X9_many_X9 hown hK hP 0 rfl rfl 5 (by decide) (hts (.fieldLink RX9 29 "PatternGate" "book" "LPatternGate$Book;") (List.mem_of_getElem? (i := 7) (by decide +kernel))) (fun _ h9 => h9) rfl dX9_many_55 ?_
      refine va_get (D := (dC, dI)) (ci := 0) (v := .ref p0) (C := RX0) (T := TX0) (N := 3) hx hb hts fin_X9_many_X0 hown hK hP 2 rfl rfl 1 (by decide) (hts (.fieldLink RX9 103 "PatternGate$Book" "patterns" "[LPatternGate$Pattern;") (List.mem_of_getElem? (i := 13) (by decide +kernel))) (fun _ h9 => h9) rfl dX9_many_58 ?_
      refine va_alen (v := 0) hx hb hK hP 4 2 rfl rfl rfl dX9_many_61 ?_
      have hPc := hP.sub (ws' := [(x, .inr (9, gF q 0 0 (-1) (-1) b 0 0))]) [0] rfl
      have hKc := hK.sub (tys' := []) [] rfl
      have hDc := hD.sub (ws' := [(x, .inr (9, gF q 0 0 (-1) (-1) b 0 0))]) [0] (by decide) rfl
      have hFc := va_free (wc := [(x, .inr (9, gF q 0 0 (-1) (-1) b 0 0))]) hD hS hA [0] rfl
      refine va_calli (va_runV (As := [.int 0]) (rest := []) ⟨hx, hb, hml, hown, hts⟩ (c_answer l dC dI x q 0 0 (-1) (-1) b 0 0 H.size 0) (cwV 1 hts mg_X9_many_X9_answer_100 rfl rfl rfl (by decide +kernel) ⟨Nat.le_of_ble_eq_true rfl, Nat.le_of_ble_eq_true rfl⟩) ⟨fun a U g mk q => by obtain ⟨q0, q1, qP, qK, qD⟩ := q; exact ⟨q0, q1, qP, va_K.moved (u := U) (U := U.calling g mk a) (Vm.Alike.refl U.vm) qK, qD⟩, va_recv hKc hPc (ci := 9) (q0 := 0) rfl rfl, fun U hU hW => ⟨rfl, by rw [hU], by rw [hU]; exact hPc, va_K.moved hW.alike hKc, hDc.weaken (fun _ _ _ _ => trivial)⟩⟩ rfl rfl hl.1 rfl (lv_room (Nat.le_of_ble_eq_true rfl)) dX9_many_62 ⟨Nat.le_of_ble_eq_true rfl, Nat.le_of_ble_eq_true rfl⟩) hS (fun q _ h => hFc q h) hFc (fun r_6 u t H1 locs ht hvm hw hB hz1 hk1 hS => ?_)
      exact W.iret hx hb hr (fun t ht hW => ⟨⟨_, (), rfl, (hw.trans (if_neg hA1).symm), trivial⟩, hS.F ht⟩) hS.2.2 dX9_many_65
    · refine lv_tableIn (off := 65) (tgt := 66) hx hb dX9_many_1 hA2 hA3 (by rw [hA4]; rfl) (by decide) ?_
      refine lv_aload_n hx hb dX9_many_66 rfl (lv_at hl 0 rfl) ?_
      refine lv_aload_n hx hb dX9_many_67 rfl (lv_at hl 0 rfl) ?_
      refine va_get (D := (dC, dI)) (ci := 9) (v := .ref b) (C := RX9) (T := TX9) (N := 16) hx hb hts fin_X9_many_X9 hown hK hP 0 rfl rfl 5 (by decide) (hts (.fieldLink RX9 29 "PatternGate" "book" "LPatternGate$Book;") (List.mem_of_getElem? (i := 7) (by decide +kernel))) (fun _ h9 => h9) rfl dX9_many_68 ?_
      have hPc := hP.sub (ws' := [(b, .inr (0, [.ref d0, .ref p0, .null])), (d0, .inl (cD, 0, .inr (.inr (.inr (.inr (fun _ => none)))))), (p0, .inl (cP, 0, .inr (.inr (.inr (.inr (fun _ => none))))))]) [2, 3, 4] rfl
      have hKc := hK.sub (tys' := [(cD, .object "PatternGate$Doc"), (cP, .object "PatternGate$Pattern")]) [1, 2] rfl
      refine vp_callSi (W.runV (As := []) (rest := [.ref x]) ⟨hx, hb, hml, hown, hts⟩ (c_allLetters l dC dI b d0 p0 cD cP) (cwV 0 hts mg_X9_many_X0_allLetters_110 rfl rfl rfl (by decide +kernel) ⟨Nat.le_of_ble_eq_true rfl, Nat.le_of_ble_eq_true rfl⟩) ⟨fun a U g mk q => by obtain ⟨q0, qP, qK⟩ := q; exact ⟨q0, qP, va_K.moved (u := U) (U := U.calling g mk a) (Vm.Alike.refl U.vm) qK⟩, va_recv hKc hPc (ci := 0) (q0 := 0) rfl rfl, fun U hU hW => ⟨rfl, by rw [hU]; exact hPc, va_K.moved hW.alike hKc⟩⟩ rfl rfl hl.1 rfl (lv_room (Nat.le_of_ble_eq_true rfl)) dX9_many_71 ⟨Nat.le_of_ble_eq_true rfl, Nat.le_of_ble_eq_true rfl⟩) (fun r_8 hw => ?_)
      subst hw
      have hPc := hP.sub (ws' := [(x, .inr (9, gF q 0 0 (-1) (-1) b 0 0))]) [0] rfl
      have hKc := hK.sub (tys' := []) [] rfl
      have hDc := hD.sub (ws' := [(x, .inr (9, gF q 0 0 (-1) (-1) b 0 0))]) [0] (by decide) rfl
      have hFc := va_free (wc := [(x, .inr (9, gF q 0 0 (-1) (-1) b 0 0))]) hD hS hA [0] rfl
      refine va_calli (va_runV (As := [.int 0]) (rest := []) ⟨hx, hb, hml, hown, hts⟩ (c_answer l dC dI x q 0 0 (-1) (-1) b 0 0 H.size 0) (cwV 1 hts mg_X9_many_X9_answer_100 rfl rfl rfl (by decide +kernel) ⟨Nat.le_of_ble_eq_true rfl, Nat.le_of_ble_eq_true rfl⟩) ⟨fun a U g mk q => by obtain ⟨q0, q1, qP, qK, qD⟩ := q; exact ⟨q0, q1, qP, va_K.moved (u := U) (U := U.calling g mk a) (Vm.Alike.refl U.vm) qK, qD⟩, va_recv hKc hPc (ci := 9) (q0 := 0) rfl rfl, fun U hU hW => ⟨rfl, by rw [hU], by rw [hU]; exact hPc, va_K.moved hW.alike hKc, hDc.weaken (fun _ _ _ _ => trivial)⟩⟩ rfl rfl hl.1 rfl (lv_room (Nat.le_of_ble_eq_true rfl)) dX9_many_74 ⟨Nat.le_of_ble_eq_true rfl, Nat.le_of_ble_eq_true rfl⟩) hS (fun q _ h => hFc q h) hFc (fun r_10 u t H1 locs ht hvm hw hB hz1 hk1 hS => ?_)
      exact W.iret hx hb hr (fun t ht hW => ⟨⟨_, (), rfl, (hw.trans (if_neg hA1).symm), trivial⟩, hS.F ht⟩) hS.2.2 dX9_many_77
    · refine lv_tableIn (off := 77) (tgt := 78) hx hb dX9_many_1 hA2 hA3 (by rw [hA4]; rfl) (by decide) ?_
      refine lv_aload_n hx hb dX9_many_78 rfl (lv_at hl 0 rfl) ?_
      refine lv_aload_n hx hb dX9_many_79 rfl (lv_at hl 0 rfl) ?_
      refine va_get (D := (dC, dI)) (ci := 9) (v := .ref b) (C := RX9) (T := TX9) (N := 16) hx hb hts fin_X9_many_X9 hown hK hP 0 rfl rfl 5 (by decide) (hts (.fieldLink RX9 29 "PatternGate" "book" "LPatternGate$Book;") (List.mem_of_getElem? (i := 7) (by decide +kernel))) (fun _ h9 => h9) rfl dX9_many_80 ?_
      have hPc := hP.sub (ws' := [(b, .inr (0, [.ref d0, .ref p0, .null])), (d0, .inl (cD, 0, .inr (.inr (.inr (.inr (fun _ => none)))))), (p0, .inl (cP, 0, .inr (.inr (.inr (.inr (fun _ => none))))))]) [2, 3, 4] rfl
      have hKc := hK.sub (tys' := [(cD, .object "PatternGate$Doc"), (cP, .object "PatternGate$Pattern")]) [1, 2] rfl
      refine vp_callSi (W.runV (As := []) (rest := [.ref x]) ⟨hx, hb, hml, hown, hts⟩ (c_allTriples l dC dI b d0 p0 cD cP) (cwV 0 hts mg_X9_many_X0_allTriples_114 rfl rfl rfl (by decide +kernel) ⟨Nat.le_of_ble_eq_true rfl, Nat.le_of_ble_eq_true rfl⟩) ⟨fun a U g mk q => by obtain ⟨q0, qP, qK⟩ := q; exact ⟨q0, qP, va_K.moved (u := U) (U := U.calling g mk a) (Vm.Alike.refl U.vm) qK⟩, va_recv hKc hPc (ci := 0) (q0 := 0) rfl rfl, fun U hU hW => ⟨rfl, by rw [hU]; exact hPc, va_K.moved hW.alike hKc⟩⟩ rfl rfl hl.1 rfl (lv_room (Nat.le_of_ble_eq_true rfl)) dX9_many_83 ⟨Nat.le_of_ble_eq_true rfl, Nat.le_of_ble_eq_true rfl⟩) (fun r_12 hw => ?_)
      subst hw
      have hPc := hP.sub (ws' := [(x, .inr (9, gF q 0 0 (-1) (-1) b 0 0))]) [0] rfl
      have hKc := hK.sub (tys' := []) [] rfl
      have hDc := hD.sub (ws' := [(x, .inr (9, gF q 0 0 (-1) (-1) b 0 0))]) [0] (by decide) rfl
      have hFc := va_free (wc := [(x, .inr (9, gF q 0 0 (-1) (-1) b 0 0))]) hD hS hA [0] rfl
      refine va_calli (va_runV (As := [.int 0]) (rest := []) ⟨hx, hb, hml, hown, hts⟩ (c_answer l dC dI x q 0 0 (-1) (-1) b 0 0 H.size 0) (cwV 1 hts mg_X9_many_X9_answer_100 rfl rfl rfl (by decide +kernel) ⟨Nat.le_of_ble_eq_true rfl, Nat.le_of_ble_eq_true rfl⟩) ⟨fun a U g mk q => by obtain ⟨q0, q1, qP, qK, qD⟩ := q; exact ⟨q0, q1, qP, va_K.moved (u := U) (U := U.calling g mk a) (Vm.Alike.refl U.vm) qK, qD⟩, va_recv hKc hPc (ci := 9) (q0 := 0) rfl rfl, fun U hU hW => ⟨rfl, by rw [hU], by rw [hU]; exact hPc, va_K.moved hW.alike hKc, hDc.weaken (fun _ _ _ _ => trivial)⟩⟩ rfl rfl hl.1 rfl (lv_room (Nat.le_of_ble_eq_true rfl)) dX9_many_86 ⟨Nat.le_of_ble_eq_true rfl, Nat.le_of_ble_eq_true rfl⟩) hS (fun q _ h => hFc q h) hFc (fun r_14 u t H1 locs ht hvm hw hB hz1 hk1 hS => ?_)
      exact W.iret hx hb hr (fun t ht hW => ⟨⟨_, (), rfl, (hw.trans (if_neg hA1).symm), trivial⟩, hS.F ht⟩) hS.2.2 dX9_many_89
    · refine lv_tableIn (off := 89) (tgt := 90) hx hb dX9_many_1 hA2 hA3 (by rw [hA4]; rfl) (by decide) ?_
      refine lv_aload_n hx hb dX9_many_90 rfl (lv_at hl 0 rfl) ?_
      refine lv_aload_n hx hb dX9_many_91 rfl (lv_at hl 0 rfl) ?_
      refine va_get (D := (dC, dI)) (ci := 9) (v := .int 0) (C := RX9) (T := TX9) (N := 16) hx hb hts fin_X9_many_X9 hown hK hP 0 rfl rfl 6 (by decide) (hts (.fieldLink RX9 117 "PatternGate" "undoable" "I") (List.mem_of_getElem? (i := 24) (by decide +kernel))) (fun _ h9 => h9) rfl dX9_many_92 ?_
      have hPc := hP.sub (ws' := [(x, .inr (9, gF q 0 0 (-1) (-1) b 0 0))]) [0] rfl
      have hKc := hK.sub (tys' := []) [] rfl
      have hDc := hD.sub (ws' := [(x, .inr (9, gF q 0 0 (-1) (-1) b 0 0))]) [0] (by decide) rfl
      have hFc := va_free (wc := [(x, .inr (9, gF q 0 0 (-1) (-1) b 0 0))]) hD hS hA [0] rfl
      refine va_calli (va_runV (As := [.int 0]) (rest := []) ⟨hx, hb, hml, hown, hts⟩ (c_answer l dC dI x q 0 0 (-1) (-1) b 0 0 H.size 0) (cwV 1 hts mg_X9_many_X9_answer_100 rfl rfl rfl (by decide +kernel) ⟨Nat.le_of_ble_eq_true rfl, Nat.le_of_ble_eq_true rfl⟩) ⟨fun a U g mk q => by obtain ⟨q0, q1, qP, qK, qD⟩ := q; exact ⟨q0, q1, qP, va_K.moved (u := U) (U := U.calling g mk a) (Vm.Alike.refl U.vm) qK, qD⟩, va_recv hKc hPc (ci := 9) (q0 := 0) rfl rfl, fun U hU hW => ⟨rfl, by rw [hU], by rw [hU]; exact hPc, va_K.moved hW.alike hKc, hDc.weaken (fun _ _ _ _ => trivial)⟩⟩ rfl rfl hl.1 rfl (lv_room (Nat.le_of_ble_eq_true rfl)) dX9_many_95 ⟨Nat.le_of_ble_eq_true rfl, Nat.le_of_ble_eq_true rfl⟩) hS (fun q _ h => hFc q h) hFc (fun r_16 u t H1 locs ht hvm hw hB hz1 hk1 hS => ?_)
      exact W.iret hx hb hr (fun t ht hW => ⟨⟨_, (), rfl, (hw.trans (if_neg hA1).symm), trivial⟩, hS.F ht⟩) hS.2.2 dX9_many_98
    · refine lv_tableIn (off := 98) (tgt := 99) hx hb dX9_many_1 hA2 hA3 (by rw [hA4]; rfl) (by decide) ?_
      refine lv_aload_n hx hb dX9_many_99 rfl (lv_at hl 0 rfl) ?_
      refine lv_aload_n hx hb dX9_many_100 rfl (lv_at hl 0 rfl) ?_
      refine va_get (D := (dC, dI)) (ci := 9) (v := .int 0) (C := RX9) (T := TX9) (N := 16) hx hb hts fin_X9_many_X9 hown hK hP 0 rfl rfl 9 (by decide) (hts (.fieldLink RX9 120 "PatternGate" "marks" "I") (List.mem_of_getElem? (i := 25) (by decide +kernel))) (fun _ h9 => h9) rfl dX9_many_101 ?_
      have hPc := hP.sub (ws' := [(x, .inr (9, gF q 0 0 (-1) (-1) b 0 0))]) [0] rfl
      have hKc := hK.sub (tys' := []) [] rfl
      have hDc := hD.sub (ws' := [(x, .inr (9, gF q 0 0 (-1) (-1) b 0 0))]) [0] (by decide) rfl
      have hFc := va_free (wc := [(x, .inr (9, gF q 0 0 (-1) (-1) b 0 0))]) hD hS hA [0] rfl
      refine va_calli (va_runV (As := [.int 0]) (rest := []) ⟨hx, hb, hml, hown, hts⟩ (c_answer l dC dI x q 0 0 (-1) (-1) b 0 0 H.size 0) (cwV 1 hts mg_X9_many_X9_answer_100 rfl rfl rfl (by decide +kernel) ⟨Nat.le_of_ble_eq_true rfl, Nat.le_of_ble_eq_true rfl⟩) ⟨fun a U g mk q => by obtain ⟨q0, q1, qP, qK, qD⟩ := q; exact ⟨q0, q1, qP, va_K.moved (u := U) (U := U.calling g mk a) (Vm.Alike.refl U.vm) qK, qD⟩, va_recv hKc hPc (ci := 9) (q0 := 0) rfl rfl, fun U hU hW => ⟨rfl, by rw [hU], by rw [hU]; exact hPc, va_K.moved hW.alike hKc, hDc.weaken (fun _ _ _ _ => trivial)⟩⟩ rfl rfl hl.1 rfl (lv_room (Nat.le_of_ble_eq_true rfl)) dX9_many_104 ⟨Nat.le_of_ble_eq_true rfl, Nat.le_of_ble_eq_true rfl⟩) hS (fun q _ h => hFc q h) hFc (fun r_18 u t H1 locs ht hvm hw hB hz1 hk1 hS => ?_)
      exact W.iret hx hb hr (fun t ht hW => ⟨⟨_, (), rfl, (hw.trans (if_neg hA1).symm), trivial⟩, hS.F ht⟩) hS.2.2 dX9_many_107
theorem dX9_putBytes_0 : decode cX9_putBytes 0 = .ok (.bipush 24, 2) := by decide +kernel
theorem dX9_putBytes_2 : decode cX9_putBytes 2 = .ok (.istore_n 2, 1) := by decide +kernel
theorem dX9_putBytes_3 : decode cX9_putBytes 3 = .ok (.iload_n 2, 1) := by decide +kernel
theorem dX9_putBytes_4 : decode cX9_putBytes 4 = .ok (.ifCond .lt 45, 3) := by decide +kernel
theorem dX9_putBytes_7 : decode cX9_putBytes 7 = .ok (.aload_n 0, 1) := by decide +kernel
theorem dX9_putBytes_8 : decode cX9_putBytes 8 = .ok (.getfield 73, 3) := by decide +kernel
theorem dX9_putBytes_11 : decode cX9_putBytes 11 = .ok (.sipush 900, 3) := by decide +kernel
theorem dX9_putBytes_14 : decode cX9_putBytes 14 = .ok (.if_icmp .ge 29, 3) := by decide +kernel
theorem dX9_putBytes_17 : decode cX9_putBytes 17 = .ok (.aload_n 0, 1) := by decide +kernel
theorem dX9_putBytes_18 : decode cX9_putBytes 18 = .ok (.getfield 9, 3) := by decide +kernel
theorem dX9_putBytes_21 : decode cX9_putBytes 21 = .ok (.aload_n 0, 1) := by decide +kernel
theorem dX9_putBytes_22 : decode cX9_putBytes 22 = .ok (.getfield 73, 3) := by decide +kernel
theorem dX9_putBytes_25 : decode cX9_putBytes 25 = .ok (.iload_n 1, 1) := by decide +kernel
theorem dX9_putBytes_26 : decode cX9_putBytes 26 = .ok (.iload_n 2, 1) := by decide +kernel
theorem dX9_putBytes_27 : decode cX9_putBytes 27 = .ok (.iushr, 1) := by decide +kernel
theorem dX9_putBytes_28 : decode cX9_putBytes 28 = .ok (.sipush 255, 3) := by decide +kernel
theorem dX9_putBytes_31 : decode cX9_putBytes 31 = .ok (.iand, 1) := by decide +kernel
theorem dX9_putBytes_32 : decode cX9_putBytes 32 = .ok (.iastore, 1) := by decide +kernel
theorem dX9_putBytes_33 : decode cX9_putBytes 33 = .ok (.aload_n 0, 1) := by decide +kernel
theorem dX9_putBytes_34 : decode cX9_putBytes 34 = .ok (.dup, 1) := by decide +kernel
theorem dX9_putBytes_35 : decode cX9_putBytes 35 = .ok (.getfield 73, 3) := by decide +kernel
theorem dX9_putBytes_38 : decode cX9_putBytes 38 = .ok (.iconst 1, 1) := by decide +kernel
theorem dX9_putBytes_39 : decode cX9_putBytes 39 = .ok (.iadd, 1) := by decide +kernel
theorem dX9_putBytes_40 : decode cX9_putBytes 40 = .ok (.putfield 73, 3) := by decide +kernel
theorem dX9_putBytes_43 : decode cX9_putBytes 43 = .ok (.iinc 2 (-8), 3) := by decide +kernel
theorem dX9_putBytes_46 : decode cX9_putBytes 46 = .ok (.goto (-43), 3) := by decide +kernel
theorem dX9_putBytes_49 : decode cX9_putBytes 49 = .ok (.return_, 1) := by decide +kernel
def mwX9_putBytes : List Cond := .code yX9_putBytes cX9_putBytes 3 none :: ([.fieldLink RX9 73 "PatternGate" "taped" "I", .fieldLink RX9 9 "PatternGate" "tape" "[I"] ++ wsX90)
theorem fin_X9_putBytes_X9 : ∀ w ∈ wsX90, w ∈ mwX9_putBytes := fun w h => List.mem_cons_of_mem _ (List.mem_append_right _ h)
set_option maxHeartbeats 4000000 in
set_option maxRecDepth 100000 in
/-- putBytes: four bytes more -/
theorem c_putBytes (l : Launch) (dC : Nat → ClassId) (dI : Nat → Nat → Nat) (x : Nat) (q : Nat → Nat) (a0 a2 a3 : Int32) (a4 : Nat) (a5 a6 : Int32) (cT : ClassId) (f : Nat → Int32) (n sz : Nat) (v : Int32) (hn : n + 4 ≤ 900) : Met l yX9_putBytes mwX9_putBytes ({ frames := 0, cells := 0, slots := 0, locals := 0 }) (va_Pc [.ref x, .int v] (fun U => U.heap.size = sz ∧ va_P (dC, dI) vwCl ([(x, .inr (9, gF q a0 (nI n) a2 a3 a4 a5 a6)), (q 0, .inl (cT, 900, .inl f))]) U.heap ∧ va_K (dC, dI) vwCl ([(cT, .int)]) U ∧ va_D (fun _ => True) ([(x, .inr (9, gF q a0 (nI n) a2 a3 a4 a5 a6)), (q 0, .inl (cT, 900, .inl f))]))) (va_Qv (fun (_ : Nat → Int32) => True) (fun u t => va_P (dC, dI) vwCl [(x, .inr (9, gF q a0 (nI (n + 4)) a2 a3 a4 a5 a6)), (q 0, .inl (cT, 900, .inl u))] t.heap ∧ va_K (dC, dI) vwCl [(cT, .int)] t ∧ va_D (va_A ([(x, .inr (9, gF q a0 (nI n) a2 a3 a4 a5 a6)), (q 0, .inl (cT, 900, .inl f))]) sz) [(x, .inr (9, gF q a0 (nI (n + 4)) a2 a3 a4 a5 a6)), (q 0, .inl (cT, 900, .inl u))]) (va_A ([(x, .inr (9, gF q a0 (nI n) a2 a3 a4 a5 a6)), (q 0, .inl (cT, 900, .inl f))]) sz)) 0 0 (va_A ([(x, .inr (9, gF q a0 (nI n) a2 a3 a4 a5 a6)), (q 0, .inl (cT, 900, .inl f))]) sz) := by
  refine Met.ofW (cc := cX9_putBytes) (maxL := 3) (ret := none) (by decide +kernel) rfl ?_
  intro p e s m args below meth c s₁ B hml hv
  obtain ⟨rfl, hsz, hP, hK, hD0⟩ := hv
  have hx := B.exec
  have hb := B.bytes
  have hr := B.returns
  have hts := atoms_spec (ws := mwX9_putBytes) B.pre
  have hown : s.vm.findClass RX9 = some m.cls := findClass_of_methodNamed B.named
  have hlocks := B.notSynchronized
  subst hsz
  have hD := hD0.self (sz := s.heap.size)
  generalize hAe : va_A ([(x, .inr (9, gF q a0 (nI n) a2 a3 a4 a5 a6)), (q 0, .inl (cT, 900, .inl f))]) s.heap.size = A at hD ⊢
  have hA : ∀ q : Nat, s.heap.size ≤ q → A q := fun q h => by rw [← hAe]; exact Or.inr h
  have hP : va_P (dC, dI) vwCl [(x, .inr (9, gF q a0 (nI n) a2 a3 a4 a5 a6)), (q 0, .inl (cT, 900, .inl f))] s.heap := hP
  have hD : va_D A [(x, .inr (9, gF q a0 (nI n) a2 a3 a4 a5 a6)), (q 0, .inl (cT, 900, .inl f))] := hD
  have hK : va_K (dC, dI) vwCl [(cT, .int)] s := hK
  generalize hH : s.heap = H at hP ⊢
  have hS : va_S A s.heap H [] := by rw [← hH]; exact va_S.rf
  have hl := lv_entry ([.ref x, .int v]) (n := 3) (Nat.le_of_ble_eq_true rfl)
  rw [lg_entry_eq]
  generalize (lg_sl ([.ref x, .int v]) ++ List.replicate (3 - (lg_sl ([.ref x, .int v])).length) Slot.unset).toArray = ls at hl ⊢
  have hl : lv_has ls 3 [(0, .ref x), (1, .int v)] := hl
  refine lv_bipush (v := 24) hx hb dX9_putBytes_0 (by decide) ?_
  refine lv_istore_n (lv' := [(2, .int 24), (0, .ref x), (1, .int v)]) hx hb dX9_putBytes_2 rfl hl (by decide) rfl (fun ls hl => ?_)
  refine lv_iload_n hx hb dX9_putBytes_3 rfl (lv_at hl 0 rfl) ?_
  refine lv_if_lt (tgt := 49) hx hb dX9_putBytes_4 (by decide) (fun k_1 => absurd k_1 (by decide)) (fun k_1 => ?_)
  refine lv_aload_n hx hb dX9_putBytes_7 rfl (lv_at hl 1 rfl) ?_
  refine va_get (D := (dC, dI)) (ci := 9) (v := .int (nI n)) (C := RX9) (T := TX9) (N := 16) hx hb hts fin_X9_putBytes_X9 hown hK hP 0 rfl rfl 2 (by decide) (hts (.fieldLink RX9 73 "PatternGate" "taped" "I") (List.mem_of_getElem? (i := 1) (by decide +kernel))) (fun _ h9 => h9) rfl dX9_putBytes_8 ?_
  refine lv_sipush (v := 900) hx hb dX9_putBytes_11 (by decide) ?_
  refine lv_icmp_ge (tgt := 43) hx hb dX9_putBytes_14 (by decide) (fun k_2 => absurd k_2 (nI_ge (a := n) (b := 900) (by omega) (by decide))) (fun k_2 => ?_)
  refine lv_aload_n hx hb dX9_putBytes_17 rfl (lv_at hl 1 rfl) ?_
  refine va_get (D := (dC, dI)) (ci := 9) (v := .ref (q 0)) (C := RX9) (T := TX9) (N := 16) hx hb hts fin_X9_putBytes_X9 hown hK hP 0 rfl rfl 1 (by decide) (hts (.fieldLink RX9 9 "PatternGate" "tape" "[I") (List.mem_of_getElem? (i := 2) (by decide +kernel))) (fun _ h9 => h9) rfl dX9_putBytes_18 ?_
  refine lv_aload_n hx hb dX9_putBytes_21 rfl (lv_at hl 1 rfl) ?_
  refine va_get (D := (dC, dI)) (ci := 9) (v := .int (nI n)) (C := RX9) (T := TX9) (N := 16) hx hb hts fin_X9_putBytes_X9 hown hK hP 0 rfl rfl 2 (by decide) (hts (.fieldLink RX9 73 "PatternGate" "taped" "I") (List.mem_of_getElem? (i := 1) (by decide +kernel))) (fun _ h9 => h9) rfl dX9_putBytes_22 ?_
  refine lv_iload_n hx hb dX9_putBytes_25 rfl (lv_at hl 2 rfl) ?_
  refine lv_iload_n hx hb dX9_putBytes_26 rfl (lv_at hl 0 rfl) ?_
  refine lv_iushr hx hb dX9_putBytes_27 rfl ?_
  refine lv_topi (fun y_3 ey_3 => ?_)
  refine lv_sipush (v := 255) hx hb dX9_putBytes_28 (by decide) ?_
  refine lv_iand hx hb dX9_putBytes_31 ?_
  refine lv_topi (fun y_4 ey_4 => ?_)
  refine va_iast hx hb hK hP hD hS 1 0 rfl rfl (i := (nI n)) (vp_in_nI (n := n) (by omega) (by decide)) dX9_putBytes_32 (fun H locs hP hD hS => ?_)
  generalize hf_f_5 : upd f _ _ = f_5 at hP hD
  have hP : va_P (dC, dI) vwCl [(x, .inr (9, gF q a0 (nI n) a2 a3 a4 a5 a6)), (q 0, .inl (cT, 900, .inl f_5))] H := hP
  have hD : va_D A [(x, .inr (9, gF q a0 (nI n) a2 a3 a4 a5 a6)), (q 0, .inl (cT, 900, .inl f_5))] := hD
  refine lv_aload_n hx hb dX9_putBytes_33 rfl (lv_at hl 1 rfl) ?_
  refine lv_dup hx hb dX9_putBytes_34 rfl ?_
  refine va_get (D := (dC, dI)) (ci := 9) (v := .int (nI n)) (C := RX9) (T := TX9) (N := 16) hx hb hts fin_X9_putBytes_X9 hown hK hP 0 rfl rfl 2 (by decide) (hts (.fieldLink RX9 73 "PatternGate" "taped" "I") (List.mem_of_getElem? (i := 1) (by decide +kernel))) (fun _ h9 => h9) rfl dX9_putBytes_35 ?_
  refine lv_iconst (v := 1) hx hb dX9_putBytes_38 (by decide) ?_
  refine lv_iadd hx hb dX9_putBytes_39 ?_
  refine lv_topi (fun y_6 ey_6 => ?_)
  obtain rfl : y_6 = nI (n + 1) := ey_6.trans (nI_1 _)
  refine va_put (D := (dC, dI)) (ci := 9) (v := .int (nI (n + 1))) (ty := .int) (C := RX9) (T := TX9) (N := 16) hx hb hts fin_X9_putBytes_X9 tyX9 tyX9_ok nmX9 hown hK hP hD hS 0 rfl rfl 2 (by decide) (hts (.fieldLink RX9 73 "PatternGate" "taped" "I") (List.mem_of_getElem? (i := 1) (by decide +kernel))) (fun _ h9 => h9) rfl (by decide +kernel) rfl rfl (Nat.le_of_ble_eq_true rfl) dX9_putBytes_40 (fun H locs hP hD hS => ?_)
  have hP : va_P (dC, dI) vwCl [(x, .inr (9, gF q a0 (nI (n + 1)) a2 a3 a4 a5 a6)), (q 0, .inl (cT, 900, .inl f_5))] H := hP
  have hD : va_D A [(x, .inr (9, gF q a0 (nI (n + 1)) a2 a3 a4 a5 a6)), (q 0, .inl (cT, 900, .inl f_5))] := hD
  refine lv_iinc (v := 16) (lv' := [(2, .int 16), (0, .ref x), (1, .int v)]) hx hb dX9_putBytes_43 hl (k := 0) rfl (by decide) (by decide) rfl (fun ls hl => ?_)
  refine lv_goto (tgt := 3) hx hb dX9_putBytes_46 (by decide) ?_
  refine lv_iload_n hx hb dX9_putBytes_3 rfl (lv_at hl 0 rfl) ?_
  refine lv_if_lt (tgt := 49) hx hb dX9_putBytes_4 (by decide) (fun k_7 => absurd k_7 (by decide)) (fun k_7 => ?_)
  refine lv_aload_n hx hb dX9_putBytes_7 rfl (lv_at hl 1 rfl) ?_
  refine va_get (D := (dC, dI)) (ci := 9) (v := .int (nI (n + 1))) (C := RX9) (T := TX9) (N := 16) hx hb hts fin_X9_putBytes_X9 hown hK hP 0 rfl rfl 2 (by decide) (hts (.fieldLink RX9 73 "PatternGate" "taped" "I") (List.mem_of_getElem? (i := 1) (by decide +kernel))) (fun _ h9 => h9) rfl dX9_putBytes_8 ?_
  refine lv_sipush (v := 900) hx hb dX9_putBytes_11 (by decide) ?_
  refine lv_icmp_ge (tgt := 43) hx hb dX9_putBytes_14 (by decide) (fun k_8 => absurd k_8 (nI_ge (a := n + 1) (b := 900) (by omega) (by decide))) (fun k_8 => ?_)
  refine lv_aload_n hx hb dX9_putBytes_17 rfl (lv_at hl 1 rfl) ?_
  refine va_get (D := (dC, dI)) (ci := 9) (v := .ref (q 0)) (C := RX9) (T := TX9) (N := 16) hx hb hts fin_X9_putBytes_X9 hown hK hP 0 rfl rfl 1 (by decide) (hts (.fieldLink RX9 9 "PatternGate" "tape" "[I") (List.mem_of_getElem? (i := 2) (by decide +kernel))) (fun _ h9 => h9) rfl dX9_putBytes_18 ?_
  refine lv_aload_n hx hb dX9_putBytes_21 rfl (lv_at hl 1 rfl) ?_
  refine va_get (D := (dC, dI)) (ci := 9) (v := .int (nI (n + 1))) (C := RX9) (T := TX9) (N := 16) hx hb hts fin_X9_putBytes_X9 hown hK hP 0 rfl rfl 2 (by decide) (hts (.fieldLink RX9 73 "PatternGate" "taped" "I") (List.mem_of_getElem? (i := 1) (by decide +kernel))) (fun _ h9 => h9) rfl dX9_putBytes_22 ?_
  refine lv_iload_n hx hb dX9_putBytes_25 rfl (lv_at hl 2 rfl) ?_
  refine lv_iload_n hx hb dX9_putBytes_26 rfl (lv_at hl 0 rfl) ?_
  refine lv_iushr hx hb dX9_putBytes_27 rfl ?_
  refine lv_topi (fun y_9 ey_9 => ?_)
  refine lv_sipush (v := 255) hx hb dX9_putBytes_28 (by decide) ?_
  refine lv_iand hx hb dX9_putBytes_31 ?_
  refine lv_topi (fun y_10 ey_10 => ?_)
  refine va_iast hx hb hK hP hD hS 1 0 rfl rfl (i := (nI (n + 1))) (vp_in_nI (n := n + 1) (by omega) (by decide)) dX9_putBytes_32 (fun H locs hP hD hS => ?_)
  generalize hf_f_11 : upd f_5 _ _ = f_11 at hP hD
  have hP : va_P (dC, dI) vwCl [(x, .inr (9, gF q a0 (nI (n + 1)) a2 a3 a4 a5 a6)), (q 0, .inl (cT, 900, .inl f_11))] H := hP
  have hD : va_D A [(x, .inr (9, gF q a0 (nI (n + 1)) a2 a3 a4 a5 a6)), (q 0, .inl (cT, 900, .inl f_11))] := hD
  refine lv_aload_n hx hb dX9_putBytes_33 rfl (lv_at hl 1 rfl) ?_
  refine lv_dup hx hb dX9_putBytes_34 rfl ?_
  refine va_get (D := (dC, dI)) (ci := 9) (v := .int (nI (n + 1))) (C := RX9) (T := TX9) (N := 16) hx hb hts fin_X9_putBytes_X9 hown hK hP 0 rfl rfl 2 (by decide) (hts (.fieldLink RX9 73 "PatternGate" "taped" "I") (List.mem_of_getElem? (i := 1) (by decide +kernel))) (fun _ h9 => h9) rfl dX9_putBytes_35 ?_
  refine lv_iconst (v := 1) hx hb dX9_putBytes_38 (by decide) ?_
  refine lv_iadd hx hb dX9_putBytes_39 ?_
  refine lv_topi (fun y_12 ey_12 => ?_)
  obtain rfl : y_12 = nI (n + 2) := ey_12.trans (nI_1 _)
  refine va_put (D := (dC, dI)) (ci := 9) (v := .int (nI (n + 2))) (ty := .int) (C := RX9) (T := TX9) (N := 16) hx hb hts fin_X9_putBytes_X9 tyX9 tyX9_ok nmX9 hown hK hP hD hS 0 rfl rfl 2 (by decide) (hts (.fieldLink RX9 73 "PatternGate" "taped" "I") (List.mem_of_getElem? (i := 1) (by decide +kernel))) (fun _ h9 => h9) rfl (by decide +kernel) rfl rfl (Nat.le_of_ble_eq_true rfl) dX9_putBytes_40 (fun H locs hP hD hS => ?_)
  have hP : va_P (dC, dI) vwCl [(x, .inr (9, gF q a0 (nI (n + 2)) a2 a3 a4 a5 a6)), (q 0, .inl (cT, 900, .inl f_11))] H := hP
  have hD : va_D A [(x, .inr (9, gF q a0 (nI (n + 2)) a2 a3 a4 a5 a6)), (q 0, .inl (cT, 900, .inl f_11))] := hD
  refine lv_iinc (v := 8) (lv' := [(2, .int 8), (0, .ref x), (1, .int v)]) hx hb dX9_putBytes_43 hl (k := 0) rfl (by decide) (by decide) rfl (fun ls hl => ?_)
  refine lv_goto (tgt := 3) hx hb dX9_putBytes_46 (by decide) ?_
  refine lv_iload_n hx hb dX9_putBytes_3 rfl (lv_at hl 0 rfl) ?_
  refine lv_if_lt (tgt := 49) hx hb dX9_putBytes_4 (by decide) (fun k_13 => absurd k_13 (by decide)) (fun k_13 => ?_)
  refine lv_aload_n hx hb dX9_putBytes_7 rfl (lv_at hl 1 rfl) ?_
  refine va_get (D := (dC, dI)) (ci := 9) (v := .int (nI (n + 2))) (C := RX9) (T := TX9) (N := 16) hx hb hts fin_X9_putBytes_X9 hown hK hP 0 rfl rfl 2 (by decide) (hts (.fieldLink RX9 73 "PatternGate" "taped" "I") (List.mem_of_getElem? (i := 1) (by decide +kernel))) (fun _ h9 => h9) rfl dX9_putBytes_8 ?_
  refine lv_sipush (v := 900) hx hb dX9_putBytes_11 (by decide) ?_
  refine lv_icmp_ge (tgt := 43) hx hb dX9_putBytes_14 (by decide) (fun k_14 => absurd k_14 (nI_ge (a := n + 2) (b := 900) (by omega) (by decide))) (fun k_14 => ?_)
  refine lv_aload_n hx hb dX9_putBytes_17 rfl (lv_at hl 1 rfl) ?_
  refine va_get (D := (dC, dI)) (ci := 9) (v := .ref (q 0)) (C := RX9) (T := TX9) (N := 16) hx hb hts fin_X9_putBytes_X9 hown hK hP 0 rfl rfl 1 (by decide) (hts (.fieldLink RX9 9 "PatternGate" "tape" "[I") (List.mem_of_getElem? (i := 2) (by decide +kernel))) (fun _ h9 => h9) rfl dX9_putBytes_18 ?_
  refine lv_aload_n hx hb dX9_putBytes_21 rfl (lv_at hl 1 rfl) ?_
  refine va_get (D := (dC, dI)) (ci := 9) (v := .int (nI (n + 2))) (C := RX9) (T := TX9) (N := 16) hx hb hts fin_X9_putBytes_X9 hown hK hP 0 rfl rfl 2 (by decide) (hts (.fieldLink RX9 73 "PatternGate" "taped" "I") (List.mem_of_getElem? (i := 1) (by decide +kernel))) (fun _ h9 => h9) rfl dX9_putBytes_22 ?_
  refine lv_iload_n hx hb dX9_putBytes_25 rfl (lv_at hl 2 rfl) ?_
  refine lv_iload_n hx hb dX9_putBytes_26 rfl (lv_at hl 0 rfl) ?_
  refine lv_iushr hx hb dX9_putBytes_27 rfl ?_
  refine lv_topi (fun y_15 ey_15 => ?_)
  refine lv_sipush (v := 255) hx hb dX9_putBytes_28 (by decide) ?_
  refine lv_iand hx hb dX9_putBytes_31 ?_
  refine lv_topi (fun y_16 ey_16 => ?_)
  refine va_iast hx hb hK hP hD hS 1 0 rfl rfl (i := (nI (n + 2))) (vp_in_nI (n := n + 2) (by omega) (by decide)) dX9_putBytes_32 (fun H locs hP hD hS => ?_)
  generalize hf_f_17 : upd f_11 _ _ = f_17 at hP hD
  have hP : va_P (dC, dI) vwCl [(x, .inr (9, gF q a0 (nI (n + 2)) a2 a3 a4 a5 a6)), (q 0, .inl (cT, 900, .inl f_17))] H := hP
  have hD : va_D A [(x, .inr (9, gF q a0 (nI (n + 2)) a2 a3 a4 a5 a6)), (q 0, .inl (cT, 900, .inl f_17))] := hD
  refine lv_aload_n hx hb dX9_putBytes_33 rfl (lv_at hl 1 rfl) ?_
  refine lv_dup hx hb dX9_putBytes_34 rfl ?_
  refine va_get (D := (dC, dI)) (ci := 9) (v := .int (nI (n + 2))) (C := RX9) (T := TX9) (N := 16) hx hb hts fin_X9_putBytes_X9 hown hK hP 0 rfl rfl 2 (by decide) (hts (.fieldLink RX9 73 "PatternGate" "taped" "I") (List.mem_of_getElem? (i := 1) (by decide +kernel))) (fun _ h9 => h9) rfl dX9_putBytes_35 ?_
  refine lv_iconst (v := 1) hx hb dX9_putBytes_38 (by decide) ?_
  refine lv_iadd hx hb dX9_putBytes_39 ?_
  refine lv_topi (fun y_18 ey_18 => ?_)
  obtain rfl : y_18 = nI (n + 3) := ey_18.trans (nI_1 _)
  refine va_put (D := (dC, dI)) (ci := 9) (v := .int (nI (n + 3))) (ty := .int) (C := RX9) (T := TX9) (N := 16) hx hb hts fin_X9_putBytes_X9 tyX9 tyX9_ok nmX9 hown hK hP hD hS 0 rfl rfl 2 (by decide) (hts (.fieldLink RX9 73 "PatternGate" "taped" "I") (List.mem_of_getElem? (i := 1) (by decide +kernel))) (fun _ h9 => h9) rfl (by decide +kernel) rfl rfl (Nat.le_of_ble_eq_true rfl) dX9_putBytes_40 (fun H locs hP hD hS => ?_)
  have hP : va_P (dC, dI) vwCl [(x, .inr (9, gF q a0 (nI (n + 3)) a2 a3 a4 a5 a6)), (q 0, .inl (cT, 900, .inl f_17))] H := hP
  have hD : va_D A [(x, .inr (9, gF q a0 (nI (n + 3)) a2 a3 a4 a5 a6)), (q 0, .inl (cT, 900, .inl f_17))] := hD
  refine lv_iinc (v := 0) (lv' := [(2, .int 0), (0, .ref x), (1, .int v)]) hx hb dX9_putBytes_43 hl (k := 0) rfl (by decide) (by decide) rfl (fun ls hl => ?_)
  refine lv_goto (tgt := 3) hx hb dX9_putBytes_46 (by decide) ?_
  refine lv_iload_n hx hb dX9_putBytes_3 rfl (lv_at hl 0 rfl) ?_
  refine lv_if_lt (tgt := 49) hx hb dX9_putBytes_4 (by decide) (fun k_19 => absurd k_19 (by decide)) (fun k_19 => ?_)
  refine lv_aload_n hx hb dX9_putBytes_7 rfl (lv_at hl 1 rfl) ?_
  refine va_get (D := (dC, dI)) (ci := 9) (v := .int (nI (n + 3))) (C := RX9) (T := TX9) (N := 16) hx hb hts fin_X9_putBytes_X9 hown hK hP 0 rfl rfl 2 (by decide) (hts (.fieldLink RX9 73 "PatternGate" "taped" "I") (List.mem_of_getElem? (i := 1) (by decide +kernel))) (fun _ h9 => h9) rfl dX9_putBytes_8 ?_
  refine lv_sipush (v := 900) hx hb dX9_putBytes_11 (by decide) ?_
  refine lv_icmp_ge (tgt := 43) hx hb dX9_putBytes_14 (by decide) (fun k_20 => absurd k_20 (nI_ge (a := n + 3) (b := 900) (by omega) (by decide))) (fun k_20 => ?_)
  refine lv_aload_n hx hb dX9_putBytes_17 rfl (lv_at hl 1 rfl) ?_
  refine va_get (D := (dC, dI)) (ci := 9) (v := .ref (q 0)) (C := RX9) (T := TX9) (N := 16) hx hb hts fin_X9_putBytes_X9 hown hK hP 0 rfl rfl 1 (by decide) (hts (.fieldLink RX9 9 "PatternGate" "tape" "[I") (List.mem_of_getElem? (i := 2) (by decide +kernel))) (fun _ h9 => h9) rfl dX9_putBytes_18 ?_
  refine lv_aload_n hx hb dX9_putBytes_21 rfl (lv_at hl 1 rfl) ?_
  refine va_get (D := (dC, dI)) (ci := 9) (v := .int (nI (n + 3))) (C := RX9) (T := TX9) (N := 16) hx hb hts fin_X9_putBytes_X9 hown hK hP 0 rfl rfl 2 (by decide) (hts (.fieldLink RX9 73 "PatternGate" "taped" "I") (List.mem_of_getElem? (i := 1) (by decide +kernel))) (fun _ h9 => h9) rfl dX9_putBytes_22 ?_
  refine lv_iload_n hx hb dX9_putBytes_25 rfl (lv_at hl 2 rfl) ?_
  refine lv_iload_n hx hb dX9_putBytes_26 rfl (lv_at hl 0 rfl) ?_
  refine lv_iushr hx hb dX9_putBytes_27 rfl ?_
  refine lv_topi (fun y_21 ey_21 => ?_)
  refine lv_sipush (v := 255) hx hb dX9_putBytes_28 (by decide) ?_
  refine lv_iand hx hb dX9_putBytes_31 ?_
  refine lv_topi (fun y_22 ey_22 => ?_)
  refine va_iast hx hb hK hP hD hS 1 0 rfl rfl (i := (nI (n + 3))) (vp_in_nI (n := n + 3) (by omega) (by decide)) dX9_putBytes_32 (fun H locs hP hD hS => ?_)
  generalize hf_f_23 : upd f_17 _ _ = f_23 at hP hD
  have hP : va_P (dC, dI) vwCl [(x, .inr (9, gF q a0 (nI (n + 3)) a2 a3 a4 a5 a6)), (q 0, .inl (cT, 900, .inl f_23))] H := hP
  have hD : va_D A [(x, .inr (9, gF q a0 (nI (n + 3)) a2 a3 a4 a5 a6)), (q 0, .inl (cT, 900, .inl f_23))] := hD
  refine lv_aload_n hx hb dX9_putBytes_33 rfl (lv_at hl 1 rfl) ?_
  refine lv_dup hx hb dX9_putBytes_34 rfl ?_
  refine va_get (D := (dC, dI)) (ci := 9) (v := .int (nI (n + 3))) (C := RX9) (T := TX9) (N := 16) hx hb hts fin_X9_putBytes_X9 hown hK hP 0 rfl rfl 2 (by decide) (hts (.fieldLink RX9 73 "PatternGate" "taped" "I") (List.mem_of_getElem? (i := 1) (by decide +kernel))) (fun _ h9 => h9) rfl dX9_putBytes_35 ?_
  refine lv_iconst (v := 1) hx hb dX9_putBytes_38 (by decide) ?_
  refine lv_iadd hx hb dX9_putBytes_39 ?_
  refine lv_topi (fun y_24 ey_24 => ?_)
  obtain rfl : y_24 = nI (n + 4) := ey_24.trans (nI_1 _)
  refine va_put (D := (dC, dI)) (ci := 9) (v := .int (nI (n + 4))) (ty := .int) (C := RX9) (T := TX9) (N := 16) hx hb hts fin_X9_putBytes_X9 tyX9 tyX9_ok nmX9 hown hK hP hD hS 0 rfl rfl 2 (by decide) (hts (.fieldLink RX9 73 "PatternGate" "taped" "I") (List.mem_of_getElem? (i := 1) (by decide +kernel))) (fun _ h9 => h9) rfl (by decide +kernel) rfl rfl (Nat.le_of_ble_eq_true rfl) dX9_putBytes_40 (fun H locs hP hD hS => ?_)
  have hP : va_P (dC, dI) vwCl [(x, .inr (9, gF q a0 (nI (n + 4)) a2 a3 a4 a5 a6)), (q 0, .inl (cT, 900, .inl f_23))] H := hP
  have hD : va_D A [(x, .inr (9, gF q a0 (nI (n + 4)) a2 a3 a4 a5 a6)), (q 0, .inl (cT, 900, .inl f_23))] := hD
  refine lv_iinc (v := (-8)) (lv' := [(2, .int (-8)), (0, .ref x), (1, .int v)]) hx hb dX9_putBytes_43 hl (k := 0) rfl (by decide) (by decide) rfl (fun ls hl => ?_)
  refine lv_goto (tgt := 3) hx hb dX9_putBytes_46 (by decide) ?_
  refine lv_iload_n hx hb dX9_putBytes_3 rfl (lv_at hl 0 rfl) ?_
  refine lv_if_lt (tgt := 49) hx hb dX9_putBytes_4 (by decide) (fun k_25 => ?_) (fun k_25 => absurd (by decide) k_25)
  exact W.vret hx hb hr (fun t ht hW => ⟨⟨f_23, rfl, trivial, by rw [ht]; exact hP, va_K.moved hW.alike hK, hD⟩, hS.F ht⟩) hS.2.2 dX9_putBytes_49
theorem dX9_feed_0 : decode cX9_feed 0 = .ok (.aload_n 0, 1) := by decide +kernel
theorem dX9_feed_1 : decode cX9_feed 1 = .ok (.getfield 73, 3) := by decide +kernel
theorem dX9_feed_4 : decode cX9_feed 4 = .ok (.bipush 20, 2) := by decide +kernel
theorem dX9_feed_6 : decode cX9_feed 6 = .ok (.iadd, 1) := by decide +kernel
theorem dX9_feed_7 : decode cX9_feed 7 = .ok (.sipush 900, 3) := by decide +kernel
theorem dX9_feed_10 : decode cX9_feed 10 = .ok (.if_icmp .le 5, 3) := by decide +kernel
theorem dX9_feed_15 : decode cX9_feed 15 = .ok (.aload_n 0, 1) := by decide +kernel
theorem dX9_feed_16 : decode cX9_feed 16 = .ok (.iload_n 1, 1) := by decide +kernel
theorem dX9_feed_17 : decode cX9_feed 17 = .ok (.invokevirtual 76, 3) := by decide +kernel
theorem dX9_feed_20 : decode cX9_feed 20 = .ok (.aload_n 0, 1) := by decide +kernel
theorem dX9_feed_21 : decode cX9_feed 21 = .ok (.iload_n 2, 1) := by decide +kernel
theorem dX9_feed_22 : decode cX9_feed 22 = .ok (.invokevirtual 76, 3) := by decide +kernel
theorem dX9_feed_25 : decode cX9_feed 25 = .ok (.aload_n 0, 1) := by decide +kernel
theorem dX9_feed_26 : decode cX9_feed 26 = .ok (.iload_n 3, 1) := by decide +kernel
theorem dX9_feed_27 : decode cX9_feed 27 = .ok (.invokevirtual 76, 3) := by decide +kernel
theorem dX9_feed_30 : decode cX9_feed 30 = .ok (.aload_n 0, 1) := by decide +kernel
theorem dX9_feed_31 : decode cX9_feed 31 = .ok (.iload 4, 2) := by decide +kernel
theorem dX9_feed_33 : decode cX9_feed 33 = .ok (.invokevirtual 76, 3) := by decide +kernel
theorem dX9_feed_36 : decode cX9_feed 36 = .ok (.aload_n 0, 1) := by decide +kernel
theorem dX9_feed_37 : decode cX9_feed 37 = .ok (.iload 5, 2) := by decide +kernel
theorem dX9_feed_39 : decode cX9_feed 39 = .ok (.invokevirtual 76, 3) := by decide +kernel
theorem dX9_feed_42 : decode cX9_feed 42 = .ok (.aload_n 0, 1) := by decide +kernel
theorem dX9_feed_43 : decode cX9_feed 43 = .ok (.getfield 73, 3) := by decide +kernel
theorem dX9_feed_46 : decode cX9_feed 46 = .ok (.ireturn, 1) := by decide +kernel
def mwX9_feed : List Cond := .code yX9_feed cX9_feed 6 (some .int) :: ([.fieldLink RX9 73 "PatternGate" "taped" "I", .code yX9_putBytes cX9_putBytes 3 none, .fieldLink RX9 9 "PatternGate" "tape" "[I", .methodLink RX9 76 yX9_putBytes, .instanceMethod yX9_putBytes, .selects RX9 yX9_putBytes yX9_putBytes, .initialized RX9] ++ wsX90)
theorem fin_X9_feed_X9 : ∀ w ∈ wsX90, w ∈ mwX9_feed := fun w h => List.mem_cons_of_mem _ (List.mem_append_right _ h)
set_option maxRecDepth 20000 in
theorem mg_X9_feed_X9_putBytes_76 : GoodIn mwX9_feed (wsV RX9 76 RX9 yX9_putBytes mwX9_putBytes) := goodIn_r _ [4, 5, 6, 7, 2, 1, 3, 8, 9, 10, 11, 12, 13, 14, 15, 16, 17, 18, 19, 20, 21, 22, 23] (by decide +kernel) (by decide +kernel)
set_option maxHeartbeats 4000000 in
set_option maxRecDepth 100000 in
/-- feed on a new object -/
theorem c_feed (l : Launch) (dC : Nat → ClassId) (dI : Nat → Nat → Nat) (x : Nat) (q : Nat → Nat) (b d0 p0 : Nat) (cT cD cP cB cU : ClassId) (r : Nat → Nat) (sz : Nat) (i0 i1 i2 i3 i4 : Int32) : Met l yX9_feed mwX9_feed ({ frames := 1, cells := 0, slots := 0, locals := 60 }) (va_Pc [.ref x, .int i0, .int i1, .int i2, .int i3, .int i4] (fun U => U.heap.size = sz ∧ va_P (dC, dI) vwCl (gW x q b d0 p0 cT cD cP cB cU r) U.heap ∧ va_K (dC, dI) vwCl (gT cT cD cP cB cU) U ∧ va_D (fun _ => True) (gW x q b d0 p0 cT cD cP cB cU r))) (va_Qi (fun (o : Int32) (_ : Unit) => o = 20) (fun _ _ => True) (va_A (gW x q b d0 p0 cT cD cP cB cU r) sz)) 0 0 (va_A (gW x q b d0 p0 cT cD cP cB cU r) sz) := by
  refine Met.ofW (cc := cX9_feed) (maxL := 6) (ret := (some .int)) (by decide +kernel) rfl ?_
  intro p e s m args below meth c s₁ B hml hv
  obtain ⟨rfl, hsz, hP, hK, hD0⟩ := hv
  have hx := B.exec
  have hb := B.bytes
  have hr := B.returns
  have hts := atoms_spec (ws := mwX9_feed) B.pre
  have hown : s.vm.findClass RX9 = some m.cls := findClass_of_methodNamed B.named
  have hlocks := B.notSynchronized
  subst hsz
  have hD := hD0.self (sz := s.heap.size)
  generalize hAe : va_A (gW x q b d0 p0 cT cD cP cB cU r) s.heap.size = A at hD ⊢
  have hA : ∀ q : Nat, s.heap.size ≤ q → A q := fun q h => by rw [← hAe]; exact Or.inr h
  have hP : va_P (dC, dI) vwCl [(x, .inr (9, gF q 0 0 (-1) (-1) b 0 0)), (q 0, .inl (cT, 900, .inl (fun _ => 0))), (b, .inr (0, [.ref d0, .ref p0, .null])), (d0, .inl (cD, 0, .inr (.inr (.inr (.inr (fun _ => none)))))), (p0, .inl (cP, 0, .inr (.inr (.inr (.inr (fun _ => none)))))), (q 1, .inl (cB, 3, .inr (.inr (.inr (.inr (fun _ => none)))))), (q 2, .inl (cU, 3, .inl (fun _ => 0))), (q 3, .inr (6, rF r 0 0 0 0 0 0 0 0))] s.heap := hP
  have hD : va_D A [(x, .inr (9, gF q 0 0 (-1) (-1) b 0 0)), (q 0, .inl (cT, 900, .inl (fun _ => 0))), (b, .inr (0, [.ref d0, .ref p0, .null])), (d0, .inl (cD, 0, .inr (.inr (.inr (.inr (fun _ => none)))))), (p0, .inl (cP, 0, .inr (.inr (.inr (.inr (fun _ => none)))))), (q 1, .inl (cB, 3, .inr (.inr (.inr (.inr (fun _ => none)))))), (q 2, .inl (cU, 3, .inl (fun _ => 0))), (q 3, .inr (6, rF r 0 0 0 0 0 0 0 0))] := hD
  have hK : va_K (dC, dI) vwCl [(cT, .int), (cD, .object "PatternGate$Doc"), (cP, .object "PatternGate$Pattern"), (cB, .object "PatternGate$Book"), (cU, .int)] s := hK
  generalize hH : s.heap = H at hP ⊢
  have hS : va_S A s.heap H [] := by rw [← hH]; exact va_S.rf
  have hl := lv_entry ([.ref x, .int i0, .int i1, .int i2, .int i3, .int i4]) (n := 6) (Nat.le_of_ble_eq_true rfl)
  rw [lg_entry_eq]
  generalize (lg_sl ([.ref x, .int i0, .int i1, .int i2, .int i3, .int i4]) ++ List.replicate (6 - (lg_sl ([.ref x, .int i0, .int i1, .int i2, .int i3, .int i4])).length) Slot.unset).toArray = ls at hl ⊢
  have hl : lv_has ls 6 [(0, .ref x), (1, .int i0), (2, .int i1), (3, .int i2), (4, .int i3), (5, .int i4)] := hl
  refine lv_aload_n hx hb dX9_feed_0 rfl (lv_at hl 0 rfl) ?_
  refine va_get (D := (dC, dI)) (ci := 9) (v := .int 0) (C := RX9) (T := TX9) (N := 16) hx hb hts fin_X9_feed_X9 hown hK hP 0 rfl rfl 2 (by decide) (hts (.fieldLink RX9 73 "PatternGate" "taped" "I") (List.mem_of_getElem? (i := 1) (by decide +kernel))) (fun _ h9 => h9) rfl dX9_feed_1 ?_
  refine lv_bipush (v := 20) hx hb dX9_feed_4 (by decide) ?_
  refine lv_iadd hx hb dX9_feed_6 ?_
  refine lv_topi (fun y_1 ey_1 => ?_)
  obtain rfl : y_1 = 20 := ey_1.trans (by first | rfl | decide)
  refine lv_sipush (v := 900) hx hb dX9_feed_7 (by decide) ?_
  refine lv_icmp_le (tgt := 15) hx hb dX9_feed_10 (by decide) (fun k_2 => ?_) (fun k_2 => absurd (by decide) k_2)
  refine lv_aload_n hx hb dX9_feed_15 rfl (lv_at hl 0 rfl) ?_
  refine lv_iload_n hx hb dX9_feed_16 rfl (lv_at hl 1 rfl) ?_
  have hPc := hP.sub (ws' := [(x, .inr (9, gF q 0 0 (-1) (-1) b 0 0)), (q 0, .inl (cT, 900, .inl (fun _ => 0)))]) [0, 1] rfl
  have hKc := hK.sub (tys' := [(cT, .int)]) [0] rfl
  have hDc := hD.sub (ws' := [(x, .inr (9, gF q 0 0 (-1) (-1) b 0 0)), (q 0, .inl (cT, 900, .inl (fun _ => 0)))]) [0, 1] (by decide) rfl
  have hFc := va_free (wc := [(x, .inr (9, gF q 0 0 (-1) (-1) b 0 0)), (q 0, .inl (cT, 900, .inl (fun _ => 0)))]) hD hS hA [0, 1] rfl
  refine va_callv (va_runV (As := [.int i0]) (rest := []) ⟨hx, hb, hml, hown, hts⟩ (c_putBytes l dC dI x q 0 (-1) (-1) b 0 0 cT (fun _ => 0) 0 H.size i0 (by decide)) (cwV 1 hts mg_X9_feed_X9_putBytes_76 rfl rfl rfl (by decide +kernel) ⟨Nat.le_of_ble_eq_true rfl, Nat.le_of_ble_eq_true rfl⟩) ⟨fun a U g mk q => by obtain ⟨q0, q1, qP, qK, qD⟩ := q; exact ⟨q0, q1, qP, va_K.moved (u := U) (U := U.calling g mk a) (Vm.Alike.refl U.vm) qK, qD⟩, va_recv hKc hPc (ci := 9) (q0 := 0) rfl rfl, fun U hU hW => ⟨rfl, by rw [hU], by rw [hU]; exact hPc, va_K.moved hW.alike hKc, hDc.weaken (fun _ _ _ _ => trivial)⟩⟩ rfl rfl hl.1 rfl (lv_room (Nat.le_of_ble_eq_true rfl)) dX9_feed_17 ⟨Nat.le_of_ble_eq_true rfl, Nat.le_of_ble_eq_true rfl⟩) hS (fun q _ h => hFc q h) hFc (fun u t H1 locs ht hvm hw hB hz1 hk1 hS => ?_)
  obtain ⟨hP1, hK1, hD1⟩ := hB
  rw [ht] at hP1
  generalize u = f_5 at hP1 hD1
  obtain ⟨hP, hD⟩ := va_join (wr := [(b, .inr (0, [.ref d0, .ref p0, .null])), (d0, .inl (cD, 0, .inr (.inr (.inr (.inr (fun _ => none)))))), (p0, .inl (cP, 0, .inr (.inr (.inr (.inr (fun _ => none)))))), (q 1, .inl (cB, 3, .inr (.inr (.inr (.inr (fun _ => none)))))), (q 2, .inl (cU, 3, .inl (fun _ => 0))), (q 3, .inr (6, rF r 0 0 0 0 0 0 0 0))]) (w1 := [(x, .inr (9, gF q 0 (nI 4) (-1) (-1) b 0 0)), (q 0, .inl (cT, 900, .inl f_5))]) hP hD [0, 1] [2, 3, 4, 5, 6, 7] rfl rfl (by decide) (by decide) hk1 hFc hP1 hD1
  generalize H1 = H at hP hS ⊢
  have hP : va_P (dC, dI) vwCl [(b, .inr (0, [.ref d0, .ref p0, .null])), (d0, .inl (cD, 0, .inr (.inr (.inr (.inr (fun _ => none)))))), (p0, .inl (cP, 0, .inr (.inr (.inr (.inr (fun _ => none)))))), (q 1, .inl (cB, 3, .inr (.inr (.inr (.inr (fun _ => none)))))), (q 2, .inl (cU, 3, .inl (fun _ => 0))), (q 3, .inr (6, rF r 0 0 0 0 0 0 0 0)), (x, .inr (9, gF q 0 (nI 4) (-1) (-1) b 0 0)), (q 0, .inl (cT, 900, .inl f_5))] H := hP
  have hD : va_D A [(b, .inr (0, [.ref d0, .ref p0, .null])), (d0, .inl (cD, 0, .inr (.inr (.inr (.inr (fun _ => none)))))), (p0, .inl (cP, 0, .inr (.inr (.inr (.inr (fun _ => none)))))), (q 1, .inl (cB, 3, .inr (.inr (.inr (.inr (fun _ => none)))))), (q 2, .inl (cU, 3, .inl (fun _ => 0))), (q 3, .inr (6, rF r 0 0 0 0 0 0 0 0)), (x, .inr (9, gF q 0 (nI 4) (-1) (-1) b 0 0)), (q 0, .inl (cT, 900, .inl f_5))] := hD
  refine lv_aload_n hx hb dX9_feed_20 rfl (lv_at hl 0 rfl) ?_
  refine lv_iload_n hx hb dX9_feed_21 rfl (lv_at hl 2 rfl) ?_
  have hPc := hP.sub (ws' := [(x, .inr (9, gF q 0 (nI 4) (-1) (-1) b 0 0)), (q 0, .inl (cT, 900, .inl f_5))]) [6, 7] rfl
  have hKc := hK.sub (tys' := [(cT, .int)]) [0] rfl
  have hDc := hD.sub (ws' := [(x, .inr (9, gF q 0 (nI 4) (-1) (-1) b 0 0)), (q 0, .inl (cT, 900, .inl f_5))]) [6, 7] (by decide) rfl
  have hFc := va_free (wc := [(x, .inr (9, gF q 0 (nI 4) (-1) (-1) b 0 0)), (q 0, .inl (cT, 900, .inl f_5))]) hD hS hA [6, 7] rfl
  refine va_callv (va_runV (As := [.int i1]) (rest := []) ⟨hx, hb, hml, hown, hts⟩ (c_putBytes l dC dI x q 0 (-1) (-1) b 0 0 cT f_5 4 H.size i1 (by decide)) (cwV 1 hts mg_X9_feed_X9_putBytes_76 rfl rfl rfl (by decide +kernel) ⟨Nat.le_of_ble_eq_true rfl, Nat.le_of_ble_eq_true rfl⟩) ⟨fun a U g mk q => by obtain ⟨q0, q1, qP, qK, qD⟩ := q; exact ⟨q0, q1, qP, va_K.moved (u := U) (U := U.calling g mk a) (Vm.Alike.refl U.vm) qK, qD⟩, va_recv hKc hPc (ci := 9) (q0 := 0) rfl rfl, fun U hU hW => ⟨rfl, by rw [hU], by rw [hU]; exact hPc, va_K.moved hW.alike hKc, hDc.weaken (fun _ _ _ _ => trivial)⟩⟩ rfl rfl hl.1 rfl (lv_room (Nat.le_of_ble_eq_true rfl)) dX9_feed_22 ⟨Nat.le_of_ble_eq_true rfl, Nat.le_of_ble_eq_true rfl⟩) hS (fun q _ h => hFc q h) hFc (fun u t H1 locs ht hvm hw hB hz1 hk1 hS => ?_)
  obtain ⟨hP1, hK1, hD1⟩ := hB
  rw [ht] at hP1
  generalize u = f_8 at hP1 hD1
  obtain ⟨hP, hD⟩ := va_join (wr := [(b, .inr (0, [.ref d0, .ref p0, .null])), (d0, .inl (cD, 0, .inr (.inr (.inr (.inr (fun _ => none)))))), (p0, .inl (cP, 0, .inr (.inr (.inr (.inr (fun _ => none)))))), (q 1, .inl (cB, 3, .inr (.inr (.inr (.inr (fun _ => none)))))), (q 2, .inl (cU, 3, .inl (fun _ => 0))), (q 3, .inr (6, rF r 0 0 0 0 0 0 0 0))]) (w1 := [(x, .inr (9, gF q 0 (nI 8) (-1) (-1) b 0 0)), (q 0, .inl (cT, 900, .inl f_8))]) hP hD [6, 7] [0, 1, 2, 3, 4, 5] rfl rfl (by decide) (by decide) hk1 hFc hP1 hD1
  generalize H1 = H at hP hS ⊢
  have hP : va_P (dC, dI) vwCl [(b, .inr (0, [.ref d0, .ref p0, .null])), (d0, .inl (cD, 0, .inr (.inr (.inr (.inr (fun _ => none)))))), (p0, .inl (cP, 0, .inr (.inr (.inr (.inr (fun _ => none)))))), (q 1, .inl (cB, 3, .inr (.inr (.inr (.inr (fun _ => none)))))), (q 2, .inl (cU, 3, .inl (fun _ => 0))), (q 3, .inr (6, rF r 0 0 0 0 0 0 0 0)), (x, .inr (9, gF q 0 (nI 8) (-1) (-1) b 0 0)), (q 0, .inl (cT, 900, .inl f_8))] H := hP
  have hD : va_D A [(b, .inr (0, [.ref d0, .ref p0, .null])), (d0, .inl (cD, 0, .inr (.inr (.inr (.inr (fun _ => none)))))), (p0, .inl (cP, 0, .inr (.inr (.inr (.inr (fun _ => none)))))), (q 1, .inl (cB, 3, .inr (.inr (.inr (.inr (fun _ => none)))))), (q 2, .inl (cU, 3, .inl (fun _ => 0))), (q 3, .inr (6, rF r 0 0 0 0 0 0 0 0)), (x, .inr (9, gF q 0 (nI 8) (-1) (-1) b 0 0)), (q 0, .inl (cT, 900, .inl f_8))] := hD
  refine lv_aload_n hx hb dX9_feed_25 rfl (lv_at hl 0 rfl) ?_
  refine lv_iload_n hx hb dX9_feed_26 rfl (lv_at hl 3 rfl) ?_
  have hPc := hP.sub (ws' := [(x, .inr (9, gF q 0 (nI 8) (-1) (-1) b 0 0)), (q 0, .inl (cT, 900, .inl f_8))]) [6, 7] rfl
  have hKc := hK.sub (tys' := [(cT, .int)]) [0] rfl
  have hDc := hD.sub (ws' := [(x, .inr (9, gF q 0 (nI 8) (-1) (-1) b 0 0)), (q 0, .inl (cT, 900, .inl f_8))]) [6, 7] (by decide) rfl
  have hFc := va_free (wc := [(x, .inr (9, gF q 0 (nI 8) (-1) (-1) b 0 0)), (q 0, .inl (cT, 900, .inl f_8))]) hD hS hA [6, 7] rfl
  refine va_callv (va_runV (As := [.int i2]) (rest := []) ⟨hx, hb, hml, hown, hts⟩ (c_putBytes l dC dI x q 0 (-1) (-1) b 0 0 cT f_8 8 H.size i2 (by decide)) (cwV 1 hts mg_X9_feed_X9_putBytes_76 rfl rfl rfl (by decide +kernel) ⟨Nat.le_of_ble_eq_true rfl, Nat.le_of_ble_eq_true rfl⟩) ⟨fun a U g mk q => by obtain ⟨q0, q1, qP, qK, qD⟩ := q; exact ⟨q0, q1, qP, va_K.moved (u := U) (U := U.calling g mk a) (Vm.Alike.refl U.vm) qK, qD⟩, va_recv hKc hPc (ci := 9) (q0 := 0) rfl rfl, fun U hU hW => ⟨rfl, by rw [hU], by rw [hU]; exact hPc, va_K.moved hW.alike hKc, hDc.weaken (fun _ _ _ _ => trivial)⟩⟩ rfl rfl hl.1 rfl (lv_room (Nat.le_of_ble_eq_true rfl)) dX9_feed_27 ⟨Nat.le_of_ble_eq_true rfl, Nat.le_of_ble_eq_true rfl⟩) hS (fun q _ h => hFc q h) hFc (fun u t H1 locs ht hvm hw hB hz1 hk1 hS => ?_)
  obtain ⟨hP1, hK1, hD1⟩ := hB
  rw [ht] at hP1
  generalize u = f_11 at hP1 hD1
  obtain ⟨hP, hD⟩ := va_join (wr := [(b, .inr (0, [.ref d0, .ref p0, .null])), (d0, .inl (cD, 0, .inr (.inr (.inr (.inr (fun _ => none)))))), (p0, .inl (cP, 0, .inr (.inr (.inr (.inr (fun _ => none)))))), (q 1, .inl (cB, 3, .inr (.inr (.inr (.inr (fun _ => none)))))), (q 2, .inl (cU, 3, .inl (fun _ => 0))), (q 3, .inr (6, rF r 0 0 0 0 0 0 0 0))]) (w1 := [(x, .inr (9, gF q 0 (nI 12) (-1) (-1) b 0 0)), (q 0, .inl (cT, 900, .inl f_11))]) hP hD [6, 7] [0, 1, 2, 3, 4, 5] rfl rfl (by decide) (by decide) hk1 hFc hP1 hD1
  generalize H1 = H at hP hS ⊢
  have hP : va_P (dC, dI) vwCl [(b, .inr (0, [.ref d0, .ref p0, .null])), (d0, .inl (cD, 0, .inr (.inr (.inr (.inr (fun _ => none)))))), (p0, .inl (cP, 0, .inr (.inr (.inr (.inr (fun _ => none)))))), (q 1, .inl (cB, 3, .inr (.inr (.inr (.inr (fun _ => none)))))), (q 2, .inl (cU, 3, .inl (fun _ => 0))), (q 3, .inr (6, rF r 0 0 0 0 0 0 0 0)), (x, .inr (9, gF q 0 (nI 12) (-1) (-1) b 0 0)), (q 0, .inl (cT, 900, .inl f_11))] H := hP
  have hD : va_D A [(b, .inr (0, [.ref d0, .ref p0, .null])), (d0, .inl (cD, 0, .inr (.inr (.inr (.inr (fun _ => none)))))), (p0, .inl (cP, 0, .inr (.inr (.inr (.inr (fun _ => none)))))), (q 1, .inl (cB, 3, .inr (.inr (.inr (.inr (fun _ => none)))))), (q 2, .inl (cU, 3, .inl (fun _ => 0))), (q 3, .inr (6, rF r 0 0 0 0 0 0 0 0)), (x, .inr (9, gF q 0 (nI 12) (-1) (-1) b 0 0)), (q 0, .inl (cT, 900, .inl f_11))] := hD
  refine lv_aload_n hx hb dX9_feed_30 rfl (lv_at hl 0 rfl) ?_
  refine lv_iload hx hb dX9_feed_31 (lv_at hl 4 rfl) ?_
  have hPc := hP.sub (ws' := [(x, .inr (9, gF q 0 (nI 12) (-1) (-1) b 0 0)), (q 0, .inl (cT, 900, .inl f_11))]) [6, 7] rfl
  have hKc := hK.sub (tys' := [(cT, .int)]) [0] rfl
  have hDc := hD.sub (ws' := [(x, .inr (9, gF q 0 (nI 12) (-1) (-1) b 0 0)), (q 0, .inl (cT, 900, .inl f_11))]) [6, 7] (by decide) rfl
  have hFc := va_free (wc := [(x, .inr (9, gF q 0 (nI 12) (-1) (-1) b 0 0)), (q 0, .inl (cT, 900, .inl f_11))]) hD hS hA [6, 7] rfl
  refine va_callv (va_runV (As := [.int i3]) (rest := []) ⟨hx, hb, hml, hown, hts⟩ (c_putBytes l dC dI x q 0 (-1) (-1) b 0 0 cT f_11 12 H.size i3 (by decide)) (cwV 1 hts mg_X9_feed_X9_putBytes_76 rfl rfl rfl (by decide +kernel) ⟨Nat.le_of_ble_eq_true rfl, Nat.le_of_ble_eq_true rfl⟩) ⟨fun a U g mk q => by obtain ⟨q0, q1, qP, qK, qD⟩ := q; exact ⟨q0, q1, qP, va_K.moved (u := U) (U := U.calling g mk a) (Vm.Alike.refl U.vm) qK, qD⟩, va_recv hKc hPc (ci := 9) (q0 := 0) rfl rfl, fun U hU hW => ⟨rfl, by rw [hU], by rw [hU]; exact hPc, va_K.moved hW.alike hKc, hDc.weaken (fun _ _ _ _ => trivial)⟩⟩ rfl rfl hl.1 rfl (lv_room (Nat.le_of_ble_eq_true rfl)) dX9_feed_33 ⟨Nat.le_of_ble_eq_true rfl, Nat.le_of_ble_eq_true rfl⟩) hS (fun q _ h => hFc q h) hFc (fun u t H1 locs ht hvm hw hB hz1 hk1 hS => ?_)
  obtain ⟨hP1, hK1, hD1⟩ := hB
  rw [ht] at hP1
  generalize u = f_14 at hP1 hD1
  obtain ⟨hP, hD⟩ := va_join (wr := [(b, .inr (0, [.ref d0, .ref p0, .null])), (d0, .inl (cD, 0, .inr (.inr (.inr (.inr (fun _ => none)))))), (p0, .inl (cP, 0, .inr (.inr (.inr (.inr (fun _ => none)))))), (q 1, .inl (cB, 3, .inr (.inr (.inr (.inr (fun _ => none)))))), (q 2, .inl (cU, 3, .inl (fun _ => 0))), (q 3, .inr (6, rF r 0 0 0 0 0 0 0 0))]) (w1 := [(x, .inr (9, gF q 0 (nI 16) (-1) (-1) b 0 0)), (q 0, .inl (cT, 900, .inl f_14))]) hP hD [6, 7] [0, 1, 2, 3, 4, 5] rfl rfl (by decide) (by decide) hk1 hFc hP1 hD1
  generalize H1 = H at hP hS ⊢
  have hP : va_P (dC, dI) vwCl [(b, .inr (0, [.ref d0, .ref p0, .null])), (d0, .inl (cD, 0, .inr (.inr (.inr (.inr (fun _ => none)))))), (p0, .inl (cP, 0, .inr (.inr (.inr (.inr (fun _ => none)))))), (q 1, .inl (cB, 3, .inr (.inr (.inr (.inr (fun _ => none)))))), (q 2, .inl (cU, 3, .inl (fun _ => 0))), (q 3, .inr (6, rF r 0 0 0 0 0 0 0 0)), (x, .inr (9, gF q 0 (nI 16) (-1) (-1) b 0 0)), (q 0, .inl (cT, 900, .inl f_14))] H := hP
  have hD : va_D A [(b, .inr (0, [.ref d0, .ref p0, .null])), (d0, .inl (cD, 0, .inr (.inr (.inr (.inr (fun _ => none)))))), (p0, .inl (cP, 0, .inr (.inr (.inr (.inr (fun _ => none)))))), (q 1, .inl (cB, 3, .inr (.inr (.inr (.inr (fun _ => none)))))), (q 2, .inl (cU, 3, .inl (fun _ => 0))), (q 3, .inr (6, rF r 0 0 0 0 0 0 0 0)), (x, .inr (9, gF q 0 (nI 16) (-1) (-1) b 0 0)), (q 0, .inl (cT, 900, .inl f_14))] := hD
  refine lv_aload_n hx hb dX9_feed_36 rfl (lv_at hl 0 rfl) ?_
  refine lv_iload hx hb dX9_feed_37 (lv_at hl 5 rfl) ?_
  have hPc := hP.sub (ws' := [(x, .inr (9, gF q 0 (nI 16) (-1) (-1) b 0 0)), (q 0, .inl (cT, 900, .inl f_14))]) [6, 7] rfl
  have hKc := hK.sub (tys' := [(cT, .int)]) [0] rfl
  have hDc := hD.sub (ws' := [(x, .inr (9, gF q 0 (nI 16) (-1) (-1) b 0 0)), (q 0, .inl (cT, 900, .inl f_14))]) [6, 7] (by decide) rfl
  have hFc := va_free (wc := [(x, .inr (9, gF q 0 (nI 16) (-1) (-1) b 0 0)), (q 0, .inl (cT, 900, .inl f_14))]) hD hS hA [6, 7] rfl
  refine va_callv (va_runV (As := [.int i4]) (rest := []) ⟨hx, hb, hml, hown, hts⟩ (c_putBytes l dC dI x q 0 (-1) (-1) b 0 0 cT f_14 16 H.size i4 (by decide)) (cwV 1 hts mg_X9_feed_X9_putBytes_76 rfl rfl rfl (by decide +kernel) ⟨Nat.le_of_ble_eq_true rfl, Nat.le_of_ble_eq_true rfl⟩) ⟨fun a U g mk q => by obtain ⟨q0, q1, qP, qK, qD⟩ := q; exact ⟨q0, q1, qP, va_K.moved (u := U) (U := U.calling g mk a) (Vm.Alike.refl U.vm) qK, qD⟩, va_recv hKc hPc (ci := 9) (q0 := 0) rfl rfl, fun U hU hW => ⟨rfl, by rw [hU], by rw [hU]; exact hPc, va_K.moved hW.alike hKc, hDc.weaken (fun _ _ _ _ => trivial)⟩⟩ rfl rfl hl.1 rfl (lv_room (Nat.le_of_ble_eq_true rfl)) dX9_feed_39 ⟨Nat.le_of_ble_eq_true rfl, Nat.le_of_ble_eq_true rfl⟩) hS (fun q _ h => hFc q h) hFc (fun u t H1 locs ht hvm hw hB hz1 hk1 hS => ?_)
  obtain ⟨hP1, hK1, hD1⟩ := hB
  rw [ht] at hP1
  generalize u = f_17 at hP1 hD1
  obtain ⟨hP, hD⟩ := va_join (wr := [(b, .inr (0, [.ref d0, .ref p0, .null])), (d0, .inl (cD, 0, .inr (.inr (.inr (.inr (fun _ => none)))))), (p0, .inl (cP, 0, .inr (.inr (.inr (.inr (fun _ => none)))))), (q 1, .inl (cB, 3, .inr (.inr (.inr (.inr (fun _ => none)))))), (q 2, .inl (cU, 3, .inl (fun _ => 0))), (q 3, .inr (6, rF r 0 0 0 0 0 0 0 0))]) (w1 := [(x, .inr (9, gF q 0 (nI 20) (-1) (-1) b 0 0)), (q 0, .inl (cT, 900, .inl f_17))]) hP hD [6, 7] [0, 1, 2, 3, 4, 5] rfl rfl (by decide) (by decide) hk1 hFc hP1 hD1
  generalize H1 = H at hP hS ⊢
  have hP : va_P (dC, dI) vwCl [(b, .inr (0, [.ref d0, .ref p0, .null])), (d0, .inl (cD, 0, .inr (.inr (.inr (.inr (fun _ => none)))))), (p0, .inl (cP, 0, .inr (.inr (.inr (.inr (fun _ => none)))))), (q 1, .inl (cB, 3, .inr (.inr (.inr (.inr (fun _ => none)))))), (q 2, .inl (cU, 3, .inl (fun _ => 0))), (q 3, .inr (6, rF r 0 0 0 0 0 0 0 0)), (x, .inr (9, gF q 0 (nI 20) (-1) (-1) b 0 0)), (q 0, .inl (cT, 900, .inl f_17))] H := hP
  have hD : va_D A [(b, .inr (0, [.ref d0, .ref p0, .null])), (d0, .inl (cD, 0, .inr (.inr (.inr (.inr (fun _ => none)))))), (p0, .inl (cP, 0, .inr (.inr (.inr (.inr (fun _ => none)))))), (q 1, .inl (cB, 3, .inr (.inr (.inr (.inr (fun _ => none)))))), (q 2, .inl (cU, 3, .inl (fun _ => 0))), (q 3, .inr (6, rF r 0 0 0 0 0 0 0 0)), (x, .inr (9, gF q 0 (nI 20) (-1) (-1) b 0 0)), (q 0, .inl (cT, 900, .inl f_17))] := hD
  refine lv_aload_n hx hb dX9_feed_42 rfl (lv_at hl 0 rfl) ?_
  refine va_get (D := (dC, dI)) (ci := 9) (v := .int (nI 20)) (C := RX9) (T := TX9) (N := 16) hx hb hts fin_X9_feed_X9 hown hK hP 6 rfl rfl 2 (by decide) (hts (.fieldLink RX9 73 "PatternGate" "taped" "I") (List.mem_of_getElem? (i := 1) (by decide +kernel))) (fun _ h9 => h9) rfl dX9_feed_43 ?_
  exact W.iret hx hb hr (fun t ht hW => ⟨⟨_, (), rfl, rfl, trivial⟩, hS.F ht⟩) hS.2.2 dX9_feed_46
end
section
theorem dX6_read_0 : decode cX6_read 0 = .ok (.aload_n 0, 1) := by decide +kernel
theorem dX6_read_1 : decode cX6_read 1 = .ok (.iconst 0, 1) := by decide +kernel
theorem dX6_read_2 : decode cX6_read 2 = .ok (.putfield 22, 3) := by decide +kernel
theorem dX6_read_5 : decode cX6_read 5 = .ok (.aload_n 0, 1) := by decide +kernel
theorem dX6_read_6 : decode cX6_read 6 = .ok (.iconst (-1), 1) := by decide +kernel
theorem dX6_read_7 : decode cX6_read 7 = .ok (.putfield 26, 3) := by decide +kernel
theorem dX6_read_10 : decode cX6_read 10 = .ok (.aload_n 0, 1) := by decide +kernel
theorem dX6_read_11 : decode cX6_read 11 = .ok (.iconst 0, 1) := by decide +kernel
theorem dX6_read_12 : decode cX6_read 12 = .ok (.putfield 29, 3) := by decide +kernel
theorem dX6_read_15 : decode cX6_read 15 = .ok (.aload_n 0, 1) := by decide +kernel
theorem dX6_read_16 : decode cX6_read 16 = .ok (.iconst 0, 1) := by decide +kernel
theorem dX6_read_17 : decode cX6_read 17 = .ok (.putfield 32, 3) := by decide +kernel
theorem dX6_read_20 : decode cX6_read 20 = .ok (.aload_n 0, 1) := by decide +kernel
theorem dX6_read_21 : decode cX6_read 21 = .ok (.iconst 0, 1) := by decide +kernel
theorem dX6_read_22 : decode cX6_read 22 = .ok (.putfield 35, 3) := by decide +kernel
theorem dX6_read_25 : decode cX6_read 25 = .ok (.aload_n 0, 1) := by decide +kernel
theorem dX6_read_26 : decode cX6_read 26 = .ok (.iload_n 3, 1) := by decide +kernel
theorem dX6_read_27 : decode cX6_read 27 = .ok (.putfield 38, 3) := by decide +kernel
theorem dX6_read_30 : decode cX6_read 30 = .ok (.aload_n 0, 1) := by decide +kernel
theorem dX6_read_31 : decode cX6_read 31 = .ok (.iload 4, 2) := by decide +kernel
theorem dX6_read_33 : decode cX6_read 33 = .ok (.putfield 41, 3) := by decide +kernel
theorem dX6_read_36 : decode cX6_read 36 = .ok (.aload_n 0, 1) := by decide +kernel
theorem dX6_read_37 : decode cX6_read 37 = .ok (.iconst 0, 1) := by decide +kernel
theorem dX6_read_38 : decode cX6_read 38 = .ok (.putfield 44, 3) := by decide +kernel
theorem dX6_read_41 : decode cX6_read 41 = .ok (.iload_n 2, 1) := by decide +kernel
theorem dX6_read_42 : decode cX6_read 42 = .ok (.aload_n 1, 1) := by decide +kernel
theorem dX6_read_43 : decode cX6_read 43 = .ok (.arraylength, 1) := by decide +kernel
theorem dX6_read_44 : decode cX6_read 44 = .ok (.invokestatic 47, 3) := by decide +kernel
theorem dX6_read_47 : decode cX6_read 47 = .ok (.istore 5, 2) := by decide +kernel
theorem dX6_read_49 : decode cX6_read 49 = .ok (.iconst 0, 1) := by decide +kernel
theorem dX6_read_50 : decode cX6_read 50 = .ok (.istore 6, 2) := by decide +kernel
theorem dX6_read_52 : decode cX6_read 52 = .ok (.iload 6, 2) := by decide +kernel
theorem dX6_read_54 : decode cX6_read 54 = .ok (.iload 5, 2) := by decide +kernel
theorem dX6_read_56 : decode cX6_read 56 = .ok (.if_icmp .ge 112, 3) := by decide +kernel
theorem dX6_read_168 : decode cX6_read 168 = .ok (.aload_n 0, 1) := by decide +kernel
theorem dX6_read_169 : decode cX6_read 169 = .ok (.getfield 22, 3) := by decide +kernel
theorem dX6_read_172 : decode cX6_read 172 = .ok (.ifCond .ne 17, 3) := by decide +kernel
theorem dX6_read_175 : decode cX6_read 175 = .ok (.aload_n 0, 1) := by decide +kernel
theorem dX6_read_176 : decode cX6_read 176 = .ok (.getfield 44, 3) := by decide +kernel
theorem dX6_read_179 : decode cX6_read 179 = .ok (.ifCond .eq 10, 3) := by decide +kernel
theorem dX6_read_189 : decode cX6_read 189 = .ok (.aload_n 0, 1) := by decide +kernel
theorem dX6_read_190 : decode cX6_read 190 = .ok (.getfield 22, 3) := by decide +kernel
theorem dX6_read_193 : decode cX6_read 193 = .ok (.ifCond .ne 7, 3) := by decide +kernel
theorem dX6_read_196 : decode cX6_read 196 = .ok (.iconst 1, 1) := by decide +kernel
theorem dX6_read_197 : decode cX6_read 197 = .ok (.goto 4, 3) := by decide +kernel
theorem dX6_read_201 : decode cX6_read 201 = .ok (.ireturn, 1) := by decide +kernel
def mwX6_read : List Cond := .code yX6_read cX6_read 8 (some .boolean) :: ([.fieldLink RX6 22 "PatternGate$Reader" "faultKind" "I", .fieldLink RX6 26 "PatternGate$Reader" "faultPlace" "I", .fieldLink RX6 29 "PatternGate$Reader" "lines" "I", .fieldLink RX6 32 "PatternGate$Reader" "newDocs" "I", .fieldLink RX6 35 "PatternGate$Reader" "newPatterns" "I", .fieldLink RX6 38 "PatternGate$Reader" "docsAhead" "I", .fieldLink RX6 41 "PatternGate$Reader" "patternsAhead" "I", .fieldLink RX6 44 "PatternGate$Reader" "wanted" "I", .methodLink RX6 47 Lib.Math.min.name, .static Lib.Math.min.name, .initialized "java/lang/Math", .code Lib.Math.min.name Lib.Math.min.code 2 (some .int)] ++ wsX60)
theorem fin_X6_read_X6 : ∀ w ∈ wsX60, w ∈ mwX6_read := fun w h => List.mem_cons_of_mem _ (List.mem_append_right _ h)
set_option maxHeartbeats 4000000 in
set_option maxRecDepth 100000 in
/-- read: no bytes, no FAULT -/
theorem c_read (l : Launch) (dC : Nat → ClassId) (dI : Nat → Nat → Nat) (rd ta : Nat) (r : Nat → Nat) (a0 a1 a2 a3 a4 a5 a6 a7 : Int32) (cT : ClassId) (f : Nat → Int32) (sz : Nat) (i2 i3 : Int32) : Met l yX6_read mwX6_read ({ frames := 1, cells := 0, slots := 0, locals := 60 }) (va_Pc [.ref rd, .ref ta, .int 0, .int i2, .int i3] (fun U => U.heap.size = sz ∧ va_P (dC, dI) vwCl ([(rd, .inr (6, rF r a0 a1 a2 a3 a4 a5 a6 a7)), (ta, .inl (cT, 900, .inl f))]) U.heap ∧ va_K (dC, dI) vwCl ([(cT, .int)]) U ∧ va_D (fun _ => True) ([(rd, .inr (6, rF r a0 a1 a2 a3 a4 a5 a6 a7)), (ta, .inl (cT, 900, .inl f))]))) (va_Qi (fun (o : Int32) (_ : Unit) => o = 1) (fun _ t => va_P (dC, dI) vwCl [(rd, .inr (6, rF r 0 (-1) 0 0 0 i2 i3 0)), (ta, .inl (cT, 900, .inl f))] t.heap ∧ va_K (dC, dI) vwCl [(cT, .int)] t ∧ va_D (va_A ([(rd, .inr (6, rF r a0 a1 a2 a3 a4 a5 a6 a7)), (ta, .inl (cT, 900, .inl f))]) sz) [(rd, .inr (6, rF r 0 (-1) 0 0 0 i2 i3 0)), (ta, .inl (cT, 900, .inl f))]) (va_A ([(rd, .inr (6, rF r a0 a1 a2 a3 a4 a5 a6 a7)), (ta, .inl (cT, 900, .inl f))]) sz)) 0 0 (va_A ([(rd, .inr (6, rF r a0 a1 a2 a3 a4 a5 a6 a7)), (ta, .inl (cT, 900, .inl f))]) sz) := by
  refine Met.ofW (cc := cX6_read) (maxL := 8) (ret := (some .boolean)) (by decide +kernel) rfl ?_
  intro p e s m args below meth c s₁ B hml hv
  obtain ⟨rfl, hsz, hP, hK, hD0⟩ := hv
  have hx := B.exec
  have hb := B.bytes
  have hr := B.returns
  have hts := atoms_spec (ws := mwX6_read) B.pre
  have hown : s.vm.findClass RX6 = some m.cls := findClass_of_methodNamed B.named
  have hlocks := B.notSynchronized
  subst hsz
  have hD := hD0.self (sz := s.heap.size)
  generalize hAe : va_A ([(rd, .inr (6, rF r a0 a1 a2 a3 a4 a5 a6 a7)), (ta, .inl (cT, 900, .inl f))]) s.heap.size = A at hD ⊢
  have hA : ∀ q : Nat, s.heap.size ≤ q → A q := fun q h => by rw [← hAe]; exact Or.inr h
  have hP : va_P (dC, dI) vwCl [(rd, .inr (6, rF r a0 a1 a2 a3 a4 a5 a6 a7)), (ta, .inl (cT, 900, .inl f))] s.heap := hP
  have hD : va_D A [(rd, .inr (6, rF r a0 a1 a2 a3 a4 a5 a6 a7)), (ta, .inl (cT, 900, .inl f))] := hD
  have hK : va_K (dC, dI) vwCl [(cT, .int)] s := hK
  generalize hH : s.heap = H at hP ⊢
  have hS : va_S A s.heap H [] := by rw [← hH]; exact va_S.rf
  have hl := lv_entry ([.ref rd, .ref ta, .int 0, .int i2, .int i3]) (n := 8) (Nat.le_of_ble_eq_true rfl)
  rw [lg_entry_eq]
  generalize (lg_sl ([.ref rd, .ref ta, .int 0, .int i2, .int i3]) ++ List.replicate (8 - (lg_sl ([.ref rd, .ref ta, .int 0, .int i2, .int i3])).length) Slot.unset).toArray = ls at hl ⊢
  have hl : lv_has ls 8 [(0, .ref rd), (1, .ref ta), (2, .int 0), (3, .int i2), (4, .int i3)] := hl
  refine lv_aload_n hx hb dX6_read_0 rfl (lv_at hl 0 rfl) ?_
  refine lv_iconst (v := 0) hx hb dX6_read_1 (by decide) ?_
  refine va_put (D := (dC, dI)) (ci := 6) (v := .int 0) (ty := .int) (C := RX6) (T := TX6) (N := 11) hx hb hts fin_X6_read_X6 tyX6 tyX6_ok nmX6 hown hK hP hD hS 0 rfl rfl 0 (by decide) (hts (.fieldLink RX6 22 "PatternGate$Reader" "faultKind" "I") (List.mem_of_getElem? (i := 1) (by decide +kernel))) (fun _ h9 => h9) rfl (by decide +kernel) rfl rfl (Nat.le_of_ble_eq_true rfl) dX6_read_2 (fun H locs hP hD hS => ?_)
  have hP : va_P (dC, dI) vwCl [(rd, .inr (6, rF r 0 a1 a2 a3 a4 a5 a6 a7)), (ta, .inl (cT, 900, .inl f))] H := hP
  have hD : va_D A [(rd, .inr (6, rF r 0 a1 a2 a3 a4 a5 a6 a7)), (ta, .inl (cT, 900, .inl f))] := hD
  refine lv_aload_n hx hb dX6_read_5 rfl (lv_at hl 0 rfl) ?_
  refine lv_iconst (v := (-1)) hx hb dX6_read_6 (by decide) ?_
  refine va_put (D := (dC, dI)) (ci := 6) (v := .int (-1)) (ty := .int) (C := RX6) (T := TX6) (N := 11) hx hb hts fin_X6_read_X6 tyX6 tyX6_ok nmX6 hown hK hP hD hS 0 rfl rfl 1 (by decide) (hts (.fieldLink RX6 26 "PatternGate$Reader" "faultPlace" "I") (List.mem_of_getElem? (i := 2) (by decide +kernel))) (fun _ h9 => h9) rfl (by decide +kernel) rfl rfl (Nat.le_of_ble_eq_true rfl) dX6_read_7 (fun H locs hP hD hS => ?_)
  have hP : va_P (dC, dI) vwCl [(rd, .inr (6, rF r 0 (-1) a2 a3 a4 a5 a6 a7)), (ta, .inl (cT, 900, .inl f))] H := hP
  have hD : va_D A [(rd, .inr (6, rF r 0 (-1) a2 a3 a4 a5 a6 a7)), (ta, .inl (cT, 900, .inl f))] := hD
  refine lv_aload_n hx hb dX6_read_10 rfl (lv_at hl 0 rfl) ?_
  refine lv_iconst (v := 0) hx hb dX6_read_11 (by decide) ?_
  refine va_put (D := (dC, dI)) (ci := 6) (v := .int 0) (ty := .int) (C := RX6) (T := TX6) (N := 11) hx hb hts fin_X6_read_X6 tyX6 tyX6_ok nmX6 hown hK hP hD hS 0 rfl rfl 2 (by decide) (hts (.fieldLink RX6 29 "PatternGate$Reader" "lines" "I") (List.mem_of_getElem? (i := 3) (by decide +kernel))) (fun _ h9 => h9) rfl (by decide +kernel) rfl rfl (Nat.le_of_ble_eq_true rfl) dX6_read_12 (fun H locs hP hD hS => ?_)
  have hP : va_P (dC, dI) vwCl [(rd, .inr (6, rF r 0 (-1) 0 a3 a4 a5 a6 a7)), (ta, .inl (cT, 900, .inl f))] H := hP
  have hD : va_D A [(rd, .inr (6, rF r 0 (-1) 0 a3 a4 a5 a6 a7)), (ta, .inl (cT, 900, .inl f))] := hD
  refine lv_aload_n hx hb dX6_read_15 rfl (lv_at hl 0 rfl) ?_
  refine lv_iconst (v := 0) hx hb dX6_read_16 (by decide) ?_
  refine va_put (D := (dC, dI)) (ci := 6) (v := .int 0) (ty := .int) (C := RX6) (T := TX6) (N := 11) hx hb hts fin_X6_read_X6 tyX6 tyX6_ok nmX6 hown hK hP hD hS 0 rfl rfl 3 (by decide) (hts (.fieldLink RX6 32 "PatternGate$Reader" "newDocs" "I") (List.mem_of_getElem? (i := 4) (by decide +kernel))) (fun _ h9 => h9) rfl (by decide +kernel) rfl rfl (Nat.le_of_ble_eq_true rfl) dX6_read_17 (fun H locs hP hD hS => ?_)
  have hP : va_P (dC, dI) vwCl [(rd, .inr (6, rF r 0 (-1) 0 0 a4 a5 a6 a7)), (ta, .inl (cT, 900, .inl f))] H := hP
  have hD : va_D A [(rd, .inr (6, rF r 0 (-1) 0 0 a4 a5 a6 a7)), (ta, .inl (cT, 900, .inl f))] := hD
  refine lv_aload_n hx hb dX6_read_20 rfl (lv_at hl 0 rfl) ?_
  refine lv_iconst (v := 0) hx hb dX6_read_21 (by decide) ?_
  refine va_put (D := (dC, dI)) (ci := 6) (v := .int 0) (ty := .int) (C := RX6) (T := TX6) (N := 11) hx hb hts fin_X6_read_X6 tyX6 tyX6_ok nmX6 hown hK hP hD hS 0 rfl rfl 4 (by decide) (hts (.fieldLink RX6 35 "PatternGate$Reader" "newPatterns" "I") (List.mem_of_getElem? (i := 5) (by decide +kernel))) (fun _ h9 => h9) rfl (by decide +kernel) rfl rfl (Nat.le_of_ble_eq_true rfl) dX6_read_22 (fun H locs hP hD hS => ?_)
  have hP : va_P (dC, dI) vwCl [(rd, .inr (6, rF r 0 (-1) 0 0 0 a5 a6 a7)), (ta, .inl (cT, 900, .inl f))] H := hP
  have hD : va_D A [(rd, .inr (6, rF r 0 (-1) 0 0 0 a5 a6 a7)), (ta, .inl (cT, 900, .inl f))] := hD
  refine lv_aload_n hx hb dX6_read_25 rfl (lv_at hl 0 rfl) ?_
  refine lv_iload_n hx hb dX6_read_26 rfl (lv_at hl 3 rfl) ?_
  refine va_put (D := (dC, dI)) (ci := 6) (v := .int i2) (ty := .int) (C := RX6) (T := TX6) (N := 11) hx hb hts fin_X6_read_X6 tyX6 tyX6_ok nmX6 hown hK hP hD hS 0 rfl rfl 8 (by decide) (hts (.fieldLink RX6 38 "PatternGate$Reader" "docsAhead" "I") (List.mem_of_getElem? (i := 6) (by decide +kernel))) (fun _ h9 => h9) rfl (by decide +kernel) rfl rfl (Nat.le_of_ble_eq_true rfl) dX6_read_27 (fun H locs hP hD hS => ?_)
  have hP : va_P (dC, dI) vwCl [(rd, .inr (6, rF r 0 (-1) 0 0 0 i2 a6 a7)), (ta, .inl (cT, 900, .inl f))] H := hP
  have hD : va_D A [(rd, .inr (6, rF r 0 (-1) 0 0 0 i2 a6 a7)), (ta, .inl (cT, 900, .inl f))] := hD
  refine lv_aload_n hx hb dX6_read_30 rfl (lv_at hl 0 rfl) ?_
  refine lv_iload hx hb dX6_read_31 (lv_at hl 4 rfl) ?_
  refine va_put (D := (dC, dI)) (ci := 6) (v := .int i3) (ty := .int) (C := RX6) (T := TX6) (N := 11) hx hb hts fin_X6_read_X6 tyX6 tyX6_ok nmX6 hown hK hP hD hS 0 rfl rfl 9 (by decide) (hts (.fieldLink RX6 41 "PatternGate$Reader" "patternsAhead" "I") (List.mem_of_getElem? (i := 7) (by decide +kernel))) (fun _ h9 => h9) rfl (by decide +kernel) rfl rfl (Nat.le_of_ble_eq_true rfl) dX6_read_33 (fun H locs hP hD hS => ?_)
  have hP : va_P (dC, dI) vwCl [(rd, .inr (6, rF r 0 (-1) 0 0 0 i2 i3 a7)), (ta, .inl (cT, 900, .inl f))] H := hP
  have hD : va_D A [(rd, .inr (6, rF r 0 (-1) 0 0 0 i2 i3 a7)), (ta, .inl (cT, 900, .inl f))] := hD
  refine lv_aload_n hx hb dX6_read_36 rfl (lv_at hl 0 rfl) ?_
  refine lv_iconst (v := 0) hx hb dX6_read_37 (by decide) ?_
  refine va_put (D := (dC, dI)) (ci := 6) (v := .int 0) (ty := .int) (C := RX6) (T := TX6) (N := 11) hx hb hts fin_X6_read_X6 tyX6 tyX6_ok nmX6 hown hK hP hD hS 0 rfl rfl 10 (by decide) (hts (.fieldLink RX6 44 "PatternGate$Reader" "wanted" "I") (List.mem_of_getElem? (i := 8) (by decide +kernel))) (fun _ h9 => h9) rfl (by decide +kernel) rfl rfl (Nat.le_of_ble_eq_true rfl) dX6_read_38 (fun H locs hP hD hS => ?_)
  have hP : va_P (dC, dI) vwCl [(rd, .inr (6, rF r 0 (-1) 0 0 0 i2 i3 0)), (ta, .inl (cT, 900, .inl f))] H := hP
  have hD : va_D A [(rd, .inr (6, rF r 0 (-1) 0 0 0 i2 i3 0)), (ta, .inl (cT, 900, .inl f))] := hD
  refine lv_iload_n hx hb dX6_read_41 rfl (lv_at hl 2 rfl) ?_
  refine lv_aload_n hx hb dX6_read_42 rfl (lv_at hl 1 rfl) ?_
  refine va_alen (v := 900) hx hb hK hP 1 0 rfl rfl rfl dX6_read_43 ?_
  refine va_mmin hx hb (hml.trans hl.1.symm) hown (hts (.methodLink RX6 47 Lib.Math.min.name) (List.mem_of_getElem? (i := 9) (by decide +kernel))) (hts (.static Lib.Math.min.name) (List.mem_of_getElem? (i := 10) (by decide +kernel))) (hts (.initialized "java/lang/Math") (List.mem_of_getElem? (i := 11) (by decide +kernel))) (hts (.code Lib.Math.min.name Lib.Math.min.code 2 (some .int)) (List.mem_of_getElem? (i := 12) (by decide +kernel))) (Nat.le_of_ble_eq_true rfl) (Nat.le_of_ble_eq_true rfl) (Nat.le_of_ble_eq_true rfl) (Nat.le_of_ble_eq_true rfl) dX6_read_44 ?_
  refine lv_topi (fun y_1 ey_1 => ?_)
  obtain rfl : y_1 = 0 := ey_1.trans (by first | rfl | decide)
  refine lv_istore (lv' := [(5, .int 0), (0, .ref rd), (1, .ref ta), (2, .int 0), (3, .int i2), (4, .int i3)]) hx hb dX6_read_47 hl (by decide) rfl (fun ls hl => ?_)
  refine lv_iconst (v := 0) hx hb dX6_read_49 (by decide) ?_
  refine lv_istore (lv' := [(6, .int 0), (5, .int 0), (0, .ref rd), (1, .ref ta), (2, .int 0), (3, .int i2), (4, .int i3)]) hx hb dX6_read_50 hl (by decide) rfl (fun ls hl => ?_)
  refine lv_iload hx hb dX6_read_52 (lv_at hl 0 rfl) ?_
  refine lv_iload hx hb dX6_read_54 (lv_at hl 1 rfl) ?_
  refine lv_icmp_ge (tgt := 168) hx hb dX6_read_56 (by decide) (fun k_2 => ?_) (fun k_2 => absurd (by decide) k_2)
  refine lv_aload_n hx hb dX6_read_168 rfl (lv_at hl 2 rfl) ?_
  refine va_get (D := (dC, dI)) (ci := 6) (v := .int 0) (C := RX6) (T := TX6) (N := 11) hx hb hts fin_X6_read_X6 hown hK hP 0 rfl rfl 0 (by decide) (hts (.fieldLink RX6 22 "PatternGate$Reader" "faultKind" "I") (List.mem_of_getElem? (i := 1) (by decide +kernel))) (fun _ h9 => h9) rfl dX6_read_169 ?_
  refine lv_if_ne (tgt := 189) hx hb dX6_read_172 (by decide) (fun k_3 => absurd (by decide) k_3) (fun k_3 => ?_)
  refine lv_aload_n hx hb dX6_read_175 rfl (lv_at hl 2 rfl) ?_
  refine va_get (D := (dC, dI)) (ci := 6) (v := .int 0) (C := RX6) (T := TX6) (N := 11) hx hb hts fin_X6_read_X6 hown hK hP 0 rfl rfl 10 (by decide) (hts (.fieldLink RX6 44 "PatternGate$Reader" "wanted" "I") (List.mem_of_getElem? (i := 8) (by decide +kernel))) (fun _ h9 => h9) rfl dX6_read_176 ?_
  refine lv_if_eq (tgt := 189) hx hb dX6_read_179 (by decide) (fun k_4 => ?_) (fun k_4 => absurd (by decide) k_4)
  refine lv_aload_n hx hb dX6_read_189 rfl (lv_at hl 2 rfl) ?_
  refine va_get (D := (dC, dI)) (ci := 6) (v := .int 0) (C := RX6) (T := TX6) (N := 11) hx hb hts fin_X6_read_X6 hown hK hP 0 rfl rfl 0 (by decide) (hts (.fieldLink RX6 22 "PatternGate$Reader" "faultKind" "I") (List.mem_of_getElem? (i := 1) (by decide +kernel))) (fun _ h9 => h9) rfl dX6_read_190 ?_
  refine lv_if_ne (tgt := 200) hx hb dX6_read_193 (by decide) (fun k_5 => absurd (by decide) k_5) (fun k_5 => ?_)
  refine lv_iconst (v := 1) hx hb dX6_read_196 (by decide) ?_
  refine lv_goto (tgt := 201) hx hb dX6_read_197 (by decide) ?_
  have hP9 := hP.sub (ws' := [(rd, .inr (6, rF r 0 (-1) 0 0 0 i2 i3 0)), (ta, .inl (cT, 900, .inl f))]) [0, 1] rfl
  have hD9 := hD.sub (ws' := [(rd, .inr (6, rF r 0 (-1) 0 0 0 i2 i3 0)), (ta, .inl (cT, 900, .inl f))]) [0, 1] (by decide) rfl
  have hK9 := hK.sub (tys' := [(cT, .int)]) [0] rfl
  exact W.zret hx hb hr rfl (fun t ht hW => ⟨⟨_, (), rfl, rfl, by rw [ht]; exact hP9, va_K.moved hW.alike hK9, hD9⟩, hS.F ht⟩) hS.2.2 dX6_read_201
theorem dX9_readTape_0 : decode cX9_readTape 0 = .ok (.aload_n 0, 1) := by decide +kernel
theorem dX9_readTape_1 : decode cX9_readTape 1 = .ok (.getfield 43, 3) := by decide +kernel
theorem dX9_readTape_4 : decode cX9_readTape 4 = .ok (.aload_n 0, 1) := by decide +kernel
theorem dX9_readTape_5 : decode cX9_readTape 5 = .ok (.getfield 9, 3) := by decide +kernel
theorem dX9_readTape_8 : decode cX9_readTape 8 = .ok (.iload_n 1, 1) := by decide +kernel
theorem dX9_readTape_9 : decode cX9_readTape 9 = .ok (.iload_n 2, 1) := by decide +kernel
theorem dX9_readTape_10 : decode cX9_readTape 10 = .ok (.iload_n 3, 1) := by decide +kernel
theorem dX9_readTape_11 : decode cX9_readTape 11 = .ok (.invokevirtual 293, 3) := by decide +kernel
theorem dX9_readTape_14 : decode cX9_readTape 14 = .ok (.istore 4, 2) := by decide +kernel
theorem dX9_readTape_16 : decode cX9_readTape 16 = .ok (.aload_n 0, 1) := by decide +kernel
theorem dX9_readTape_17 : decode cX9_readTape 17 = .ok (.aload_n 0, 1) := by decide +kernel
theorem dX9_readTape_18 : decode cX9_readTape 18 = .ok (.getfield 43, 3) := by decide +kernel
theorem dX9_readTape_21 : decode cX9_readTape 21 = .ok (.getfield 297, 3) := by decide +kernel
theorem dX9_readTape_24 : decode cX9_readTape 24 = .ok (.putfield 13, 3) := by decide +kernel
theorem dX9_readTape_27 : decode cX9_readTape 27 = .ok (.aload_n 0, 1) := by decide +kernel
theorem dX9_readTape_28 : decode cX9_readTape 28 = .ok (.aload_n 0, 1) := by decide +kernel
theorem dX9_readTape_29 : decode cX9_readTape 29 = .ok (.getfield 43, 3) := by decide +kernel
theorem dX9_readTape_32 : decode cX9_readTape 32 = .ok (.getfield 298, 3) := by decide +kernel
theorem dX9_readTape_35 : decode cX9_readTape 35 = .ok (.putfield 17, 3) := by decide +kernel
theorem dX9_readTape_38 : decode cX9_readTape 38 = .ok (.aload_n 0, 1) := by decide +kernel
theorem dX9_readTape_39 : decode cX9_readTape 39 = .ok (.iconst 0, 1) := by decide +kernel
theorem dX9_readTape_40 : decode cX9_readTape 40 = .ok (.putfield 73, 3) := by decide +kernel
theorem dX9_readTape_43 : decode cX9_readTape 43 = .ok (.iload 4, 2) := by decide +kernel
theorem dX9_readTape_45 : decode cX9_readTape 45 = .ok (.ireturn, 1) := by decide +kernel
def mwX9_readTape : List Cond := .code yX9_readTape cX9_readTape 5 (some .boolean) :: ([.fieldLink RX9 43 "PatternGate" "reader" "LPatternGate$Reader;", .fieldLink RX9 9 "PatternGate" "tape" "[I", .code yX6_read cX6_read 8 (some .boolean), .fieldLink RX6 22 "PatternGate$Reader" "faultKind" "I", .fieldLink RX6 26 "PatternGate$Reader" "faultPlace" "I", .fieldLink RX6 29 "PatternGate$Reader" "lines" "I", .fieldLink RX6 32 "PatternGate$Reader" "newDocs" "I", .fieldLink RX6 35 "PatternGate$Reader" "newPatterns" "I", .fieldLink RX6 38 "PatternGate$Reader" "docsAhead" "I", .fieldLink RX6 41 "PatternGate$Reader" "patternsAhead" "I", .fieldLink RX6 44 "PatternGate$Reader" "wanted" "I", .methodLink RX6 47 Lib.Math.min.name, .static Lib.Math.min.name, .initialized "java/lang/Math", .code Lib.Math.min.name Lib.Math.min.code 2 (some .int), .methodLink RX9 293 yX6_read, .instanceMethod yX6_read, .selects RX6 yX6_read yX6_read, .initialized RX6, .fieldLink RX9 297 "PatternGate$Reader" "faultKind" "I", .fieldLink RX9 13 "PatternGate" "faultKind" "I", .fieldLink RX9 298 "PatternGate$Reader" "faultPlace" "I", .fieldLink RX9 17 "PatternGate" "faultPlace" "I", .fieldLink RX9 73 "PatternGate" "taped" "I"] ++ wsX90 ++ wsX60)
theorem fin_X9_readTape_X6 : ∀ w ∈ wsX60, w ∈ mwX9_readTape := fun w h => List.mem_cons_of_mem _ (List.mem_append_right _ h)
theorem fin_X9_readTape_X9 : ∀ w ∈ wsX90, w ∈ mwX9_readTape := fun w h => List.mem_cons_of_mem _ (List.mem_append_left _ (List.mem_append_right _ h))
set_option maxRecDepth 20000 in
theorem mg_X9_readTape_X6_read_293 : GoodIn mwX9_readTape (wsV RX9 293 RX6 yX6_read mwX6_read) := goodIn_r _ [16, 17, 18, 19, 3, 4, 5, 6, 7, 8, 9, 10, 11, 12, 13, 14, 15, 41, 42, 43, 44, 45, 46, 47, 48, 49, 50, 51] (by decide +kernel) (by decide +kernel)
set_option maxHeartbeats 4000000 in
set_option maxRecDepth 100000 in
/-- readTape: no bytes, no FAULT -/
theorem c_readTape (l : Launch) (dC : Nat → ClassId) (dI : Nat → Nat → Nat) (x : Nat) (q : Nat → Nat) (a0 a1 a2 a3 : Int32) (a4 : Nat) (a5 a6 : Int32) (cT : ClassId) (f : Nat → Int32) (r : Nat → Nat) (b0 b1 b2 b3 b4 b5 b6 b7 : Int32) (sz : Nat) (i2 i3 : Int32) : Met l yX9_readTape mwX9_readTape ({ frames := 2, cells := 0, slots := 0, locals := 120 }) (va_Pc [.ref x, .int 0, .int i2, .int i3] (fun U => U.heap.size = sz ∧ va_P (dC, dI) vwCl ([(x, .inr (9, gF q a0 a1 a2 a3 a4 a5 a6)), (q 0, .inl (cT, 900, .inl f)), (q 3, .inr (6, rF r b0 b1 b2 b3 b4 b5 b6 b7))]) U.heap ∧ va_K (dC, dI) vwCl ([(cT, .int)]) U ∧ va_D (fun _ => True) ([(x, .inr (9, gF q a0 a1 a2 a3 a4 a5 a6)), (q 0, .inl (cT, 900, .inl f)), (q 3, .inr (6, rF r b0 b1 b2 b3 b4 b5 b6 b7))]))) (va_Qi (fun (o : Int32) (_ : Unit) => o = 1) (fun _ t => va_P (dC, dI) vwCl [(x, .inr (9, gF q a0 0 0 (-1) a4 a5 a6)), (q 0, .inl (cT, 900, .inl f)), (q 3, .inr (6, rF r 0 (-1) 0 0 0 i2 i3 0))] t.heap ∧ va_K (dC, dI) vwCl [(cT, .int)] t ∧ va_D (va_A ([(x, .inr (9, gF q a0 a1 a2 a3 a4 a5 a6)), (q 0, .inl (cT, 900, .inl f)), (q 3, .inr (6, rF r b0 b1 b2 b3 b4 b5 b6 b7))]) sz) [(x, .inr (9, gF q a0 0 0 (-1) a4 a5 a6)), (q 0, .inl (cT, 900, .inl f)), (q 3, .inr (6, rF r 0 (-1) 0 0 0 i2 i3 0))]) (va_A ([(x, .inr (9, gF q a0 a1 a2 a3 a4 a5 a6)), (q 0, .inl (cT, 900, .inl f)), (q 3, .inr (6, rF r b0 b1 b2 b3 b4 b5 b6 b7))]) sz)) 0 0 (va_A ([(x, .inr (9, gF q a0 a1 a2 a3 a4 a5 a6)), (q 0, .inl (cT, 900, .inl f)), (q 3, .inr (6, rF r b0 b1 b2 b3 b4 b5 b6 b7))]) sz) := by
  refine Met.ofW (cc := cX9_readTape) (maxL := 5) (ret := (some .boolean)) (by decide +kernel) rfl ?_
  intro p e s m args below meth c s₁ B hml hv
  obtain ⟨rfl, hsz, hP, hK, hD0⟩ := hv
  have hx := B.exec
  have hb := B.bytes
  have hr := B.returns
  have hts := atoms_spec (ws := mwX9_readTape) B.pre
  have hown : s.vm.findClass RX9 = some m.cls := findClass_of_methodNamed B.named
  have hlocks := B.notSynchronized
  subst hsz
  have hD := hD0.self (sz := s.heap.size)
  generalize hAe : va_A ([(x, .inr (9, gF q a0 a1 a2 a3 a4 a5 a6)), (q 0, .inl (cT, 900, .inl f)), (q 3, .inr (6, rF r b0 b1 b2 b3 b4 b5 b6 b7))]) s.heap.size = A at hD ⊢
  have hA : ∀ q : Nat, s.heap.size ≤ q → A q := fun q h => by rw [← hAe]; exact Or.inr h
  have hP : va_P (dC, dI) vwCl [(x, .inr (9, gF q a0 a1 a2 a3 a4 a5 a6)), (q 0, .inl (cT, 900, .inl f)), (q 3, .inr (6, rF r b0 b1 b2 b3 b4 b5 b6 b7))] s.heap := hP
  have hD : va_D A [(x, .inr (9, gF q a0 a1 a2 a3 a4 a5 a6)), (q 0, .inl (cT, 900, .inl f)), (q 3, .inr (6, rF r b0 b1 b2 b3 b4 b5 b6 b7))] := hD
  have hK : va_K (dC, dI) vwCl [(cT, .int)] s := hK
  generalize hH : s.heap = H at hP ⊢
  have hS : va_S A s.heap H [] := by rw [← hH]; exact va_S.rf
  have hl := lv_entry ([.ref x, .int 0, .int i2, .int i3]) (n := 5) (Nat.le_of_ble_eq_true rfl)
  rw [lg_entry_eq]
  generalize (lg_sl ([.ref x, .int 0, .int i2, .int i3]) ++ List.replicate (5 - (lg_sl ([.ref x, .int 0, .int i2, .int i3])).length) Slot.unset).toArray = ls at hl ⊢
  have hl : lv_has ls 5 [(0, .ref x), (1, .int 0), (2, .int i2), (3, .int i3)] := hl
  refine lv_aload_n hx hb dX9_readTape_0 rfl (lv_at hl 0 rfl) ?_
  refine va_get (D := (dC, dI)) (ci := 9) (v := .ref (q 3)) (C := RX9) (T := TX9) (N := 16) hx hb hts fin_X9_readTape_X9 hown hK hP 0 rfl rfl 10 (by decide) (hts (.fieldLink RX9 43 "PatternGate" "reader" "LPatternGate$Reader;") (List.mem_of_getElem? (i := 1) (by decide +kernel))) (fun _ h9 => h9) rfl dX9_readTape_1 ?_
  refine lv_aload_n hx hb dX9_readTape_4 rfl (lv_at hl 0 rfl) ?_
  refine va_get (D := (dC, dI)) (ci := 9) (v := .ref (q 0)) (C := RX9) (T := TX9) (N := 16) hx hb hts fin_X9_readTape_X9 hown hK hP 0 rfl rfl 1 (by decide) (hts (.fieldLink RX9 9 "PatternGate" "tape" "[I") (List.mem_of_getElem? (i := 2) (by decide +kernel))) (fun _ h9 => h9) rfl dX9_readTape_5 ?_
  refine lv_iload_n hx hb dX9_readTape_8 rfl (lv_at hl 1 rfl) ?_
  refine lv_iload_n hx hb dX9_readTape_9 rfl (lv_at hl 2 rfl) ?_
  refine lv_iload_n hx hb dX9_readTape_10 rfl (lv_at hl 3 rfl) ?_
  have hPc := hP.sub (ws' := [(q 3, .inr (6, rF r b0 b1 b2 b3 b4 b5 b6 b7)), (q 0, .inl (cT, 900, .inl f))]) [2, 1] rfl
  have hKc := hK.sub (tys' := [(cT, .int)]) [0] rfl
  have hDc := hD.sub (ws' := [(q 3, .inr (6, rF r b0 b1 b2 b3 b4 b5 b6 b7)), (q 0, .inl (cT, 900, .inl f))]) [2, 1] (by decide) rfl
  have hFc := va_free (wc := [(q 3, .inr (6, rF r b0 b1 b2 b3 b4 b5 b6 b7)), (q 0, .inl (cT, 900, .inl f))]) hD hS hA [2, 1] rfl
  refine va_calli (va_runV (As := [.ref (q 0), .int 0, .int i2, .int i3]) (rest := []) ⟨hx, hb, hml, hown, hts⟩ (c_read l dC dI (q 3) (q 0) r b0 b1 b2 b3 b4 b5 b6 b7 cT f H.size i2 i3) (cwV 4 hts mg_X9_readTape_X6_read_293 rfl rfl rfl (by decide +kernel) ⟨Nat.le_of_ble_eq_true rfl, Nat.le_of_ble_eq_true rfl⟩) ⟨fun a U g mk q => by obtain ⟨q0, q1, qP, qK, qD⟩ := q; exact ⟨q0, q1, qP, va_K.moved (u := U) (U := U.calling g mk a) (Vm.Alike.refl U.vm) qK, qD⟩, va_recv hKc hPc (ci := 6) (q0 := 0) rfl rfl, fun U hU hW => ⟨rfl, by rw [hU], by rw [hU]; exact hPc, va_K.moved hW.alike hKc, hDc.weaken (fun _ _ _ _ => trivial)⟩⟩ rfl rfl hl.1 rfl (lv_room (Nat.le_of_ble_eq_true rfl)) dX9_readTape_11 ⟨Nat.le_of_ble_eq_true rfl, Nat.le_of_ble_eq_true rfl⟩) hS (fun q _ h => hFc q h) hFc (fun r_2 u t H1 locs ht hvm hw hB hz1 hk1 hS => ?_)
  obtain ⟨hP1, hK1, hD1⟩ := hB
  rw [ht] at hP1
  subst hw
  obtain ⟨hP, hD⟩ := va_join (wr := [(x, .inr (9, gF q a0 a1 a2 a3 a4 a5 a6))]) (w1 := [(q 3, .inr (6, rF r 0 (-1) 0 0 0 i2 i3 0)), (q 0, .inl (cT, 900, .inl f))]) hP hD [2, 1] [0] rfl rfl (by decide) (by decide) hk1 hFc hP1 hD1
  generalize H1 = H at hP hS ⊢
  have hP : va_P (dC, dI) vwCl [(x, .inr (9, gF q a0 a1 a2 a3 a4 a5 a6)), (q 3, .inr (6, rF r 0 (-1) 0 0 0 i2 i3 0)), (q 0, .inl (cT, 900, .inl f))] H := hP
  have hD : va_D A [(x, .inr (9, gF q a0 a1 a2 a3 a4 a5 a6)), (q 3, .inr (6, rF r 0 (-1) 0 0 0 i2 i3 0)), (q 0, .inl (cT, 900, .inl f))] := hD
  refine lv_istore (lv' := [(4, .int 1), (0, .ref x), (1, .int 0), (2, .int i2), (3, .int i3)]) hx hb dX9_readTape_14 hl (by decide) rfl (fun ls hl => ?_)
  refine lv_aload_n hx hb dX9_readTape_16 rfl (lv_at hl 1 rfl) ?_
  refine lv_aload_n hx hb dX9_readTape_17 rfl (lv_at hl 1 rfl) ?_
  refine va_get (D := (dC, dI)) (ci := 9) (v := .ref (q 3)) (C := RX9) (T := TX9) (N := 16) hx hb hts fin_X9_readTape_X9 hown hK hP 0 rfl rfl 10 (by decide) (hts (.fieldLink RX9 43 "PatternGate" "reader" "LPatternGate$Reader;") (List.mem_of_getElem? (i := 1) (by decide +kernel))) (fun _ h9 => h9) rfl dX9_readTape_18 ?_
  refine va_get (D := (dC, dI)) (ci := 6) (v := .int 0) (C := RX6) (T := TX6) (N := 11) hx hb hts fin_X9_readTape_X6 hown hK hP 1 rfl rfl 0 (by decide) (hts (.fieldLink RX9 297 "PatternGate$Reader" "faultKind" "I") (List.mem_of_getElem? (i := 20) (by decide +kernel))) (fun _ h9 => h9) rfl dX9_readTape_21 ?_
  refine va_put (D := (dC, dI)) (ci := 9) (v := .int 0) (ty := .int) (C := RX9) (T := TX9) (N := 16) hx hb hts fin_X9_readTape_X9 tyX9 tyX9_ok nmX9 hown hK hP hD hS 0 rfl rfl 3 (by decide) (hts (.fieldLink RX9 13 "PatternGate" "faultKind" "I") (List.mem_of_getElem? (i := 21) (by decide +kernel))) (fun _ h9 => h9) rfl (by decide +kernel) rfl rfl (Nat.le_of_ble_eq_true rfl) dX9_readTape_24 (fun H locs hP hD hS => ?_)
  have hP : va_P (dC, dI) vwCl [(x, .inr (9, gF q a0 a1 0 a3 a4 a5 a6)), (q 3, .inr (6, rF r 0 (-1) 0 0 0 i2 i3 0)), (q 0, .inl (cT, 900, .inl f))] H := hP
  have hD : va_D A [(x, .inr (9, gF q a0 a1 0 a3 a4 a5 a6)), (q 3, .inr (6, rF r 0 (-1) 0 0 0 i2 i3 0)), (q 0, .inl (cT, 900, .inl f))] := hD
  refine lv_aload_n hx hb dX9_readTape_27 rfl (lv_at hl 1 rfl) ?_
  refine lv_aload_n hx hb dX9_readTape_28 rfl (lv_at hl 1 rfl) ?_
  refine va_get (D := (dC, dI)) (ci := 9) (v := .ref (q 3)) (C := RX9) (T := TX9) (N := 16) hx hb hts fin_X9_readTape_X9 hown hK hP 0 rfl rfl 10 (by decide) (hts (.fieldLink RX9 43 "PatternGate" "reader" "LPatternGate$Reader;") (List.mem_of_getElem? (i := 1) (by decide +kernel))) (fun _ h9 => h9) rfl dX9_readTape_29 ?_
  refine va_get (D := (dC, dI)) (ci := 6) (v := .int (-1)) (C := RX6) (T := TX6) (N := 11) hx hb hts fin_X9_readTape_X6 hown hK hP 1 rfl rfl 1 (by decide) (hts (.fieldLink RX9 298 "PatternGate$Reader" "faultPlace" "I") (List.mem_of_getElem? (i := 22) (by decide +kernel))) (fun _ h9 => h9) rfl dX9_readTape_32 ?_
  refine va_put (D := (dC, dI)) (ci := 9) (v := .int (-1)) (ty := .int) (C := RX9) (T := TX9) (N := 16) hx hb hts fin_X9_readTape_X9 tyX9 tyX9_ok nmX9 hown hK hP hD hS 0 rfl rfl 4 (by decide) (hts (.fieldLink RX9 17 "PatternGate" "faultPlace" "I") (List.mem_of_getElem? (i := 23) (by decide +kernel))) (fun _ h9 => h9) rfl (by decide +kernel) rfl rfl (Nat.le_of_ble_eq_true rfl) dX9_readTape_35 (fun H locs hP hD hS => ?_)
  have hP : va_P (dC, dI) vwCl [(x, .inr (9, gF q a0 a1 0 (-1) a4 a5 a6)), (q 3, .inr (6, rF r 0 (-1) 0 0 0 i2 i3 0)), (q 0, .inl (cT, 900, .inl f))] H := hP
  have hD : va_D A [(x, .inr (9, gF q a0 a1 0 (-1) a4 a5 a6)), (q 3, .inr (6, rF r 0 (-1) 0 0 0 i2 i3 0)), (q 0, .inl (cT, 900, .inl f))] := hD
  refine lv_aload_n hx hb dX9_readTape_38 rfl (lv_at hl 1 rfl) ?_
  refine lv_iconst (v := 0) hx hb dX9_readTape_39 (by decide) ?_
  refine va_put (D := (dC, dI)) (ci := 9) (v := .int 0) (ty := .int) (C := RX9) (T := TX9) (N := 16) hx hb hts fin_X9_readTape_X9 tyX9 tyX9_ok nmX9 hown hK hP hD hS 0 rfl rfl 2 (by decide) (hts (.fieldLink RX9 73 "PatternGate" "taped" "I") (List.mem_of_getElem? (i := 24) (by decide +kernel))) (fun _ h9 => h9) rfl (by decide +kernel) rfl rfl (Nat.le_of_ble_eq_true rfl) dX9_readTape_40 (fun H locs hP hD hS => ?_)
  have hP : va_P (dC, dI) vwCl [(x, .inr (9, gF q a0 0 0 (-1) a4 a5 a6)), (q 3, .inr (6, rF r 0 (-1) 0 0 0 i2 i3 0)), (q 0, .inl (cT, 900, .inl f))] H := hP
  have hD : va_D A [(x, .inr (9, gF q a0 0 0 (-1) a4 a5 a6)), (q 3, .inr (6, rF r 0 (-1) 0 0 0 i2 i3 0)), (q 0, .inl (cT, 900, .inl f))] := hD
  refine lv_iload hx hb dX9_readTape_43 (lv_at hl 0 rfl) ?_
  have hP9 := hP.sub (ws' := [(x, .inr (9, gF q a0 0 0 (-1) a4 a5 a6)), (q 0, .inl (cT, 900, .inl f)), (q 3, .inr (6, rF r 0 (-1) 0 0 0 i2 i3 0))]) [0, 2, 1] rfl
  have hD9 := hD.sub (ws' := [(x, .inr (9, gF q a0 0 0 (-1) a4 a5 a6)), (q 0, .inl (cT, 900, .inl f)), (q 3, .inr (6, rF r 0 (-1) 0 0 0 i2 i3 0))]) [0, 2, 1] (by decide) rfl
  have hK9 := hK.sub (tys' := [(cT, .int)]) [0] rfl
  exact W.zret hx hb hr rfl (fun t ht hW => ⟨⟨_, (), rfl, rfl, by rw [ht]; exact hP9, va_K.moved hW.alike hK9, hD9⟩, hS.F ht⟩) hS.2.2 dX9_readTape_45
theorem dX0_init_0 : decode cX0_init 0 = .ok (.aload_n 0, 1) := by decide +kernel
theorem dX0_init_1 : decode cX0_init 1 = .ok (.invokespecial 1, 3) := by decide +kernel
theorem dX0_init_4 : decode cX0_init 4 = .ok (.aload_n 0, 1) := by decide +kernel
theorem dX0_init_5 : decode cX0_init 5 = .ok (.aload_n 1, 1) := by decide +kernel
theorem dX0_init_6 : decode cX0_init 6 = .ok (.putfield 7, 3) := by decide +kernel
theorem dX0_init_9 : decode cX0_init 9 = .ok (.aload_n 0, 1) := by decide +kernel
theorem dX0_init_10 : decode cX0_init 10 = .ok (.aload_n 2, 1) := by decide +kernel
theorem dX0_init_11 : decode cX0_init 11 = .ok (.putfield 13, 3) := by decide +kernel
theorem dX0_init_14 : decode cX0_init 14 = .ok (.aload_n 0, 1) := by decide +kernel
theorem dX0_init_15 : decode cX0_init 15 = .ok (.aload_n 3, 1) := by decide +kernel
theorem dX0_init_16 : decode cX0_init 16 = .ok (.putfield 17, 3) := by decide +kernel
theorem dX0_init_19 : decode cX0_init 19 = .ok (.return_, 1) := by decide +kernel
def mwX0_init : List Cond := .code yX0_init cX0_init 4 none :: ([.methodLink RX0 1 objectInit, .instanceMethod objectInit, .code objectInit ⟨#[0xb1]⟩ 1 none, .fieldLink RX0 7 "PatternGate$Book" "docs" "[LPatternGate$Doc;", .fieldLink RX0 13 "PatternGate$Book" "patterns" "[LPatternGate$Pattern;", .fieldLink RX0 17 "PatternGate$Book" "earlier" "LPatternGate$Book;"] ++ wsX00)
theorem fin_X0_init_X0 : ∀ w ∈ wsX00, w ∈ mwX0_init := fun w h => List.mem_cons_of_mem _ (List.mem_append_right _ h)
set_option maxHeartbeats 4000000 in
set_option maxRecDepth 100000 in
/-- Book(..) -/
theorem c_Book0 (l : Launch) (dC : Nat → ClassId) (dI : Nat → Nat → Nat) (nb d1 p1 sz : Nat) : Met l yX0_init mwX0_init ({ frames := 1, cells := 0, slots := 0, locals := 60 }) (va_Pc [.ref nb, .ref d1, .ref p1, .null] (fun U => U.heap.size = sz ∧ va_P (dC, dI) vwCl ([(nb, .inr (0, [.null, .null, .null]))]) U.heap ∧ va_K (dC, dI) vwCl ([]) U ∧ va_D (fun _ => True) ([(nb, .inr (0, [.null, .null, .null]))]))) (va_Qv (fun (_ : Unit) => True) (fun _ t => va_P (dC, dI) vwCl [(nb, .inr (0, [.ref d1, .ref p1, .null]))] t.heap ∧ va_K (dC, dI) vwCl [] t ∧ va_D (va_A ([(nb, .inr (0, [.null, .null, .null]))]) sz) [(nb, .inr (0, [.ref d1, .ref p1, .null]))]) (va_A ([(nb, .inr (0, [.null, .null, .null]))]) sz)) 0 0 (va_A ([(nb, .inr (0, [.null, .null, .null]))]) sz) := by
  refine Met.ofW (cc := cX0_init) (maxL := 4) (ret := none) (by decide +kernel) rfl ?_
  intro p e s m args below meth c s₁ B hml hv
  obtain ⟨rfl, hsz, hP, hK, hD0⟩ := hv
  have hx := B.exec
  have hb := B.bytes
  have hr := B.returns
  have hts := atoms_spec (ws := mwX0_init) B.pre
  have hown : s.vm.findClass RX0 = some m.cls := findClass_of_methodNamed B.named
  have hlocks := B.notSynchronized
  have hin : meth.name = "<init>" := (name_of_methodNamed B.named B.method).1
  subst hsz
  have hD := hD0.self (sz := s.heap.size)
  generalize hAe : va_A ([(nb, .inr (0, [.null, .null, .null]))]) s.heap.size = A at hD ⊢
  have hA : ∀ q : Nat, s.heap.size ≤ q → A q := fun q h => by rw [← hAe]; exact Or.inr h
  have hP : va_P (dC, dI) vwCl [(nb, .inr (0, [.null, .null, .null]))] s.heap := hP
  have hD : va_D A [(nb, .inr (0, [.null, .null, .null]))] := hD
  have hK : va_K (dC, dI) vwCl [] s := hK
  generalize hH : s.heap = H at hP ⊢
  have hS : va_S A s.heap H [] := by rw [← hH]; exact va_S.rf
  have hl := lv_entry ([.ref nb, .ref d1, .ref p1, .null]) (n := 4) (Nat.le_of_ble_eq_true rfl)
  rw [lg_entry_eq]
  generalize (lg_sl ([.ref nb, .ref d1, .ref p1, .null]) ++ List.replicate (4 - (lg_sl ([.ref nb, .ref d1, .ref p1, .null])).length) Slot.unset).toArray = ls at hl ⊢
  have hl : lv_has ls 4 [(0, .ref nb), (1, .ref d1), (2, .ref p1), (3, .null)] := hl
  refine lv_aload_n hx hb dX0_init_0 rfl (lv_at hl 0 rfl) ?_
  refine W.objInit hx hb hown (hts (.methodLink RX0 1 objectInit) (List.mem_of_getElem? (i := 1) (by decide +kernel))) (hts (.instanceMethod objectInit) (List.mem_of_getElem? (i := 2) (by decide +kernel))) (hts (.code objectInit ⟨#[0xb1]⟩ 1 none) (List.mem_of_getElem? (i := 3) (by decide +kernel))) rfl (by rw [hml]; exact hl.1) rfl dX0_init_1 (Nat.le_of_ble_eq_true rfl) (Nat.le_of_ble_eq_true rfl) ?_
  refine W.eq (g2 := F0 m 4 ls []) rfl ?_
  refine lv_aload_n hx hb dX0_init_4 rfl (lv_at hl 0 rfl) ?_
  refine lv_aload_n hx hb dX0_init_5 rfl (lv_at hl 1 rfl) ?_
  refine va_putF (D := (dC, dI)) (ci := 0) (v := .ref d1) (ty := .array (.object "PatternGate$Doc")) (C := RX0) (T := TX0) (N := 3) hx hb hts fin_X0_init_X0 tyX0 tyX0_ok nmX0 hown hK hP hD hS 0 rfl rfl 0 (by decide) (hts (.fieldLink RX0 7 "PatternGate$Book" "docs" "[LPatternGate$Doc;") (List.mem_of_getElem? (i := 4) (by decide +kernel))) (fun _ h9 => h9) rfl hin rfl (by decide +kernel) rfl rfl (Nat.le_of_ble_eq_true rfl) dX0_init_6 (fun H locs hP hD hS => ?_)
  have hP : va_P (dC, dI) vwCl [(nb, .inr (0, [.ref d1, .null, .null]))] H := hP
  have hD : va_D A [(nb, .inr (0, [.ref d1, .null, .null]))] := hD
  refine lv_aload_n hx hb dX0_init_9 rfl (lv_at hl 0 rfl) ?_
  refine lv_aload_n hx hb dX0_init_10 rfl (lv_at hl 2 rfl) ?_
  refine va_putF (D := (dC, dI)) (ci := 0) (v := .ref p1) (ty := .array (.object "PatternGate$Pattern")) (C := RX0) (T := TX0) (N := 3) hx hb hts fin_X0_init_X0 tyX0 tyX0_ok nmX0 hown hK hP hD hS 0 rfl rfl 1 (by decide) (hts (.fieldLink RX0 13 "PatternGate$Book" "patterns" "[LPatternGate$Pattern;") (List.mem_of_getElem? (i := 5) (by decide +kernel))) (fun _ h9 => h9) rfl hin rfl (by decide +kernel) rfl rfl (Nat.le_of_ble_eq_true rfl) dX0_init_11 (fun H locs hP hD hS => ?_)
  have hP : va_P (dC, dI) vwCl [(nb, .inr (0, [.ref d1, .ref p1, .null]))] H := hP
  have hD : va_D A [(nb, .inr (0, [.ref d1, .ref p1, .null]))] := hD
  refine lv_aload_n hx hb dX0_init_14 rfl (lv_at hl 0 rfl) ?_
  refine lv_aload_nN hx hb dX0_init_15 rfl (lv_at hl 3 rfl) ?_
  refine va_putF (D := (dC, dI)) (ci := 0) (v := .null) (ty := .object "PatternGate$Book") (C := RX0) (T := TX0) (N := 3) hx hb hts fin_X0_init_X0 tyX0 tyX0_ok nmX0 hown hK hP hD hS 0 rfl rfl 2 (by decide) (hts (.fieldLink RX0 17 "PatternGate$Book" "earlier" "LPatternGate$Book;") (List.mem_of_getElem? (i := 6) (by decide +kernel))) (fun _ h9 => h9) rfl hin rfl (by decide +kernel) rfl rfl (Nat.le_of_ble_eq_true rfl) dX0_init_16 (fun H locs hP hD hS => ?_)
  have hP : va_P (dC, dI) vwCl [(nb, .inr (0, [.ref d1, .ref p1, .null]))] H := hP
  have hD : va_D A [(nb, .inr (0, [.ref d1, .ref p1, .null]))] := hD
  have hP9 := hP.sub (ws' := [(nb, .inr (0, [.ref d1, .ref p1, .null]))]) [0] rfl
  have hD9 := hD.sub (ws' := [(nb, .inr (0, [.ref d1, .ref p1, .null]))]) [0] (by decide) rfl
  have hK9 := hK.sub (tys' := []) [] rfl
  exact W.vret hx hb hr (fun t ht hW => ⟨⟨(), rfl, trivial, by rw [ht]; exact hP9, va_K.moved hW.alike hK9, hD9⟩, hS.F ht⟩) hS.2.2 dX0_init_19
def mwX0_inite : List Cond := .code yX0_init cX0_init 4 none :: ([.methodLink RX0 1 objectInit, .instanceMethod objectInit, .code objectInit ⟨#[0xb1]⟩ 1 none, .fieldLink RX0 7 "PatternGate$Book" "docs" "[LPatternGate$Doc;", .fieldLink RX0 13 "PatternGate$Book" "patterns" "[LPatternGate$Pattern;", .fieldLink RX0 17 "PatternGate$Book" "earlier" "LPatternGate$Book;"] ++ wsX00)
theorem fin_X0_inite_X0 : ∀ w ∈ wsX00, w ∈ mwX0_inite := fun w h => List.mem_cons_of_mem _ (List.mem_append_right _ h)
set_option maxHeartbeats 4000000 in
set_option maxRecDepth 100000 in
/-- Book(..) -/
theorem c_Book1 (l : Launch) (dC : Nat → ClassId) (dI : Nat → Nat → Nat) (nb d1 p1 e1 sz : Nat) : Met l yX0_init mwX0_inite ({ frames := 1, cells := 0, slots := 0, locals := 60 }) (va_Pc [.ref nb, .ref d1, .ref p1, .ref e1] (fun U => U.heap.size = sz ∧ va_P (dC, dI) vwCl ([(nb, .inr (0, [.null, .null, .null]))]) U.heap ∧ va_K (dC, dI) vwCl ([]) U ∧ va_D (fun _ => True) ([(nb, .inr (0, [.null, .null, .null]))]))) (va_Qv (fun (_ : Unit) => True) (fun _ t => va_P (dC, dI) vwCl [(nb, .inr (0, [.ref d1, .ref p1, .ref e1]))] t.heap ∧ va_K (dC, dI) vwCl [] t ∧ va_D (va_A ([(nb, .inr (0, [.null, .null, .null]))]) sz) [(nb, .inr (0, [.ref d1, .ref p1, .ref e1]))]) (va_A ([(nb, .inr (0, [.null, .null, .null]))]) sz)) 0 0 (va_A ([(nb, .inr (0, [.null, .null, .null]))]) sz) := by
  refine Met.ofW (cc := cX0_init) (maxL := 4) (ret := none) (by decide +kernel) rfl ?_
  intro p e s m args below meth c s₁ B hml hv
  obtain ⟨rfl, hsz, hP, hK, hD0⟩ := hv
  have hx := B.exec
  have hb := B.bytes
  have hr := B.returns
  have hts := atoms_spec (ws := mwX0_inite) B.pre
  have hown : s.vm.findClass RX0 = some m.cls := findClass_of_methodNamed B.named
  have hlocks := B.notSynchronized
  have hin : meth.name = "<init>" := (name_of_methodNamed B.named B.method).1
  subst hsz
  have hD := hD0.self (sz := s.heap.size)
  generalize hAe : va_A ([(nb, .inr (0, [.null, .null, .null]))]) s.heap.size = A at hD ⊢
  have hA : ∀ q : Nat, s.heap.size ≤ q → A q := fun q h => by rw [← hAe]; exact Or.inr h
  have hP : va_P (dC, dI) vwCl [(nb, .inr (0, [.null, .null, .null]))] s.heap := hP
  have hD : va_D A [(nb, .inr (0, [.null, .null, .null]))] := hD
  have hK : va_K (dC, dI) vwCl [] s := hK
  generalize hH : s.heap = H at hP ⊢
  have hS : va_S A s.heap H [] := by rw [← hH]; exact va_S.rf
  have hl := lv_entry ([.ref nb, .ref d1, .ref p1, .ref e1]) (n := 4) (Nat.le_of_ble_eq_true rfl)
  rw [lg_entry_eq]
  generalize (lg_sl ([.ref nb, .ref d1, .ref p1, .ref e1]) ++ List.replicate (4 - (lg_sl ([.ref nb, .ref d1, .ref p1, .ref e1])).length) Slot.unset).toArray = ls at hl ⊢
  have hl : lv_has ls 4 [(0, .ref nb), (1, .ref d1), (2, .ref p1), (3, .ref e1)] := hl
  refine lv_aload_n hx hb dX0_init_0 rfl (lv_at hl 0 rfl) ?_
  refine W.objInit hx hb hown (hts (.methodLink RX0 1 objectInit) (List.mem_of_getElem? (i := 1) (by decide +kernel))) (hts (.instanceMethod objectInit) (List.mem_of_getElem? (i := 2) (by decide +kernel))) (hts (.code objectInit ⟨#[0xb1]⟩ 1 none) (List.mem_of_getElem? (i := 3) (by decide +kernel))) rfl (by rw [hml]; exact hl.1) rfl dX0_init_1 (Nat.le_of_ble_eq_true rfl) (Nat.le_of_ble_eq_true rfl) ?_
  refine W.eq (g2 := F0 m 4 ls []) rfl ?_
  refine lv_aload_n hx hb dX0_init_4 rfl (lv_at hl 0 rfl) ?_
  refine lv_aload_n hx hb dX0_init_5 rfl (lv_at hl 1 rfl) ?_
  refine va_putF (D := (dC, dI)) (ci := 0) (v := .ref d1) (ty := .array (.object "PatternGate$Doc")) (C := RX0) (T := TX0) (N := 3) hx hb hts fin_X0_inite_X0 tyX0 tyX0_ok nmX0 hown hK hP hD hS 0 rfl rfl 0 (by decide) (hts (.fieldLink RX0 7 "PatternGate$Book" "docs" "[LPatternGate$Doc;") (List.mem_of_getElem? (i := 4) (by decide +kernel))) (fun _ h9 => h9) rfl hin rfl (by decide +kernel) rfl rfl (Nat.le_of_ble_eq_true rfl) dX0_init_6 (fun H locs hP hD hS => ?_)
  have hP : va_P (dC, dI) vwCl [(nb, .inr (0, [.ref d1, .null, .null]))] H := hP
  have hD : va_D A [(nb, .inr (0, [.ref d1, .null, .null]))] := hD
  refine lv_aload_n hx hb dX0_init_9 rfl (lv_at hl 0 rfl) ?_
  refine lv_aload_n hx hb dX0_init_10 rfl (lv_at hl 2 rfl) ?_
  refine va_putF (D := (dC, dI)) (ci := 0) (v := .ref p1) (ty := .array (.object "PatternGate$Pattern")) (C := RX0) (T := TX0) (N := 3) hx hb hts fin_X0_inite_X0 tyX0 tyX0_ok nmX0 hown hK hP hD hS 0 rfl rfl 1 (by decide) (hts (.fieldLink RX0 13 "PatternGate$Book" "patterns" "[LPatternGate$Pattern;") (List.mem_of_getElem? (i := 5) (by decide +kernel))) (fun _ h9 => h9) rfl hin rfl (by decide +kernel) rfl rfl (Nat.le_of_ble_eq_true rfl) dX0_init_11 (fun H locs hP hD hS => ?_)
  have hP : va_P (dC, dI) vwCl [(nb, .inr (0, [.ref d1, .ref p1, .null]))] H := hP
  have hD : va_D A [(nb, .inr (0, [.ref d1, .ref p1, .null]))] := hD
  refine lv_aload_n hx hb dX0_init_14 rfl (lv_at hl 0 rfl) ?_
  refine lv_aload_n hx hb dX0_init_15 rfl (lv_at hl 3 rfl) ?_
  refine va_putF (D := (dC, dI)) (ci := 0) (v := .ref e1) (ty := .object "PatternGate$Book") (C := RX0) (T := TX0) (N := 3) hx hb hts fin_X0_inite_X0 tyX0 tyX0_ok nmX0 hown hK hP hD hS 0 rfl rfl 2 (by decide) (hts (.fieldLink RX0 17 "PatternGate$Book" "earlier" "LPatternGate$Book;") (List.mem_of_getElem? (i := 6) (by decide +kernel))) (fun _ h9 => h9) rfl hin rfl (by decide +kernel) rfl rfl (Nat.le_of_ble_eq_true rfl) dX0_init_16 (fun H locs hP hD hS => ?_)
  have hP : va_P (dC, dI) vwCl [(nb, .inr (0, [.ref d1, .ref p1, .ref e1]))] H := hP
  have hD : va_D A [(nb, .inr (0, [.ref d1, .ref p1, .ref e1]))] := hD
  have hP9 := hP.sub (ws' := [(nb, .inr (0, [.ref d1, .ref p1, .ref e1]))]) [0] rfl
  have hD9 := hD.sub (ws' := [(nb, .inr (0, [.ref d1, .ref p1, .ref e1]))]) [0] (by decide) rfl
  have hK9 := hK.sub (tys' := []) [] rfl
  exact W.vret hx hb hr (fun t ht hW => ⟨⟨(), rfl, trivial, by rw [ht]; exact hP9, va_K.moved hW.alike hK9, hD9⟩, hS.F ht⟩) hS.2.2 dX0_init_19
theorem dX9_bookBehind_0 : decode cX9_bookBehind 0 = .ok (.aload_n 1, 1) := by decide +kernel
theorem dX9_bookBehind_1 : decode cX9_bookBehind 1 = .ok (.arraylength, 1) := by decide +kernel
theorem dX9_bookBehind_2 : decode cX9_bookBehind 2 = .ok (.aload_n 0, 1) := by decide +kernel
theorem dX9_bookBehind_3 : decode cX9_bookBehind 3 = .ok (.getfield 43, 3) := by decide +kernel
theorem dX9_bookBehind_6 : decode cX9_bookBehind 6 = .ok (.getfield 299, 3) := by decide +kernel
theorem dX9_bookBehind_9 : decode cX9_bookBehind 9 = .ok (.iadd, 1) := by decide +kernel
theorem dX9_bookBehind_10 : decode cX9_bookBehind 10 = .ok (.anewarray 22, 3) := by decide +kernel
theorem dX9_bookBehind_13 : decode cX9_bookBehind 13 = .ok (.astore_n 3, 1) := by decide +kernel
theorem dX9_bookBehind_14 : decode cX9_bookBehind 14 = .ok (.aload_n 2, 1) := by decide +kernel
theorem dX9_bookBehind_15 : decode cX9_bookBehind 15 = .ok (.arraylength, 1) := by decide +kernel
theorem dX9_bookBehind_16 : decode cX9_bookBehind 16 = .ok (.aload_n 0, 1) := by decide +kernel
theorem dX9_bookBehind_17 : decode cX9_bookBehind 17 = .ok (.getfield 43, 3) := by decide +kernel
theorem dX9_bookBehind_20 : decode cX9_bookBehind 20 = .ok (.getfield 302, 3) := by decide +kernel
theorem dX9_bookBehind_23 : decode cX9_bookBehind 23 = .ok (.iadd, 1) := by decide +kernel
theorem dX9_bookBehind_24 : decode cX9_bookBehind 24 = .ok (.anewarray 24, 3) := by decide +kernel
theorem dX9_bookBehind_27 : decode cX9_bookBehind 27 = .ok (.astore 4, 2) := by decide +kernel
theorem dX9_bookBehind_29 : decode cX9_bookBehind 29 = .ok (.aload_n 1, 1) := by decide +kernel
theorem dX9_bookBehind_30 : decode cX9_bookBehind 30 = .ok (.iconst 0, 1) := by decide +kernel
theorem dX9_bookBehind_31 : decode cX9_bookBehind 31 = .ok (.aload_n 3, 1) := by decide +kernel
theorem dX9_bookBehind_32 : decode cX9_bookBehind 32 = .ok (.iconst 0, 1) := by decide +kernel
theorem dX9_bookBehind_33 : decode cX9_bookBehind 33 = .ok (.aload_n 1, 1) := by decide +kernel
theorem dX9_bookBehind_34 : decode cX9_bookBehind 34 = .ok (.arraylength, 1) := by decide +kernel
theorem dX9_bookBehind_35 : decode cX9_bookBehind 35 = .ok (.invokestatic 255, 3) := by decide +kernel
theorem dX9_bookBehind_38 : decode cX9_bookBehind 38 = .ok (.aload_n 2, 1) := by decide +kernel
theorem dX9_bookBehind_39 : decode cX9_bookBehind 39 = .ok (.iconst 0, 1) := by decide +kernel
theorem dX9_bookBehind_40 : decode cX9_bookBehind 40 = .ok (.aload 4, 2) := by decide +kernel
theorem dX9_bookBehind_42 : decode cX9_bookBehind 42 = .ok (.iconst 0, 1) := by decide +kernel
theorem dX9_bookBehind_43 : decode cX9_bookBehind 43 = .ok (.aload_n 2, 1) := by decide +kernel
theorem dX9_bookBehind_44 : decode cX9_bookBehind 44 = .ok (.arraylength, 1) := by decide +kernel
theorem dX9_bookBehind_45 : decode cX9_bookBehind 45 = .ok (.invokestatic 255, 3) := by decide +kernel
theorem dX9_bookBehind_48 : decode cX9_bookBehind 48 = .ok (.aload_n 1, 1) := by decide +kernel
theorem dX9_bookBehind_49 : decode cX9_bookBehind 49 = .ok (.arraylength, 1) := by decide +kernel
theorem dX9_bookBehind_50 : decode cX9_bookBehind 50 = .ok (.istore 5, 2) := by decide +kernel
theorem dX9_bookBehind_52 : decode cX9_bookBehind 52 = .ok (.aload_n 2, 1) := by decide +kernel
theorem dX9_bookBehind_53 : decode cX9_bookBehind 53 = .ok (.arraylength, 1) := by decide +kernel
theorem dX9_bookBehind_54 : decode cX9_bookBehind 54 = .ok (.istore 6, 2) := by decide +kernel
theorem dX9_bookBehind_56 : decode cX9_bookBehind 56 = .ok (.iconst 0, 1) := by decide +kernel
theorem dX9_bookBehind_57 : decode cX9_bookBehind 57 = .ok (.istore 7, 2) := by decide +kernel
theorem dX9_bookBehind_59 : decode cX9_bookBehind 59 = .ok (.iload 7, 2) := by decide +kernel
theorem dX9_bookBehind_61 : decode cX9_bookBehind 61 = .ok (.aload_n 0, 1) := by decide +kernel
theorem dX9_bookBehind_62 : decode cX9_bookBehind 62 = .ok (.getfield 43, 3) := by decide +kernel
theorem dX9_bookBehind_65 : decode cX9_bookBehind 65 = .ok (.getfield 107, 3) := by decide +kernel
theorem dX9_bookBehind_68 : decode cX9_bookBehind 68 = .ok (.if_icmp .ge 109, 3) := by decide +kernel
theorem dX9_bookBehind_177 : decode cX9_bookBehind 177 = .ok (.new 20, 3) := by decide +kernel
theorem dX9_bookBehind_180 : decode cX9_bookBehind 180 = .ok (.dup, 1) := by decide +kernel
theorem dX9_bookBehind_181 : decode cX9_bookBehind 181 = .ok (.aload_n 3, 1) := by decide +kernel
theorem dX9_bookBehind_182 : decode cX9_bookBehind 182 = .ok (.aload 4, 2) := by decide +kernel
theorem dX9_bookBehind_184 : decode cX9_bookBehind 184 = .ok (.aload_n 0, 1) := by decide +kernel
theorem dX9_bookBehind_185 : decode cX9_bookBehind 185 = .ok (.getfield 29, 3) := by decide +kernel
theorem dX9_bookBehind_188 : decode cX9_bookBehind 188 = .ok (.invokespecial 26, 3) := by decide +kernel
theorem dX9_bookBehind_191 : decode cX9_bookBehind 191 = .ok (.areturn, 1) := by decide +kernel
def mwX9_bookBehind : List Cond := .code yX9_bookBehind cX9_bookBehind 10 (some (.object "PatternGate$Book")) :: ([.fieldLink RX9 43 "PatternGate" "reader" "LPatternGate$Reader;", .fieldLink RX9 299 "PatternGate$Reader" "newDocs" "I", .classLink RX9 22 RX2, .fieldLink RX9 302 "PatternGate$Reader" "newPatterns" "I", .classLink RX9 24 RX5, .methodLink RX9 255 arraycopyName, .native arraycopyName, .static arraycopyName, .initialized "java/lang/System", .fieldLink RX9 107 "PatternGate$Reader" "lines" "I", .classLink RX9 20 RX0, .instantiable RX0 3, .initialized RX0, .fieldLink RX9 29 "PatternGate" "book" "LPatternGate$Book;", .code yX0_init cX0_init 4 none, .methodLink RX0 1 objectInit, .instanceMethod objectInit, .code objectInit ⟨#[0xb1]⟩ 1 none, .fieldLink RX0 7 "PatternGate$Book" "docs" "[LPatternGate$Doc;", .fieldLink RX0 13 "PatternGate$Book" "patterns" "[LPatternGate$Pattern;", .fieldLink RX0 17 "PatternGate$Book" "earlier" "LPatternGate$Book;", .methodLink RX9 26 yX0_init, .instanceMethod yX0_init] ++ wsX90 ++ wsX60 ++ wsX00)
theorem fin_X9_bookBehind_X0 : ∀ w ∈ wsX00, w ∈ mwX9_bookBehind := fun w h => List.mem_cons_of_mem _ (List.mem_append_right _ h)
theorem fin_X9_bookBehind_X6 : ∀ w ∈ wsX60, w ∈ mwX9_bookBehind := fun w h => List.mem_cons_of_mem _ (List.mem_append_left _ (List.mem_append_right _ h))
theorem fin_X9_bookBehind_X9 : ∀ w ∈ wsX90, w ∈ mwX9_bookBehind := fun w h => List.mem_cons_of_mem _ (List.mem_append_left _ (List.mem_append_left _ (List.mem_append_right _ h)))
set_option maxRecDepth 20000 in
theorem mg_X9_bookBehind_X0_init_26 : GoodIn mwX9_bookBehind mwX0_inite := goodIn_r _ [15, 16, 17, 18, 19, 20, 21, 51, 52, 53] (by decide +kernel) (by decide +kernel)
set_option maxHeartbeats 4000000 in
set_option maxRecDepth 100000 in
/-- bookBehind: nothing comes -/
theorem c_bookBehind (l : Launch) (dC : Nat → ClassId) (dI : Nat → Nat → Nat) (x : Nat) (q : Nat → Nat) (a0 a1 a2 a3 : Int32) (a4 : Nat) (a5 a6 : Int32) (r : Nat → Nat) (b0 b1 b5 b6 b7 : Int32) (d1 p1 : Nat) (cD1 cP1 : ClassId) (f1 f2 : Nat → Option Nat) (sz : Nat) : Met l yX9_bookBehind mwX9_bookBehind ({ frames := 2, cells := 3, slots := 3, locals := 120 }) (va_Pc [.ref x, .ref d1, .ref p1] (fun U => U.heap.size = sz ∧ va_P (dC, dI) vwCl ([(x, .inr (9, gF q a0 a1 a2 a3 a4 a5 a6)), (q 3, .inr (6, rF r b0 b1 0 0 0 b5 b6 b7)), (d1, .inl (cD1, 0, .inr (.inr (.inr (.inr f1))))), (p1, .inl (cP1, 0, .inr (.inr (.inr (.inr f2)))))]) U.heap ∧ va_K (dC, dI) vwCl ([(cD1, .object "PatternGate$Doc"), (cP1, .object "PatternGate$Pattern")]) U ∧ va_D (fun _ => True) ([(x, .inr (9, gF q a0 a1 a2 a3 a4 a5 a6)), (q 3, .inr (6, rF r b0 b1 0 0 0 b5 b6 b7)), (d1, .inl (cD1, 0, .inr (.inr (.inr (.inr f1))))), (p1, .inl (cP1, 0, .inr (.inr (.inr (.inr f2)))))]) ∧ va_AO "PatternGate$Doc" U ∧ va_AO "PatternGate$Pattern" U)) (va_Qr (fun (_ : Unit) => True) (fun _ a t => ∃ (nd np : Nat) (cn cp : ClassId) (f3 f4 : Nat → Option Nat), va_P (dC, dI) vwCl [(x, .inr (9, gF q a0 a1 a2 a3 a4 a5 a6)), (q 3, .inr (6, rF r b0 b1 0 0 0 b5 b6 b7)), (d1, .inl (cD1, 0, .inr (.inr (.inr (.inr f1))))), (p1, .inl (cP1, 0, .inr (.inr (.inr (.inr f2))))), (nd, .inl (cn, 0, .inr (.inr (.inr (.inr f3))))), (np, .inl (cp, 0, .inr (.inr (.inr (.inr f4))))), (a, .inr (0, [.ref nd, .ref np, .ref a4]))] t.heap ∧ va_K (dC, dI) vwCl [(cD1, .object "PatternGate$Doc"), (cP1, .object "PatternGate$Pattern"), (cn, .object "PatternGate$Doc"), (cp, .object "PatternGate$Pattern")] t ∧ va_D (va_A ([(x, .inr (9, gF q a0 a1 a2 a3 a4 a5 a6)), (q 3, .inr (6, rF r b0 b1 0 0 0 b5 b6 b7)), (d1, .inl (cD1, 0, .inr (.inr (.inr (.inr f1))))), (p1, .inl (cP1, 0, .inr (.inr (.inr (.inr f2)))))]) sz) [(x, .inr (9, gF q a0 a1 a2 a3 a4 a5 a6)), (q 3, .inr (6, rF r b0 b1 0 0 0 b5 b6 b7)), (d1, .inl (cD1, 0, .inr (.inr (.inr (.inr f1))))), (p1, .inl (cP1, 0, .inr (.inr (.inr (.inr f2))))), (nd, .inl (cn, 0, .inr (.inr (.inr (.inr f3))))), (np, .inl (cp, 0, .inr (.inr (.inr (.inr f4))))), (a, .inr (0, [.ref nd, .ref np, .ref a4]))]) (va_A ([(x, .inr (9, gF q a0 a1 a2 a3 a4 a5 a6)), (q 3, .inr (6, rF r b0 b1 0 0 0 b5 b6 b7)), (d1, .inl (cD1, 0, .inr (.inr (.inr (.inr f1))))), (p1, .inl (cP1, 0, .inr (.inr (.inr (.inr f2)))))]) sz)) 3 3 (va_A ([(x, .inr (9, gF q a0 a1 a2 a3 a4 a5 a6)), (q 3, .inr (6, rF r b0 b1 0 0 0 b5 b6 b7)), (d1, .inl (cD1, 0, .inr (.inr (.inr (.inr f1))))), (p1, .inl (cP1, 0, .inr (.inr (.inr (.inr f2)))))]) sz) := by
  refine Met.ofW (cc := cX9_bookBehind) (maxL := 10) (ret := (some (.object "PatternGate$Book"))) (by decide +kernel) rfl ?_
  intro p e s m args below meth c s₁ B hml hv
  obtain ⟨rfl, hsz, hP, hK, hD0, hAO2, hAO5⟩ := hv
  have hx := B.exec
  have hb := B.bytes
  have hr := B.returns
  have hts := atoms_spec (ws := mwX9_bookBehind) B.pre
  have hown : s.vm.findClass RX9 = some m.cls := findClass_of_methodNamed B.named
  have hlocks := B.notSynchronized
  subst hsz
  have hD := hD0.self (sz := s.heap.size)
  generalize hAe : va_A ([(x, .inr (9, gF q a0 a1 a2 a3 a4 a5 a6)), (q 3, .inr (6, rF r b0 b1 0 0 0 b5 b6 b7)), (d1, .inl (cD1, 0, .inr (.inr (.inr (.inr f1))))), (p1, .inl (cP1, 0, .inr (.inr (.inr (.inr f2)))))]) s.heap.size = A at hD ⊢
  have hA : ∀ q : Nat, s.heap.size ≤ q → A q := fun q h => by rw [← hAe]; exact Or.inr h
  have hP : va_P (dC, dI) vwCl [(x, .inr (9, gF q a0 a1 a2 a3 a4 a5 a6)), (q 3, .inr (6, rF r b0 b1 0 0 0 b5 b6 b7)), (d1, .inl (cD1, 0, .inr (.inr (.inr (.inr f1))))), (p1, .inl (cP1, 0, .inr (.inr (.inr (.inr f2)))))] s.heap := hP
  have hD : va_D A [(x, .inr (9, gF q a0 a1 a2 a3 a4 a5 a6)), (q 3, .inr (6, rF r b0 b1 0 0 0 b5 b6 b7)), (d1, .inl (cD1, 0, .inr (.inr (.inr (.inr f1))))), (p1, .inl (cP1, 0, .inr (.inr (.inr (.inr f2)))))] := hD
  have hK : va_K (dC, dI) vwCl [(cD1, .object "PatternGate$Doc"), (cP1, .object "PatternGate$Pattern")] s := hK
  generalize hH : s.heap = H at hP ⊢
  have hS : va_S A s.heap H [] := by rw [← hH]; exact va_S.rf
  have hl := lv_entry ([.ref x, .ref d1, .ref p1]) (n := 10) (Nat.le_of_ble_eq_true rfl)
  rw [lg_entry_eq]
  generalize (lg_sl ([.ref x, .ref d1, .ref p1]) ++ List.replicate (10 - (lg_sl ([.ref x, .ref d1, .ref p1])).length) Slot.unset).toArray = ls at hl ⊢
  have hl : lv_has ls 10 [(0, .ref x), (1, .ref d1), (2, .ref p1)] := hl
  refine lv_aload_n hx hb dX9_bookBehind_0 rfl (lv_at hl 1 rfl) ?_
  refine va_alen (v := 0) hx hb hK hP 2 0 rfl rfl rfl dX9_bookBehind_1 ?_
  refine lv_aload_n hx hb dX9_bookBehind_2 rfl (lv_at hl 0 rfl) ?_
  refine va_get (D := (dC, dI)) (ci := 9) (v := .ref (q 3)) (C := RX9) (T := TX9) (N := 16) hx hb hts fin_X9_bookBehind_X9 hown hK hP 0 rfl rfl 10 (by decide) (hts (.fieldLink RX9 43 "PatternGate" "reader" "LPatternGate$Reader;") (List.mem_of_getElem? (i := 1) (by decide +kernel))) (fun _ h9 => h9) rfl dX9_bookBehind_3 ?_
  refine va_get (D := (dC, dI)) (ci := 6) (v := .int 0) (C := RX6) (T := TX6) (N := 11) hx hb hts fin_X9_bookBehind_X6 hown hK hP 1 rfl rfl 3 (by decide) (hts (.fieldLink RX9 299 "PatternGate$Reader" "newDocs" "I") (List.mem_of_getElem? (i := 2) (by decide +kernel))) (fun _ h9 => h9) rfl dX9_bookBehind_6 ?_
  refine lv_iadd hx hb dX9_bookBehind_9 ?_
  refine lv_topi (fun y_1 ey_1 => ?_)
  obtain rfl : y_1 = 0 := ey_1.trans (by first | rfl | decide)
  refine va_newq (C := "PatternGate$Doc") (n := 0) (N' := 0) hx hb hown (hts (.classLink RX9 22 RX2) (List.mem_of_getElem? (i := 3) (by decide +kernel))) hAO2 hK hP hD hS hA (by decide) (by decide) (Nat.le_of_ble_eq_true rfl) (Nat.le_of_ble_eq_true rfl) (Nat.le_of_ble_eq_true rfl) dX9_bookBehind_10 (fun q_2 c_3 H hK hP hD hS => ?_)
  have hP : va_P (dC, dI) vwCl [(x, .inr (9, gF q a0 a1 a2 a3 a4 a5 a6)), (q 3, .inr (6, rF r b0 b1 0 0 0 b5 b6 b7)), (d1, .inl (cD1, 0, .inr (.inr (.inr (.inr f1))))), (p1, .inl (cP1, 0, .inr (.inr (.inr (.inr f2))))), (q_2, .inl (c_3, 0, .inr (.inr (.inr (.inr (fun _ => none))))))] H := hP
  have hD : va_D A [(x, .inr (9, gF q a0 a1 a2 a3 a4 a5 a6)), (q 3, .inr (6, rF r b0 b1 0 0 0 b5 b6 b7)), (d1, .inl (cD1, 0, .inr (.inr (.inr (.inr f1))))), (p1, .inl (cP1, 0, .inr (.inr (.inr (.inr f2))))), (q_2, .inl (c_3, 0, .inr (.inr (.inr (.inr (fun _ => none))))))] := hD
  have hK : va_K (dC, dI) vwCl [(cD1, .object "PatternGate$Doc"), (cP1, .object "PatternGate$Pattern"), (c_3, .object "PatternGate$Doc")] s := hK
  refine W.widen (k := 1) (n := 0) (by omega) (by omega) ?_
  refine lv_astore_n (lv' := [(3, .ref q_2), (0, .ref x), (1, .ref d1), (2, .ref p1)]) hx hb dX9_bookBehind_13 rfl hl (by decide) rfl (fun ls hl => ?_)
  refine lv_aload_n hx hb dX9_bookBehind_14 rfl (lv_at hl 3 rfl) ?_
  refine va_alen (v := 0) hx hb hK hP 3 1 rfl rfl rfl dX9_bookBehind_15 ?_
  refine lv_aload_n hx hb dX9_bookBehind_16 rfl (lv_at hl 1 rfl) ?_
  refine va_get (D := (dC, dI)) (ci := 9) (v := .ref (q 3)) (C := RX9) (T := TX9) (N := 16) hx hb hts fin_X9_bookBehind_X9 hown hK hP 0 rfl rfl 10 (by decide) (hts (.fieldLink RX9 43 "PatternGate" "reader" "LPatternGate$Reader;") (List.mem_of_getElem? (i := 1) (by decide +kernel))) (fun _ h9 => h9) rfl dX9_bookBehind_17 ?_
  refine va_get (D := (dC, dI)) (ci := 6) (v := .int 0) (C := RX6) (T := TX6) (N := 11) hx hb hts fin_X9_bookBehind_X6 hown hK hP 1 rfl rfl 4 (by decide) (hts (.fieldLink RX9 302 "PatternGate$Reader" "newPatterns" "I") (List.mem_of_getElem? (i := 4) (by decide +kernel))) (fun _ h9 => h9) rfl dX9_bookBehind_20 ?_
  refine lv_iadd hx hb dX9_bookBehind_23 ?_
  refine lv_topi (fun y_4 ey_4 => ?_)
  obtain rfl : y_4 = 0 := ey_4.trans (by first | rfl | decide)
  refine va_newq (C := "PatternGate$Pattern") (n := 0) (N' := 0) hx hb hown (hts (.classLink RX9 24 RX5) (List.mem_of_getElem? (i := 5) (by decide +kernel))) hAO5 hK hP hD hS hA (by decide) (by decide) (Nat.le_of_ble_eq_true rfl) (Nat.le_of_ble_eq_true rfl) (Nat.le_of_ble_eq_true rfl) dX9_bookBehind_24 (fun q_5 c_6 H hK hP hD hS => ?_)
  have hP : va_P (dC, dI) vwCl [(x, .inr (9, gF q a0 a1 a2 a3 a4 a5 a6)), (q 3, .inr (6, rF r b0 b1 0 0 0 b5 b6 b7)), (d1, .inl (cD1, 0, .inr (.inr (.inr (.inr f1))))), (p1, .inl (cP1, 0, .inr (.inr (.inr (.inr f2))))), (q_2, .inl (c_3, 0, .inr (.inr (.inr (.inr (fun _ => none)))))), (q_5, .inl (c_6, 0, .inr (.inr (.inr (.inr (fun _ => none))))))] H := hP
  have hD : va_D A [(x, .inr (9, gF q a0 a1 a2 a3 a4 a5 a6)), (q 3, .inr (6, rF r b0 b1 0 0 0 b5 b6 b7)), (d1, .inl (cD1, 0, .inr (.inr (.inr (.inr f1))))), (p1, .inl (cP1, 0, .inr (.inr (.inr (.inr f2))))), (q_2, .inl (c_3, 0, .inr (.inr (.inr (.inr (fun _ => none)))))), (q_5, .inl (c_6, 0, .inr (.inr (.inr (.inr (fun _ => none))))))] := hD
  have hK : va_K (dC, dI) vwCl [(cD1, .object "PatternGate$Doc"), (cP1, .object "PatternGate$Pattern"), (c_3, .object "PatternGate$Doc"), (c_6, .object "PatternGate$Pattern")] s := hK
  refine W.widen (k := 2) (n := 0) (by omega) (by omega) ?_
  refine lv_astore (lv' := [(4, .ref q_5), (3, .ref q_2), (0, .ref x), (1, .ref d1), (2, .ref p1)]) hx hb dX9_bookBehind_27 hl (by decide) rfl (fun ls hl => ?_)
  refine lv_aload_n hx hb dX9_bookBehind_29 rfl (lv_at hl 3 rfl) ?_
  refine lv_iconst (v := 0) hx hb dX9_bookBehind_30 (by decide) ?_
  refine lv_aload_n hx hb dX9_bookBehind_31 rfl (lv_at hl 1 rfl) ?_
  refine lv_iconst (v := 0) hx hb dX9_bookBehind_32 (by decide) ?_
  refine lv_aload_n hx hb dX9_bookBehind_33 rfl (lv_at hl 3 rfl) ?_
  refine va_alen (v := 0) hx hb hK hP 2 0 rfl rfl rfl dX9_bookBehind_34 ?_
  refine va_copyq (C := "PatternGate$Doc") hx hb (hml.trans hl.1.symm) hown (hts (.methodLink RX9 255 arraycopyName) (List.mem_of_getElem? (i := 6) (by decide +kernel))) (hts (.native arraycopyName) (List.mem_of_getElem? (i := 7) (by decide +kernel))) (hts (.static arraycopyName) (List.mem_of_getElem? (i := 8) (by decide +kernel))) (hts (.initialized "java/lang/System") (List.mem_of_getElem? (i := 9) (by decide +kernel))) hK hP hD hS 2 4 0 2 rfl rfl rfl rfl (by decide) (by decide) (by decide) (by decide) (by decide) (fun i hi => absurd hi (by show ¬ i < 0; omega)) (fun c1 c2 h1 h2 => vb_asgS c1 c2 h1 h2) (Nat.le_of_ble_eq_true rfl) (by decide +kernel) dX9_bookBehind_35 (fun H locs hP hD hS => ?_)
  generalize hf_f_7 : va_cpy _ _ _ _ _ = f_7 at hP hD
  have hP : va_P (dC, dI) vwCl [(x, .inr (9, gF q a0 a1 a2 a3 a4 a5 a6)), (q 3, .inr (6, rF r b0 b1 0 0 0 b5 b6 b7)), (d1, .inl (cD1, 0, .inr (.inr (.inr (.inr f1))))), (p1, .inl (cP1, 0, .inr (.inr (.inr (.inr f2))))), (q_2, .inl (c_3, 0, .inr (.inr (.inr (.inr f_7))))), (q_5, .inl (c_6, 0, .inr (.inr (.inr (.inr (fun _ => none))))))] H := hP
  have hD : va_D A [(x, .inr (9, gF q a0 a1 a2 a3 a4 a5 a6)), (q 3, .inr (6, rF r b0 b1 0 0 0 b5 b6 b7)), (d1, .inl (cD1, 0, .inr (.inr (.inr (.inr f1))))), (p1, .inl (cP1, 0, .inr (.inr (.inr (.inr f2))))), (q_2, .inl (c_3, 0, .inr (.inr (.inr (.inr f_7))))), (q_5, .inl (c_6, 0, .inr (.inr (.inr (.inr (fun _ => none))))))] := hD
  refine lv_aload_n hx hb dX9_bookBehind_38 rfl (lv_at hl 4 rfl) ?_
  refine lv_iconst (v := 0) hx hb dX9_bookBehind_39 (by decide) ?_
  refine lv_aload hx hb dX9_bookBehind_40 (lv_at hl 0 rfl) ?_
  refine lv_iconst (v := 0) hx hb dX9_bookBehind_42 (by decide) ?_
  refine lv_aload_n hx hb dX9_bookBehind_43 rfl (lv_at hl 4 rfl) ?_
  refine va_alen (v := 0) hx hb hK hP 3 1 rfl rfl rfl dX9_bookBehind_44 ?_
  refine va_copyq (C := "PatternGate$Pattern") hx hb (hml.trans hl.1.symm) hown (hts (.methodLink RX9 255 arraycopyName) (List.mem_of_getElem? (i := 6) (by decide +kernel))) (hts (.native arraycopyName) (List.mem_of_getElem? (i := 7) (by decide +kernel))) (hts (.static arraycopyName) (List.mem_of_getElem? (i := 8) (by decide +kernel))) (hts (.initialized "java/lang/System") (List.mem_of_getElem? (i := 9) (by decide +kernel))) hK hP hD hS 3 5 1 3 rfl rfl rfl rfl (by decide) (by decide) (by decide) (by decide) (by decide) (fun i hi => absurd hi (by show ¬ i < 0; omega)) (fun c1 c2 h1 h2 => vb_asgS c1 c2 h1 h2) (Nat.le_of_ble_eq_true rfl) (by decide +kernel) dX9_bookBehind_45 (fun H locs hP hD hS => ?_)
  generalize hf_f_8 : va_cpy _ _ _ _ _ = f_8 at hP hD
  have hP : va_P (dC, dI) vwCl [(x, .inr (9, gF q a0 a1 a2 a3 a4 a5 a6)), (q 3, .inr (6, rF r b0 b1 0 0 0 b5 b6 b7)), (d1, .inl (cD1, 0, .inr (.inr (.inr (.inr f1))))), (p1, .inl (cP1, 0, .inr (.inr (.inr (.inr f2))))), (q_2, .inl (c_3, 0, .inr (.inr (.inr (.inr f_7))))), (q_5, .inl (c_6, 0, .inr (.inr (.inr (.inr f_8)))))] H := hP
  have hD : va_D A [(x, .inr (9, gF q a0 a1 a2 a3 a4 a5 a6)), (q 3, .inr (6, rF r b0 b1 0 0 0 b5 b6 b7)), (d1, .inl (cD1, 0, .inr (.inr (.inr (.inr f1))))), (p1, .inl (cP1, 0, .inr (.inr (.inr (.inr f2))))), (q_2, .inl (c_3, 0, .inr (.inr (.inr (.inr f_7))))), (q_5, .inl (c_6, 0, .inr (.inr (.inr (.inr f_8)))))] := hD
  refine lv_aload_n hx hb dX9_bookBehind_48 rfl (lv_at hl 3 rfl) ?_
  refine va_alen (v := 0) hx hb hK hP 2 0 rfl rfl rfl dX9_bookBehind_49 ?_
  refine lv_istore (lv' := [(5, .int 0), (4, .ref q_5), (3, .ref q_2), (0, .ref x), (1, .ref d1), (2, .ref p1)]) hx hb dX9_bookBehind_50 hl (by decide) rfl (fun ls hl => ?_)
  refine lv_aload_n hx hb dX9_bookBehind_52 rfl (lv_at hl 5 rfl) ?_
  refine va_alen (v := 0) hx hb hK hP 3 1 rfl rfl rfl dX9_bookBehind_53 ?_
  refine lv_istore (lv' := [(6, .int 0), (5, .int 0), (4, .ref q_5), (3, .ref q_2), (0, .ref x), (1, .ref d1), (2, .ref p1)]) hx hb dX9_bookBehind_54 hl (by decide) rfl (fun ls hl => ?_)
  refine lv_iconst (v := 0) hx hb dX9_bookBehind_56 (by decide) ?_
  refine lv_istore (lv' := [(7, .int 0), (6, .int 0), (5, .int 0), (4, .ref q_5), (3, .ref q_2), (0, .ref x), (1, .ref d1), (2, .ref p1)]) hx hb dX9_bookBehind_57 hl (by decide) rfl (fun ls hl => ?_)
  refine lv_iload hx hb dX9_bookBehind_59 (lv_at hl 0 rfl) ?_
  refine lv_aload_n hx hb dX9_bookBehind_61 rfl (lv_at hl 5 rfl) ?_
  refine va_get (D := (dC, dI)) (ci := 9) (v := .ref (q 3)) (C := RX9) (T := TX9) (N := 16) hx hb hts fin_X9_bookBehind_X9 hown hK hP 0 rfl rfl 10 (by decide) (hts (.fieldLink RX9 43 "PatternGate" "reader" "LPatternGate$Reader;") (List.mem_of_getElem? (i := 1) (by decide +kernel))) (fun _ h9 => h9) rfl dX9_bookBehind_62 ?_
  refine va_get (D := (dC, dI)) (ci := 6) (v := .int 0) (C := RX6) (T := TX6) (N := 11) hx hb hts fin_X9_bookBehind_X6 hown hK hP 1 rfl rfl 2 (by decide) (hts (.fieldLink RX9 107 "PatternGate$Reader" "lines" "I") (List.mem_of_getElem? (i := 10) (by decide +kernel))) (fun _ h9 => h9) rfl dX9_bookBehind_65 ?_
  refine lv_icmp_ge (tgt := 177) hx hb dX9_bookBehind_68 (by decide) (fun k_9 => ?_) (fun k_9 => absurd (by decide) k_9)
  refine va_new (ci := 0) (fs := [.null, .null, .null]) (C := RX0) (T := TX0) (N := 3) hx hb hts fin_X9_bookBehind_X0 tyX0 tyX0_ok hown (hts (.classLink RX9 20 RX0) (List.mem_of_getElem? (i := 11) (by decide +kernel))) (hts (.instantiable RX0 3) (List.mem_of_getElem? (i := 12) (by decide +kernel))) (hts (.initialized RX0) (List.mem_of_getElem? (i := 13) (by decide +kernel))) hK hP hD hS hA rfl (fun j hj => by rcases (show j = 0 ∨ j = 1 ∨ j = 2 by omega) with rfl | rfl | rfl <;> rfl) (Nat.le_of_ble_eq_true rfl) (Nat.le_of_ble_eq_true rfl) dX9_bookBehind_177 (fun q_10 H hP hD hS => ?_)
  have hP : va_P (dC, dI) vwCl [(x, .inr (9, gF q a0 a1 a2 a3 a4 a5 a6)), (q 3, .inr (6, rF r b0 b1 0 0 0 b5 b6 b7)), (d1, .inl (cD1, 0, .inr (.inr (.inr (.inr f1))))), (p1, .inl (cP1, 0, .inr (.inr (.inr (.inr f2))))), (q_2, .inl (c_3, 0, .inr (.inr (.inr (.inr f_7))))), (q_5, .inl (c_6, 0, .inr (.inr (.inr (.inr f_8))))), (q_10, .inr (0, [.null, .null, .null]))] H := hP
  have hD : va_D A [(x, .inr (9, gF q a0 a1 a2 a3 a4 a5 a6)), (q 3, .inr (6, rF r b0 b1 0 0 0 b5 b6 b7)), (d1, .inl (cD1, 0, .inr (.inr (.inr (.inr f1))))), (p1, .inl (cP1, 0, .inr (.inr (.inr (.inr f2))))), (q_2, .inl (c_3, 0, .inr (.inr (.inr (.inr f_7))))), (q_5, .inl (c_6, 0, .inr (.inr (.inr (.inr f_8))))), (q_10, .inr (0, [.null, .null, .null]))] := hD
  refine W.widen (k := 3) (n := 3) (by omega) (by omega) ?_
  refine lv_dup hx hb dX9_bookBehind_180 rfl ?_
  refine lv_aload_n hx hb dX9_bookBehind_181 rfl (lv_at hl 4 rfl) ?_
  refine lv_aload hx hb dX9_bookBehind_182 (lv_at hl 3 rfl) ?_
  refine lv_aload_n hx hb dX9_bookBehind_184 rfl (lv_at hl 5 rfl) ?_
  refine va_get (D := (dC, dI)) (ci := 9) (v := .ref a4) (C := RX9) (T := TX9) (N := 16) hx hb hts fin_X9_bookBehind_X9 hown hK hP 0 rfl rfl 5 (by decide) (hts (.fieldLink RX9 29 "PatternGate" "book" "LPatternGate$Book;") (List.mem_of_getElem? (i := 14) (by decide +kernel))) (fun _ h9 => h9) rfl dX9_bookBehind_185 ?_
  have hPc := hP.sub (ws' := [(q_10, .inr (0, [.null, .null, .null]))]) [6] rfl
  have hKc := hK.sub (tys' := []) [] rfl
  have hDc := hD.sub (ws' := [(q_10, .inr (0, [.null, .null, .null]))]) [6] (by decide) rfl
  have hFc := va_free (wc := [(q_10, .inr (0, [.null, .null, .null]))]) hD hS hA [6] rfl
  refine va_callv (va_runI (As := [.ref q_2, .ref q_5, .ref a4]) (rest := [.ref q_10]) ⟨hx, hb, hml, hown, hts⟩ (c_Book1 l dC dI q_10 q_2 q_5 a4 H.size) (cwI 3 hts mg_X9_bookBehind_X0_init_26 rfl rfl rfl (hts (.initialized RX0) (List.mem_of_getElem? (i := 13) (by decide +kernel))) (hts (.methodLink RX9 26 yX0_init) (List.mem_of_getElem? (i := 22) (by decide +kernel))) (hts (.instanceMethod yX0_init) (List.mem_of_getElem? (i := 23) (by decide +kernel))) rfl (by decide +kernel) ⟨Nat.le_of_ble_eq_true rfl, Nat.le_of_ble_eq_true rfl⟩) ⟨fun a U g mk q => by obtain ⟨q0, q1, qP, qK, qD⟩ := q; exact ⟨q0, q1, qP, va_K.moved (u := U) (U := U.calling g mk a) (Vm.Alike.refl U.vm) qK, qD⟩, fun U hU hW => ⟨rfl, by rw [hU], by rw [hU]; exact hPc, va_K.moved hW.alike hKc, hDc.weaken (fun _ _ _ _ => trivial)⟩⟩ rfl rfl hl.1 rfl (lv_room (Nat.le_of_ble_eq_true rfl)) dX9_bookBehind_188 ⟨Nat.le_of_ble_eq_true rfl, Nat.le_of_ble_eq_true rfl⟩) hS (fun q _ h => hFc q h) hFc (fun u t H1 locs ht hvm hw hB hz1 hk1 hS => ?_)
  obtain ⟨hP1, hK1, hD1⟩ := hB
  rw [ht] at hP1
  obtain ⟨hP, hD⟩ := va_join (wr := [(x, .inr (9, gF q a0 a1 a2 a3 a4 a5 a6)), (q 3, .inr (6, rF r b0 b1 0 0 0 b5 b6 b7)), (d1, .inl (cD1, 0, .inr (.inr (.inr (.inr f1))))), (p1, .inl (cP1, 0, .inr (.inr (.inr (.inr f2))))), (q_2, .inl (c_3, 0, .inr (.inr (.inr (.inr f_7))))), (q_5, .inl (c_6, 0, .inr (.inr (.inr (.inr f_8)))))]) (w1 := [(q_10, .inr (0, [.ref q_2, .ref q_5, .ref a4]))]) hP hD [6] [0, 1, 2, 3, 4, 5] rfl rfl (by decide) (by decide) hk1 hFc hP1 hD1
  generalize H1 = H at hP hS ⊢
  have hP : va_P (dC, dI) vwCl [(x, .inr (9, gF q a0 a1 a2 a3 a4 a5 a6)), (q 3, .inr (6, rF r b0 b1 0 0 0 b5 b6 b7)), (d1, .inl (cD1, 0, .inr (.inr (.inr (.inr f1))))), (p1, .inl (cP1, 0, .inr (.inr (.inr (.inr f2))))), (q_2, .inl (c_3, 0, .inr (.inr (.inr (.inr f_7))))), (q_5, .inl (c_6, 0, .inr (.inr (.inr (.inr f_8))))), (q_10, .inr (0, [.ref q_2, .ref q_5, .ref a4]))] H := hP
  have hD : va_D A [(x, .inr (9, gF q a0 a1 a2 a3 a4 a5 a6)), (q 3, .inr (6, rF r b0 b1 0 0 0 b5 b6 b7)), (d1, .inl (cD1, 0, .inr (.inr (.inr (.inr f1))))), (p1, .inl (cP1, 0, .inr (.inr (.inr (.inr f2))))), (q_2, .inl (c_3, 0, .inr (.inr (.inr (.inr f_7))))), (q_5, .inl (c_6, 0, .inr (.inr (.inr (.inr f_8))))), (q_10, .inr (0, [.ref q_2, .ref q_5, .ref a4]))] := hD
  refine W.widen (k := 3) (n := 3) (by omega) (by omega) ?_
  have hP9 := hP.sub (ws' := [(x, .inr (9, gF q a0 a1 a2 a3 a4 a5 a6)), (q 3, .inr (6, rF r b0 b1 0 0 0 b5 b6 b7)), (d1, .inl (cD1, 0, .inr (.inr (.inr (.inr f1))))), (p1, .inl (cP1, 0, .inr (.inr (.inr (.inr f2))))), (q_2, .inl (c_3, 0, .inr (.inr (.inr (.inr f_7))))), (q_5, .inl (c_6, 0, .inr (.inr (.inr (.inr f_8))))), (q_10, .inr (0, [.ref q_2, .ref q_5, .ref a4]))]) [0, 1, 2, 3, 4, 5, 6] rfl
  have hD9 := hD.sub (ws' := [(x, .inr (9, gF q a0 a1 a2 a3 a4 a5 a6)), (q 3, .inr (6, rF r b0 b1 0 0 0 b5 b6 b7)), (d1, .inl (cD1, 0, .inr (.inr (.inr (.inr f1))))), (p1, .inl (cP1, 0, .inr (.inr (.inr (.inr f2))))), (q_2, .inl (c_3, 0, .inr (.inr (.inr (.inr f_7))))), (q_5, .inl (c_6, 0, .inr (.inr (.inr (.inr f_8))))), (q_10, .inr (0, [.ref q_2, .ref q_5, .ref a4]))]) [0, 1, 2, 3, 4, 5, 6] (by decide) rfl
  have hK9 := hK.sub (tys' := [(cD1, .object "PatternGate$Doc"), (cP1, .object "PatternGate$Pattern"), (c_3, .object "PatternGate$Doc"), (c_6, .object "PatternGate$Pattern")]) [0, 1, 2, 3] rfl
  exact W.aret hx hb hr (Or.inl ⟨_, rfl⟩) (Or.inr ⟨_, rfl⟩) (fun t ht hW => ⟨⟨(), _, rfl, trivial, q_2, q_5, c_3, c_6, f_7, f_8, by rw [ht]; exact hP9, va_K.moved hW.alike hK9, hD9⟩, hS.F ht⟩) hS.2.2 dX9_bookBehind_191
theorem dX9_act_0 : decode cX9_act 0 = .ok (.aload_n 0, 1) := by decide +kernel
theorem dX9_act_1 : decode cX9_act 1 = .ok (.aload_n 1, 1) := by decide +kernel
theorem dX9_act_2 : decode cX9_act 2 = .ok (.putfield 29, 3) := by decide +kernel
theorem dX9_act_5 : decode cX9_act 5 = .ok (.aload_n 0, 1) := by decide +kernel
theorem dX9_act_6 : decode cX9_act 6 = .ok (.aload_n 0, 1) := by decide +kernel
theorem dX9_act_7 : decode cX9_act 7 = .ok (.getfield 117, 3) := by decide +kernel
theorem dX9_act_10 : decode cX9_act 10 = .ok (.iconst 1, 1) := by decide +kernel
theorem dX9_act_11 : decode cX9_act 11 = .ok (.iadd, 1) := by decide +kernel
theorem dX9_act_12 : decode cX9_act 12 = .ok (.bipush 8, 2) := by decide +kernel
theorem dX9_act_14 : decode cX9_act 14 = .ok (.invokestatic 323, 3) := by decide +kernel
theorem dX9_act_17 : decode cX9_act 17 = .ok (.putfield 117, 3) := by decide +kernel
theorem dX9_act_20 : decode cX9_act 20 = .ok (.return_, 1) := by decide +kernel
def mwX9_act : List Cond := .code yX9_act cX9_act 2 none :: ([.fieldLink RX9 29 "PatternGate" "book" "LPatternGate$Book;", .fieldLink RX9 117 "PatternGate" "undoable" "I", .methodLink RX9 323 Lib.Math.min.name, .static Lib.Math.min.name, .initialized "java/lang/Math", .code Lib.Math.min.name Lib.Math.min.code 2 (some .int)] ++ wsX90)
theorem fin_X9_act_X9 : ∀ w ∈ wsX90, w ∈ mwX9_act := fun w h => List.mem_cons_of_mem _ (List.mem_append_right _ h)
set_option maxHeartbeats 4000000 in
set_option maxRecDepth 100000 in
/-- act: the first ACT -/
theorem c_act (l : Launch) (dC : Nat → ClassId) (dI : Nat → Nat → Nat) (x : Nat) (q : Nat → Nat) (a0 a1 a2 a3 : Int32) (a4 : Nat) (a6 : Int32) (sz nb : Nat) : Met l yX9_act mwX9_act ({ frames := 1, cells := 0, slots := 0, locals := 60 }) (va_Pc [.ref x, .ref nb] (fun U => U.heap.size = sz ∧ va_P (dC, dI) vwCl ([(x, .inr (9, gF q a0 a1 a2 a3 a4 0 a6))]) U.heap ∧ va_K (dC, dI) vwCl ([]) U ∧ va_D (fun _ => True) ([(x, .inr (9, gF q a0 a1 a2 a3 a4 0 a6))]))) (va_Qv (fun (_ : Unit) => True) (fun _ t => va_P (dC, dI) vwCl [(x, .inr (9, gF q a0 a1 a2 a3 nb 1 a6))] t.heap ∧ va_K (dC, dI) vwCl [] t ∧ va_D (va_A ([(x, .inr (9, gF q a0 a1 a2 a3 a4 0 a6))]) sz) [(x, .inr (9, gF q a0 a1 a2 a3 nb 1 a6))]) (va_A ([(x, .inr (9, gF q a0 a1 a2 a3 a4 0 a6))]) sz)) 0 0 (va_A ([(x, .inr (9, gF q a0 a1 a2 a3 a4 0 a6))]) sz) := by
  refine Met.ofW (cc := cX9_act) (maxL := 2) (ret := none) (by decide +kernel) rfl ?_
  intro p e s m args below meth c s₁ B hml hv
  obtain ⟨rfl, hsz, hP, hK, hD0⟩ := hv
  have hx := B.exec
  have hb := B.bytes
  have hr := B.returns
  have hts := atoms_spec (ws := mwX9_act) B.pre
  have hown : s.vm.findClass RX9 = some m.cls := findClass_of_methodNamed B.named
  have hlocks := B.notSynchronized
  subst hsz
  have hD := hD0.self (sz := s.heap.size)
  generalize hAe : va_A ([(x, .inr (9, gF q a0 a1 a2 a3 a4 0 a6))]) s.heap.size = A at hD ⊢
  have hA : ∀ q : Nat, s.heap.size ≤ q → A q := fun q h => by rw [← hAe]; exact Or.inr h
  have hP : va_P (dC, dI) vwCl [(x, .inr (9, gF q a0 a1 a2 a3 a4 0 a6))] s.heap := hP
  have hD : va_D A [(x, .inr (9, gF q a0 a1 a2 a3 a4 0 a6))] := hD
  have hK : va_K (dC, dI) vwCl [] s := hK
  generalize hH : s.heap = H at hP ⊢
  have hS : va_S A s.heap H [] := by rw [← hH]; exact va_S.rf
  have hl := lv_entry ([.ref x, .ref nb]) (n := 2) (Nat.le_of_ble_eq_true rfl)
  rw [lg_entry_eq]
  generalize (lg_sl ([.ref x, .ref nb]) ++ List.replicate (2 - (lg_sl ([.ref x, .ref nb])).length) Slot.unset).toArray = ls at hl ⊢
  have hl : lv_has ls 2 [(0, .ref x), (1, .ref nb)] := hl
  refine lv_aload_n hx hb dX9_act_0 rfl (lv_at hl 0 rfl) ?_
  refine lv_aload_n hx hb dX9_act_1 rfl (lv_at hl 1 rfl) ?_
  refine va_put (D := (dC, dI)) (ci := 9) (v := .ref nb) (ty := .object "PatternGate$Book") (C := RX9) (T := TX9) (N := 16) hx hb hts fin_X9_act_X9 tyX9 tyX9_ok nmX9 hown hK hP hD hS 0 rfl rfl 5 (by decide) (hts (.fieldLink RX9 29 "PatternGate" "book" "LPatternGate$Book;") (List.mem_of_getElem? (i := 1) (by decide +kernel))) (fun _ h9 => h9) rfl (by decide +kernel) rfl rfl (Nat.le_of_ble_eq_true rfl) dX9_act_2 (fun H locs hP hD hS => ?_)
  have hP : va_P (dC, dI) vwCl [(x, .inr (9, gF q a0 a1 a2 a3 nb 0 a6))] H := hP
  have hD : va_D A [(x, .inr (9, gF q a0 a1 a2 a3 nb 0 a6))] := hD
  refine lv_aload_n hx hb dX9_act_5 rfl (lv_at hl 0 rfl) ?_
  refine lv_aload_n hx hb dX9_act_6 rfl (lv_at hl 0 rfl) ?_
  refine va_get (D := (dC, dI)) (ci := 9) (v := .int 0) (C := RX9) (T := TX9) (N := 16) hx hb hts fin_X9_act_X9 hown hK hP 0 rfl rfl 6 (by decide) (hts (.fieldLink RX9 117 "PatternGate" "undoable" "I") (List.mem_of_getElem? (i := 2) (by decide +kernel))) (fun _ h9 => h9) rfl dX9_act_7 ?_
  refine lv_iconst (v := 1) hx hb dX9_act_10 (by decide) ?_
  refine lv_iadd hx hb dX9_act_11 ?_
  refine lv_topi (fun y_1 ey_1 => ?_)
  obtain rfl : y_1 = 1 := ey_1.trans (by first | rfl | decide)
  refine lv_bipush (v := 8) hx hb dX9_act_12 (by decide) ?_
  refine va_mmin hx hb (hml.trans hl.1.symm) hown (hts (.methodLink RX9 323 Lib.Math.min.name) (List.mem_of_getElem? (i := 3) (by decide +kernel))) (hts (.static Lib.Math.min.name) (List.mem_of_getElem? (i := 4) (by decide +kernel))) (hts (.initialized "java/lang/Math") (List.mem_of_getElem? (i := 5) (by decide +kernel))) (hts (.code Lib.Math.min.name Lib.Math.min.code 2 (some .int)) (List.mem_of_getElem? (i := 6) (by decide +kernel))) (Nat.le_of_ble_eq_true rfl) (Nat.le_of_ble_eq_true rfl) (Nat.le_of_ble_eq_true rfl) (Nat.le_of_ble_eq_true rfl) dX9_act_14 ?_
  refine lv_topi (fun y_2 ey_2 => ?_)
  obtain rfl : y_2 = 1 := ey_2.trans (by first | rfl | decide)
  refine va_put (D := (dC, dI)) (ci := 9) (v := .int 1) (ty := .int) (C := RX9) (T := TX9) (N := 16) hx hb hts fin_X9_act_X9 tyX9 tyX9_ok nmX9 hown hK hP hD hS 0 rfl rfl 6 (by decide) (hts (.fieldLink RX9 117 "PatternGate" "undoable" "I") (List.mem_of_getElem? (i := 2) (by decide +kernel))) (fun _ h9 => h9) rfl (by decide +kernel) rfl rfl (Nat.le_of_ble_eq_true rfl) dX9_act_17 (fun H locs hP hD hS => ?_)
  have hP : va_P (dC, dI) vwCl [(x, .inr (9, gF q a0 a1 a2 a3 nb 1 a6))] H := hP
  have hD : va_D A [(x, .inr (9, gF q a0 a1 a2 a3 nb 1 a6))] := hD
  have hP9 := hP.sub (ws' := [(x, .inr (9, gF q a0 a1 a2 a3 nb 1 a6))]) [0] rfl
  have hD9 := hD.sub (ws' := [(x, .inr (9, gF q a0 a1 a2 a3 nb 1 a6))]) [0] (by decide) rfl
  have hK9 := hK.sub (tys' := []) [] rfl
  exact W.vret hx hb hr (fun t ht hW => ⟨⟨(), rfl, trivial, by rw [ht]; exact hP9, va_K.moved hW.alike hK9, hD9⟩, hS.F ht⟩) hS.2.2 dX9_act_20
theorem dX9_load_0 : decode cX9_load 0 = .ok (.iload_n 1, 1) := by decide +kernel
theorem dX9_load_1 : decode cX9_load 1 = .ok (.ifCond .lt 11, 3) := by decide +kernel
theorem dX9_load_4 : decode cX9_load 4 = .ok (.iload_n 1, 1) := by decide +kernel
theorem dX9_load_5 : decode cX9_load 5 = .ok (.aload_n 0, 1) := by decide +kernel
theorem dX9_load_6 : decode cX9_load 6 = .ok (.getfield 73, 3) := by decide +kernel
theorem dX9_load_9 : decode cX9_load 9 = .ok (.if_icmp .le 9, 3) := by decide +kernel
theorem dX9_load_12 : decode cX9_load 12 = .ok (.aload_n 0, 1) := by decide +kernel
theorem dX9_load_13 : decode cX9_load 13 = .ok (.iconst 1, 1) := by decide +kernel
theorem dX9_load_14 : decode cX9_load 14 = .ok (.invokevirtual 80, 3) := by decide +kernel
theorem dX9_load_17 : decode cX9_load 17 = .ok (.ireturn, 1) := by decide +kernel
theorem dX9_load_18 : decode cX9_load 18 = .ok (.aload_n 0, 1) := by decide +kernel
theorem dX9_load_19 : decode cX9_load 19 = .ok (.iload_n 1, 1) := by decide +kernel
theorem dX9_load_20 : decode cX9_load 20 = .ok (.iconst 0, 1) := by decide +kernel
theorem dX9_load_21 : decode cX9_load 21 = .ok (.iconst 0, 1) := by decide +kernel
theorem dX9_load_22 : decode cX9_load 22 = .ok (.invokevirtual 84, 3) := by decide +kernel
theorem dX9_load_25 : decode cX9_load 25 = .ok (.ifCond .ne 10, 3) := by decide +kernel
theorem dX9_load_35 : decode cX9_load 35 = .ok (.aload_n 0, 1) := by decide +kernel
theorem dX9_load_36 : decode cX9_load 36 = .ok (.aload_n 0, 1) := by decide +kernel
theorem dX9_load_37 : decode cX9_load 37 = .ok (.iconst 0, 1) := by decide +kernel
theorem dX9_load_38 : decode cX9_load 38 = .ok (.anewarray 22, 3) := by decide +kernel
theorem dX9_load_41 : decode cX9_load 41 = .ok (.iconst 0, 1) := by decide +kernel
theorem dX9_load_42 : decode cX9_load 42 = .ok (.anewarray 24, 3) := by decide +kernel
theorem dX9_load_45 : decode cX9_load 45 = .ok (.invokevirtual 88, 3) := by decide +kernel
theorem dX9_load_48 : decode cX9_load 48 = .ok (.invokevirtual 92, 3) := by decide +kernel
theorem dX9_load_51 : decode cX9_load 51 = .ok (.aload_n 0, 1) := by decide +kernel
theorem dX9_load_52 : decode cX9_load 52 = .ok (.aload_n 0, 1) := by decide +kernel
theorem dX9_load_53 : decode cX9_load 53 = .ok (.getfield 29, 3) := by decide +kernel
theorem dX9_load_56 : decode cX9_load 56 = .ok (.getfield 96, 3) := by decide +kernel
theorem dX9_load_59 : decode cX9_load 59 = .ok (.arraylength, 1) := by decide +kernel
theorem dX9_load_60 : decode cX9_load 60 = .ok (.invokevirtual 100, 3) := by decide +kernel
theorem dX9_load_63 : decode cX9_load 63 = .ok (.ireturn, 1) := by decide +kernel
def mwX9_load : List Cond := .code yX9_load cX9_load 2 (some .int) :: ([.code yX9_refuse cX9_refuse 2 (some .int), .fieldLink RX9 70 "PatternGate" "lastStatus" "I", .methodLink RX9 80 yX9_refuse, .instanceMethod yX9_refuse, .selects RX9 yX9_refuse yX9_refuse, .initialized RX9, .fieldLink RX9 73 "PatternGate" "taped" "I", .code yX9_readTape cX9_readTape 5 (some .boolean), .fieldLink RX9 43 "PatternGate" "reader" "LPatternGate$Reader;", .fieldLink RX9 9 "PatternGate" "tape" "[I", .code yX6_read cX6_read 8 (some .boolean), .fieldLink RX6 22 "PatternGate$Reader" "faultKind" "I", .fieldLink RX6 26 "PatternGate$Reader" "faultPlace" "I", .fieldLink RX6 29 "PatternGate$Reader" "lines" "I", .fieldLink RX6 32 "PatternGate$Reader" "newDocs" "I", .fieldLink RX6 35 "PatternGate$Reader" "newPatterns" "I", .fieldLink RX6 38 "PatternGate$Reader" "docsAhead" "I", .fieldLink RX6 41 "PatternGate$Reader" "patternsAhead" "I", .fieldLink RX6 44 "PatternGate$Reader" "wanted" "I", .methodLink RX6 47 Lib.Math.min.name, .static Lib.Math.min.name, .initialized "java/lang/Math", .code Lib.Math.min.name Lib.Math.min.code 2 (some .int), .methodLink RX9 293 yX6_read, .instanceMethod yX6_read, .selects RX6 yX6_read yX6_read, .initialized RX6, .fieldLink RX9 297 "PatternGate$Reader" "faultKind" "I", .fieldLink RX9 13 "PatternGate" "faultKind" "I", .fieldLink RX9 298 "PatternGate$Reader" "faultPlace" "I", .fieldLink RX9 17 "PatternGate" "faultPlace" "I", .methodLink RX9 84 yX9_readTape, .instanceMethod yX9_readTape, .selects RX9 yX9_readTape yX9_readTape, .classLink RX9 22 RX2, .classLink RX9 24 RX5, .code yX9_bookBehind cX9_bookBehind 10 (some (.object "PatternGate$Book")), .fieldLink RX9 299 "PatternGate$Reader" "newDocs" "I", .fieldLink RX9 302 "PatternGate$Reader" "newPatterns" "I", .methodLink RX9 255 arraycopyName, .native arraycopyName, .static arraycopyName, .initialized "java/lang/System", .fieldLink RX9 107 "PatternGate$Reader" "lines" "I", .classLink RX9 20 RX0, .instantiable RX0 3, .initialized RX0, .fieldLink RX9 29 "PatternGate" "book" "LPatternGate$Book;", .code yX0_init cX0_init 4 none, .methodLink RX0 1 objectInit, .instanceMethod objectInit, .code objectInit ⟨#[0xb1]⟩ 1 none, .fieldLink RX0 7 "PatternGate$Book" "docs" "[LPatternGate$Doc;", .fieldLink RX0 13 "PatternGate$Book" "patterns" "[LPatternGate$Pattern;", .fieldLink RX0 17 "PatternGate$Book" "earlier" "LPatternGate$Book;", .methodLink RX9 26 yX0_init, .instanceMethod yX0_init, .methodLink RX9 88 yX9_bookBehind, .instanceMethod yX9_bookBehind, .selects RX9 yX9_bookBehind yX9_bookBehind, .code yX9_act cX9_act 2 none, .fieldLink RX9 117 "PatternGate" "undoable" "I", .methodLink RX9 323 Lib.Math.min.name, .methodLink RX9 92 yX9_act, .instanceMethod yX9_act, .selects RX9 yX9_act yX9_act, .fieldLink RX9 96 "PatternGate$Book" "docs" "[LPatternGate$Doc;", .code yX9_answer cX9_answer 2 (some .int), .methodLink RX9 100 yX9_answer, .instanceMethod yX9_answer, .selects RX9 yX9_answer yX9_answer] ++ wsX90 ++ wsX60 ++ wsX00)
theorem fin_X9_load_X0 : ∀ w ∈ wsX00, w ∈ mwX9_load := fun w h => List.mem_cons_of_mem _ (List.mem_append_right _ h)
theorem fin_X9_load_X9 : ∀ w ∈ wsX90, w ∈ mwX9_load := fun w h => List.mem_cons_of_mem _ (List.mem_append_left _ (List.mem_append_left _ (List.mem_append_right _ h)))
set_option maxRecDepth 20000 in
theorem mg_X9_load_X9_refuse_80 : GoodIn mwX9_load (wsV RX9 80 RX9 yX9_refuse mwX9_refuse) := goodIn_r _ [3, 4, 5, 6, 1, 2, 72, 73, 74, 75, 76, 77, 78, 79, 80, 81, 82, 83, 84, 85, 86, 87] (by decide +kernel) (by decide +kernel)
set_option maxRecDepth 20000 in
theorem mg_X9_load_X9_readTape_84 : GoodIn mwX9_load (wsV RX9 84 RX9 yX9_readTape mwX9_readTape) := goodIn_r _ [32, 33, 34, 6, 8, 9, 10, 11, 12, 13, 14, 15, 16, 17, 18, 19, 20, 21, 22, 23, 24, 25, 26, 27, 28, 29, 30, 31, 7, 72, 73, 74, 75, 76, 77, 78, 79, 80, 81, 82, 83, 84, 85, 86, 87, 88, 89, 90, 91, 92, 93, 94, 95, 96, 97, 98] (by decide +kernel) (by decide +kernel)
set_option maxRecDepth 20000 in
theorem mg_X9_load_X9_bookBehind_88 : GoodIn mwX9_load (wsV RX9 88 RX9 yX9_bookBehind mwX9_bookBehind) := goodIn_r _ [58, 59, 60, 6, 37, 9, 38, 35, 39, 36, 40, 41, 42, 43, 44, 45, 46, 47, 48, 49, 50, 51, 52, 53, 54, 55, 56, 57, 72, 73, 74, 75, 76, 77, 78, 79, 80, 81, 82, 83, 84, 85, 86, 87, 88, 89, 90, 91, 92, 93, 94, 95, 96, 97, 98, 99, 100, 101] (by decide +kernel) (by decide +kernel)
set_option maxRecDepth 20000 in
theorem mg_X9_load_X9_act_92 : GoodIn mwX9_load (wsV RX9 92 RX9 yX9_act mwX9_act) := goodIn_r _ [64, 65, 66, 6, 61, 48, 62, 63, 21, 22, 23, 72, 73, 74, 75, 76, 77, 78, 79, 80, 81, 82, 83, 84, 85, 86, 87] (by decide +kernel) (by decide +kernel)
set_option maxRecDepth 20000 in
theorem mg_X9_load_X9_answer_100 : GoodIn mwX9_load (wsV RX9 100 RX9 yX9_answer mwX9_answer) := goodIn_r _ [69, 70, 71, 6, 68, 2, 72, 73, 74, 75, 76, 77, 78, 79, 80, 81, 82, 83, 84, 85, 86, 87] (by decide +kernel) (by decide +kernel)
set_option maxHeartbeats 4000000 in
set_option maxRecDepth 100000 in
/-- load on a new object -/
theorem c_load (l : Launch) (dC : Nat → ClassId) (dI : Nat → Nat → Nat) (x : Nat) (q : Nat → Nat) (b d0 p0 : Nat) (cT cD cP cB cU : ClassId) (r : Nat → Nat) (sz : Nat) (i0 : Int32) : Met l yX9_load mwX9_load ({ frames := 3, cells := 5, slots := 3, locals := 180 }) (va_Pc [.ref x, .int i0] (fun U => U.heap.size = sz ∧ va_P (dC, dI) vwCl (gW x q b d0 p0 cT cD cP cB cU r) U.heap ∧ va_K (dC, dI) vwCl (gT cT cD cP cB cU) U ∧ va_D (fun _ => True) (gW x q b d0 p0 cT cD cP cB cU r) ∧ va_AO "PatternGate$Doc" U ∧ va_AO "PatternGate$Pattern" U)) (va_Qi (fun (o : Int32) (_ : Unit) => o = s_load i0) (fun _ _ => True) (va_A (gW x q b d0 p0 cT cD cP cB cU r) sz)) 5 3 (va_A (gW x q b d0 p0 cT cD cP cB cU r) sz) := by
  refine Met.ofW (cc := cX9_load) (maxL := 2) (ret := (some .int)) (by decide +kernel) rfl ?_
  intro p e s m args below meth c s₁ B hml hv
  obtain ⟨rfl, hsz, hP, hK, hD0, hAO2, hAO5⟩ := hv
  have hx := B.exec
  have hb := B.bytes
  have hr := B.returns
  have hts := atoms_spec (ws := mwX9_load) B.pre
  have hown : s.vm.findClass RX9 = some m.cls := findClass_of_methodNamed B.named
  have hlocks := B.notSynchronized
  subst hsz
  have hD := hD0.self (sz := s.heap.size)
  generalize hAe : va_A (gW x q b d0 p0 cT cD cP cB cU r) s.heap.size = A at hD ⊢
  have hA : ∀ q : Nat, s.heap.size ≤ q → A q := fun q h => by rw [← hAe]; exact Or.inr h
  have hP : va_P (dC, dI) vwCl [(x, .inr (9, gF q 0 0 (-1) (-1) b 0 0)), (q 0, .inl (cT, 900, .inl (fun _ => 0))), (b, .inr (0, [.ref d0, .ref p0, .null])), (d0, .inl (cD, 0, .inr (.inr (.inr (.inr (fun _ => none)))))), (p0, .inl (cP, 0, .inr (.inr (.inr (.inr (fun _ => none)))))), (q 1, .inl (cB, 3, .inr (.inr (.inr (.inr (fun _ => none)))))), (q 2, .inl (cU, 3, .inl (fun _ => 0))), (q 3, .inr (6, rF r 0 0 0 0 0 0 0 0))] s.heap := hP
  have hD : va_D A [(x, .inr (9, gF q 0 0 (-1) (-1) b 0 0)), (q 0, .inl (cT, 900, .inl (fun _ => 0))), (b, .inr (0, [.ref d0, .ref p0, .null])), (d0, .inl (cD, 0, .inr (.inr (.inr (.inr (fun _ => none)))))), (p0, .inl (cP, 0, .inr (.inr (.inr (.inr (fun _ => none)))))), (q 1, .inl (cB, 3, .inr (.inr (.inr (.inr (fun _ => none)))))), (q 2, .inl (cU, 3, .inl (fun _ => 0))), (q 3, .inr (6, rF r 0 0 0 0 0 0 0 0))] := hD
  have hK : va_K (dC, dI) vwCl [(cT, .int), (cD, .object "PatternGate$Doc"), (cP, .object "PatternGate$Pattern"), (cB, .object "PatternGate$Book"), (cU, .int)] s := hK
  generalize hH : s.heap = H at hP ⊢
  have hS : va_S A s.heap H [] := by rw [← hH]; exact va_S.rf
  have hl := lv_entry ([.ref x, .int i0]) (n := 2) (Nat.le_of_ble_eq_true rfl)
  rw [lg_entry_eq]
  generalize (lg_sl ([.ref x, .int i0]) ++ List.replicate (2 - (lg_sl ([.ref x, .int i0])).length) Slot.unset).toArray = ls at hl ⊢
  have hl : lv_has ls 2 [(0, .ref x), (1, .int i0)] := hl
  refine lv_iload_n hx hb dX9_load_0 rfl (lv_at hl 1 rfl) ?_
  refine lv_if_lt (tgt := 12) hx hb dX9_load_1 (by decide) (fun k_1 => ?_) (fun k_1 => ?_)
  · refine lv_aload_n hx hb dX9_load_12 rfl (lv_at hl 0 rfl) ?_
    refine lv_iconst (v := 1) hx hb dX9_load_13 (by decide) ?_
    have hPc := hP.sub (ws' := [(x, .inr (9, gF q 0 0 (-1) (-1) b 0 0))]) [0] rfl
    have hKc := hK.sub (tys' := []) [] rfl
    have hDc := hD.sub (ws' := [(x, .inr (9, gF q 0 0 (-1) (-1) b 0 0))]) [0] (by decide) rfl
    have hFc := va_free (wc := [(x, .inr (9, gF q 0 0 (-1) (-1) b 0 0))]) hD hS hA [0] rfl
    refine va_calli (va_runV (As := [.int 1]) (rest := []) ⟨hx, hb, hml, hown, hts⟩ (c_refuse l dC dI x q 0 0 (-1) (-1) b 0 0 H.size 1) (cwV 1 hts mg_X9_load_X9_refuse_80 rfl rfl rfl (by decide +kernel) ⟨Nat.le_of_ble_eq_true rfl, Nat.le_of_ble_eq_true rfl⟩) ⟨fun a U g mk q => by obtain ⟨q0, q1, qP, qK, qD⟩ := q; exact ⟨q0, q1, qP, va_K.moved (u := U) (U := U.calling g mk a) (Vm.Alike.refl U.vm) qK, qD⟩, va_recv hKc hPc (ci := 9) (q0 := 0) rfl rfl, fun U hU hW => ⟨rfl, by rw [hU], by rw [hU]; exact hPc, va_K.moved hW.alike hKc, hDc.weaken (fun _ _ _ _ => trivial)⟩⟩ rfl rfl hl.1 rfl (lv_room (Nat.le_of_ble_eq_true rfl)) dX9_load_14 ⟨Nat.le_of_ble_eq_true rfl, Nat.le_of_ble_eq_true rfl⟩) hS (fun q _ h => hFc q h) hFc (fun r_3 u t H1 locs ht hvm hw hB hz1 hk1 hS => ?_)
    refine W.widen (k := 5) (n := 3) (by omega) (by omega) ?_
    exact W.iret hx hb hr (fun t ht hW => ⟨⟨_, (), rfl, (hw.trans (s_load_lt k_1).symm), trivial⟩, hS.F ht⟩) hS.2.2 dX9_load_17
  · refine lv_iload_n hx hb dX9_load_4 rfl (lv_at hl 1 rfl) ?_
    refine lv_aload_n hx hb dX9_load_5 rfl (lv_at hl 0 rfl) ?_
    refine va_get (D := (dC, dI)) (ci := 9) (v := .int 0) (C := RX9) (T := TX9) (N := 16) hx hb hts fin_X9_load_X9 hown hK hP 0 rfl rfl 2 (by decide) (hts (.fieldLink RX9 73 "PatternGate" "taped" "I") (List.mem_of_getElem? (i := 7) (by decide +kernel))) (fun _ h9 => h9) rfl dX9_load_6 ?_
    refine lv_icmp_le (tgt := 18) hx hb dX9_load_9 (by decide) (fun k_4 => ?_) (fun k_4 => ?_)
    · obtain rfl : i0 = 0 := zz_le (zz_ge k_1) k_4
      refine lv_aload_n hx hb dX9_load_18 rfl (lv_at hl 0 rfl) ?_
      refine lv_iload_n hx hb dX9_load_19 rfl (lv_at hl 1 rfl) ?_
      refine lv_iconst (v := 0) hx hb dX9_load_20 (by decide) ?_
      refine lv_iconst (v := 0) hx hb dX9_load_21 (by decide) ?_
      have hPc := hP.sub (ws' := [(x, .inr (9, gF q 0 0 (-1) (-1) b 0 0)), (q 0, .inl (cT, 900, .inl (fun _ => 0))), (q 3, .inr (6, rF r 0 0 0 0 0 0 0 0))]) [0, 1, 7] rfl
      have hKc := hK.sub (tys' := [(cT, .int)]) [0] rfl
      have hDc := hD.sub (ws' := [(x, .inr (9, gF q 0 0 (-1) (-1) b 0 0)), (q 0, .inl (cT, 900, .inl (fun _ => 0))), (q 3, .inr (6, rF r 0 0 0 0 0 0 0 0))]) [0, 1, 7] (by decide) rfl
      have hFc := va_free (wc := [(x, .inr (9, gF q 0 0 (-1) (-1) b 0 0)), (q 0, .inl (cT, 900, .inl (fun _ => 0))), (q 3, .inr (6, rF r 0 0 0 0 0 0 0 0))]) hD hS hA [0, 1, 7] rfl
      refine va_calli (va_runV (As := [.int 0, .int 0, .int 0]) (rest := []) ⟨hx, hb, hml, hown, hts⟩ (c_readTape l dC dI x q 0 0 (-1) (-1) b 0 0 cT (fun _ => 0) r 0 0 0 0 0 0 0 0 H.size 0 0) (cwV 3 hts mg_X9_load_X9_readTape_84 rfl rfl rfl (by decide +kernel) ⟨Nat.le_of_ble_eq_true rfl, Nat.le_of_ble_eq_true rfl⟩) ⟨fun a U g mk q => by obtain ⟨q0, q1, qP, qK, qD⟩ := q; exact ⟨q0, q1, qP, va_K.moved (u := U) (U := U.calling g mk a) (Vm.Alike.refl U.vm) qK, qD⟩, va_recv hKc hPc (ci := 9) (q0 := 0) rfl rfl, fun U hU hW => ⟨rfl, by rw [hU], by rw [hU]; exact hPc, va_K.moved hW.alike hKc, hDc.weaken (fun _ _ _ _ => trivial)⟩⟩ rfl rfl hl.1 rfl (lv_room (Nat.le_of_ble_eq_true rfl)) dX9_load_22 ⟨Nat.le_of_ble_eq_true rfl, Nat.le_of_ble_eq_true rfl⟩) hS (fun q _ h => hFc q h) hFc (fun r_6 u t H1 locs ht hvm hw hB hz1 hk1 hS => ?_)
      obtain ⟨hP1, hK1, hD1⟩ := hB
      rw [ht] at hP1
      subst hw
      obtain ⟨hP, hD⟩ := va_join (wr := [(b, .inr (0, [.ref d0, .ref p0, .null])), (d0, .inl (cD, 0, .inr (.inr (.inr (.inr (fun _ => none)))))), (p0, .inl (cP, 0, .inr (.inr (.inr (.inr (fun _ => none)))))), (q 1, .inl (cB, 3, .inr (.inr (.inr (.inr (fun _ => none)))))), (q 2, .inl (cU, 3, .inl (fun _ => 0)))]) (w1 := [(x, .inr (9, gF q 0 0 0 (-1) b 0 0)), (q 0, .inl (cT, 900, .inl (fun _ => 0))), (q 3, .inr (6, rF r 0 (-1) 0 0 0 0 0 0))]) hP hD [0, 1, 7] [2, 3, 4, 5, 6] rfl rfl (by decide) (by decide) hk1 hFc hP1 hD1
      generalize H1 = H at hP hS ⊢
      have hP : va_P (dC, dI) vwCl [(b, .inr (0, [.ref d0, .ref p0, .null])), (d0, .inl (cD, 0, .inr (.inr (.inr (.inr (fun _ => none)))))), (p0, .inl (cP, 0, .inr (.inr (.inr (.inr (fun _ => none)))))), (q 1, .inl (cB, 3, .inr (.inr (.inr (.inr (fun _ => none)))))), (q 2, .inl (cU, 3, .inl (fun _ => 0))), (x, .inr (9, gF q 0 0 0 (-1) b 0 0)), (q 0, .inl (cT, 900, .inl (fun _ => 0))), (q 3, .inr (6, rF r 0 (-1) 0 0 0 0 0 0))] H := hP
      have hD : va_D A [(b, .inr (0, [.ref d0, .ref p0, .null])), (d0, .inl (cD, 0, .inr (.inr (.inr (.inr (fun _ => none)))))), (p0, .inl (cP, 0, .inr (.inr (.inr (.inr (fun _ => none)))))), (q 1, .inl (cB, 3, .inr (.inr (.inr (.inr (fun _ => none)))))), (q 2, .inl (cU, 3, .inl (fun _ => 0))), (x, .inr (9, gF q 0 0 0 (-1) b 0 0)), (q 0, .inl (cT, 900, .inl (fun _ => 0))), (q 3, .inr (6, rF r 0 (-1) 0 0 0 0 0 0))] := hD
      refine lv_if_ne (tgt := 35) hx hb dX9_load_25 (by decide) (fun k_7 => ?_) (fun k_7 => absurd k_7 (by decide))
      refine lv_aload_n hx hb dX9_load_35 rfl (lv_at hl 0 rfl) ?_
      refine lv_aload_n hx hb dX9_load_36 rfl (lv_at hl 0 rfl) ?_
      refine lv_iconst (v := 0) hx hb dX9_load_37 (by decide) ?_
      refine va_newq (C := "PatternGate$Doc") (n := 0) (N' := 0) hx hb hown (hts (.classLink RX9 22 RX2) (List.mem_of_getElem? (i := 35) (by decide +kernel))) hAO2 hK hP hD hS hA (by decide) (by decide) (Nat.le_of_ble_eq_true rfl) (Nat.le_of_ble_eq_true rfl) (Nat.le_of_ble_eq_true rfl) dX9_load_38 (fun q_8 c_9 H hK hP hD hS => ?_)
      have hP : va_P (dC, dI) vwCl [(b, .inr (0, [.ref d0, .ref p0, .null])), (d0, .inl (cD, 0, .inr (.inr (.inr (.inr (fun _ => none)))))), (p0, .inl (cP, 0, .inr (.inr (.inr (.inr (fun _ => none)))))), (q 1, .inl (cB, 3, .inr (.inr (.inr (.inr (fun _ => none)))))), (q 2, .inl (cU, 3, .inl (fun _ => 0))), (x, .inr (9, gF q 0 0 0 (-1) b 0 0)), (q 0, .inl (cT, 900, .inl (fun _ => 0))), (q 3, .inr (6, rF r 0 (-1) 0 0 0 0 0 0)), (q_8, .inl (c_9, 0, .inr (.inr (.inr (.inr (fun _ => none))))))] H := hP
      have hD : va_D A [(b, .inr (0, [.ref d0, .ref p0, .null])), (d0, .inl (cD, 0, .inr (.inr (.inr (.inr (fun _ => none)))))), (p0, .inl (cP, 0, .inr (.inr (.inr (.inr (fun _ => none)))))), (q 1, .inl (cB, 3, .inr (.inr (.inr (.inr (fun _ => none)))))), (q 2, .inl (cU, 3, .inl (fun _ => 0))), (x, .inr (9, gF q 0 0 0 (-1) b 0 0)), (q 0, .inl (cT, 900, .inl (fun _ => 0))), (q 3, .inr (6, rF r 0 (-1) 0 0 0 0 0 0)), (q_8, .inl (c_9, 0, .inr (.inr (.inr (.inr (fun _ => none))))))] := hD
      have hK : va_K (dC, dI) vwCl [(cT, .int), (cD, .object "PatternGate$Doc"), (cP, .object "PatternGate$Pattern"), (cB, .object "PatternGate$Book"), (cU, .int), (c_9, .object "PatternGate$Doc")] s := hK
      refine W.widen (k := 1) (n := 0) (by omega) (by omega) ?_
      refine lv_iconst (v := 0) hx hb dX9_load_41 (by decide) ?_
      refine va_newq (C := "PatternGate$Pattern") (n := 0) (N' := 0) hx hb hown (hts (.classLink RX9 24 RX5) (List.mem_of_getElem? (i := 36) (by decide +kernel))) hAO5 hK hP hD hS hA (by decide) (by decide) (Nat.le_of_ble_eq_true rfl) (Nat.le_of_ble_eq_true rfl) (Nat.le_of_ble_eq_true rfl) dX9_load_42 (fun q_10 c_11 H hK hP hD hS => ?_)
      have hP : va_P (dC, dI) vwCl [(b, .inr (0, [.ref d0, .ref p0, .null])), (d0, .inl (cD, 0, .inr (.inr (.inr (.inr (fun _ => none)))))), (p0, .inl (cP, 0, .inr (.inr (.inr (.inr (fun _ => none)))))), (q 1, .inl (cB, 3, .inr (.inr (.inr (.inr (fun _ => none)))))), (q 2, .inl (cU, 3, .inl (fun _ => 0))), (x, .inr (9, gF q 0 0 0 (-1) b 0 0)), (q 0, .inl (cT, 900, .inl (fun _ => 0))), (q 3, .inr (6, rF r 0 (-1) 0 0 0 0 0 0)), (q_8, .inl (c_9, 0, .inr (.inr (.inr (.inr (fun _ => none)))))), (q_10, .inl (c_11, 0, .inr (.inr (.inr (.inr (fun _ => none))))))] H := hP
      have hD : va_D A [(b, .inr (0, [.ref d0, .ref p0, .null])), (d0, .inl (cD, 0, .inr (.inr (.inr (.inr (fun _ => none)))))), (p0, .inl (cP, 0, .inr (.inr (.inr (.inr (fun _ => none)))))), (q 1, .inl (cB, 3, .inr (.inr (.inr (.inr (fun _ => none)))))), (q 2, .inl (cU, 3, .inl (fun _ => 0))), (x, .inr (9, gF q 0 0 0 (-1) b 0 0)), (q 0, .inl (cT, 900, .inl (fun _ => 0))), (q 3, .inr (6, rF r 0 (-1) 0 0 0 0 0 0)), (q_8, .inl (c_9, 0, .inr (.inr (.inr (.inr (fun _ => none)))))), (q_10, .inl (c_11, 0, .inr (.inr (.inr (.inr (fun _ => none))))))] := hD
      have hK : va_K (dC, dI) vwCl [(cT, .int), (cD, .object "PatternGate$Doc"), (cP, .object "PatternGate$Pattern"), (cB, .object "PatternGate$Book"), (cU, .int), (c_9, .object "PatternGate$Doc"), (c_11, .object "PatternGate$Pattern")] s := hK
      refine W.widen (k := 2) (n := 0) (by omega) (by omega) ?_
      have hPc := hP.sub (ws' := [(x, .inr (9, gF q 0 0 0 (-1) b 0 0)), (q 3, .inr (6, rF r 0 (-1) 0 0 0 0 0 0)), (q_8, .inl (c_9, 0, .inr (.inr (.inr (.inr (fun _ => none)))))), (q_10, .inl (c_11, 0, .inr (.inr (.inr (.inr (fun _ => none))))))]) [5, 7, 8, 9] rfl
      have hKc := hK.sub (tys' := [(c_9, .object "PatternGate$Doc"), (c_11, .object "PatternGate$Pattern")]) [5, 6] rfl
      have hDc := hD.sub (ws' := [(x, .inr (9, gF q 0 0 0 (-1) b 0 0)), (q 3, .inr (6, rF r 0 (-1) 0 0 0 0 0 0)), (q_8, .inl (c_9, 0, .inr (.inr (.inr (.inr (fun _ => none)))))), (q_10, .inl (c_11, 0, .inr (.inr (.inr (.inr (fun _ => none))))))]) [5, 7, 8, 9] (by decide) rfl
      have hFc := va_free (wc := [(x, .inr (9, gF q 0 0 0 (-1) b 0 0)), (q 3, .inr (6, rF r 0 (-1) 0 0 0 0 0 0)), (q_8, .inl (c_9, 0, .inr (.inr (.inr (.inr (fun _ => none)))))), (q_10, .inl (c_11, 0, .inr (.inr (.inr (.inr (fun _ => none))))))]) hD hS hA [5, 7, 8, 9] rfl
      refine va_callr (va_runV (As := [.ref q_8, .ref q_10]) (rest := [.ref x]) ⟨hx, hb, hml, hown, hts⟩ (c_bookBehind l dC dI x q 0 0 0 (-1) b 0 0 r 0 (-1) 0 0 0 q_8 q_10 c_9 c_11 (fun _ => none) (fun _ => none) H.size) (cwV 2 hts mg_X9_load_X9_bookBehind_88 rfl rfl rfl (by decide +kernel) ⟨Nat.le_of_ble_eq_true rfl, Nat.le_of_ble_eq_true rfl⟩) ⟨fun a U g mk q => by obtain ⟨q0, q1, qP, qK, qD, qE0, qE1⟩ := q; exact ⟨q0, q1, qP, va_K.moved (u := U) (U := U.calling g mk a) (Vm.Alike.refl U.vm) qK, qD, va_AO.moved (u := U) (U := U.calling g mk a) (Vm.Alike.refl U.vm) qE0, va_AO.moved (u := U) (U := U.calling g mk a) (Vm.Alike.refl U.vm) qE1⟩, va_recv hKc hPc (ci := 9) (q0 := 0) rfl rfl, fun U hU hW => ⟨rfl, by rw [hU], by rw [hU]; exact hPc, va_K.moved hW.alike hKc, hDc.weaken (fun _ _ _ _ => trivial), va_AO.moved hW.alike hAO2, va_AO.moved hW.alike hAO5⟩⟩ rfl rfl hl.1 rfl (lv_room (Nat.le_of_ble_eq_true rfl)) dX9_load_45 ⟨Nat.le_of_ble_eq_true rfl, Nat.le_of_ble_eq_true rfl⟩) hS (fun q _ h => hFc q h) hFc (fun u r_13 t H1 locs ht hvm hw hB hz1 hk1 hS => ?_)
      obtain ⟨d_14, p_15, c_16, c_17, f_18, f_19, hP1, hK1, hD1⟩ := hB
      rw [ht] at hP1
      have hK1 := va_K.moved hvm.symm hK1
      obtain ⟨hP, hD⟩ := va_join (wr := [(b, .inr (0, [.ref d0, .ref p0, .null])), (d0, .inl (cD, 0, .inr (.inr (.inr (.inr (fun _ => none)))))), (p0, .inl (cP, 0, .inr (.inr (.inr (.inr (fun _ => none)))))), (q 1, .inl (cB, 3, .inr (.inr (.inr (.inr (fun _ => none)))))), (q 2, .inl (cU, 3, .inl (fun _ => 0))), (q 0, .inl (cT, 900, .inl (fun _ => 0)))]) (w1 := [(x, .inr (9, gF q 0 0 0 (-1) b 0 0)), (q 3, .inr (6, rF r 0 (-1) 0 0 0 0 0 0)), (q_8, .inl (c_9, 0, .inr (.inr (.inr (.inr (fun _ => none)))))), (q_10, .inl (c_11, 0, .inr (.inr (.inr (.inr (fun _ => none)))))), (d_14, .inl (c_16, 0, .inr (.inr (.inr (.inr f_18))))), (p_15, .inl (c_17, 0, .inr (.inr (.inr (.inr f_19))))), (r_13, .inr (0, [.ref d_14, .ref p_15, .ref b]))]) hP hD [5, 7, 8, 9] [0, 1, 2, 3, 4, 6] rfl rfl (by decide) (by decide) hk1 hFc hP1 hD1
      generalize H1 = H at hP hS ⊢
      have hP : va_P (dC, dI) vwCl [(b, .inr (0, [.ref d0, .ref p0, .null])), (d0, .inl (cD, 0, .inr (.inr (.inr (.inr (fun _ => none)))))), (p0, .inl (cP, 0, .inr (.inr (.inr (.inr (fun _ => none)))))), (q 1, .inl (cB, 3, .inr (.inr (.inr (.inr (fun _ => none)))))), (q 2, .inl (cU, 3, .inl (fun _ => 0))), (q 0, .inl (cT, 900, .inl (fun _ => 0))), (x, .inr (9, gF q 0 0 0 (-1) b 0 0)), (q 3, .inr (6, rF r 0 (-1) 0 0 0 0 0 0)), (q_8, .inl (c_9, 0, .inr (.inr (.inr (.inr (fun _ => none)))))), (q_10, .inl (c_11, 0, .inr (.inr (.inr (.inr (fun _ => none)))))), (d_14, .inl (c_16, 0, .inr (.inr (.inr (.inr f_18))))), (p_15, .inl (c_17, 0, .inr (.inr (.inr (.inr f_19))))), (r_13, .inr (0, [.ref d_14, .ref p_15, .ref b]))] H := hP
      have hD : va_D A [(b, .inr (0, [.ref d0, .ref p0, .null])), (d0, .inl (cD, 0, .inr (.inr (.inr (.inr (fun _ => none)))))), (p0, .inl (cP, 0, .inr (.inr (.inr (.inr (fun _ => none)))))), (q 1, .inl (cB, 3, .inr (.inr (.inr (.inr (fun _ => none)))))), (q 2, .inl (cU, 3, .inl (fun _ => 0))), (q 0, .inl (cT, 900, .inl (fun _ => 0))), (x, .inr (9, gF q 0 0 0 (-1) b 0 0)), (q 3, .inr (6, rF r 0 (-1) 0 0 0 0 0 0)), (q_8, .inl (c_9, 0, .inr (.inr (.inr (.inr (fun _ => none)))))), (q_10, .inl (c_11, 0, .inr (.inr (.inr (.inr (fun _ => none)))))), (d_14, .inl (c_16, 0, .inr (.inr (.inr (.inr f_18))))), (p_15, .inl (c_17, 0, .inr (.inr (.inr (.inr f_19))))), (r_13, .inr (0, [.ref d_14, .ref p_15, .ref b]))] := hD
      have hK := (hK.sub (tys' := [(cT, .int), (cD, .object "PatternGate$Doc"), (cP, .object "PatternGate$Pattern"), (cB, .object "PatternGate$Book"), (cU, .int)]) [0, 1, 2, 3, 4] rfl).app hK1
      have hK : va_K (dC, dI) vwCl [(cT, .int), (cD, .object "PatternGate$Doc"), (cP, .object "PatternGate$Pattern"), (cB, .object "PatternGate$Book"), (cU, .int), (c_9, .object "PatternGate$Doc"), (c_11, .object "PatternGate$Pattern"), (c_16, .object "PatternGate$Doc"), (c_17, .object "PatternGate$Pattern")] s := hK
      refine W.widen (k := 5) (n := 3) (by omega) (by omega) ?_
      have hPc := hP.sub (ws' := [(x, .inr (9, gF q 0 0 0 (-1) b 0 0))]) [6] rfl
      have hKc := hK.sub (tys' := []) [] rfl
      have hDc := hD.sub (ws' := [(x, .inr (9, gF q 0 0 0 (-1) b 0 0))]) [6] (by decide) rfl
      have hFc := va_free (wc := [(x, .inr (9, gF q 0 0 0 (-1) b 0 0))]) hD hS hA [6] rfl
      refine va_callv (va_runV (As := [.ref r_13]) (rest := []) ⟨hx, hb, hml, hown, hts⟩ (c_act l dC dI x q 0 0 0 (-1) b 0 H.size r_13) (cwV 1 hts mg_X9_load_X9_act_92 rfl rfl rfl (by decide +kernel) ⟨Nat.le_of_ble_eq_true rfl, Nat.le_of_ble_eq_true rfl⟩) ⟨fun a U g mk q => by obtain ⟨q0, q1, qP, qK, qD⟩ := q; exact ⟨q0, q1, qP, va_K.moved (u := U) (U := U.calling g mk a) (Vm.Alike.refl U.vm) qK, qD⟩, va_recv hKc hPc (ci := 9) (q0 := 0) rfl rfl, fun U hU hW => ⟨rfl, by rw [hU], by rw [hU]; exact hPc, va_K.moved hW.alike hKc, hDc.weaken (fun _ _ _ _ => trivial)⟩⟩ rfl rfl hl.1 rfl (lv_room (Nat.le_of_ble_eq_true rfl)) dX9_load_48 ⟨Nat.le_of_ble_eq_true rfl, Nat.le_of_ble_eq_true rfl⟩) hS (fun q _ h => hFc q h) hFc (fun u t H1 locs ht hvm hw hB hz1 hk1 hS => ?_)
      obtain ⟨hP1, hK1, hD1⟩ := hB
      rw [ht] at hP1
      obtain ⟨hP, hD⟩ := va_join (wr := [(b, .inr (0, [.ref d0, .ref p0, .null])), (d0, .inl (cD, 0, .inr (.inr (.inr (.inr (fun _ => none)))))), (p0, .inl (cP, 0, .inr (.inr (.inr (.inr (fun _ => none)))))), (q 1, .inl (cB, 3, .inr (.inr (.inr (.inr (fun _ => none)))))), (q 2, .inl (cU, 3, .inl (fun _ => 0))), (q 0, .inl (cT, 900, .inl (fun _ => 0))), (q 3, .inr (6, rF r 0 (-1) 0 0 0 0 0 0)), (q_8, .inl (c_9, 0, .inr (.inr (.inr (.inr (fun _ => none)))))), (q_10, .inl (c_11, 0, .inr (.inr (.inr (.inr (fun _ => none)))))), (d_14, .inl (c_16, 0, .inr (.inr (.inr (.inr f_18))))), (p_15, .inl (c_17, 0, .inr (.inr (.inr (.inr f_19))))), (r_13, .inr (0, [.ref d_14, .ref p_15, .ref b]))]) (w1 := [(x, .inr (9, gF q 0 0 0 (-1) r_13 1 0))]) hP hD [6] [0, 1, 2, 3, 4, 5, 7, 8, 9, 10, 11, 12] rfl rfl (by decide) (by decide) hk1 hFc hP1 hD1
      generalize H1 = H at hP hS ⊢
      have hP : va_P (dC, dI) vwCl [(b, .inr (0, [.ref d0, .ref p0, .null])), (d0, .inl (cD, 0, .inr (.inr (.inr (.inr (fun _ => none)))))), (p0, .inl (cP, 0, .inr (.inr (.inr (.inr (fun _ => none)))))), (q 1, .inl (cB, 3, .inr (.inr (.inr (.inr (fun _ => none)))))), (q 2, .inl (cU, 3, .inl (fun _ => 0))), (q 0, .inl (cT, 900, .inl (fun _ => 0))), (q 3, .inr (6, rF r 0 (-1) 0 0 0 0 0 0)), (q_8, .inl (c_9, 0, .inr (.inr (.inr (.inr (fun _ => none)))))), (q_10, .inl (c_11, 0, .inr (.inr (.inr (.inr (fun _ => none)))))), (d_14, .inl (c_16, 0, .inr (.inr (.inr (.inr f_18))))), (p_15, .inl (c_17, 0, .inr (.inr (.inr (.inr f_19))))), (r_13, .inr (0, [.ref d_14, .ref p_15, .ref b])), (x, .inr (9, gF q 0 0 0 (-1) r_13 1 0))] H := hP
      have hD : va_D A [(b, .inr (0, [.ref d0, .ref p0, .null])), (d0, .inl (cD, 0, .inr (.inr (.inr (.inr (fun _ => none)))))), (p0, .inl (cP, 0, .inr (.inr (.inr (.inr (fun _ => none)))))), (q 1, .inl (cB, 3, .inr (.inr (.inr (.inr (fun _ => none)))))), (q 2, .inl (cU, 3, .inl (fun _ => 0))), (q 0, .inl (cT, 900, .inl (fun _ => 0))), (q 3, .inr (6, rF r 0 (-1) 0 0 0 0 0 0)), (q_8, .inl (c_9, 0, .inr (.inr (.inr (.inr (fun _ => none)))))), (q_10, .inl (c_11, 0, .inr (.inr (.inr (.inr (fun _ => none)))))), (d_14, .inl (c_16, 0, .inr (.inr (.inr (.inr f_18))))), (p_15, .inl (c_17, 0, .inr (.inr (.inr (.inr f_19))))), (r_13, .inr (0, [.ref d_14, .ref p_15, .ref b])), (x, .inr (9, gF q 0 0 0 (-1) r_13 1 0))] := hD
      refine lv_aload_n hx hb dX9_load_51 rfl (lv_at hl 0 rfl) ?_
      refine lv_aload_n hx hb dX9_load_52 rfl (lv_at hl 0 rfl) ?_
      refine va_get (D := (dC, dI)) (ci := 9) (v := .ref r_13) (C := RX9) (T := TX9) (N := 16) hx hb hts fin_X9_load_X9 hown hK hP 12 rfl rfl 5 (by decide) (hts (.fieldLink RX9 29 "PatternGate" "book" "LPatternGate$Book;") (List.mem_of_getElem? (i := 48) (by decide +kernel))) (fun _ h9 => h9) rfl dX9_load_53 ?_
      refine va_get (D := (dC, dI)) (ci := 0) (v := .ref d_14) (C := RX0) (T := TX0) (N := 3) hx hb hts fin_X9_load_X0 hown hK hP 11 rfl rfl 0 (by decide) (hts (.fieldLink RX9 96 "PatternGate$Book" "docs" "[LPatternGate$Doc;") (List.mem_of_getElem? (i := 67) (by decide +kernel))) (fun _ h9 => h9) rfl dX9_load_56 ?_
      refine va_alen (v := 0) hx hb hK hP 9 7 rfl rfl rfl dX9_load_59 ?_
      have hPc := hP.sub (ws' := [(x, .inr (9, gF q 0 0 0 (-1) r_13 1 0))]) [12] rfl
      have hKc := hK.sub (tys' := []) [] rfl
      have hDc := hD.sub (ws' := [(x, .inr (9, gF q 0 0 0 (-1) r_13 1 0))]) [12] (by decide) rfl
      have hFc := va_free (wc := [(x, .inr (9, gF q 0 0 0 (-1) r_13 1 0))]) hD hS hA [12] rfl
      refine va_calli (va_runV (As := [.int 0]) (rest := []) ⟨hx, hb, hml, hown, hts⟩ (c_answer l dC dI x q 0 0 0 (-1) r_13 1 0 H.size 0) (cwV 1 hts mg_X9_load_X9_answer_100 rfl rfl rfl (by decide +kernel) ⟨Nat.le_of_ble_eq_true rfl, Nat.le_of_ble_eq_true rfl⟩) ⟨fun a U g mk q => by obtain ⟨q0, q1, qP, qK, qD⟩ := q; exact ⟨q0, q1, qP, va_K.moved (u := U) (U := U.calling g mk a) (Vm.Alike.refl U.vm) qK, qD⟩, va_recv hKc hPc (ci := 9) (q0 := 0) rfl rfl, fun U hU hW => ⟨rfl, by rw [hU], by rw [hU]; exact hPc, va_K.moved hW.alike hKc, hDc.weaken (fun _ _ _ _ => trivial)⟩⟩ rfl rfl hl.1 rfl (lv_room (Nat.le_of_ble_eq_true rfl)) dX9_load_60 ⟨Nat.le_of_ble_eq_true rfl, Nat.le_of_ble_eq_true rfl⟩) hS (fun q _ h => hFc q h) hFc (fun r_23 u t H1 locs ht hvm hw hB hz1 hk1 hS => ?_)
      refine W.widen (k := 5) (n := 3) (by omega) (by omega) ?_
      exact W.iret hx hb hr (fun t ht hW => ⟨⟨_, (), rfl, (hw.trans rfl), trivial⟩, hS.F ht⟩) hS.2.2 dX9_load_63
    · refine lv_aload_n hx hb dX9_load_12 rfl (lv_at hl 0 rfl) ?_
      refine lv_iconst (v := 1) hx hb dX9_load_13 (by decide) ?_
      have hPc := hP.sub (ws' := [(x, .inr (9, gF q 0 0 (-1) (-1) b 0 0))]) [0] rfl
      have hKc := hK.sub (tys' := []) [] rfl
      have hDc := hD.sub (ws' := [(x, .inr (9, gF q 0 0 (-1) (-1) b 0 0))]) [0] (by decide) rfl
      have hFc := va_free (wc := [(x, .inr (9, gF q 0 0 (-1) (-1) b 0 0))]) hD hS hA [0] rfl
      refine va_calli (va_runV (As := [.int 1]) (rest := []) ⟨hx, hb, hml, hown, hts⟩ (c_refuse l dC dI x q 0 0 (-1) (-1) b 0 0 H.size 1) (cwV 1 hts mg_X9_load_X9_refuse_80 rfl rfl rfl (by decide +kernel) ⟨Nat.le_of_ble_eq_true rfl, Nat.le_of_ble_eq_true rfl⟩) ⟨fun a U g mk q => by obtain ⟨q0, q1, qP, qK, qD⟩ := q; exact ⟨q0, q1, qP, va_K.moved (u := U) (U := U.calling g mk a) (Vm.Alike.refl U.vm) qK, qD⟩, va_recv hKc hPc (ci := 9) (q0 := 0) rfl rfl, fun U hU hW => ⟨rfl, by rw [hU], by rw [hU]; exact hPc, va_K.moved hW.alike hKc, hDc.weaken (fun _ _ _ _ => trivial)⟩⟩ rfl rfl hl.1 rfl (lv_room (Nat.le_of_ble_eq_true rfl)) dX9_load_14 ⟨Nat.le_of_ble_eq_true rfl, Nat.le_of_ble_eq_true rfl⟩) hS (fun q _ h => hFc q h) hFc (fun r_25 u t H1 locs ht hvm hw hB hz1 hk1 hS => ?_)
      refine W.widen (k := 5) (n := 3) (by omega) (by omega) ?_
      exact W.iret hx hb hr (fun t ht hW => ⟨⟨_, (), rfl, (hw.trans (s_load_gt k_4).symm), trivial⟩, hS.F ht⟩) hS.2.2 dX9_load_17
theorem dX9_more_0 : decode cX9_more 0 = .ok (.iload_n 1, 1) := by decide +kernel
theorem dX9_more_1 : decode cX9_more 1 = .ok (.ifCond .lt 11, 3) := by decide +kernel
theorem dX9_more_4 : decode cX9_more 4 = .ok (.iload_n 1, 1) := by decide +kernel
theorem dX9_more_5 : decode cX9_more 5 = .ok (.aload_n 0, 1) := by decide +kernel
theorem dX9_more_6 : decode cX9_more 6 = .ok (.getfield 73, 3) := by decide +kernel
theorem dX9_more_9 : decode cX9_more 9 = .ok (.if_icmp .le 9, 3) := by decide +kernel
theorem dX9_more_12 : decode cX9_more 12 = .ok (.aload_n 0, 1) := by decide +kernel
theorem dX9_more_13 : decode cX9_more 13 = .ok (.iconst 1, 1) := by decide +kernel
theorem dX9_more_14 : decode cX9_more 14 = .ok (.invokevirtual 80, 3) := by decide +kernel
theorem dX9_more_17 : decode cX9_more 17 = .ok (.ireturn, 1) := by decide +kernel
theorem dX9_more_18 : decode cX9_more 18 = .ok (.aload_n 0, 1) := by decide +kernel
theorem dX9_more_19 : decode cX9_more 19 = .ok (.iload_n 1, 1) := by decide +kernel
theorem dX9_more_20 : decode cX9_more 20 = .ok (.aload_n 0, 1) := by decide +kernel
theorem dX9_more_21 : decode cX9_more 21 = .ok (.getfield 29, 3) := by decide +kernel
theorem dX9_more_24 : decode cX9_more 24 = .ok (.getfield 96, 3) := by decide +kernel
theorem dX9_more_27 : decode cX9_more 27 = .ok (.arraylength, 1) := by decide +kernel
theorem dX9_more_28 : decode cX9_more 28 = .ok (.aload_n 0, 1) := by decide +kernel
theorem dX9_more_29 : decode cX9_more 29 = .ok (.getfield 29, 3) := by decide +kernel
theorem dX9_more_32 : decode cX9_more 32 = .ok (.getfield 103, 3) := by decide +kernel
theorem dX9_more_35 : decode cX9_more 35 = .ok (.arraylength, 1) := by decide +kernel
theorem dX9_more_36 : decode cX9_more 36 = .ok (.invokevirtual 84, 3) := by decide +kernel
theorem dX9_more_39 : decode cX9_more 39 = .ok (.ifCond .ne 10, 3) := by decide +kernel
theorem dX9_more_49 : decode cX9_more 49 = .ok (.aload_n 0, 1) := by decide +kernel
theorem dX9_more_50 : decode cX9_more 50 = .ok (.aload_n 0, 1) := by decide +kernel
theorem dX9_more_51 : decode cX9_more 51 = .ok (.aload_n 0, 1) := by decide +kernel
theorem dX9_more_52 : decode cX9_more 52 = .ok (.getfield 29, 3) := by decide +kernel
theorem dX9_more_55 : decode cX9_more 55 = .ok (.getfield 96, 3) := by decide +kernel
theorem dX9_more_58 : decode cX9_more 58 = .ok (.aload_n 0, 1) := by decide +kernel
theorem dX9_more_59 : decode cX9_more 59 = .ok (.getfield 29, 3) := by decide +kernel
theorem dX9_more_62 : decode cX9_more 62 = .ok (.getfield 103, 3) := by decide +kernel
theorem dX9_more_65 : decode cX9_more 65 = .ok (.invokevirtual 88, 3) := by decide +kernel
theorem dX9_more_68 : decode cX9_more 68 = .ok (.invokevirtual 92, 3) := by decide +kernel
theorem dX9_more_71 : decode cX9_more 71 = .ok (.aload_n 0, 1) := by decide +kernel
theorem dX9_more_72 : decode cX9_more 72 = .ok (.aload_n 0, 1) := by decide +kernel
theorem dX9_more_73 : decode cX9_more 73 = .ok (.getfield 43, 3) := by decide +kernel
theorem dX9_more_76 : decode cX9_more 76 = .ok (.getfield 107, 3) := by decide +kernel
theorem dX9_more_79 : decode cX9_more 79 = .ok (.invokevirtual 100, 3) := by decide +kernel
theorem dX9_more_82 : decode cX9_more 82 = .ok (.ireturn, 1) := by decide +kernel
def mwX9_more : List Cond := .code yX9_more cX9_more 2 (some .int) :: ([.code yX9_refuse cX9_refuse 2 (some .int), .fieldLink RX9 70 "PatternGate" "lastStatus" "I", .methodLink RX9 80 yX9_refuse, .instanceMethod yX9_refuse, .selects RX9 yX9_refuse yX9_refuse, .initialized RX9, .fieldLink RX9 73 "PatternGate" "taped" "I", .fieldLink RX9 29 "PatternGate" "book" "LPatternGate$Book;", .fieldLink RX9 96 "PatternGate$Book" "docs" "[LPatternGate$Doc;", .fieldLink RX9 103 "PatternGate$Book" "patterns" "[LPatternGate$Pattern;", .code yX9_readTape cX9_readTape 5 (some .boolean), .fieldLink RX9 43 "PatternGate" "reader" "LPatternGate$Reader;", .fieldLink RX9 9 "PatternGate" "tape" "[I", .code yX6_read cX6_read 8 (some .boolean), .fieldLink RX6 22 "PatternGate$Reader" "faultKind" "I", .fieldLink RX6 26 "PatternGate$Reader" "faultPlace" "I", .fieldLink RX6 29 "PatternGate$Reader" "lines" "I", .fieldLink RX6 32 "PatternGate$Reader" "newDocs" "I", .fieldLink RX6 35 "PatternGate$Reader" "newPatterns" "I", .fieldLink RX6 38 "PatternGate$Reader" "docsAhead" "I", .fieldLink RX6 41 "PatternGate$Reader" "patternsAhead" "I", .fieldLink RX6 44 "PatternGate$Reader" "wanted" "I", .methodLink RX6 47 Lib.Math.min.name, .static Lib.Math.min.name, .initialized "java/lang/Math", .code Lib.Math.min.name Lib.Math.min.code 2 (some .int), .methodLink RX9 293 yX6_read, .instanceMethod yX6_read, .selects RX6 yX6_read yX6_read, .initialized RX6, .fieldLink RX9 297 "PatternGate$Reader" "faultKind" "I", .fieldLink RX9 13 "PatternGate" "faultKind" "I", .fieldLink RX9 298 "PatternGate$Reader" "faultPlace" "I", .fieldLink RX9 17 "PatternGate" "faultPlace" "I", .methodLink RX9 84 yX9_readTape, .instanceMethod yX9_readTape, .selects RX9 yX9_readTape yX9_readTape, .code yX9_bookBehind cX9_bookBehind 10 (some (.object "PatternGate$Book")), .fieldLink RX9 299 "PatternGate$Reader" "newDocs" "I", .classLink RX9 22 RX2, .fieldLink RX9 302 "PatternGate$Reader" "newPatterns" "I", .classLink RX9 24 RX5, .methodLink RX9 255 arraycopyName, .native arraycopyName, .static arraycopyName, .initialized "java/lang/System", .fieldLink RX9 107 "PatternGate$Reader" "lines" "I", .classLink RX9 20 RX0, .instantiable RX0 3, .initialized RX0, .code yX0_init cX0_init 4 none, .methodLink RX0 1 objectInit, .instanceMethod objectInit, .code objectInit ⟨#[0xb1]⟩ 1 none, .fieldLink RX0 7 "PatternGate$Book" "docs" "[LPatternGate$Doc;", .fieldLink RX0 13 "PatternGate$Book" "patterns" "[LPatternGate$Pattern;", .fieldLink RX0 17 "PatternGate$Book" "earlier" "LPatternGate$Book;", .methodLink RX9 26 yX0_init, .instanceMethod yX0_init, .methodLink RX9 88 yX9_bookBehind, .instanceMethod yX9_bookBehind, .selects RX9 yX9_bookBehind yX9_bookBehind, .code yX9_act cX9_act 2 none, .fieldLink RX9 117 "PatternGate" "undoable" "I", .methodLink RX9 323 Lib.Math.min.name, .methodLink RX9 92 yX9_act, .instanceMethod yX9_act, .selects RX9 yX9_act yX9_act, .code yX9_answer cX9_answer 2 (some .int), .methodLink RX9 100 yX9_answer, .instanceMethod yX9_answer, .selects RX9 yX9_answer yX9_answer] ++ wsX90 ++ wsX00 ++ wsX60)
theorem fin_X9_more_X0 : ∀ w ∈ wsX00, w ∈ mwX9_more := fun w h => List.mem_cons_of_mem _ (List.mem_append_left _ (List.mem_append_right _ h))
theorem fin_X9_more_X6 : ∀ w ∈ wsX60, w ∈ mwX9_more := fun w h => List.mem_cons_of_mem _ (List.mem_append_right _ h)
theorem fin_X9_more_X9 : ∀ w ∈ wsX90, w ∈ mwX9_more := fun w h => List.mem_cons_of_mem _ (List.mem_append_left _ (List.mem_append_left _ (List.mem_append_right _ h)))
set_option maxRecDepth 20000 in
theorem mg_X9_more_X9_refuse_80 : GoodIn mwX9_more (wsV RX9 80 RX9 yX9_refuse mwX9_refuse) := goodIn_r _ [3, 4, 5, 6, 1, 2, 73, 74, 75, 76, 77, 78, 79, 80, 81, 82, 83, 84, 85, 86, 87, 88] (by decide +kernel) (by decide +kernel)
set_option maxRecDepth 20000 in
theorem mg_X9_more_X9_readTape_84 : GoodIn mwX9_more (wsV RX9 84 RX9 yX9_readTape mwX9_readTape) := goodIn_r _ [35, 36, 37, 6, 11, 12, 13, 14, 15, 16, 17, 18, 19, 20, 21, 22, 23, 24, 25, 26, 27, 28, 29, 30, 31, 32, 33, 34, 7, 73, 74, 75, 76, 77, 78, 79, 80, 81, 82, 83, 84, 85, 86, 87, 88, 92, 93, 94, 95, 96, 97, 98, 99, 100, 101, 102] (by decide +kernel) (by decide +kernel)
set_option maxRecDepth 20000 in
theorem mg_X9_more_X9_bookBehind_88 : GoodIn mwX9_more (wsV RX9 88 RX9 yX9_bookBehind mwX9_bookBehind) := goodIn_r _ [60, 61, 62, 6, 38, 12, 39, 40, 41, 42, 43, 44, 45, 46, 47, 48, 49, 50, 8, 51, 52, 53, 54, 55, 56, 57, 58, 59, 73, 74, 75, 76, 77, 78, 79, 80, 81, 82, 83, 84, 85, 86, 87, 88, 92, 93, 94, 95, 96, 97, 98, 99, 100, 101, 102, 89, 90, 91] (by decide +kernel) (by decide +kernel)
set_option maxRecDepth 20000 in
theorem mg_X9_more_X9_act_92 : GoodIn mwX9_more (wsV RX9 92 RX9 yX9_act mwX9_act) := goodIn_r _ [66, 67, 68, 6, 63, 8, 64, 65, 24, 25, 26, 73, 74, 75, 76, 77, 78, 79, 80, 81, 82, 83, 84, 85, 86, 87, 88] (by decide +kernel) (by decide +kernel)
set_option maxRecDepth 20000 in
theorem mg_X9_more_X9_answer_100 : GoodIn mwX9_more (wsV RX9 100 RX9 yX9_answer mwX9_answer) := goodIn_r _ [70, 71, 72, 6, 69, 2, 73, 74, 75, 76, 77, 78, 79, 80, 81, 82, 83, 84, 85, 86, 87, 88] (by decide +kernel) (by decide +kernel)
set_option maxHeartbeats 4000000 in
set_option maxRecDepth 100000 in
/-- more on a new object -/
theorem c_more (l : Launch) (dC : Nat → ClassId) (dI : Nat → Nat → Nat) (x : Nat) (q : Nat → Nat) (b d0 p0 : Nat) (cT cD cP cB cU : ClassId) (r : Nat → Nat) (sz : Nat) (i0 : Int32) : Met l yX9_more mwX9_more ({ frames := 3, cells := 3, slots := 3, locals := 180 }) (va_Pc [.ref x, .int i0] (fun U => U.heap.size = sz ∧ va_P (dC, dI) vwCl (gW x q b d0 p0 cT cD cP cB cU r) U.heap ∧ va_K (dC, dI) vwCl (gT cT cD cP cB cU) U ∧ va_D (fun _ => True) (gW x q b d0 p0 cT cD cP cB cU r) ∧ va_AO "PatternGate$Doc" U ∧ va_AO "PatternGate$Pattern" U)) (va_Qi (fun (o : Int32) (_ : Unit) => o = s_load i0) (fun _ _ => True) (va_A (gW x q b d0 p0 cT cD cP cB cU r) sz)) 3 3 (va_A (gW x q b d0 p0 cT cD cP cB cU r) sz) := by
  refine Met.ofW (cc := cX9_more) (maxL := 2) (ret := (some .int)) (by decide +kernel) rfl ?_
  intro p e s m args below meth c s₁ B hml hv
  obtain ⟨rfl, hsz, hP, hK, hD0, hAO2, hAO5⟩ := hv
  have hx := B.exec
  have hb := B.bytes
  have hr := B.returns
  have hts := atoms_spec (ws := mwX9_more) B.pre
  have hown : s.vm.findClass RX9 = some m.cls := findClass_of_methodNamed B.named
  have hlocks := B.notSynchronized
  subst hsz
  have hD := hD0.self (sz := s.heap.size)
  generalize hAe : va_A (gW x q b d0 p0 cT cD cP cB cU r) s.heap.size = A at hD ⊢
  have hA : ∀ q : Nat, s.heap.size ≤ q → A q := fun q h => by rw [← hAe]; exact Or.inr h
  have hP : va_P (dC, dI) vwCl [(x, .inr (9, gF q 0 0 (-1) (-1) b 0 0)), (q 0, .inl (cT, 900, .inl (fun _ => 0))), (b, .inr (0, [.ref d0, .ref p0, .null])), (d0, .inl (cD, 0, .inr (.inr (.inr (.inr (fun _ => none)))))), (p0, .inl (cP, 0, .inr (.inr (.inr (.inr (fun _ => none)))))), (q 1, .inl (cB, 3, .inr (.inr (.inr (.inr (fun _ => none)))))), (q 2, .inl (cU, 3, .inl (fun _ => 0))), (q 3, .inr (6, rF r 0 0 0 0 0 0 0 0))] s.heap := hP
  have hD : va_D A [(x, .inr (9, gF q 0 0 (-1) (-1) b 0 0)), (q 0, .inl (cT, 900, .inl (fun _ => 0))), (b, .inr (0, [.ref d0, .ref p0, .null])), (d0, .inl (cD, 0, .inr (.inr (.inr (.inr (fun _ => none)))))), (p0, .inl (cP, 0, .inr (.inr (.inr (.inr (fun _ => none)))))), (q 1, .inl (cB, 3, .inr (.inr (.inr (.inr (fun _ => none)))))), (q 2, .inl (cU, 3, .inl (fun _ => 0))), (q 3, .inr (6, rF r 0 0 0 0 0 0 0 0))] := hD
  have hK : va_K (dC, dI) vwCl [(cT, .int), (cD, .object "PatternGate$Doc"), (cP, .object "PatternGate$Pattern"), (cB, .object "PatternGate$Book"), (cU, .int)] s := hK
  generalize hH : s.heap = H at hP ⊢
  have hS : va_S A s.heap H [] := by rw [← hH]; exact va_S.rf
  have hl := lv_entry ([.ref x, .int i0]) (n := 2) (Nat.le_of_ble_eq_true rfl)
  rw [lg_entry_eq]
  generalize (lg_sl ([.ref x, .int i0]) ++ List.replicate (2 - (lg_sl ([.ref x, .int i0])).length) Slot.unset).toArray = ls at hl ⊢
  have hl : lv_has ls 2 [(0, .ref x), (1, .int i0)] := hl
  refine lv_iload_n hx hb dX9_more_0 rfl (lv_at hl 1 rfl) ?_
  refine lv_if_lt (tgt := 12) hx hb dX9_more_1 (by decide) (fun k_1 => ?_) (fun k_1 => ?_)
  · refine lv_aload_n hx hb dX9_more_12 rfl (lv_at hl 0 rfl) ?_
    refine lv_iconst (v := 1) hx hb dX9_more_13 (by decide) ?_
    have hPc := hP.sub (ws' := [(x, .inr (9, gF q 0 0 (-1) (-1) b 0 0))]) [0] rfl
    have hKc := hK.sub (tys' := []) [] rfl
    have hDc := hD.sub (ws' := [(x, .inr (9, gF q 0 0 (-1) (-1) b 0 0))]) [0] (by decide) rfl
    have hFc := va_free (wc := [(x, .inr (9, gF q 0 0 (-1) (-1) b 0 0))]) hD hS hA [0] rfl
    refine va_calli (va_runV (As := [.int 1]) (rest := []) ⟨hx, hb, hml, hown, hts⟩ (c_refuse l dC dI x q 0 0 (-1) (-1) b 0 0 H.size 1) (cwV 1 hts mg_X9_more_X9_refuse_80 rfl rfl rfl (by decide +kernel) ⟨Nat.le_of_ble_eq_true rfl, Nat.le_of_ble_eq_true rfl⟩) ⟨fun a U g mk q => by obtain ⟨q0, q1, qP, qK, qD⟩ := q; exact ⟨q0, q1, qP, va_K.moved (u := U) (U := U.calling g mk a) (Vm.Alike.refl U.vm) qK, qD⟩, va_recv hKc hPc (ci := 9) (q0 := 0) rfl rfl, fun U hU hW => ⟨rfl, by rw [hU], by rw [hU]; exact hPc, va_K.moved hW.alike hKc, hDc.weaken (fun _ _ _ _ => trivial)⟩⟩ rfl rfl hl.1 rfl (lv_room (Nat.le_of_ble_eq_true rfl)) dX9_more_14 ⟨Nat.le_of_ble_eq_true rfl, Nat.le_of_ble_eq_true rfl⟩) hS (fun q _ h => hFc q h) hFc (fun r_3 u t H1 locs ht hvm hw hB hz1 hk1 hS => ?_)
    refine W.widen (k := 3) (n := 3) (by omega) (by omega) ?_
    exact W.iret hx hb hr (fun t ht hW => ⟨⟨_, (), rfl, (hw.trans (s_load_lt k_1).symm), trivial⟩, hS.F ht⟩) hS.2.2 dX9_more_17
  · refine lv_iload_n hx hb dX9_more_4 rfl (lv_at hl 1 rfl) ?_
    refine lv_aload_n hx hb dX9_more_5 rfl (lv_at hl 0 rfl) ?_
    refine va_get (D := (dC, dI)) (ci := 9) (v := .int 0) (C := RX9) (T := TX9) (N := 16) hx hb hts fin_X9_more_X9 hown hK hP 0 rfl rfl 2 (by decide) (hts (.fieldLink RX9 73 "PatternGate" "taped" "I") (List.mem_of_getElem? (i := 7) (by decide +kernel))) (fun _ h9 => h9) rfl dX9_more_6 ?_
    refine lv_icmp_le (tgt := 18) hx hb dX9_more_9 (by decide) (fun k_4 => ?_) (fun k_4 => ?_)
    · obtain rfl : i0 = 0 := zz_le (zz_ge k_1) k_4
      refine lv_aload_n hx hb dX9_more_18 rfl (lv_at hl 0 rfl) ?_
      refine lv_iload_n hx hb dX9_more_19 rfl (lv_at hl 1 rfl) ?_
      refine lv_aload_n hx hb dX9_more_20 rfl (lv_at hl 0 rfl) ?_
      refine va_get (D := (dC, dI)) (ci := 9) (v := .ref b) (C := RX9) (T := TX9) (N := 16) hx hb hts fin_X9_more_X9 hown hK hP 0 rfl rfl 5 (by decide) (hts (.fieldLink RX9 29 "PatternGate" "book" "LPatternGate$Book;") (List.mem_of_getElem? (i := 8) (by decide +kernel))) (fun _ h9 => h9) rfl dX9_more_21 ?_
      refine va_get (D := (dC, dI)) (ci := 0) (v := .ref d0) (C := RX0) (T := TX0) (N := 3) hx hb hts fin_X9_more_X0 hown hK hP 2 rfl rfl 0 (by decide) (hts (.fieldLink RX9 96 "PatternGate$Book" "docs" "[LPatternGate$Doc;") (List.mem_of_getElem? (i := 9) (by decide +kernel))) (fun _ h9 => h9) rfl dX9_more_24 ?_
      refine va_alen (v := 0) hx hb hK hP 3 1 rfl rfl rfl dX9_more_27 ?_
      refine lv_aload_n hx hb dX9_more_28 rfl (lv_at hl 0 rfl) ?_
      refine va_get (D := (dC, dI)) (ci := 9) (v := .ref b) (C := RX9) (T := TX9) (N := 16) hx hb hts fin_X9_more_X9 hown hK hP 0 rfl rfl 5 (by decide) (hts (.fieldLink RX9 29 "PatternGate" "book" "LPatternGate$Book;") (List.mem_of_getElem? (i := 8) (by decide +kernel))) (fun _ h9 => h9) rfl dX9_more_29 ?_
      refine va_get (D := (dC, dI)) (ci := 0) (v := .ref p0) (C := RX0) (T := TX0) (N := 3) hx hb hts fin_X9_more_X0 hown hK hP 2 rfl rfl 1 (by decide) (hts (.fieldLink RX9 103 "PatternGate$Book" "patterns" "[LPatternGate$Pattern;") (List.mem_of_getElem? (i := 10) (by decide +kernel))) (fun _ h9 => h9) rfl dX9_more_32 ?_
      refine va_alen (v := 0) hx hb hK hP 4 2 rfl rfl rfl dX9_more_35 ?_
      have hPc := hP.sub (ws' := [(x, .inr (9, gF q 0 0 (-1) (-1) b 0 0)), (q 0, .inl (cT, 900, .inl (fun _ => 0))), (q 3, .inr (6, rF r 0 0 0 0 0 0 0 0))]) [0, 1, 7] rfl
      have hKc := hK.sub (tys' := [(cT, .int)]) [0] rfl
      have hDc := hD.sub (ws' := [(x, .inr (9, gF q 0 0 (-1) (-1) b 0 0)), (q 0, .inl (cT, 900, .inl (fun _ => 0))), (q 3, .inr (6, rF r 0 0 0 0 0 0 0 0))]) [0, 1, 7] (by decide) rfl
      have hFc := va_free (wc := [(x, .inr (9, gF q 0 0 (-1) (-1) b 0 0)), (q 0, .inl (cT, 900, .inl (fun _ => 0))), (q 3, .inr (6, rF r 0 0 0 0 0 0 0 0))]) hD hS hA [0, 1, 7] rfl
      refine va_calli (va_runV (As := [.int 0, .int 0, .int 0]) (rest := []) ⟨hx, hb, hml, hown, hts⟩ (c_readTape l dC dI x q 0 0 (-1) (-1) b 0 0 cT (fun _ => 0) r 0 0 0 0 0 0 0 0 H.size 0 0) (cwV 3 hts mg_X9_more_X9_readTape_84 rfl rfl rfl (by decide +kernel) ⟨Nat.le_of_ble_eq_true rfl, Nat.le_of_ble_eq_true rfl⟩) ⟨fun a U g mk q => by obtain ⟨q0, q1, qP, qK, qD⟩ := q; exact ⟨q0, q1, qP, va_K.moved (u := U) (U := U.calling g mk a) (Vm.Alike.refl U.vm) qK, qD⟩, va_recv hKc hPc (ci := 9) (q0 := 0) rfl rfl, fun U hU hW => ⟨rfl, by rw [hU], by rw [hU]; exact hPc, va_K.moved hW.alike hKc, hDc.weaken (fun _ _ _ _ => trivial)⟩⟩ rfl rfl hl.1 rfl (lv_room (Nat.le_of_ble_eq_true rfl)) dX9_more_36 ⟨Nat.le_of_ble_eq_true rfl, Nat.le_of_ble_eq_true rfl⟩) hS (fun q _ h => hFc q h) hFc (fun r_6 u t H1 locs ht hvm hw hB hz1 hk1 hS => ?_)
      obtain ⟨hP1, hK1, hD1⟩ := hB
      rw [ht] at hP1
      subst hw
      obtain ⟨hP, hD⟩ := va_join (wr := [(b, .inr (0, [.ref d0, .ref p0, .null])), (d0, .inl (cD, 0, .inr (.inr (.inr (.inr (fun _ => none)))))), (p0, .inl (cP, 0, .inr (.inr (.inr (.inr (fun _ => none)))))), (q 1, .inl (cB, 3, .inr (.inr (.inr (.inr (fun _ => none)))))), (q 2, .inl (cU, 3, .inl (fun _ => 0)))]) (w1 := [(x, .inr (9, gF q 0 0 0 (-1) b 0 0)), (q 0, .inl (cT, 900, .inl (fun _ => 0))), (q 3, .inr (6, rF r 0 (-1) 0 0 0 0 0 0))]) hP hD [0, 1, 7] [2, 3, 4, 5, 6] rfl rfl (by decide) (by decide) hk1 hFc hP1 hD1
      generalize H1 = H at hP hS ⊢
      have hP : va_P (dC, dI) vwCl [(b, .inr (0, [.ref d0, .ref p0, .null])), (d0, .inl (cD, 0, .inr (.inr (.inr (.inr (fun _ => none)))))), (p0, .inl (cP, 0, .inr (.inr (.inr (.inr (fun _ => none)))))), (q 1, .inl (cB, 3, .inr (.inr (.inr (.inr (fun _ => none)))))), (q 2, .inl (cU, 3, .inl (fun _ => 0))), (x, .inr (9, gF q 0 0 0 (-1) b 0 0)), (q 0, .inl (cT, 900, .inl (fun _ => 0))), (q 3, .inr (6, rF r 0 (-1) 0 0 0 0 0 0))] H := hP
      have hD : va_D A [(b, .inr (0, [.ref d0, .ref p0, .null])), (d0, .inl (cD, 0, .inr (.inr (.inr (.inr (fun _ => none)))))), (p0, .inl (cP, 0, .inr (.inr (.inr (.inr (fun _ => none)))))), (q 1, .inl (cB, 3, .inr (.inr (.inr (.inr (fun _ => none)))))), (q 2, .inl (cU, 3, .inl (fun _ => 0))), (x, .inr (9, gF q 0 0 0 (-1) b 0 0)), (q 0, .inl (cT, 900, .inl (fun _ => 0))), (q 3, .inr (6, rF r 0 (-1) 0 0 0 0 0 0))] := hD
      refine lv_if_ne (tgt := 49) hx hb dX9_more_39 (by decide) (fun k_7 => ?_) (fun k_7 => absurd k_7 (by decide))
      refine lv_aload_n hx hb dX9_more_49 rfl (lv_at hl 0 rfl) ?_
      refine lv_aload_n hx hb dX9_more_50 rfl (lv_at hl 0 rfl) ?_
      refine lv_aload_n hx hb dX9_more_51 rfl (lv_at hl 0 rfl) ?_
      refine va_get (D := (dC, dI)) (ci := 9) (v := .ref b) (C := RX9) (T := TX9) (N := 16) hx hb hts fin_X9_more_X9 hown hK hP 5 rfl rfl 5 (by decide) (hts (.fieldLink RX9 29 "PatternGate" "book" "LPatternGate$Book;") (List.mem_of_getElem? (i := 8) (by decide +kernel))) (fun _ h9 => h9) rfl dX9_more_52 ?_
      refine va_get (D := (dC, dI)) (ci := 0) (v := .ref d0) (C := RX0) (T := TX0) (N := 3) hx hb hts fin_X9_more_X0 hown hK hP 0 rfl rfl 0 (by decide) (hts (.fieldLink RX9 96 "PatternGate$Book" "docs" "[LPatternGate$Doc;") (List.mem_of_getElem? (i := 9) (by decide +kernel))) (fun _ h9 => h9) rfl dX9_more_55 ?_
      refine lv_aload_n hx hb dX9_more_58 rfl (lv_at hl 0 rfl) ?_
      refine va_get (D := (dC, dI)) (ci := 9) (v := .ref b) (C := RX9) (T := TX9) (N := 16) hx hb hts fin_X9_more_X9 hown hK hP 5 rfl rfl 5 (by decide) (hts (.fieldLink RX9 29 "PatternGate" "book" "LPatternGate$Book;") (List.mem_of_getElem? (i := 8) (by decide +kernel))) (fun _ h9 => h9) rfl dX9_more_59 ?_
      refine va_get (D := (dC, dI)) (ci := 0) (v := .ref p0) (C := RX0) (T := TX0) (N := 3) hx hb hts fin_X9_more_X0 hown hK hP 0 rfl rfl 1 (by decide) (hts (.fieldLink RX9 103 "PatternGate$Book" "patterns" "[LPatternGate$Pattern;") (List.mem_of_getElem? (i := 10) (by decide +kernel))) (fun _ h9 => h9) rfl dX9_more_62 ?_
      have hPc := hP.sub (ws' := [(x, .inr (9, gF q 0 0 0 (-1) b 0 0)), (q 3, .inr (6, rF r 0 (-1) 0 0 0 0 0 0)), (d0, .inl (cD, 0, .inr (.inr (.inr (.inr (fun _ => none)))))), (p0, .inl (cP, 0, .inr (.inr (.inr (.inr (fun _ => none))))))]) [5, 7, 1, 2] rfl
      have hKc := hK.sub (tys' := [(cD, .object "PatternGate$Doc"), (cP, .object "PatternGate$Pattern")]) [1, 2] rfl
      have hDc := hD.sub (ws' := [(x, .inr (9, gF q 0 0 0 (-1) b 0 0)), (q 3, .inr (6, rF r 0 (-1) 0 0 0 0 0 0)), (d0, .inl (cD, 0, .inr (.inr (.inr (.inr (fun _ => none)))))), (p0, .inl (cP, 0, .inr (.inr (.inr (.inr (fun _ => none))))))]) [5, 7, 1, 2] (by decide) rfl
      have hFc := va_free (wc := [(x, .inr (9, gF q 0 0 0 (-1) b 0 0)), (q 3, .inr (6, rF r 0 (-1) 0 0 0 0 0 0)), (d0, .inl (cD, 0, .inr (.inr (.inr (.inr (fun _ => none)))))), (p0, .inl (cP, 0, .inr (.inr (.inr (.inr (fun _ => none))))))]) hD hS hA [5, 7, 1, 2] rfl
      refine va_callr (va_runV (As := [.ref d0, .ref p0]) (rest := [.ref x]) ⟨hx, hb, hml, hown, hts⟩ (c_bookBehind l dC dI x q 0 0 0 (-1) b 0 0 r 0 (-1) 0 0 0 d0 p0 cD cP (fun _ => none) (fun _ => none) H.size) (cwV 2 hts mg_X9_more_X9_bookBehind_88 rfl rfl rfl (by decide +kernel) ⟨Nat.le_of_ble_eq_true rfl, Nat.le_of_ble_eq_true rfl⟩) ⟨fun a U g mk q => by obtain ⟨q0, q1, qP, qK, qD, qE0, qE1⟩ := q; exact ⟨q0, q1, qP, va_K.moved (u := U) (U := U.calling g mk a) (Vm.Alike.refl U.vm) qK, qD, va_AO.moved (u := U) (U := U.calling g mk a) (Vm.Alike.refl U.vm) qE0, va_AO.moved (u := U) (U := U.calling g mk a) (Vm.Alike.refl U.vm) qE1⟩, va_recv hKc hPc (ci := 9) (q0 := 0) rfl rfl, fun U hU hW => ⟨rfl, by rw [hU], by rw [hU]; exact hPc, va_K.moved hW.alike hKc, hDc.weaken (fun _ _ _ _ => trivial), va_AO.moved hW.alike hAO2, va_AO.moved hW.alike hAO5⟩⟩ rfl rfl hl.1 rfl (lv_room (Nat.le_of_ble_eq_true rfl)) dX9_more_65 ⟨Nat.le_of_ble_eq_true rfl, Nat.le_of_ble_eq_true rfl⟩) hS (fun q _ h => hFc q h) hFc (fun u r_9 t H1 locs ht hvm hw hB hz1 hk1 hS => ?_)
      obtain ⟨d_10, p_11, c_12, c_13, f_14, f_15, hP1, hK1, hD1⟩ := hB
      rw [ht] at hP1
      have hK1 := va_K.moved hvm.symm hK1
      obtain ⟨hP, hD⟩ := va_join (wr := [(b, .inr (0, [.ref d0, .ref p0, .null])), (q 1, .inl (cB, 3, .inr (.inr (.inr (.inr (fun _ => none)))))), (q 2, .inl (cU, 3, .inl (fun _ => 0))), (q 0, .inl (cT, 900, .inl (fun _ => 0)))]) (w1 := [(x, .inr (9, gF q 0 0 0 (-1) b 0 0)), (q 3, .inr (6, rF r 0 (-1) 0 0 0 0 0 0)), (d0, .inl (cD, 0, .inr (.inr (.inr (.inr (fun _ => none)))))), (p0, .inl (cP, 0, .inr (.inr (.inr (.inr (fun _ => none)))))), (d_10, .inl (c_12, 0, .inr (.inr (.inr (.inr f_14))))), (p_11, .inl (c_13, 0, .inr (.inr (.inr (.inr f_15))))), (r_9, .inr (0, [.ref d_10, .ref p_11, .ref b]))]) hP hD [5, 7, 1, 2] [0, 3, 4, 6] rfl rfl (by decide) (by decide) hk1 hFc hP1 hD1
      generalize H1 = H at hP hS ⊢
      have hP : va_P (dC, dI) vwCl [(b, .inr (0, [.ref d0, .ref p0, .null])), (q 1, .inl (cB, 3, .inr (.inr (.inr (.inr (fun _ => none)))))), (q 2, .inl (cU, 3, .inl (fun _ => 0))), (q 0, .inl (cT, 900, .inl (fun _ => 0))), (x, .inr (9, gF q 0 0 0 (-1) b 0 0)), (q 3, .inr (6, rF r 0 (-1) 0 0 0 0 0 0)), (d0, .inl (cD, 0, .inr (.inr (.inr (.inr (fun _ => none)))))), (p0, .inl (cP, 0, .inr (.inr (.inr (.inr (fun _ => none)))))), (d_10, .inl (c_12, 0, .inr (.inr (.inr (.inr f_14))))), (p_11, .inl (c_13, 0, .inr (.inr (.inr (.inr f_15))))), (r_9, .inr (0, [.ref d_10, .ref p_11, .ref b]))] H := hP
      have hD : va_D A [(b, .inr (0, [.ref d0, .ref p0, .null])), (q 1, .inl (cB, 3, .inr (.inr (.inr (.inr (fun _ => none)))))), (q 2, .inl (cU, 3, .inl (fun _ => 0))), (q 0, .inl (cT, 900, .inl (fun _ => 0))), (x, .inr (9, gF q 0 0 0 (-1) b 0 0)), (q 3, .inr (6, rF r 0 (-1) 0 0 0 0 0 0)), (d0, .inl (cD, 0, .inr (.inr (.inr (.inr (fun _ => none)))))), (p0, .inl (cP, 0, .inr (.inr (.inr (.inr (fun _ => none)))))), (d_10, .inl (c_12, 0, .inr (.inr (.inr (.inr f_14))))), (p_11, .inl (c_13, 0, .inr (.inr (.inr (.inr f_15))))), (r_9, .inr (0, [.ref d_10, .ref p_11, .ref b]))] := hD
      have hK := (hK.sub (tys' := [(cT, .int), (cB, .object "PatternGate$Book"), (cU, .int)]) [0, 3, 4] rfl).app hK1
      have hK : va_K (dC, dI) vwCl [(cT, .int), (cB, .object "PatternGate$Book"), (cU, .int), (cD, .object "PatternGate$Doc"), (cP, .object "PatternGate$Pattern"), (c_12, .object "PatternGate$Doc"), (c_13, .object "PatternGate$Pattern")] s := hK
      refine W.widen (k := 3) (n := 3) (by omega) (by omega) ?_
      have hPc := hP.sub (ws' := [(x, .inr (9, gF q 0 0 0 (-1) b 0 0))]) [4] rfl
      have hKc := hK.sub (tys' := []) [] rfl
      have hDc := hD.sub (ws' := [(x, .inr (9, gF q 0 0 0 (-1) b 0 0))]) [4] (by decide) rfl
      have hFc := va_free (wc := [(x, .inr (9, gF q 0 0 0 (-1) b 0 0))]) hD hS hA [4] rfl
      refine va_callv (va_runV (As := [.ref r_9]) (rest := []) ⟨hx, hb, hml, hown, hts⟩ (c_act l dC dI x q 0 0 0 (-1) b 0 H.size r_9) (cwV 1 hts mg_X9_more_X9_act_92 rfl rfl rfl (by decide +kernel) ⟨Nat.le_of_ble_eq_true rfl, Nat.le_of_ble_eq_true rfl⟩) ⟨fun a U g mk q => by obtain ⟨q0, q1, qP, qK, qD⟩ := q; exact ⟨q0, q1, qP, va_K.moved (u := U) (U := U.calling g mk a) (Vm.Alike.refl U.vm) qK, qD⟩, va_recv hKc hPc (ci := 9) (q0 := 0) rfl rfl, fun U hU hW => ⟨rfl, by rw [hU], by rw [hU]; exact hPc, va_K.moved hW.alike hKc, hDc.weaken (fun _ _ _ _ => trivial)⟩⟩ rfl rfl hl.1 rfl (lv_room (Nat.le_of_ble_eq_true rfl)) dX9_more_68 ⟨Nat.le_of_ble_eq_true rfl, Nat.le_of_ble_eq_true rfl⟩) hS (fun q _ h => hFc q h) hFc (fun u t H1 locs ht hvm hw hB hz1 hk1 hS => ?_)
      obtain ⟨hP1, hK1, hD1⟩ := hB
      rw [ht] at hP1
      obtain ⟨hP, hD⟩ := va_join (wr := [(b, .inr (0, [.ref d0, .ref p0, .null])), (q 1, .inl (cB, 3, .inr (.inr (.inr (.inr (fun _ => none)))))), (q 2, .inl (cU, 3, .inl (fun _ => 0))), (q 0, .inl (cT, 900, .inl (fun _ => 0))), (q 3, .inr (6, rF r 0 (-1) 0 0 0 0 0 0)), (d0, .inl (cD, 0, .inr (.inr (.inr (.inr (fun _ => none)))))), (p0, .inl (cP, 0, .inr (.inr (.inr (.inr (fun _ => none)))))), (d_10, .inl (c_12, 0, .inr (.inr (.inr (.inr f_14))))), (p_11, .inl (c_13, 0, .inr (.inr (.inr (.inr f_15))))), (r_9, .inr (0, [.ref d_10, .ref p_11, .ref b]))]) (w1 := [(x, .inr (9, gF q 0 0 0 (-1) r_9 1 0))]) hP hD [4] [0, 1, 2, 3, 5, 6, 7, 8, 9, 10] rfl rfl (by decide) (by decide) hk1 hFc hP1 hD1
      generalize H1 = H at hP hS ⊢
      have hP : va_P (dC, dI) vwCl [(b, .inr (0, [.ref d0, .ref p0, .null])), (q 1, .inl (cB, 3, .inr (.inr (.inr (.inr (fun _ => none)))))), (q 2, .inl (cU, 3, .inl (fun _ => 0))), (q 0, .inl (cT, 900, .inl (fun _ => 0))), (q 3, .inr (6, rF r 0 (-1) 0 0 0 0 0 0)), (d0, .inl (cD, 0, .inr (.inr (.inr (.inr (fun _ => none)))))), (p0, .inl (cP, 0, .inr (.inr (.inr (.inr (fun _ => none)))))), (d_10, .inl (c_12, 0, .inr (.inr (.inr (.inr f_14))))), (p_11, .inl (c_13, 0, .inr (.inr (.inr (.inr f_15))))), (r_9, .inr (0, [.ref d_10, .ref p_11, .ref b])), (x, .inr (9, gF q 0 0 0 (-1) r_9 1 0))] H := hP
      have hD : va_D A [(b, .inr (0, [.ref d0, .ref p0, .null])), (q 1, .inl (cB, 3, .inr (.inr (.inr (.inr (fun _ => none)))))), (q 2, .inl (cU, 3, .inl (fun _ => 0))), (q 0, .inl (cT, 900, .inl (fun _ => 0))), (q 3, .inr (6, rF r 0 (-1) 0 0 0 0 0 0)), (d0, .inl (cD, 0, .inr (.inr (.inr (.inr (fun _ => none)))))), (p0, .inl (cP, 0, .inr (.inr (.inr (.inr (fun _ => none)))))), (d_10, .inl (c_12, 0, .inr (.inr (.inr (.inr f_14))))), (p_11, .inl (c_13, 0, .inr (.inr (.inr (.inr f_15))))), (r_9, .inr (0, [.ref d_10, .ref p_11, .ref b])), (x, .inr (9, gF q 0 0 0 (-1) r_9 1 0))] := hD
      refine lv_aload_n hx hb dX9_more_71 rfl (lv_at hl 0 rfl) ?_
      refine lv_aload_n hx hb dX9_more_72 rfl (lv_at hl 0 rfl) ?_
      refine va_get (D := (dC, dI)) (ci := 9) (v := .ref (q 3)) (C := RX9) (T := TX9) (N := 16) hx hb hts fin_X9_more_X9 hown hK hP 10 rfl rfl 10 (by decide) (hts (.fieldLink RX9 43 "PatternGate" "reader" "LPatternGate$Reader;") (List.mem_of_getElem? (i := 12) (by decide +kernel))) (fun _ h9 => h9) rfl dX9_more_73 ?_
      refine va_get (D := (dC, dI)) (ci := 6) (v := .int 0) (C := RX6) (T := TX6) (N := 11) hx hb hts fin_X9_more_X6 hown hK hP 4 rfl rfl 2 (by decide) (hts (.fieldLink RX9 107 "PatternGate$Reader" "lines" "I") (List.mem_of_getElem? (i := 47) (by decide +kernel))) (fun _ h9 => h9) rfl dX9_more_76 ?_
      have hPc := hP.sub (ws' := [(x, .inr (9, gF q 0 0 0 (-1) r_9 1 0))]) [10] rfl
      have hKc := hK.sub (tys' := []) [] rfl
      have hDc := hD.sub (ws' := [(x, .inr (9, gF q 0 0 0 (-1) r_9 1 0))]) [10] (by decide) rfl
      have hFc := va_free (wc := [(x, .inr (9, gF q 0 0 0 (-1) r_9 1 0))]) hD hS hA [10] rfl
      refine va_calli (va_runV (As := [.int 0]) (rest := []) ⟨hx, hb, hml, hown, hts⟩ (c_answer l dC dI x q 0 0 0 (-1) r_9 1 0 H.size 0) (cwV 1 hts mg_X9_more_X9_answer_100 rfl rfl rfl (by decide +kernel) ⟨Nat.le_of_ble_eq_true rfl, Nat.le_of_ble_eq_true rfl⟩) ⟨fun a U g mk q => by obtain ⟨q0, q1, qP, qK, qD⟩ := q; exact ⟨q0, q1, qP, va_K.moved (u := U) (U := U.calling g mk a) (Vm.Alike.refl U.vm) qK, qD⟩, va_recv hKc hPc (ci := 9) (q0 := 0) rfl rfl, fun U hU hW => ⟨rfl, by rw [hU], by rw [hU]; exact hPc, va_K.moved hW.alike hKc, hDc.weaken (fun _ _ _ _ => trivial)⟩⟩ rfl rfl hl.1 rfl (lv_room (Nat.le_of_ble_eq_true rfl)) dX9_more_79 ⟨Nat.le_of_ble_eq_true rfl, Nat.le_of_ble_eq_true rfl⟩) hS (fun q _ h => hFc q h) hFc (fun r_19 u t H1 locs ht hvm hw hB hz1 hk1 hS => ?_)
      refine W.widen (k := 3) (n := 3) (by omega) (by omega) ?_
      exact W.iret hx hb hr (fun t ht hW => ⟨⟨_, (), rfl, (hw.trans rfl), trivial⟩, hS.F ht⟩) hS.2.2 dX9_more_82
    · refine lv_aload_n hx hb dX9_more_12 rfl (lv_at hl 0 rfl) ?_
      refine lv_iconst (v := 1) hx hb dX9_more_13 (by decide) ?_
      have hPc := hP.sub (ws' := [(x, .inr (9, gF q 0 0 (-1) (-1) b 0 0))]) [0] rfl
      have hKc := hK.sub (tys' := []) [] rfl
      have hDc := hD.sub (ws' := [(x, .inr (9, gF q 0 0 (-1) (-1) b 0 0))]) [0] (by decide) rfl
      have hFc := va_free (wc := [(x, .inr (9, gF q 0 0 (-1) (-1) b 0 0))]) hD hS hA [0] rfl
      refine va_calli (va_runV (As := [.int 1]) (rest := []) ⟨hx, hb, hml, hown, hts⟩ (c_refuse l dC dI x q 0 0 (-1) (-1) b 0 0 H.size 1) (cwV 1 hts mg_X9_more_X9_refuse_80 rfl rfl rfl (by decide +kernel) ⟨Nat.le_of_ble_eq_true rfl, Nat.le_of_ble_eq_true rfl⟩) ⟨fun a U g mk q => by obtain ⟨q0, q1, qP, qK, qD⟩ := q; exact ⟨q0, q1, qP, va_K.moved (u := U) (U := U.calling g mk a) (Vm.Alike.refl U.vm) qK, qD⟩, va_recv hKc hPc (ci := 9) (q0 := 0) rfl rfl, fun U hU hW => ⟨rfl, by rw [hU], by rw [hU]; exact hPc, va_K.moved hW.alike hKc, hDc.weaken (fun _ _ _ _ => trivial)⟩⟩ rfl rfl hl.1 rfl (lv_room (Nat.le_of_ble_eq_true rfl)) dX9_more_14 ⟨Nat.le_of_ble_eq_true rfl, Nat.le_of_ble_eq_true rfl⟩) hS (fun q _ h => hFc q h) hFc (fun r_21 u t H1 locs ht hvm hw hB hz1 hk1 hS => ?_)
      refine W.widen (k := 3) (n := 3) (by omega) (by omega) ?_
      exact W.iret hx hb hr (fun t ht hW => ⟨⟨_, (), rfl, (hw.trans (s_load_gt k_4).symm), trivial⟩, hS.F ht⟩) hS.2.2 dX9_more_17
end
section
/-- the class of this name is an array class of arrays of these lengths: at a state, and at every one that is alike -/
def md_M (nm : String) (ns : List Int32) (U : State) : Prop := ∀ (l : Launch) (e : Env) (vm : Vm) (cA : ClassId), l.admits e → U.vm.Alike vm → U.vm.findClass nm = some cA → md_ok vm e cA ns
theorem md_M.moved {nm : String} {ns : List Int32} {u U : State} (hvm : u.vm.Alike U.vm) (h : md_M nm ns u) : md_M nm ns U := fun l e vm cA a b f => h l e vm cA a (hvm.trans b) (by rw [← hvm.findClass]; exact f)
theorem dX7_init_0 : decode cX7_init 0 = .ok (.aload_n 0, 1) := by decide +kernel
theorem dX7_init_1 : decode cX7_init 1 = .ok (.invokespecial 5, 3) := by decide +kernel
theorem dX7_init_4 : decode cX7_init 4 = .ok (.aload_n 0, 1) := by decide +kernel
theorem dX7_init_5 : decode cX7_init 5 = .ok (.bipush 6, 2) := by decide +kernel
theorem dX7_init_7 : decode cX7_init 7 = .ok (.newarray .long, 2) := by decide +kernel
theorem dX7_init_9 : decode cX7_init 9 = .ok (.putfield 11, 3) := by decide +kernel
theorem dX7_init_12 : decode cX7_init 12 = .ok (.return_, 1) := by decide +kernel
def mwX7_init : List Cond := .code yX7_init cX7_init 1 none :: ([.methodLink RX7 5 objectInit, .instanceMethod objectInit, .code objectInit ⟨#[0xb1]⟩ 1 none, .arrayClass .long, .fieldLink RX7 11 "PatternGate$Rows" "row" "[J"] ++ wsX70)
theorem fin_X7_init_X7 : ∀ w ∈ wsX70, w ∈ mwX7_init := fun w h => List.mem_cons_of_mem _ (List.mem_append_right _ h)
set_option maxHeartbeats 4000000 in
set_option maxRecDepth 100000 in
/-- c_Rows() -/
theorem c_Rows (l : Launch) (dC : Nat → ClassId) (dI : Nat → Nat → Nat) (nb sz : Nat) : Met l yX7_init mwX7_init ({ frames := 1, cells := 1, slots := 6, locals := 60 }) (va_Pc [.ref nb] (fun U => U.heap.size = sz ∧ va_P (dC, dI) vwCl ([(nb, .inr (7, [.null, .int 0]))]) U.heap ∧ va_K (dC, dI) vwCl ([]) U ∧ va_D (fun _ => True) ([(nb, .inr (7, [.null, .int 0]))]))) (va_Qv (fun (_ : Unit) => True) (fun _ _ => True) (va_A ([(nb, .inr (7, [.null, .int 0]))]) sz)) 1 6 (va_A ([(nb, .inr (7, [.null, .int 0]))]) sz) := by
  refine Met.ofW (cc := cX7_init) (maxL := 1) (ret := none) (by decide +kernel) rfl ?_
  intro p e s m args below meth c s₁ B hml hv
  obtain ⟨rfl, hsz, hP, hK, hD0⟩ := hv
  have hx := B.exec
  have hb := B.bytes
  have hr := B.returns
  have hts := atoms_spec (ws := mwX7_init) B.pre
  have hown : s.vm.findClass RX7 = some m.cls := findClass_of_methodNamed B.named
  have hlocks := B.notSynchronized
  have hin : meth.name = "<init>" := (name_of_methodNamed B.named B.method).1
  subst hsz
  have hD := hD0.self (sz := s.heap.size)
  generalize hAe : va_A ([(nb, .inr (7, [.null, .int 0]))]) s.heap.size = A at hD ⊢
  have hA : ∀ q : Nat, s.heap.size ≤ q → A q := fun q h => by rw [← hAe]; exact Or.inr h
  have hP : va_P (dC, dI) vwCl [(nb, .inr (7, [.null, .int 0]))] s.heap := hP
  have hD : va_D A [(nb, .inr (7, [.null, .int 0]))] := hD
  have hK : va_K (dC, dI) vwCl [] s := hK
  generalize hH : s.heap = H at hP ⊢
  have hS : va_S A s.heap H [] := by rw [← hH]; exact va_S.rf
  have hl := lv_entry ([.ref nb]) (n := 1) (Nat.le_of_ble_eq_true rfl)
  rw [lg_entry_eq]
  generalize (lg_sl ([.ref nb]) ++ List.replicate (1 - (lg_sl ([.ref nb])).length) Slot.unset).toArray = ls at hl ⊢
  have hl : lv_has ls 1 [(0, .ref nb)] := hl
  refine lv_aload_n hx hb dX7_init_0 rfl (lv_at hl 0 rfl) ?_
  refine W.objInit hx hb hown (hts (.methodLink RX7 5 objectInit) (List.mem_of_getElem? (i := 1) (by decide +kernel))) (hts (.instanceMethod objectInit) (List.mem_of_getElem? (i := 2) (by decide +kernel))) (hts (.code objectInit ⟨#[0xb1]⟩ 1 none) (List.mem_of_getElem? (i := 3) (by decide +kernel))) rfl (by rw [hml]; exact hl.1) rfl dX7_init_1 (Nat.le_of_ble_eq_true rfl) (Nat.le_of_ble_eq_true rfl) ?_
  refine W.eq (g2 := F0 m 4 ls []) rfl ?_
  refine lv_aload_n hx hb dX7_init_4 rfl (lv_at hl 0 rfl) ?_
  refine lv_bipush (v := 6) hx hb dX7_init_5 (by decide) ?_
  refine va_newa (atype := .long) (ty := .long) (n := 6) (N' := 6) (a0 := (6, .inr (.inl (fun _ => 0)))) hx hb (hts (.arrayClass .long) (List.mem_of_getElem? (i := 4) (by decide +kernel))) rfl hK hP hD hS hA (fun _ => rfl) (by decide) (by decide) (Nat.le_of_ble_eq_true rfl) (Nat.le_of_ble_eq_true rfl) (Nat.le_of_ble_eq_true rfl) dX7_init_7 (fun q_1 c_2 H hK hP hD hS => ?_)
  have hP : va_P (dC, dI) vwCl [(nb, .inr (7, [.null, .int 0])), (q_1, .inl (c_2, 6, .inr (.inl (fun _ => 0))))] H := hP
  have hD : va_D A [(nb, .inr (7, [.null, .int 0])), (q_1, .inl (c_2, 6, .inr (.inl (fun _ => 0))))] := hD
  have hK : va_K (dC, dI) vwCl [(c_2, .long)] s := hK
  refine W.widen (k := 1) (n := 6) (by omega) (by omega) ?_
  refine va_putF (D := (dC, dI)) (ci := 7) (v := .ref q_1) (ty := .array .long) (C := RX7) (T := TX7) (N := 2) hx hb hts fin_X7_init_X7 tyX7 tyX7_ok nmX7 hown hK hP hD hS 0 rfl rfl 0 (by decide) (hts (.fieldLink RX7 11 "PatternGate$Rows" "row" "[J") (List.mem_of_getElem? (i := 5) (by decide +kernel))) (fun _ h9 => h9) rfl hin rfl (by decide +kernel) rfl rfl (Nat.le_of_ble_eq_true rfl) dX7_init_9 (fun H locs hP hD hS => ?_)
  have hP : va_P (dC, dI) vwCl [(nb, .inr (7, [.ref q_1, .int 0])), (q_1, .inl (c_2, 6, .inr (.inl (fun _ => 0))))] H := hP
  have hD : va_D A [(nb, .inr (7, [.ref q_1, .int 0])), (q_1, .inl (c_2, 6, .inr (.inl (fun _ => 0))))] := hD
  refine W.widen (k := 1) (n := 6) (by omega) (by omega) ?_
  exact W.vret hx hb hr (fun t ht hW => ⟨⟨(), rfl, trivial, trivial⟩, hS.F ht⟩) hS.2.2 dX7_init_12
theorem dX3_init_0 : decode cX3_init 0 = .ok (.aload_n 0, 1) := by decide +kernel
theorem dX3_init_1 : decode cX3_init 1 = .ok (.invokespecial 3, 3) := by decide +kernel
theorem dX3_init_4 : decode cX3_init 4 = .ok (.aload_n 0, 1) := by decide +kernel
theorem dX3_init_5 : decode cX3_init 5 = .ok (.iconst 1, 1) := by decide +kernel
theorem dX3_init_6 : decode cX3_init 6 = .ok (.iload_n 1, 1) := by decide +kernel
theorem dX3_init_7 : decode cX3_init 7 = .ok (.invokestatic 9, 3) := by decide +kernel
theorem dX3_init_10 : decode cX3_init 10 = .ok (.putfield 15, 3) := by decide +kernel
theorem dX3_init_13 : decode cX3_init 13 = .ok (.aload_n 0, 1) := by decide +kernel
theorem dX3_init_14 : decode cX3_init 14 = .ok (.aload_n 0, 1) := by decide +kernel
theorem dX3_init_15 : decode cX3_init 15 = .ok (.getfield 15, 3) := by decide +kernel
theorem dX3_init_18 : decode cX3_init 18 = .ok (.bipush 24, 2) := by decide +kernel
theorem dX3_init_20 : decode cX3_init 20 = .ok (.imul, 1) := by decide +kernel
theorem dX3_init_21 : decode cX3_init 21 = .ok (.newarray .int, 2) := by decide +kernel
theorem dX3_init_23 : decode cX3_init 23 = .ok (.putfield 21, 3) := by decide +kernel
theorem dX3_init_26 : decode cX3_init 26 = .ok (.aload_n 0, 1) := by decide +kernel
theorem dX3_init_27 : decode cX3_init 27 = .ok (.aload_n 0, 1) := by decide +kernel
theorem dX3_init_28 : decode cX3_init 28 = .ok (.getfield 15, 3) := by decide +kernel
theorem dX3_init_31 : decode cX3_init 31 = .ok (.newarray .int, 2) := by decide +kernel
theorem dX3_init_33 : decode cX3_init 33 = .ok (.putfield 25, 3) := by decide +kernel
theorem dX3_init_36 : decode cX3_init 36 = .ok (.return_, 1) := by decide +kernel
def mwX3_initn12 : List Cond := .code yX3_init cX3_init 2 none :: ([.methodLink RX3 3 objectInit, .instanceMethod objectInit, .code objectInit ⟨#[0xb1]⟩ 1 none, .methodLink RX3 9 Lib.Math.max.name, .static Lib.Math.max.name, .initialized "java/lang/Math", .code Lib.Math.max.name Lib.Math.max.code 2 (some .int), .fieldLink RX3 15 "PatternGate$Need" "room" "I", .arrayClass .int, .fieldLink RX3 21 "PatternGate$Need" "triples" "[I", .fieldLink RX3 25 "PatternGate$Need" "sizes" "[I"] ++ wsX30)
theorem fin_X3_initn12_X3 : ∀ w ∈ wsX30, w ∈ mwX3_initn12 := fun w h => List.mem_cons_of_mem _ (List.mem_append_right _ h)
set_option maxHeartbeats 4000000 in
set_option maxRecDepth 100000 in
/-- c_Need12() -/
theorem c_Need12 (l : Launch) (dC : Nat → ClassId) (dI : Nat → Nat → Nat) (nb sz : Nat) : Met l yX3_init mwX3_initn12 ({ frames := 1, cells := 2, slots := 300, locals := 60 }) (va_Pc [.ref nb, .int 12] (fun U => U.heap.size = sz ∧ va_P (dC, dI) vwCl ([(nb, .inr (3, [.int 0, .null, .null, .int 0]))]) U.heap ∧ va_K (dC, dI) vwCl ([]) U ∧ va_D (fun _ => True) ([(nb, .inr (3, [.int 0, .null, .null, .int 0]))]))) (va_Qv (fun (_ : Unit) => True) (fun _ _ => True) (va_A ([(nb, .inr (3, [.int 0, .null, .null, .int 0]))]) sz)) 2 300 (va_A ([(nb, .inr (3, [.int 0, .null, .null, .int 0]))]) sz) := by
  refine Met.ofW (cc := cX3_init) (maxL := 2) (ret := none) (by decide +kernel) rfl ?_
  intro p e s m args below meth c s₁ B hml hv
  obtain ⟨rfl, hsz, hP, hK, hD0⟩ := hv
  have hx := B.exec
  have hb := B.bytes
  have hr := B.returns
  have hts := atoms_spec (ws := mwX3_initn12) B.pre
  have hown : s.vm.findClass RX3 = some m.cls := findClass_of_methodNamed B.named
  have hlocks := B.notSynchronized
  have hin : meth.name = "<init>" := (name_of_methodNamed B.named B.method).1
  subst hsz
  have hD := hD0.self (sz := s.heap.size)
  generalize hAe : va_A ([(nb, .inr (3, [.int 0, .null, .null, .int 0]))]) s.heap.size = A at hD ⊢
  have hA : ∀ q : Nat, s.heap.size ≤ q → A q := fun q h => by rw [← hAe]; exact Or.inr h
  have hP : va_P (dC, dI) vwCl [(nb, .inr (3, [.int 0, .null, .null, .int 0]))] s.heap := hP
  have hD : va_D A [(nb, .inr (3, [.int 0, .null, .null, .int 0]))] := hD
  have hK : va_K (dC, dI) vwCl [] s := hK
  generalize hH : s.heap = H at hP ⊢
  have hS : va_S A s.heap H [] := by rw [← hH]; exact va_S.rf
  have hl := lv_entry ([.ref nb, .int 12]) (n := 2) (Nat.le_of_ble_eq_true rfl)
  rw [lg_entry_eq]
  generalize (lg_sl ([.ref nb, .int 12]) ++ List.replicate (2 - (lg_sl ([.ref nb, .int 12])).length) Slot.unset).toArray = ls at hl ⊢
  have hl : lv_has ls 2 [(0, .ref nb), (1, .int 12)] := hl
  refine lv_aload_n hx hb dX3_init_0 rfl (lv_at hl 0 rfl) ?_
  refine W.objInit hx hb hown (hts (.methodLink RX3 3 objectInit) (List.mem_of_getElem? (i := 1) (by decide +kernel))) (hts (.instanceMethod objectInit) (List.mem_of_getElem? (i := 2) (by decide +kernel))) (hts (.code objectInit ⟨#[0xb1]⟩ 1 none) (List.mem_of_getElem? (i := 3) (by decide +kernel))) rfl (by rw [hml]; exact hl.1) rfl dX3_init_1 (Nat.le_of_ble_eq_true rfl) (Nat.le_of_ble_eq_true rfl) ?_
  refine W.eq (g2 := F0 m 4 ls []) rfl ?_
  refine lv_aload_n hx hb dX3_init_4 rfl (lv_at hl 0 rfl) ?_
  refine lv_iconst (v := 1) hx hb dX3_init_5 (by decide) ?_
  refine lv_iload_n hx hb dX3_init_6 rfl (lv_at hl 1 rfl) ?_
  refine va_mmax hx hb (hml.trans hl.1.symm) hown (hts (.methodLink RX3 9 Lib.Math.max.name) (List.mem_of_getElem? (i := 4) (by decide +kernel))) (hts (.static Lib.Math.max.name) (List.mem_of_getElem? (i := 5) (by decide +kernel))) (hts (.initialized "java/lang/Math") (List.mem_of_getElem? (i := 6) (by decide +kernel))) (hts (.code Lib.Math.max.name Lib.Math.max.code 2 (some .int)) (List.mem_of_getElem? (i := 7) (by decide +kernel))) (Nat.le_of_ble_eq_true rfl) (Nat.le_of_ble_eq_true rfl) (Nat.le_of_ble_eq_true rfl) (Nat.le_of_ble_eq_true rfl) dX3_init_7 ?_
  refine lv_topi (fun y_1 ey_1 => ?_)
  obtain rfl : y_1 = 12 := ey_1.trans (by first | rfl | decide)
  refine va_putF (D := (dC, dI)) (ci := 3) (v := .int 12) (ty := .int) (C := RX3) (T := TX3) (N := 4) hx hb hts fin_X3_initn12_X3 tyX3 tyX3_ok nmX3 hown hK hP hD hS 0 rfl rfl 0 (by decide) (hts (.fieldLink RX3 15 "PatternGate$Need" "room" "I") (List.mem_of_getElem? (i := 8) (by decide +kernel))) (fun _ h9 => h9) rfl hin rfl (by decide +kernel) rfl rfl (Nat.le_of_ble_eq_true rfl) dX3_init_10 (fun H locs hP hD hS => ?_)
  have hP : va_P (dC, dI) vwCl [(nb, .inr (3, [.int 12, .null, .null, .int 0]))] H := hP
  have hD : va_D A [(nb, .inr (3, [.int 12, .null, .null, .int 0]))] := hD
  refine lv_aload_n hx hb dX3_init_13 rfl (lv_at hl 0 rfl) ?_
  refine lv_aload_n hx hb dX3_init_14 rfl (lv_at hl 0 rfl) ?_
  refine va_get (D := (dC, dI)) (ci := 3) (v := .int 12) (C := RX3) (T := TX3) (N := 4) hx hb hts fin_X3_initn12_X3 hown hK hP 0 rfl rfl 0 (by decide) (hts (.fieldLink RX3 15 "PatternGate$Need" "room" "I") (List.mem_of_getElem? (i := 8) (by decide +kernel))) (fun _ h9 => h9) rfl dX3_init_15 ?_
  refine lv_bipush (v := 24) hx hb dX3_init_18 (by decide) ?_
  refine lv_imul hx hb dX3_init_20 ?_
  refine lv_topi (fun y_2 ey_2 => ?_)
  obtain rfl : y_2 = 288 := ey_2.trans (by first | rfl | decide)
  refine va_newa (atype := .int) (ty := .int) (n := 288) (N' := 288) (a0 := (288, .inl (fun _ => 0))) hx hb (hts (.arrayClass .int) (List.mem_of_getElem? (i := 9) (by decide +kernel))) rfl hK hP hD hS hA (fun _ => rfl) (by decide) (by decide) (Nat.le_of_ble_eq_true rfl) (Nat.le_of_ble_eq_true rfl) (Nat.le_of_ble_eq_true rfl) dX3_init_21 (fun q_3 c_4 H hK hP hD hS => ?_)
  have hP : va_P (dC, dI) vwCl [(nb, .inr (3, [.int 12, .null, .null, .int 0])), (q_3, .inl (c_4, 288, .inl (fun _ => 0)))] H := hP
  have hD : va_D A [(nb, .inr (3, [.int 12, .null, .null, .int 0])), (q_3, .inl (c_4, 288, .inl (fun _ => 0)))] := hD
  have hK : va_K (dC, dI) vwCl [(c_4, .int)] s := hK
  refine W.widen (k := 1) (n := 288) (by omega) (by omega) ?_
  refine va_putF (D := (dC, dI)) (ci := 3) (v := .ref q_3) (ty := .array .int) (C := RX3) (T := TX3) (N := 4) hx hb hts fin_X3_initn12_X3 tyX3 tyX3_ok nmX3 hown hK hP hD hS 0 rfl rfl 1 (by decide) (hts (.fieldLink RX3 21 "PatternGate$Need" "triples" "[I") (List.mem_of_getElem? (i := 10) (by decide +kernel))) (fun _ h9 => h9) rfl hin rfl (by decide +kernel) rfl rfl (Nat.le_of_ble_eq_true rfl) dX3_init_23 (fun H locs hP hD hS => ?_)
  have hP : va_P (dC, dI) vwCl [(nb, .inr (3, [.int 12, .ref q_3, .null, .int 0])), (q_3, .inl (c_4, 288, .inl (fun _ => 0)))] H := hP
  have hD : va_D A [(nb, .inr (3, [.int 12, .ref q_3, .null, .int 0])), (q_3, .inl (c_4, 288, .inl (fun _ => 0)))] := hD
  refine lv_aload_n hx hb dX3_init_26 rfl (lv_at hl 0 rfl) ?_
  refine lv_aload_n hx hb dX3_init_27 rfl (lv_at hl 0 rfl) ?_
  refine va_get (D := (dC, dI)) (ci := 3) (v := .int 12) (C := RX3) (T := TX3) (N := 4) hx hb hts fin_X3_initn12_X3 hown hK hP 0 rfl rfl 0 (by decide) (hts (.fieldLink RX3 15 "PatternGate$Need" "room" "I") (List.mem_of_getElem? (i := 8) (by decide +kernel))) (fun _ h9 => h9) rfl dX3_init_28 ?_
  refine va_newa (atype := .int) (ty := .int) (n := 12) (N' := 12) (a0 := (12, .inl (fun _ => 0))) hx hb (hts (.arrayClass .int) (List.mem_of_getElem? (i := 9) (by decide +kernel))) rfl hK hP hD hS hA (fun _ => rfl) (by decide) (by decide) (Nat.le_of_ble_eq_true rfl) (Nat.le_of_ble_eq_true rfl) (Nat.le_of_ble_eq_true rfl) dX3_init_31 (fun q_5 c_6 H hK hP hD hS => ?_)
  have hP : va_P (dC, dI) vwCl [(nb, .inr (3, [.int 12, .ref q_3, .null, .int 0])), (q_3, .inl (c_4, 288, .inl (fun _ => 0))), (q_5, .inl (c_6, 12, .inl (fun _ => 0)))] H := hP
  have hD : va_D A [(nb, .inr (3, [.int 12, .ref q_3, .null, .int 0])), (q_3, .inl (c_4, 288, .inl (fun _ => 0))), (q_5, .inl (c_6, 12, .inl (fun _ => 0)))] := hD
  have hK : va_K (dC, dI) vwCl [(c_4, .int), (c_6, .int)] s := hK
  refine W.widen (k := 2) (n := 300) (by omega) (by omega) ?_
  refine va_putF (D := (dC, dI)) (ci := 3) (v := .ref q_5) (ty := .array .int) (C := RX3) (T := TX3) (N := 4) hx hb hts fin_X3_initn12_X3 tyX3 tyX3_ok nmX3 hown hK hP hD hS 0 rfl rfl 2 (by decide) (hts (.fieldLink RX3 25 "PatternGate$Need" "sizes" "[I") (List.mem_of_getElem? (i := 11) (by decide +kernel))) (fun _ h9 => h9) rfl hin rfl (by decide +kernel) rfl rfl (Nat.le_of_ble_eq_true rfl) dX3_init_33 (fun H locs hP hD hS => ?_)
  have hP : va_P (dC, dI) vwCl [(nb, .inr (3, [.int 12, .ref q_3, .ref q_5, .int 0])), (q_3, .inl (c_4, 288, .inl (fun _ => 0))), (q_5, .inl (c_6, 12, .inl (fun _ => 0)))] H := hP
  have hD : va_D A [(nb, .inr (3, [.int 12, .ref q_3, .ref q_5, .int 0])), (q_3, .inl (c_4, 288, .inl (fun _ => 0))), (q_5, .inl (c_6, 12, .inl (fun _ => 0)))] := hD
  refine W.widen (k := 2) (n := 300) (by omega) (by omega) ?_
  exact W.vret hx hb hr (fun t ht hW => ⟨⟨(), rfl, trivial, trivial⟩, hS.F ht⟩) hS.2.2 dX3_init_36
def mwX3_initn6 : List Cond := .code yX3_init cX3_init 2 none :: ([.methodLink RX3 3 objectInit, .instanceMethod objectInit, .code objectInit ⟨#[0xb1]⟩ 1 none, .methodLink RX3 9 Lib.Math.max.name, .static Lib.Math.max.name, .initialized "java/lang/Math", .code Lib.Math.max.name Lib.Math.max.code 2 (some .int), .fieldLink RX3 15 "PatternGate$Need" "room" "I", .arrayClass .int, .fieldLink RX3 21 "PatternGate$Need" "triples" "[I", .fieldLink RX3 25 "PatternGate$Need" "sizes" "[I"] ++ wsX30)
theorem fin_X3_initn6_X3 : ∀ w ∈ wsX30, w ∈ mwX3_initn6 := fun w h => List.mem_cons_of_mem _ (List.mem_append_right _ h)
set_option maxHeartbeats 4000000 in
set_option maxRecDepth 100000 in
/-- c_Need6() -/
theorem c_Need6 (l : Launch) (dC : Nat → ClassId) (dI : Nat → Nat → Nat) (nb sz : Nat) : Met l yX3_init mwX3_initn6 ({ frames := 1, cells := 2, slots := 150, locals := 60 }) (va_Pc [.ref nb, .int 6] (fun U => U.heap.size = sz ∧ va_P (dC, dI) vwCl ([(nb, .inr (3, [.int 0, .null, .null, .int 0]))]) U.heap ∧ va_K (dC, dI) vwCl ([]) U ∧ va_D (fun _ => True) ([(nb, .inr (3, [.int 0, .null, .null, .int 0]))]))) (va_Qv (fun (_ : Unit) => True) (fun _ _ => True) (va_A ([(nb, .inr (3, [.int 0, .null, .null, .int 0]))]) sz)) 2 150 (va_A ([(nb, .inr (3, [.int 0, .null, .null, .int 0]))]) sz) := by
  refine Met.ofW (cc := cX3_init) (maxL := 2) (ret := none) (by decide +kernel) rfl ?_
  intro p e s m args below meth c s₁ B hml hv
  obtain ⟨rfl, hsz, hP, hK, hD0⟩ := hv
  have hx := B.exec
  have hb := B.bytes
  have hr := B.returns
  have hts := atoms_spec (ws := mwX3_initn6) B.pre
  have hown : s.vm.findClass RX3 = some m.cls := findClass_of_methodNamed B.named
  have hlocks := B.notSynchronized
  have hin : meth.name = "<init>" := (name_of_methodNamed B.named B.method).1
  subst hsz
  have hD := hD0.self (sz := s.heap.size)
  generalize hAe : va_A ([(nb, .inr (3, [.int 0, .null, .null, .int 0]))]) s.heap.size = A at hD ⊢
  have hA : ∀ q : Nat, s.heap.size ≤ q → A q := fun q h => by rw [← hAe]; exact Or.inr h
  have hP : va_P (dC, dI) vwCl [(nb, .inr (3, [.int 0, .null, .null, .int 0]))] s.heap := hP
  have hD : va_D A [(nb, .inr (3, [.int 0, .null, .null, .int 0]))] := hD
  have hK : va_K (dC, dI) vwCl [] s := hK
  generalize hH : s.heap = H at hP ⊢
  have hS : va_S A s.heap H [] := by rw [← hH]; exact va_S.rf
  have hl := lv_entry ([.ref nb, .int 6]) (n := 2) (Nat.le_of_ble_eq_true rfl)
  rw [lg_entry_eq]
  generalize (lg_sl ([.ref nb, .int 6]) ++ List.replicate (2 - (lg_sl ([.ref nb, .int 6])).length) Slot.unset).toArray = ls at hl ⊢
  have hl : lv_has ls 2 [(0, .ref nb), (1, .int 6)] := hl
  refine lv_aload_n hx hb dX3_init_0 rfl (lv_at hl 0 rfl) ?_
  refine W.objInit hx hb hown (hts (.methodLink RX3 3 objectInit) (List.mem_of_getElem? (i := 1) (by decide +kernel))) (hts (.instanceMethod objectInit) (List.mem_of_getElem? (i := 2) (by decide +kernel))) (hts (.code objectInit ⟨#[0xb1]⟩ 1 none) (List.mem_of_getElem? (i := 3) (by decide +kernel))) rfl (by rw [hml]; exact hl.1) rfl dX3_init_1 (Nat.le_of_ble_eq_true rfl) (Nat.le_of_ble_eq_true rfl) ?_
  refine W.eq (g2 := F0 m 4 ls []) rfl ?_
  refine lv_aload_n hx hb dX3_init_4 rfl (lv_at hl 0 rfl) ?_
  refine lv_iconst (v := 1) hx hb dX3_init_5 (by decide) ?_
  refine lv_iload_n hx hb dX3_init_6 rfl (lv_at hl 1 rfl) ?_
  refine va_mmax hx hb (hml.trans hl.1.symm) hown (hts (.methodLink RX3 9 Lib.Math.max.name) (List.mem_of_getElem? (i := 4) (by decide +kernel))) (hts (.static Lib.Math.max.name) (List.mem_of_getElem? (i := 5) (by decide +kernel))) (hts (.initialized "java/lang/Math") (List.mem_of_getElem? (i := 6) (by decide +kernel))) (hts (.code Lib.Math.max.name Lib.Math.max.code 2 (some .int)) (List.mem_of_getElem? (i := 7) (by decide +kernel))) (Nat.le_of_ble_eq_true rfl) (Nat.le_of_ble_eq_true rfl) (Nat.le_of_ble_eq_true rfl) (Nat.le_of_ble_eq_true rfl) dX3_init_7 ?_
  refine lv_topi (fun y_1 ey_1 => ?_)
  obtain rfl : y_1 = 6 := ey_1.trans (by first | rfl | decide)
  refine va_putF (D := (dC, dI)) (ci := 3) (v := .int 6) (ty := .int) (C := RX3) (T := TX3) (N := 4) hx hb hts fin_X3_initn6_X3 tyX3 tyX3_ok nmX3 hown hK hP hD hS 0 rfl rfl 0 (by decide) (hts (.fieldLink RX3 15 "PatternGate$Need" "room" "I") (List.mem_of_getElem? (i := 8) (by decide +kernel))) (fun _ h9 => h9) rfl hin rfl (by decide +kernel) rfl rfl (Nat.le_of_ble_eq_true rfl) dX3_init_10 (fun H locs hP hD hS => ?_)
  have hP : va_P (dC, dI) vwCl [(nb, .inr (3, [.int 6, .null, .null, .int 0]))] H := hP
  have hD : va_D A [(nb, .inr (3, [.int 6, .null, .null, .int 0]))] := hD
  refine lv_aload_n hx hb dX3_init_13 rfl (lv_at hl 0 rfl) ?_
  refine lv_aload_n hx hb dX3_init_14 rfl (lv_at hl 0 rfl) ?_
  refine va_get (D := (dC, dI)) (ci := 3) (v := .int 6) (C := RX3) (T := TX3) (N := 4) hx hb hts fin_X3_initn6_X3 hown hK hP 0 rfl rfl 0 (by decide) (hts (.fieldLink RX3 15 "PatternGate$Need" "room" "I") (List.mem_of_getElem? (i := 8) (by decide +kernel))) (fun _ h9 => h9) rfl dX3_init_15 ?_
  refine lv_bipush (v := 24) hx hb dX3_init_18 (by decide) ?_
  refine lv_imul hx hb dX3_init_20 ?_
  refine lv_topi (fun y_2 ey_2 => ?_)
  obtain rfl : y_2 = 144 := ey_2.trans (by first | rfl | decide)
  refine va_newa (atype := .int) (ty := .int) (n := 144) (N' := 144) (a0 := (144, .inl (fun _ => 0))) hx hb (hts (.arrayClass .int) (List.mem_of_getElem? (i := 9) (by decide +kernel))) rfl hK hP hD hS hA (fun _ => rfl) (by decide) (by decide) (Nat.le_of_ble_eq_true rfl) (Nat.le_of_ble_eq_true rfl) (Nat.le_of_ble_eq_true rfl) dX3_init_21 (fun q_3 c_4 H hK hP hD hS => ?_)
  have hP : va_P (dC, dI) vwCl [(nb, .inr (3, [.int 6, .null, .null, .int 0])), (q_3, .inl (c_4, 144, .inl (fun _ => 0)))] H := hP
  have hD : va_D A [(nb, .inr (3, [.int 6, .null, .null, .int 0])), (q_3, .inl (c_4, 144, .inl (fun _ => 0)))] := hD
  have hK : va_K (dC, dI) vwCl [(c_4, .int)] s := hK
  refine W.widen (k := 1) (n := 144) (by omega) (by omega) ?_
  refine va_putF (D := (dC, dI)) (ci := 3) (v := .ref q_3) (ty := .array .int) (C := RX3) (T := TX3) (N := 4) hx hb hts fin_X3_initn6_X3 tyX3 tyX3_ok nmX3 hown hK hP hD hS 0 rfl rfl 1 (by decide) (hts (.fieldLink RX3 21 "PatternGate$Need" "triples" "[I") (List.mem_of_getElem? (i := 10) (by decide +kernel))) (fun _ h9 => h9) rfl hin rfl (by decide +kernel) rfl rfl (Nat.le_of_ble_eq_true rfl) dX3_init_23 (fun H locs hP hD hS => ?_)
  have hP : va_P (dC, dI) vwCl [(nb, .inr (3, [.int 6, .ref q_3, .null, .int 0])), (q_3, .inl (c_4, 144, .inl (fun _ => 0)))] H := hP
  have hD : va_D A [(nb, .inr (3, [.int 6, .ref q_3, .null, .int 0])), (q_3, .inl (c_4, 144, .inl (fun _ => 0)))] := hD
  refine lv_aload_n hx hb dX3_init_26 rfl (lv_at hl 0 rfl) ?_
  refine lv_aload_n hx hb dX3_init_27 rfl (lv_at hl 0 rfl) ?_
  refine va_get (D := (dC, dI)) (ci := 3) (v := .int 6) (C := RX3) (T := TX3) (N := 4) hx hb hts fin_X3_initn6_X3 hown hK hP 0 rfl rfl 0 (by decide) (hts (.fieldLink RX3 15 "PatternGate$Need" "room" "I") (List.mem_of_getElem? (i := 8) (by decide +kernel))) (fun _ h9 => h9) rfl dX3_init_28 ?_
  refine va_newa (atype := .int) (ty := .int) (n := 6) (N' := 6) (a0 := (6, .inl (fun _ => 0))) hx hb (hts (.arrayClass .int) (List.mem_of_getElem? (i := 9) (by decide +kernel))) rfl hK hP hD hS hA (fun _ => rfl) (by decide) (by decide) (Nat.le_of_ble_eq_true rfl) (Nat.le_of_ble_eq_true rfl) (Nat.le_of_ble_eq_true rfl) dX3_init_31 (fun q_5 c_6 H hK hP hD hS => ?_)
  have hP : va_P (dC, dI) vwCl [(nb, .inr (3, [.int 6, .ref q_3, .null, .int 0])), (q_3, .inl (c_4, 144, .inl (fun _ => 0))), (q_5, .inl (c_6, 6, .inl (fun _ => 0)))] H := hP
  have hD : va_D A [(nb, .inr (3, [.int 6, .ref q_3, .null, .int 0])), (q_3, .inl (c_4, 144, .inl (fun _ => 0))), (q_5, .inl (c_6, 6, .inl (fun _ => 0)))] := hD
  have hK : va_K (dC, dI) vwCl [(c_4, .int), (c_6, .int)] s := hK
  refine W.widen (k := 2) (n := 150) (by omega) (by omega) ?_
  refine va_putF (D := (dC, dI)) (ci := 3) (v := .ref q_5) (ty := .array .int) (C := RX3) (T := TX3) (N := 4) hx hb hts fin_X3_initn6_X3 tyX3 tyX3_ok nmX3 hown hK hP hD hS 0 rfl rfl 2 (by decide) (hts (.fieldLink RX3 25 "PatternGate$Need" "sizes" "[I") (List.mem_of_getElem? (i := 11) (by decide +kernel))) (fun _ h9 => h9) rfl hin rfl (by decide +kernel) rfl rfl (Nat.le_of_ble_eq_true rfl) dX3_init_33 (fun H locs hP hD hS => ?_)
  have hP : va_P (dC, dI) vwCl [(nb, .inr (3, [.int 6, .ref q_3, .ref q_5, .int 0])), (q_3, .inl (c_4, 144, .inl (fun _ => 0))), (q_5, .inl (c_6, 6, .inl (fun _ => 0)))] H := hP
  have hD : va_D A [(nb, .inr (3, [.int 6, .ref q_3, .ref q_5, .int 0])), (q_3, .inl (c_4, 144, .inl (fun _ => 0))), (q_5, .inl (c_6, 6, .inl (fun _ => 0)))] := hD
  refine W.widen (k := 2) (n := 150) (by omega) (by omega) ?_
  exact W.vret hx hb hr (fun t ht hW => ⟨⟨(), rfl, trivial, trivial⟩, hS.F ht⟩) hS.2.2 dX3_init_36
def mwX3_initn144 : List Cond := .code yX3_init cX3_init 2 none :: ([.methodLink RX3 3 objectInit, .instanceMethod objectInit, .code objectInit ⟨#[0xb1]⟩ 1 none, .methodLink RX3 9 Lib.Math.max.name, .static Lib.Math.max.name, .initialized "java/lang/Math", .code Lib.Math.max.name Lib.Math.max.code 2 (some .int), .fieldLink RX3 15 "PatternGate$Need" "room" "I", .arrayClass .int, .fieldLink RX3 21 "PatternGate$Need" "triples" "[I", .fieldLink RX3 25 "PatternGate$Need" "sizes" "[I"] ++ wsX30)
theorem fin_X3_initn144_X3 : ∀ w ∈ wsX30, w ∈ mwX3_initn144 := fun w h => List.mem_cons_of_mem _ (List.mem_append_right _ h)
set_option maxHeartbeats 4000000 in
set_option maxRecDepth 100000 in
/-- c_Need144() -/
theorem c_Need144 (l : Launch) (dC : Nat → ClassId) (dI : Nat → Nat → Nat) (nb sz : Nat) : Met l yX3_init mwX3_initn144 ({ frames := 1, cells := 2, slots := 3600, locals := 60 }) (va_Pc [.ref nb, .int 144] (fun U => U.heap.size = sz ∧ va_P (dC, dI) vwCl ([(nb, .inr (3, [.int 0, .null, .null, .int 0]))]) U.heap ∧ va_K (dC, dI) vwCl ([]) U ∧ va_D (fun _ => True) ([(nb, .inr (3, [.int 0, .null, .null, .int 0]))]))) (va_Qv (fun (_ : Unit) => True) (fun _ _ => True) (va_A ([(nb, .inr (3, [.int 0, .null, .null, .int 0]))]) sz)) 2 3600 (va_A ([(nb, .inr (3, [.int 0, .null, .null, .int 0]))]) sz) := by
  refine Met.ofW (cc := cX3_init) (maxL := 2) (ret := none) (by decide +kernel) rfl ?_
  intro p e s m args below meth c s₁ B hml hv
  obtain ⟨rfl, hsz, hP, hK, hD0⟩ := hv
  have hx := B.exec
  have hb := B.bytes
  have hr := B.returns
  have hts := atoms_spec (ws := mwX3_initn144) B.pre
  have hown : s.vm.findClass RX3 = some m.cls := findClass_of_methodNamed B.named
  have hlocks := B.notSynchronized
  have hin : meth.name = "<init>" := (name_of_methodNamed B.named B.method).1
  subst hsz
  have hD := hD0.self (sz := s.heap.size)
  generalize hAe : va_A ([(nb, .inr (3, [.int 0, .null, .null, .int 0]))]) s.heap.size = A at hD ⊢
  have hA : ∀ q : Nat, s.heap.size ≤ q → A q := fun q h => by rw [← hAe]; exact Or.inr h
  have hP : va_P (dC, dI) vwCl [(nb, .inr (3, [.int 0, .null, .null, .int 0]))] s.heap := hP
  have hD : va_D A [(nb, .inr (3, [.int 0, .null, .null, .int 0]))] := hD
  have hK : va_K (dC, dI) vwCl [] s := hK
  generalize hH : s.heap = H at hP ⊢
  have hS : va_S A s.heap H [] := by rw [← hH]; exact va_S.rf
  have hl := lv_entry ([.ref nb, .int 144]) (n := 2) (Nat.le_of_ble_eq_true rfl)
  rw [lg_entry_eq]
  generalize (lg_sl ([.ref nb, .int 144]) ++ List.replicate (2 - (lg_sl ([.ref nb, .int 144])).length) Slot.unset).toArray = ls at hl ⊢
  have hl : lv_has ls 2 [(0, .ref nb), (1, .int 144)] := hl
  refine lv_aload_n hx hb dX3_init_0 rfl (lv_at hl 0 rfl) ?_
  refine W.objInit hx hb hown (hts (.methodLink RX3 3 objectInit) (List.mem_of_getElem? (i := 1) (by decide +kernel))) (hts (.instanceMethod objectInit) (List.mem_of_getElem? (i := 2) (by decide +kernel))) (hts (.code objectInit ⟨#[0xb1]⟩ 1 none) (List.mem_of_getElem? (i := 3) (by decide +kernel))) rfl (by rw [hml]; exact hl.1) rfl dX3_init_1 (Nat.le_of_ble_eq_true rfl) (Nat.le_of_ble_eq_true rfl) ?_
  refine W.eq (g2 := F0 m 4 ls []) rfl ?_
  refine lv_aload_n hx hb dX3_init_4 rfl (lv_at hl 0 rfl) ?_
  refine lv_iconst (v := 1) hx hb dX3_init_5 (by decide) ?_
  refine lv_iload_n hx hb dX3_init_6 rfl (lv_at hl 1 rfl) ?_
  refine va_mmax hx hb (hml.trans hl.1.symm) hown (hts (.methodLink RX3 9 Lib.Math.max.name) (List.mem_of_getElem? (i := 4) (by decide +kernel))) (hts (.static Lib.Math.max.name) (List.mem_of_getElem? (i := 5) (by decide +kernel))) (hts (.initialized "java/lang/Math") (List.mem_of_getElem? (i := 6) (by decide +kernel))) (hts (.code Lib.Math.max.name Lib.Math.max.code 2 (some .int)) (List.mem_of_getElem? (i := 7) (by decide +kernel))) (Nat.le_of_ble_eq_true rfl) (Nat.le_of_ble_eq_true rfl) (Nat.le_of_ble_eq_true rfl) (Nat.le_of_ble_eq_true rfl) dX3_init_7 ?_
  refine lv_topi (fun y_1 ey_1 => ?_)
  obtain rfl : y_1 = 144 := ey_1.trans (by first | rfl | decide)
  refine va_putF (D := (dC, dI)) (ci := 3) (v := .int 144) (ty := .int) (C := RX3) (T := TX3) (N := 4) hx hb hts fin_X3_initn144_X3 tyX3 tyX3_ok nmX3 hown hK hP hD hS 0 rfl rfl 0 (by decide) (hts (.fieldLink RX3 15 "PatternGate$Need" "room" "I") (List.mem_of_getElem? (i := 8) (by decide +kernel))) (fun _ h9 => h9) rfl hin rfl (by decide +kernel) rfl rfl (Nat.le_of_ble_eq_true rfl) dX3_init_10 (fun H locs hP hD hS => ?_)
  have hP : va_P (dC, dI) vwCl [(nb, .inr (3, [.int 144, .null, .null, .int 0]))] H := hP
  have hD : va_D A [(nb, .inr (3, [.int 144, .null, .null, .int 0]))] := hD
  refine lv_aload_n hx hb dX3_init_13 rfl (lv_at hl 0 rfl) ?_
  refine lv_aload_n hx hb dX3_init_14 rfl (lv_at hl 0 rfl) ?_
  refine va_get (D := (dC, dI)) (ci := 3) (v := .int 144) (C := RX3) (T := TX3) (N := 4) hx hb hts fin_X3_initn144_X3 hown hK hP 0 rfl rfl 0 (by decide) (hts (.fieldLink RX3 15 "PatternGate$Need" "room" "I") (List.mem_of_getElem? (i := 8) (by decide +kernel))) (fun _ h9 => h9) rfl dX3_init_15 ?_
  refine lv_bipush (v := 24) hx hb dX3_init_18 (by decide) ?_
  refine lv_imul hx hb dX3_init_20 ?_
  refine lv_topi (fun y_2 ey_2 => ?_)
  obtain rfl : y_2 = 3456 := ey_2.trans (by first | rfl | decide)
  refine va_newa (atype := .int) (ty := .int) (n := 3456) (N' := 3456) (a0 := (3456, .inl (fun _ => 0))) hx hb (hts (.arrayClass .int) (List.mem_of_getElem? (i := 9) (by decide +kernel))) rfl hK hP hD hS hA (fun _ => rfl) (by decide) (by decide) (Nat.le_of_ble_eq_true rfl) (Nat.le_of_ble_eq_true rfl) (Nat.le_of_ble_eq_true rfl) dX3_init_21 (fun q_3 c_4 H hK hP hD hS => ?_)
  have hP : va_P (dC, dI) vwCl [(nb, .inr (3, [.int 144, .null, .null, .int 0])), (q_3, .inl (c_4, 3456, .inl (fun _ => 0)))] H := hP
  have hD : va_D A [(nb, .inr (3, [.int 144, .null, .null, .int 0])), (q_3, .inl (c_4, 3456, .inl (fun _ => 0)))] := hD
  have hK : va_K (dC, dI) vwCl [(c_4, .int)] s := hK
  refine W.widen (k := 1) (n := 3456) (by omega) (by omega) ?_
  refine va_putF (D := (dC, dI)) (ci := 3) (v := .ref q_3) (ty := .array .int) (C := RX3) (T := TX3) (N := 4) hx hb hts fin_X3_initn144_X3 tyX3 tyX3_ok nmX3 hown hK hP hD hS 0 rfl rfl 1 (by decide) (hts (.fieldLink RX3 21 "PatternGate$Need" "triples" "[I") (List.mem_of_getElem? (i := 10) (by decide +kernel))) (fun _ h9 => h9) rfl hin rfl (by decide +kernel) rfl rfl (Nat.le_of_ble_eq_true rfl) dX3_init_23 (fun H locs hP hD hS => ?_)
  have hP : va_P (dC, dI) vwCl [(nb, .inr (3, [.int 144, .ref q_3, .null, .int 0])), (q_3, .inl (c_4, 3456, .inl (fun _ => 0)))] H := hP
  have hD : va_D A [(nb, .inr (3, [.int 144, .ref q_3, .null, .int 0])), (q_3, .inl (c_4, 3456, .inl (fun _ => 0)))] := hD
  refine lv_aload_n hx hb dX3_init_26 rfl (lv_at hl 0 rfl) ?_
  refine lv_aload_n hx hb dX3_init_27 rfl (lv_at hl 0 rfl) ?_
  refine va_get (D := (dC, dI)) (ci := 3) (v := .int 144) (C := RX3) (T := TX3) (N := 4) hx hb hts fin_X3_initn144_X3 hown hK hP 0 rfl rfl 0 (by decide) (hts (.fieldLink RX3 15 "PatternGate$Need" "room" "I") (List.mem_of_getElem? (i := 8) (by decide +kernel))) (fun _ h9 => h9) rfl dX3_init_28 ?_
  refine va_newa (atype := .int) (ty := .int) (n := 144) (N' := 144) (a0 := (144, .inl (fun _ => 0))) hx hb (hts (.arrayClass .int) (List.mem_of_getElem? (i := 9) (by decide +kernel))) rfl hK hP hD hS hA (fun _ => rfl) (by decide) (by decide) (Nat.le_of_ble_eq_true rfl) (Nat.le_of_ble_eq_true rfl) (Nat.le_of_ble_eq_true rfl) dX3_init_31 (fun q_5 c_6 H hK hP hD hS => ?_)
  have hP : va_P (dC, dI) vwCl [(nb, .inr (3, [.int 144, .ref q_3, .null, .int 0])), (q_3, .inl (c_4, 3456, .inl (fun _ => 0))), (q_5, .inl (c_6, 144, .inl (fun _ => 0)))] H := hP
  have hD : va_D A [(nb, .inr (3, [.int 144, .ref q_3, .null, .int 0])), (q_3, .inl (c_4, 3456, .inl (fun _ => 0))), (q_5, .inl (c_6, 144, .inl (fun _ => 0)))] := hD
  have hK : va_K (dC, dI) vwCl [(c_4, .int), (c_6, .int)] s := hK
  refine W.widen (k := 2) (n := 3600) (by omega) (by omega) ?_
  refine va_putF (D := (dC, dI)) (ci := 3) (v := .ref q_5) (ty := .array .int) (C := RX3) (T := TX3) (N := 4) hx hb hts fin_X3_initn144_X3 tyX3 tyX3_ok nmX3 hown hK hP hD hS 0 rfl rfl 2 (by decide) (hts (.fieldLink RX3 25 "PatternGate$Need" "sizes" "[I") (List.mem_of_getElem? (i := 11) (by decide +kernel))) (fun _ h9 => h9) rfl hin rfl (by decide +kernel) rfl rfl (Nat.le_of_ble_eq_true rfl) dX3_init_33 (fun H locs hP hD hS => ?_)
  have hP : va_P (dC, dI) vwCl [(nb, .inr (3, [.int 144, .ref q_3, .ref q_5, .int 0])), (q_3, .inl (c_4, 3456, .inl (fun _ => 0))), (q_5, .inl (c_6, 144, .inl (fun _ => 0)))] H := hP
  have hD : va_D A [(nb, .inr (3, [.int 144, .ref q_3, .ref q_5, .int 0])), (q_3, .inl (c_4, 3456, .inl (fun _ => 0))), (q_5, .inl (c_6, 144, .inl (fun _ => 0)))] := hD
  refine W.widen (k := 2) (n := 3600) (by omega) (by omega) ?_
  exact W.vret hx hb hr (fun t ht hW => ⟨⟨(), rfl, trivial, trivial⟩, hS.F ht⟩) hS.2.2 dX3_init_36
theorem dX8_init_0 : decode cX8_init 0 = .ok (.aload_n 0, 1) := by decide +kernel
theorem dX8_init_1 : decode cX8_init 1 = .ok (.invokespecial 3, 3) := by decide +kernel
theorem dX8_init_4 : decode cX8_init 4 = .ok (.aload_n 0, 1) := by decide +kernel
theorem dX8_init_5 : decode cX8_init 5 = .ok (.bipush 24, 2) := by decide +kernel
theorem dX8_init_7 : decode cX8_init 7 = .ok (.newarray .int, 2) := by decide +kernel
theorem dX8_init_9 : decode cX8_init 9 = .ok (.putfield 9, 3) := by decide +kernel
theorem dX8_init_12 : decode cX8_init 12 = .ok (.return_, 1) := by decide +kernel
def mwX8_init : List Cond := .code yX8_init cX8_init 1 none :: ([.methodLink RX8 3 objectInit, .instanceMethod objectInit, .code objectInit ⟨#[0xb1]⟩ 1 none, .arrayClass .int, .fieldLink RX8 9 "PatternGate$Walk" "lists" "[I"] ++ wsX80)
theorem fin_X8_init_X8 : ∀ w ∈ wsX80, w ∈ mwX8_init := fun w h => List.mem_cons_of_mem _ (List.mem_append_right _ h)
set_option maxHeartbeats 4000000 in
set_option maxRecDepth 100000 in
/-- c_Walk() -/
theorem c_Walk (l : Launch) (dC : Nat → ClassId) (dI : Nat → Nat → Nat) (nb sz : Nat) : Met l yX8_init mwX8_init ({ frames := 1, cells := 1, slots := 24, locals := 60 }) (va_Pc [.ref nb] (fun U => U.heap.size = sz ∧ va_P (dC, dI) vwCl ([(nb, .inr (8, [.int 0, .int 0, .null]))]) U.heap ∧ va_K (dC, dI) vwCl ([]) U ∧ va_D (fun _ => True) ([(nb, .inr (8, [.int 0, .int 0, .null]))]))) (va_Qv (fun (_ : Unit) => True) (fun _ _ => True) (va_A ([(nb, .inr (8, [.int 0, .int 0, .null]))]) sz)) 1 24 (va_A ([(nb, .inr (8, [.int 0, .int 0, .null]))]) sz) := by
  refine Met.ofW (cc := cX8_init) (maxL := 1) (ret := none) (by decide +kernel) rfl ?_
  intro p e s m args below meth c s₁ B hml hv
  obtain ⟨rfl, hsz, hP, hK, hD0⟩ := hv
  have hx := B.exec
  have hb := B.bytes
  have hr := B.returns
  have hts := atoms_spec (ws := mwX8_init) B.pre
  have hown : s.vm.findClass RX8 = some m.cls := findClass_of_methodNamed B.named
  have hlocks := B.notSynchronized
  have hin : meth.name = "<init>" := (name_of_methodNamed B.named B.method).1
  subst hsz
  have hD := hD0.self (sz := s.heap.size)
  generalize hAe : va_A ([(nb, .inr (8, [.int 0, .int 0, .null]))]) s.heap.size = A at hD ⊢
  have hA : ∀ q : Nat, s.heap.size ≤ q → A q := fun q h => by rw [← hAe]; exact Or.inr h
  have hP : va_P (dC, dI) vwCl [(nb, .inr (8, [.int 0, .int 0, .null]))] s.heap := hP
  have hD : va_D A [(nb, .inr (8, [.int 0, .int 0, .null]))] := hD
  have hK : va_K (dC, dI) vwCl [] s := hK
  generalize hH : s.heap = H at hP ⊢
  have hS : va_S A s.heap H [] := by rw [← hH]; exact va_S.rf
  have hl := lv_entry ([.ref nb]) (n := 1) (Nat.le_of_ble_eq_true rfl)
  rw [lg_entry_eq]
  generalize (lg_sl ([.ref nb]) ++ List.replicate (1 - (lg_sl ([.ref nb])).length) Slot.unset).toArray = ls at hl ⊢
  have hl : lv_has ls 1 [(0, .ref nb)] := hl
  refine lv_aload_n hx hb dX8_init_0 rfl (lv_at hl 0 rfl) ?_
  refine W.objInit hx hb hown (hts (.methodLink RX8 3 objectInit) (List.mem_of_getElem? (i := 1) (by decide +kernel))) (hts (.instanceMethod objectInit) (List.mem_of_getElem? (i := 2) (by decide +kernel))) (hts (.code objectInit ⟨#[0xb1]⟩ 1 none) (List.mem_of_getElem? (i := 3) (by decide +kernel))) rfl (by rw [hml]; exact hl.1) rfl dX8_init_1 (Nat.le_of_ble_eq_true rfl) (Nat.le_of_ble_eq_true rfl) ?_
  refine W.eq (g2 := F0 m 4 ls []) rfl ?_
  refine lv_aload_n hx hb dX8_init_4 rfl (lv_at hl 0 rfl) ?_
  refine lv_bipush (v := 24) hx hb dX8_init_5 (by decide) ?_
  refine va_newa (atype := .int) (ty := .int) (n := 24) (N' := 24) (a0 := (24, .inl (fun _ => 0))) hx hb (hts (.arrayClass .int) (List.mem_of_getElem? (i := 4) (by decide +kernel))) rfl hK hP hD hS hA (fun _ => rfl) (by decide) (by decide) (Nat.le_of_ble_eq_true rfl) (Nat.le_of_ble_eq_true rfl) (Nat.le_of_ble_eq_true rfl) dX8_init_7 (fun q_1 c_2 H hK hP hD hS => ?_)
  have hP : va_P (dC, dI) vwCl [(nb, .inr (8, [.int 0, .int 0, .null])), (q_1, .inl (c_2, 24, .inl (fun _ => 0)))] H := hP
  have hD : va_D A [(nb, .inr (8, [.int 0, .int 0, .null])), (q_1, .inl (c_2, 24, .inl (fun _ => 0)))] := hD
  have hK : va_K (dC, dI) vwCl [(c_2, .int)] s := hK
  refine W.widen (k := 1) (n := 24) (by omega) (by omega) ?_
  refine va_putF (D := (dC, dI)) (ci := 8) (v := .ref q_1) (ty := .array .int) (C := RX8) (T := TX8) (N := 3) hx hb hts fin_X8_init_X8 tyX8 tyX8_ok nmX8 hown hK hP hD hS 0 rfl rfl 2 (by decide) (hts (.fieldLink RX8 9 "PatternGate$Walk" "lists" "[I") (List.mem_of_getElem? (i := 5) (by decide +kernel))) (fun _ h9 => h9) rfl hin rfl (by decide +kernel) rfl rfl (Nat.le_of_ble_eq_true rfl) dX8_init_9 (fun H locs hP hD hS => ?_)
  have hP : va_P (dC, dI) vwCl [(nb, .inr (8, [.int 0, .int 0, .ref q_1])), (q_1, .inl (c_2, 24, .inl (fun _ => 0)))] H := hP
  have hD : va_D A [(nb, .inr (8, [.int 0, .int 0, .ref q_1])), (q_1, .inl (c_2, 24, .inl (fun _ => 0)))] := hD
  refine W.widen (k := 1) (n := 24) (by omega) (by omega) ?_
  exact W.vret hx hb hr (fun t ht hW => ⟨⟨(), rfl, trivial, trivial⟩, hS.F ht⟩) hS.2.2 dX8_init_12
theorem dX4_init_0 : decode cX4_init 0 = .ok (.aload_n 0, 1) := by decide +kernel
theorem dX4_init_1 : decode cX4_init 1 = .ok (.invokespecial 3, 3) := by decide +kernel
theorem dX4_init_4 : decode cX4_init 4 = .ok (.aload_n 0, 1) := by decide +kernel
theorem dX4_init_5 : decode cX4_init 5 = .ok (.new 9, 3) := by decide +kernel
theorem dX4_init_8 : decode cX4_init 8 = .ok (.dup, 1) := by decide +kernel
theorem dX4_init_9 : decode cX4_init 9 = .ok (.invokespecial 11, 3) := by decide +kernel
theorem dX4_init_12 : decode cX4_init 12 = .ok (.putfield 12, 3) := by decide +kernel
theorem dX4_init_15 : decode cX4_init 15 = .ok (.aload_n 0, 1) := by decide +kernel
theorem dX4_init_16 : decode cX4_init 16 = .ok (.new 18, 3) := by decide +kernel
theorem dX4_init_19 : decode cX4_init 19 = .ok (.dup, 1) := by decide +kernel
theorem dX4_init_20 : decode cX4_init 20 = .ok (.bipush 12, 2) := by decide +kernel
theorem dX4_init_22 : decode cX4_init 22 = .ok (.invokespecial 20, 3) := by decide +kernel
theorem dX4_init_25 : decode cX4_init 25 = .ok (.putfield 23, 3) := by decide +kernel
theorem dX4_init_28 : decode cX4_init 28 = .ok (.return_, 1) := by decide +kernel
def mwX4_init : List Cond := .code yX4_init cX4_init 1 none :: ([.methodLink RX4 3 objectInit, .instanceMethod objectInit, .code objectInit ⟨#[0xb1]⟩ 1 none, .classLink RX4 9 RX7, .instantiable RX7 2, .initialized RX7, .code yX7_init cX7_init 1 none, .methodLink RX7 5 objectInit, .arrayClass .long, .fieldLink RX7 11 "PatternGate$Rows" "row" "[J", .instanceMethod yX7_init, .fieldLink RX4 12 "PatternGate$Part" "rows" "LPatternGate$Rows;", .classLink RX4 18 RX3, .instantiable RX3 4, .initialized RX3, .code yX3_init cX3_init 2 none, .methodLink RX3 3 objectInit, .methodLink RX3 9 Lib.Math.max.name, .static Lib.Math.max.name, .initialized "java/lang/Math", .code Lib.Math.max.name Lib.Math.max.code 2 (some .int), .fieldLink RX3 15 "PatternGate$Need" "room" "I", .arrayClass .int, .fieldLink RX3 21 "PatternGate$Need" "triples" "[I", .fieldLink RX3 25 "PatternGate$Need" "sizes" "[I", .methodLink RX4 20 yX3_init, .instanceMethod yX3_init, .fieldLink RX4 23 "PatternGate$Part" "need" "LPatternGate$Need;"] ++ wsX70 ++ wsX40 ++ wsX30)
theorem fin_X4_init_X3 : ∀ w ∈ wsX30, w ∈ mwX4_init := fun w h => List.mem_cons_of_mem _ (List.mem_append_right _ h)
theorem fin_X4_init_X4 : ∀ w ∈ wsX40, w ∈ mwX4_init := fun w h => List.mem_cons_of_mem _ (List.mem_append_left _ (List.mem_append_right _ h))
theorem fin_X4_init_X7 : ∀ w ∈ wsX70, w ∈ mwX4_init := fun w h => List.mem_cons_of_mem _ (List.mem_append_left _ (List.mem_append_left _ (List.mem_append_right _ h)))
set_option maxRecDepth 20000 in
theorem mg_X4_init_X7_init_11 : GoodIn mwX4_init mwX7_init := goodIn_r _ [7, 8, 2, 3, 9, 10, 29, 30] (by decide +kernel) (by decide +kernel)
set_option maxRecDepth 20000 in
theorem mg_X4_init_X3_init_20 : GoodIn mwX4_init mwX3_initn12 := goodIn_r _ [16, 17, 2, 3, 18, 19, 20, 21, 22, 23, 24, 25, 39, 40, 41, 42] (by decide +kernel) (by decide +kernel)
set_option maxHeartbeats 4000000 in
set_option maxRecDepth 100000 in
/-- Part() -/
theorem c_Part (l : Launch) (dC : Nat → ClassId) (dI : Nat → Nat → Nat) (nb sz : Nat) : Met l yX4_init mwX4_init ({ frames := 2, cells := 5, slots := 312, locals := 120 }) (va_Pc [.ref nb] (fun U => U.heap.size = sz ∧ va_P (dC, dI) vwCl ([(nb, .inr (4, [.null, .null, .int 0, .int 0, .int 0, .int 0, .int 0, .int 0]))]) U.heap ∧ va_K (dC, dI) vwCl ([]) U ∧ va_D (fun _ => True) ([(nb, .inr (4, [.null, .null, .int 0, .int 0, .int 0, .int 0, .int 0, .int 0]))]) ∧ va_Nw (.methodLinkNest RX4 11 yX7_init "PatternGate") U)) (va_Qv (fun (_ : Unit) => True) (fun _ t => ∃ r1 n1 : Nat, va_P (dC, dI) vwCl [(nb, .inr (4, [.ref r1, .ref n1, .int 0, .int 0, .int 0, .int 0, .int 0, .int 0]))] t.heap ∧ va_K (dC, dI) vwCl [] t ∧ va_D (va_A ([(nb, .inr (4, [.null, .null, .int 0, .int 0, .int 0, .int 0, .int 0, .int 0]))]) sz) [(nb, .inr (4, [.ref r1, .ref n1, .int 0, .int 0, .int 0, .int 0, .int 0, .int 0]))]) (va_A ([(nb, .inr (4, [.null, .null, .int 0, .int 0, .int 0, .int 0, .int 0, .int 0]))]) sz)) 5 312 (va_A ([(nb, .inr (4, [.null, .null, .int 0, .int 0, .int 0, .int 0, .int 0, .int 0]))]) sz) := by
  refine Met.ofW (cc := cX4_init) (maxL := 1) (ret := none) (by decide +kernel) rfl ?_
  intro p e s m args below meth c s₁ B hml hv
  obtain ⟨rfl, hsz, hP, hK, hD0, hN11⟩ := hv
  have hx := B.exec
  have hb := B.bytes
  have hr := B.returns
  have hts := atoms_spec (ws := mwX4_init) B.pre
  have hown : s.vm.findClass RX4 = some m.cls := findClass_of_methodNamed B.named
  have hlocks := B.notSynchronized
  have hin : meth.name = "<init>" := (name_of_methodNamed B.named B.method).1
  subst hsz
  have hD := hD0.self (sz := s.heap.size)
  generalize hAe : va_A ([(nb, .inr (4, [.null, .null, .int 0, .int 0, .int 0, .int 0, .int 0, .int 0]))]) s.heap.size = A at hD ⊢
  have hA : ∀ q : Nat, s.heap.size ≤ q → A q := fun q h => by rw [← hAe]; exact Or.inr h
  have hP : va_P (dC, dI) vwCl [(nb, .inr (4, [.null, .null, .int 0, .int 0, .int 0, .int 0, .int 0, .int 0]))] s.heap := hP
  have hD : va_D A [(nb, .inr (4, [.null, .null, .int 0, .int 0, .int 0, .int 0, .int 0, .int 0]))] := hD
  have hK : va_K (dC, dI) vwCl [] s := hK
  generalize hH : s.heap = H at hP ⊢
  have hS : va_S A s.heap H [] := by rw [← hH]; exact va_S.rf
  have hl := lv_entry ([.ref nb]) (n := 1) (Nat.le_of_ble_eq_true rfl)
  rw [lg_entry_eq]
  generalize (lg_sl ([.ref nb]) ++ List.replicate (1 - (lg_sl ([.ref nb])).length) Slot.unset).toArray = ls at hl ⊢
  have hl : lv_has ls 1 [(0, .ref nb)] := hl
  refine lv_aload_n hx hb dX4_init_0 rfl (lv_at hl 0 rfl) ?_
  refine W.objInit hx hb hown (hts (.methodLink RX4 3 objectInit) (List.mem_of_getElem? (i := 1) (by decide +kernel))) (hts (.instanceMethod objectInit) (List.mem_of_getElem? (i := 2) (by decide +kernel))) (hts (.code objectInit ⟨#[0xb1]⟩ 1 none) (List.mem_of_getElem? (i := 3) (by decide +kernel))) rfl (by rw [hml]; exact hl.1) rfl dX4_init_1 (Nat.le_of_ble_eq_true rfl) (Nat.le_of_ble_eq_true rfl) ?_
  refine W.eq (g2 := F0 m 4 ls []) rfl ?_
  refine lv_aload_n hx hb dX4_init_4 rfl (lv_at hl 0 rfl) ?_
  refine va_new (ci := 7) (fs := [.null, .int 0]) (C := RX7) (T := TX7) (N := 2) hx hb hts fin_X4_init_X7 tyX7 tyX7_ok hown (hts (.classLink RX4 9 RX7) (List.mem_of_getElem? (i := 4) (by decide +kernel))) (hts (.instantiable RX7 2) (List.mem_of_getElem? (i := 5) (by decide +kernel))) (hts (.initialized RX7) (List.mem_of_getElem? (i := 6) (by decide +kernel))) hK hP hD hS hA rfl (fun j hj => by rcases (show j = 0 ∨ j = 1 by omega) with rfl | rfl <;> rfl) (Nat.le_of_ble_eq_true rfl) (Nat.le_of_ble_eq_true rfl) dX4_init_5 (fun q_1 H hP hD hS => ?_)
  have hP : va_P (dC, dI) vwCl [(nb, .inr (4, [.null, .null, .int 0, .int 0, .int 0, .int 0, .int 0, .int 0])), (q_1, .inr (7, [.null, .int 0]))] H := hP
  have hD : va_D A [(nb, .inr (4, [.null, .null, .int 0, .int 0, .int 0, .int 0, .int 0, .int 0])), (q_1, .inr (7, [.null, .int 0]))] := hD
  refine W.widen (k := 1) (n := 2) (by omega) (by omega) ?_
  refine lv_dup hx hb dX4_init_8 rfl ?_
  have hPc := hP.sub (ws' := [(q_1, .inr (7, [.null, .int 0]))]) [1] rfl
  have hKc := hK.sub (tys' := []) [] rfl
  have hDc := hD.sub (ws' := [(q_1, .inr (7, [.null, .int 0]))]) [1] (by decide) rfl
  have hFc := va_free (wc := [(q_1, .inr (7, [.null, .int 0]))]) hD hS hA [1] rfl
  refine va_callv (va_runIN (As := []) (rest := [.ref q_1, .ref nb]) ⟨hx, hb, hml, hown, hts⟩ (c_Rows l dC dI q_1 H.size) ⟨va_cnB 0 hts mg_X4_init_X7_init_11 rfl rfl rfl hN11 (hts (.initialized RX7) (List.mem_of_getElem? (i := 6) (by decide +kernel))) (by decide +kernel) ⟨Nat.le_of_ble_eq_true rfl, Nat.le_of_ble_eq_true rfl⟩, rfl, (hts (.instanceMethod yX7_init) (List.mem_of_getElem? (i := 11) (by decide +kernel)))⟩ ⟨fun a U g mk q => by obtain ⟨q0, q1, qP, qK, qD⟩ := q; exact ⟨q0, q1, qP, va_K.moved (u := U) (U := U.calling g mk a) (Vm.Alike.refl U.vm) qK, qD⟩, fun U hU hW => ⟨rfl, by rw [hU], by rw [hU]; exact hPc, va_K.moved hW.alike hKc, hDc.weaken (fun _ _ _ _ => trivial)⟩⟩ rfl rfl hl.1 rfl (lv_room (Nat.le_of_ble_eq_true rfl)) dX4_init_9 ⟨Nat.le_of_ble_eq_true rfl, Nat.le_of_ble_eq_true rfl⟩) hS (fun q _ h => hFc q h) hFc (fun u t H1 locs ht hvm hw hB hz1 hk1 hS => ?_)
  obtain ⟨hP, hD⟩ := va_join (wr := [(nb, .inr (4, [.null, .null, .int 0, .int 0, .int 0, .int 0, .int 0, .int 0]))]) (w1 := []) hP hD [1] [0] rfl rfl (by decide) (by decide) hk1 hFc (fun k q h => by simp at h) ⟨fun i j p q h => by simp at h, fun k q h => by simp at h⟩
  generalize H1 = H at hP hS ⊢
  have hP : va_P (dC, dI) vwCl [(nb, .inr (4, [.null, .null, .int 0, .int 0, .int 0, .int 0, .int 0, .int 0]))] H := hP
  have hD : va_D A [(nb, .inr (4, [.null, .null, .int 0, .int 0, .int 0, .int 0, .int 0, .int 0]))] := hD
  refine W.widen (k := 2) (n := 8) (by omega) (by omega) ?_
  refine va_putF (D := (dC, dI)) (ci := 4) (v := .ref q_1) (ty := .object "PatternGate$Rows") (C := RX4) (T := TX4) (N := 8) hx hb hts fin_X4_init_X4 tyX4 tyX4_ok nmX4 hown hK hP hD hS 0 rfl rfl 0 (by decide) (hts (.fieldLink RX4 12 "PatternGate$Part" "rows" "LPatternGate$Rows;") (List.mem_of_getElem? (i := 12) (by decide +kernel))) (fun _ h9 => h9) rfl hin rfl (by decide +kernel) rfl rfl (Nat.le_of_ble_eq_true rfl) dX4_init_12 (fun H locs hP hD hS => ?_)
  have hP : va_P (dC, dI) vwCl [(nb, .inr (4, [.ref q_1, .null, .int 0, .int 0, .int 0, .int 0, .int 0, .int 0]))] H := hP
  have hD : va_D A [(nb, .inr (4, [.ref q_1, .null, .int 0, .int 0, .int 0, .int 0, .int 0, .int 0]))] := hD
  refine lv_aload_n hx hb dX4_init_15 rfl (lv_at hl 0 rfl) ?_
  refine va_new (ci := 3) (fs := [.int 0, .null, .null, .int 0]) (C := RX3) (T := TX3) (N := 4) hx hb hts fin_X4_init_X3 tyX3 tyX3_ok hown (hts (.classLink RX4 18 RX3) (List.mem_of_getElem? (i := 13) (by decide +kernel))) (hts (.instantiable RX3 4) (List.mem_of_getElem? (i := 14) (by decide +kernel))) (hts (.initialized RX3) (List.mem_of_getElem? (i := 15) (by decide +kernel))) hK hP hD hS hA rfl (fun j hj => by rcases (show j = 0 ∨ j = 1 ∨ j = 2 ∨ j = 3 by omega) with rfl | rfl | rfl | rfl <;> rfl) (Nat.le_of_ble_eq_true rfl) (Nat.le_of_ble_eq_true rfl) dX4_init_16 (fun q_4 H hP hD hS => ?_)
  have hP : va_P (dC, dI) vwCl [(nb, .inr (4, [.ref q_1, .null, .int 0, .int 0, .int 0, .int 0, .int 0, .int 0])), (q_4, .inr (3, [.int 0, .null, .null, .int 0]))] H := hP
  have hD : va_D A [(nb, .inr (4, [.ref q_1, .null, .int 0, .int 0, .int 0, .int 0, .int 0, .int 0])), (q_4, .inr (3, [.int 0, .null, .null, .int 0]))] := hD
  refine W.widen (k := 3) (n := 12) (by omega) (by omega) ?_
  refine lv_dup hx hb dX4_init_19 rfl ?_
  refine lv_bipush (v := 12) hx hb dX4_init_20 (by decide) ?_
  have hPc := hP.sub (ws' := [(q_4, .inr (3, [.int 0, .null, .null, .int 0]))]) [1] rfl
  have hKc := hK.sub (tys' := []) [] rfl
  have hDc := hD.sub (ws' := [(q_4, .inr (3, [.int 0, .null, .null, .int 0]))]) [1] (by decide) rfl
  have hFc := va_free (wc := [(q_4, .inr (3, [.int 0, .null, .null, .int 0]))]) hD hS hA [1] rfl
  refine va_callv (va_runI (As := [.int 12]) (rest := [.ref q_4, .ref nb]) ⟨hx, hb, hml, hown, hts⟩ (c_Need12 l dC dI q_4 H.size) (cwI 1 hts mg_X4_init_X3_init_20 rfl rfl rfl (hts (.initialized RX3) (List.mem_of_getElem? (i := 15) (by decide +kernel))) (hts (.methodLink RX4 20 yX3_init) (List.mem_of_getElem? (i := 26) (by decide +kernel))) (hts (.instanceMethod yX3_init) (List.mem_of_getElem? (i := 27) (by decide +kernel))) rfl (by decide +kernel) ⟨Nat.le_of_ble_eq_true rfl, Nat.le_of_ble_eq_true rfl⟩) ⟨fun a U g mk q => by obtain ⟨q0, q1, qP, qK, qD⟩ := q; exact ⟨q0, q1, qP, va_K.moved (u := U) (U := U.calling g mk a) (Vm.Alike.refl U.vm) qK, qD⟩, fun U hU hW => ⟨rfl, by rw [hU], by rw [hU]; exact hPc, va_K.moved hW.alike hKc, hDc.weaken (fun _ _ _ _ => trivial)⟩⟩ rfl rfl hl.1 rfl (lv_room (Nat.le_of_ble_eq_true rfl)) dX4_init_22 ⟨Nat.le_of_ble_eq_true rfl, Nat.le_of_ble_eq_true rfl⟩) hS (fun q _ h => hFc q h) hFc (fun u t H1 locs ht hvm hw hB hz1 hk1 hS => ?_)
  obtain ⟨hP, hD⟩ := va_join (wr := [(nb, .inr (4, [.ref q_1, .null, .int 0, .int 0, .int 0, .int 0, .int 0, .int 0]))]) (w1 := []) hP hD [1] [0] rfl rfl (by decide) (by decide) hk1 hFc (fun k q h => by simp at h) ⟨fun i j p q h => by simp at h, fun k q h => by simp at h⟩
  generalize H1 = H at hP hS ⊢
  have hP : va_P (dC, dI) vwCl [(nb, .inr (4, [.ref q_1, .null, .int 0, .int 0, .int 0, .int 0, .int 0, .int 0]))] H := hP
  have hD : va_D A [(nb, .inr (4, [.ref q_1, .null, .int 0, .int 0, .int 0, .int 0, .int 0, .int 0]))] := hD
  refine W.widen (k := 5) (n := 312) (by omega) (by omega) ?_
  refine va_putF (D := (dC, dI)) (ci := 4) (v := .ref q_4) (ty := .object "PatternGate$Need") (C := RX4) (T := TX4) (N := 8) hx hb hts fin_X4_init_X4 tyX4 tyX4_ok nmX4 hown hK hP hD hS 0 rfl rfl 1 (by decide) (hts (.fieldLink RX4 23 "PatternGate$Part" "need" "LPatternGate$Need;") (List.mem_of_getElem? (i := 28) (by decide +kernel))) (fun _ h9 => h9) rfl hin rfl (by decide +kernel) rfl rfl (Nat.le_of_ble_eq_true rfl) dX4_init_25 (fun H locs hP hD hS => ?_)
  have hP : va_P (dC, dI) vwCl [(nb, .inr (4, [.ref q_1, .ref q_4, .int 0, .int 0, .int 0, .int 0, .int 0, .int 0]))] H := hP
  have hD : va_D A [(nb, .inr (4, [.ref q_1, .ref q_4, .int 0, .int 0, .int 0, .int 0, .int 0, .int 0]))] := hD
  refine W.widen (k := 5) (n := 312) (by omega) (by omega) ?_
  have hP9 := hP.sub (ws' := [(nb, .inr (4, [.ref q_1, .ref q_4, .int 0, .int 0, .int 0, .int 0, .int 0, .int 0]))]) [0] rfl
  have hD9 := hD.sub (ws' := [(nb, .inr (4, [.ref q_1, .ref q_4, .int 0, .int 0, .int 0, .int 0, .int 0, .int 0]))]) [0] (by decide) rfl
  have hK9 := hK.sub (tys' := []) [] rfl
  exact W.vret hx hb hr (fun t ht hW => ⟨⟨(), rfl, trivial, q_1, q_4, by rw [ht]; exact hP9, va_K.moved hW.alike hK9, hD9⟩, hS.F ht⟩) hS.2.2 dX4_init_28
theorem dX6_init_0 : decode cX6_init 0 = .ok (.aload_n 0, 1) := by decide +kernel
theorem dX6_init_1 : decode cX6_init 1 = .ok (.invokespecial 3, 3) := by decide +kernel
theorem dX6_init_4 : decode cX6_init 4 = .ok (.aload_n 0, 1) := by decide +kernel
theorem dX6_init_5 : decode cX6_init 5 = .ok (.bipush 18, 2) := by decide +kernel
theorem dX6_init_7 : decode cX6_init 7 = .ok (.newarray .int, 2) := by decide +kernel
theorem dX6_init_9 : decode cX6_init 9 = .ok (.putfield 11, 3) := by decide +kernel
theorem dX6_init_12 : decode cX6_init 12 = .ok (.aload_n 0, 1) := by decide +kernel
theorem dX6_init_13 : decode cX6_init 13 = .ok (.bipush 18, 2) := by decide +kernel
theorem dX6_init_15 : decode cX6_init 15 = .ok (.newarray .int, 2) := by decide +kernel
theorem dX6_init_17 : decode cX6_init 17 = .ok (.putfield 15, 3) := by decide +kernel
theorem dX6_init_20 : decode cX6_init 20 = .ok (.aload_n 0, 1) := by decide +kernel
theorem dX6_init_21 : decode cX6_init 21 = .ok (.bipush 18, 2) := by decide +kernel
theorem dX6_init_23 : decode cX6_init 23 = .ok (.newarray .boolean, 2) := by decide +kernel
theorem dX6_init_25 : decode cX6_init 25 = .ok (.putfield 18, 3) := by decide +kernel
theorem dX6_init_28 : decode cX6_init 28 = .ok (.return_, 1) := by decide +kernel
def mwX6_init : List Cond := .code yX6_init cX6_init 1 none :: ([.methodLink RX6 3 objectInit, .instanceMethod objectInit, .code objectInit ⟨#[0xb1]⟩ 1 none, .arrayClass .int, .fieldLink RX6 11 "PatternGate$Reader" "begins" "[I", .fieldLink RX6 15 "PatternGate$Reader" "ends" "[I", .arrayClass .boolean, .fieldLink RX6 18 "PatternGate$Reader" "isPattern" "[Z"] ++ wsX60)
theorem fin_X6_init_X6 : ∀ w ∈ wsX60, w ∈ mwX6_init := fun w h => List.mem_cons_of_mem _ (List.mem_append_right _ h)
set_option maxHeartbeats 4000000 in
set_option maxRecDepth 100000 in
/-- Reader() -/
theorem c_Reader (l : Launch) (dC : Nat → ClassId) (dI : Nat → Nat → Nat) (nb sz : Nat) : Met l yX6_init mwX6_init ({ frames := 1, cells := 3, slots := 54, locals := 60 }) (va_Pc [.ref nb] (fun U => U.heap.size = sz ∧ va_P (dC, dI) vwCl ([(nb, .inr (6, [.int 0, .int 0, .int 0, .int 0, .int 0, .null, .null, .null, .int 0, .int 0, .int 0]))]) U.heap ∧ va_K (dC, dI) vwCl ([]) U ∧ va_D (fun _ => True) ([(nb, .inr (6, [.int 0, .int 0, .int 0, .int 0, .int 0, .null, .null, .null, .int 0, .int 0, .int 0]))]))) (va_Qv (fun (_ : Unit) => True) (fun _ t => ∃ r : Nat → Nat, va_P (dC, dI) vwCl [(nb, .inr (6, rF r 0 0 0 0 0 0 0 0))] t.heap ∧ va_K (dC, dI) vwCl [] t ∧ va_D (va_A ([(nb, .inr (6, [.int 0, .int 0, .int 0, .int 0, .int 0, .null, .null, .null, .int 0, .int 0, .int 0]))]) sz) [(nb, .inr (6, rF r 0 0 0 0 0 0 0 0))]) (va_A ([(nb, .inr (6, [.int 0, .int 0, .int 0, .int 0, .int 0, .null, .null, .null, .int 0, .int 0, .int 0]))]) sz)) 3 54 (va_A ([(nb, .inr (6, [.int 0, .int 0, .int 0, .int 0, .int 0, .null, .null, .null, .int 0, .int 0, .int 0]))]) sz) := by
  refine Met.ofW (cc := cX6_init) (maxL := 1) (ret := none) (by decide +kernel) rfl ?_
  intro p e s m args below meth c s₁ B hml hv
  obtain ⟨rfl, hsz, hP, hK, hD0⟩ := hv
  have hx := B.exec
  have hb := B.bytes
  have hr := B.returns
  have hts := atoms_spec (ws := mwX6_init) B.pre
  have hown : s.vm.findClass RX6 = some m.cls := findClass_of_methodNamed B.named
  have hlocks := B.notSynchronized
  have hin : meth.name = "<init>" := (name_of_methodNamed B.named B.method).1
  subst hsz
  have hD := hD0.self (sz := s.heap.size)
  generalize hAe : va_A ([(nb, .inr (6, [.int 0, .int 0, .int 0, .int 0, .int 0, .null, .null, .null, .int 0, .int 0, .int 0]))]) s.heap.size = A at hD ⊢
  have hA : ∀ q : Nat, s.heap.size ≤ q → A q := fun q h => by rw [← hAe]; exact Or.inr h
  have hP : va_P (dC, dI) vwCl [(nb, .inr (6, [.int 0, .int 0, .int 0, .int 0, .int 0, .null, .null, .null, .int 0, .int 0, .int 0]))] s.heap := hP
  have hD : va_D A [(nb, .inr (6, [.int 0, .int 0, .int 0, .int 0, .int 0, .null, .null, .null, .int 0, .int 0, .int 0]))] := hD
  have hK : va_K (dC, dI) vwCl [] s := hK
  generalize hH : s.heap = H at hP ⊢
  have hS : va_S A s.heap H [] := by rw [← hH]; exact va_S.rf
  have hl := lv_entry ([.ref nb]) (n := 1) (Nat.le_of_ble_eq_true rfl)
  rw [lg_entry_eq]
  generalize (lg_sl ([.ref nb]) ++ List.replicate (1 - (lg_sl ([.ref nb])).length) Slot.unset).toArray = ls at hl ⊢
  have hl : lv_has ls 1 [(0, .ref nb)] := hl
  refine lv_aload_n hx hb dX6_init_0 rfl (lv_at hl 0 rfl) ?_
  refine W.objInit hx hb hown (hts (.methodLink RX6 3 objectInit) (List.mem_of_getElem? (i := 1) (by decide +kernel))) (hts (.instanceMethod objectInit) (List.mem_of_getElem? (i := 2) (by decide +kernel))) (hts (.code objectInit ⟨#[0xb1]⟩ 1 none) (List.mem_of_getElem? (i := 3) (by decide +kernel))) rfl (by rw [hml]; exact hl.1) rfl dX6_init_1 (Nat.le_of_ble_eq_true rfl) (Nat.le_of_ble_eq_true rfl) ?_
  refine W.eq (g2 := F0 m 4 ls []) rfl ?_
  refine lv_aload_n hx hb dX6_init_4 rfl (lv_at hl 0 rfl) ?_
  refine lv_bipush (v := 18) hx hb dX6_init_5 (by decide) ?_
  refine va_newa (atype := .int) (ty := .int) (n := 18) (N' := 18) (a0 := (18, .inl (fun _ => 0))) hx hb (hts (.arrayClass .int) (List.mem_of_getElem? (i := 4) (by decide +kernel))) rfl hK hP hD hS hA (fun _ => rfl) (by decide) (by decide) (Nat.le_of_ble_eq_true rfl) (Nat.le_of_ble_eq_true rfl) (Nat.le_of_ble_eq_true rfl) dX6_init_7 (fun q_1 c_2 H hK hP hD hS => ?_)
  have hP : va_P (dC, dI) vwCl [(nb, .inr (6, [.int 0, .int 0, .int 0, .int 0, .int 0, .null, .null, .null, .int 0, .int 0, .int 0])), (q_1, .inl (c_2, 18, .inl (fun _ => 0)))] H := hP
  have hD : va_D A [(nb, .inr (6, [.int 0, .int 0, .int 0, .int 0, .int 0, .null, .null, .null, .int 0, .int 0, .int 0])), (q_1, .inl (c_2, 18, .inl (fun _ => 0)))] := hD
  have hK : va_K (dC, dI) vwCl [(c_2, .int)] s := hK
  refine W.widen (k := 1) (n := 18) (by omega) (by omega) ?_
  refine va_putF (D := (dC, dI)) (ci := 6) (v := .ref q_1) (ty := .array .int) (C := RX6) (T := TX6) (N := 11) hx hb hts fin_X6_init_X6 tyX6 tyX6_ok nmX6 hown hK hP hD hS 0 rfl rfl 5 (by decide) (hts (.fieldLink RX6 11 "PatternGate$Reader" "begins" "[I") (List.mem_of_getElem? (i := 5) (by decide +kernel))) (fun _ h9 => h9) rfl hin rfl (by decide +kernel) rfl rfl (Nat.le_of_ble_eq_true rfl) dX6_init_9 (fun H locs hP hD hS => ?_)
  have hP : va_P (dC, dI) vwCl [(nb, .inr (6, [.int 0, .int 0, .int 0, .int 0, .int 0, .ref q_1, .null, .null, .int 0, .int 0, .int 0])), (q_1, .inl (c_2, 18, .inl (fun _ => 0)))] H := hP
  have hD : va_D A [(nb, .inr (6, [.int 0, .int 0, .int 0, .int 0, .int 0, .ref q_1, .null, .null, .int 0, .int 0, .int 0])), (q_1, .inl (c_2, 18, .inl (fun _ => 0)))] := hD
  refine lv_aload_n hx hb dX6_init_12 rfl (lv_at hl 0 rfl) ?_
  refine lv_bipush (v := 18) hx hb dX6_init_13 (by decide) ?_
  refine va_newa (atype := .int) (ty := .int) (n := 18) (N' := 18) (a0 := (18, .inl (fun _ => 0))) hx hb (hts (.arrayClass .int) (List.mem_of_getElem? (i := 4) (by decide +kernel))) rfl hK hP hD hS hA (fun _ => rfl) (by decide) (by decide) (Nat.le_of_ble_eq_true rfl) (Nat.le_of_ble_eq_true rfl) (Nat.le_of_ble_eq_true rfl) dX6_init_15 (fun q_3 c_4 H hK hP hD hS => ?_)
  have hP : va_P (dC, dI) vwCl [(nb, .inr (6, [.int 0, .int 0, .int 0, .int 0, .int 0, .ref q_1, .null, .null, .int 0, .int 0, .int 0])), (q_1, .inl (c_2, 18, .inl (fun _ => 0))), (q_3, .inl (c_4, 18, .inl (fun _ => 0)))] H := hP
  have hD : va_D A [(nb, .inr (6, [.int 0, .int 0, .int 0, .int 0, .int 0, .ref q_1, .null, .null, .int 0, .int 0, .int 0])), (q_1, .inl (c_2, 18, .inl (fun _ => 0))), (q_3, .inl (c_4, 18, .inl (fun _ => 0)))] := hD
  have hK : va_K (dC, dI) vwCl [(c_2, .int), (c_4, .int)] s := hK
  refine W.widen (k := 2) (n := 36) (by omega) (by omega) ?_
  refine va_putF (D := (dC, dI)) (ci := 6) (v := .ref q_3) (ty := .array .int) (C := RX6) (T := TX6) (N := 11) hx hb hts fin_X6_init_X6 tyX6 tyX6_ok nmX6 hown hK hP hD hS 0 rfl rfl 6 (by decide) (hts (.fieldLink RX6 15 "PatternGate$Reader" "ends" "[I") (List.mem_of_getElem? (i := 6) (by decide +kernel))) (fun _ h9 => h9) rfl hin rfl (by decide +kernel) rfl rfl (Nat.le_of_ble_eq_true rfl) dX6_init_17 (fun H locs hP hD hS => ?_)
  have hP : va_P (dC, dI) vwCl [(nb, .inr (6, [.int 0, .int 0, .int 0, .int 0, .int 0, .ref q_1, .ref q_3, .null, .int 0, .int 0, .int 0])), (q_1, .inl (c_2, 18, .inl (fun _ => 0))), (q_3, .inl (c_4, 18, .inl (fun _ => 0)))] H := hP
  have hD : va_D A [(nb, .inr (6, [.int 0, .int 0, .int 0, .int 0, .int 0, .ref q_1, .ref q_3, .null, .int 0, .int 0, .int 0])), (q_1, .inl (c_2, 18, .inl (fun _ => 0))), (q_3, .inl (c_4, 18, .inl (fun _ => 0)))] := hD
  refine lv_aload_n hx hb dX6_init_20 rfl (lv_at hl 0 rfl) ?_
  refine lv_bipush (v := 18) hx hb dX6_init_21 (by decide) ?_
  refine va_newa (atype := .boolean) (ty := .boolean) (n := 18) (N' := 18) (a0 := (18, .inl (fun _ => 0))) hx hb (hts (.arrayClass .boolean) (List.mem_of_getElem? (i := 7) (by decide +kernel))) rfl hK hP hD hS hA (fun _ => rfl) (by decide) (by decide) (Nat.le_of_ble_eq_true rfl) (Nat.le_of_ble_eq_true rfl) (Nat.le_of_ble_eq_true rfl) dX6_init_23 (fun q_5 c_6 H hK hP hD hS => ?_)
  have hP : va_P (dC, dI) vwCl [(nb, .inr (6, [.int 0, .int 0, .int 0, .int 0, .int 0, .ref q_1, .ref q_3, .null, .int 0, .int 0, .int 0])), (q_1, .inl (c_2, 18, .inl (fun _ => 0))), (q_3, .inl (c_4, 18, .inl (fun _ => 0))), (q_5, .inl (c_6, 18, .inl (fun _ => 0)))] H := hP
  have hD : va_D A [(nb, .inr (6, [.int 0, .int 0, .int 0, .int 0, .int 0, .ref q_1, .ref q_3, .null, .int 0, .int 0, .int 0])), (q_1, .inl (c_2, 18, .inl (fun _ => 0))), (q_3, .inl (c_4, 18, .inl (fun _ => 0))), (q_5, .inl (c_6, 18, .inl (fun _ => 0)))] := hD
  have hK : va_K (dC, dI) vwCl [(c_2, .int), (c_4, .int), (c_6, .boolean)] s := hK
  refine W.widen (k := 3) (n := 54) (by omega) (by omega) ?_
  refine va_putF (D := (dC, dI)) (ci := 6) (v := .ref q_5) (ty := .array .boolean) (C := RX6) (T := TX6) (N := 11) hx hb hts fin_X6_init_X6 tyX6 tyX6_ok nmX6 hown hK hP hD hS 0 rfl rfl 7 (by decide) (hts (.fieldLink RX6 18 "PatternGate$Reader" "isPattern" "[Z") (List.mem_of_getElem? (i := 8) (by decide +kernel))) (fun _ h9 => h9) rfl hin rfl (by decide +kernel) rfl rfl (Nat.le_of_ble_eq_true rfl) dX6_init_25 (fun H locs hP hD hS => ?_)
  have hP : va_P (dC, dI) vwCl [(nb, .inr (6, [.int 0, .int 0, .int 0, .int 0, .int 0, .ref q_1, .ref q_3, .ref q_5, .int 0, .int 0, .int 0])), (q_1, .inl (c_2, 18, .inl (fun _ => 0))), (q_3, .inl (c_4, 18, .inl (fun _ => 0))), (q_5, .inl (c_6, 18, .inl (fun _ => 0)))] H := hP
  have hD : va_D A [(nb, .inr (6, [.int 0, .int 0, .int 0, .int 0, .int 0, .ref q_1, .ref q_3, .ref q_5, .int 0, .int 0, .int 0])), (q_1, .inl (c_2, 18, .inl (fun _ => 0))), (q_3, .inl (c_4, 18, .inl (fun _ => 0))), (q_5, .inl (c_6, 18, .inl (fun _ => 0)))] := hD
  refine W.widen (k := 3) (n := 54) (by omega) (by omega) ?_
  have hP9 := hP.sub (ws' := [(nb, .inr (6, [.int 0, .int 0, .int 0, .int 0, .int 0, .ref q_1, .ref q_3, .ref q_5, .int 0, .int 0, .int 0]))]) [0] rfl
  have hD9 := hD.sub (ws' := [(nb, .inr (6, [.int 0, .int 0, .int 0, .int 0, .int 0, .ref q_1, .ref q_3, .ref q_5, .int 0, .int 0, .int 0]))]) [0] (by decide) rfl
  have hK9 := hK.sub (tys' := []) [] rfl
  exact W.vret hx hb hr (fun t ht hW => ⟨⟨(), rfl, trivial, fun k => [q_1, q_3, q_5].getD k 0, by rw [ht]; exact hP9, va_K.moved hW.alike hK9, hD9⟩, hS.F ht⟩) hS.2.2 dX6_init_28
theorem dX1_init_0 : decode cX1_init 0 = .ok (.aload_n 0, 1) := by decide +kernel
theorem dX1_init_1 : decode cX1_init 1 = .ok (.invokespecial 3, 3) := by decide +kernel
theorem dX1_init_4 : decode cX1_init 4 = .ok (.aload_n 0, 1) := by decide +kernel
theorem dX1_init_5 : decode cX1_init 5 = .ok (.bipush 6, 2) := by decide +kernel
theorem dX1_init_7 : decode cX1_init 7 = .ok (.anewarray 9, 3) := by decide +kernel
theorem dX1_init_10 : decode cX1_init 10 = .ok (.putfield 11, 3) := by decide +kernel
theorem dX1_init_13 : decode cX1_init 13 = .ok (.aload_n 0, 1) := by decide +kernel
theorem dX1_init_14 : decode cX1_init 14 = .ok (.bipush 6, 2) := by decide +kernel
theorem dX1_init_16 : decode cX1_init 16 = .ok (.anewarray 9, 3) := by decide +kernel
theorem dX1_init_19 : decode cX1_init 19 = .ok (.putfield 17, 3) := by decide +kernel
theorem dX1_init_22 : decode cX1_init 22 = .ok (.aload_n 0, 1) := by decide +kernel
theorem dX1_init_23 : decode cX1_init 23 = .ok (.bipush 6, 2) := by decide +kernel
theorem dX1_init_25 : decode cX1_init 25 = .ok (.newarray .boolean, 2) := by decide +kernel
theorem dX1_init_27 : decode cX1_init 27 = .ok (.putfield 20, 3) := by decide +kernel
theorem dX1_init_30 : decode cX1_init 30 = .ok (.aload_n 0, 1) := by decide +kernel
theorem dX1_init_31 : decode cX1_init 31 = .ok (.new 9, 3) := by decide +kernel
theorem dX1_init_34 : decode cX1_init 34 = .ok (.dup, 1) := by decide +kernel
theorem dX1_init_35 : decode cX1_init 35 = .ok (.invokespecial 24, 3) := by decide +kernel
theorem dX1_init_38 : decode cX1_init 38 = .ok (.putfield 25, 3) := by decide +kernel
theorem dX1_init_41 : decode cX1_init 41 = .ok (.aload_n 0, 1) := by decide +kernel
theorem dX1_init_42 : decode cX1_init 42 = .ok (.new 29, 3) := by decide +kernel
theorem dX1_init_45 : decode cX1_init 45 = .ok (.dup, 1) := by decide +kernel
theorem dX1_init_46 : decode cX1_init 46 = .ok (.invokespecial 31, 3) := by decide +kernel
theorem dX1_init_49 : decode cX1_init 49 = .ok (.putfield 32, 3) := by decide +kernel
theorem dX1_init_52 : decode cX1_init 52 = .ok (.aload_n 0, 1) := by decide +kernel
theorem dX1_init_53 : decode cX1_init 53 = .ok (.new 36, 3) := by decide +kernel
theorem dX1_init_56 : decode cX1_init 56 = .ok (.dup, 1) := by decide +kernel
theorem dX1_init_57 : decode cX1_init 57 = .ok (.bipush 6, 2) := by decide +kernel
theorem dX1_init_59 : decode cX1_init 59 = .ok (.invokespecial 38, 3) := by decide +kernel
theorem dX1_init_62 : decode cX1_init 62 = .ok (.putfield 41, 3) := by decide +kernel
theorem dX1_init_65 : decode cX1_init 65 = .ok (.aload_n 0, 1) := by decide +kernel
theorem dX1_init_66 : decode cX1_init 66 = .ok (.new 36, 3) := by decide +kernel
theorem dX1_init_69 : decode cX1_init 69 = .ok (.dup, 1) := by decide +kernel
theorem dX1_init_70 : decode cX1_init 70 = .ok (.sipush 144, 3) := by decide +kernel
theorem dX1_init_73 : decode cX1_init 73 = .ok (.invokespecial 38, 3) := by decide +kernel
theorem dX1_init_76 : decode cX1_init 76 = .ok (.putfield 45, 3) := by decide +kernel
theorem dX1_init_79 : decode cX1_init 79 = .ok (.aload_n 0, 1) := by decide +kernel
theorem dX1_init_80 : decode cX1_init 80 = .ok (.bipush 24, 2) := by decide +kernel
theorem dX1_init_82 : decode cX1_init 82 = .ok (.newarray .int, 2) := by decide +kernel
theorem dX1_init_84 : decode cX1_init 84 = .ok (.putfield 48, 3) := by decide +kernel
theorem dX1_init_87 : decode cX1_init 87 = .ok (.aload_n 0, 1) := by decide +kernel
theorem dX1_init_88 : decode cX1_init 88 = .ok (.bipush 24, 2) := by decide +kernel
theorem dX1_init_90 : decode cX1_init 90 = .ok (.newarray .int, 2) := by decide +kernel
theorem dX1_init_92 : decode cX1_init 92 = .ok (.putfield 52, 3) := by decide +kernel
theorem dX1_init_95 : decode cX1_init 95 = .ok (.aload_n 0, 1) := by decide +kernel
theorem dX1_init_96 : decode cX1_init 96 = .ok (.bipush 26, 2) := by decide +kernel
theorem dX1_init_98 : decode cX1_init 98 = .ok (.newarray .int, 2) := by decide +kernel
theorem dX1_init_100 : decode cX1_init 100 = .ok (.putfield 55, 3) := by decide +kernel
theorem dX1_init_103 : decode cX1_init 103 = .ok (.iconst 0, 1) := by decide +kernel
theorem dX1_init_104 : decode cX1_init 104 = .ok (.istore_n 1, 1) := by decide +kernel
theorem dX1_init_105 : decode cX1_init 105 = .ok (.iload_n 1, 1) := by decide +kernel
theorem dX1_init_106 : decode cX1_init 106 = .ok (.aload_n 0, 1) := by decide +kernel
theorem dX1_init_107 : decode cX1_init 107 = .ok (.getfield 11, 3) := by decide +kernel
theorem dX1_init_110 : decode cX1_init 110 = .ok (.arraylength, 1) := by decide +kernel
theorem dX1_init_111 : decode cX1_init 111 = .ok (.if_icmp .ge 35, 3) := by decide +kernel
theorem dX1_init_114 : decode cX1_init 114 = .ok (.aload_n 0, 1) := by decide +kernel
theorem dX1_init_115 : decode cX1_init 115 = .ok (.getfield 11, 3) := by decide +kernel
theorem dX1_init_118 : decode cX1_init 118 = .ok (.iload_n 1, 1) := by decide +kernel
theorem dX1_init_119 : decode cX1_init 119 = .ok (.new 9, 3) := by decide +kernel
theorem dX1_init_122 : decode cX1_init 122 = .ok (.dup, 1) := by decide +kernel
theorem dX1_init_123 : decode cX1_init 123 = .ok (.invokespecial 24, 3) := by decide +kernel
theorem dX1_init_126 : decode cX1_init 126 = .ok (.aastore, 1) := by decide +kernel
theorem dX1_init_127 : decode cX1_init 127 = .ok (.aload_n 0, 1) := by decide +kernel
theorem dX1_init_128 : decode cX1_init 128 = .ok (.getfield 17, 3) := by decide +kernel
theorem dX1_init_131 : decode cX1_init 131 = .ok (.iload_n 1, 1) := by decide +kernel
theorem dX1_init_132 : decode cX1_init 132 = .ok (.new 9, 3) := by decide +kernel
theorem dX1_init_135 : decode cX1_init 135 = .ok (.dup, 1) := by decide +kernel
theorem dX1_init_136 : decode cX1_init 136 = .ok (.invokespecial 24, 3) := by decide +kernel
theorem dX1_init_139 : decode cX1_init 139 = .ok (.aastore, 1) := by decide +kernel
theorem dX1_init_140 : decode cX1_init 140 = .ok (.iinc 1 1, 3) := by decide +kernel
theorem dX1_init_143 : decode cX1_init 143 = .ok (.goto (-38), 3) := by decide +kernel
theorem dX1_init_146 : decode cX1_init 146 = .ok (.return_, 1) := by decide +kernel
def mwX1_init : List Cond := .code yX1_init cX1_init 2 none :: ([.methodLink RX1 3 objectInit, .instanceMethod objectInit, .code objectInit ⟨#[0xb1]⟩ 1 none, .classLink RX1 9 RX4, .fieldLink RX1 11 "PatternGate$Compiler" "wholes" "[LPatternGate$Part;", .fieldLink RX1 17 "PatternGate$Compiler" "branches" "[LPatternGate$Part;", .arrayClass .boolean, .fieldLink RX1 20 "PatternGate$Compiler" "begun" "[Z", .instantiable RX4 8, .initialized RX4, .code yX4_init cX4_init 1 none, .methodLink RX4 3 objectInit, .classLink RX4 9 RX7, .instantiable RX7 2, .initialized RX7, .code yX7_init cX7_init 1 none, .methodLink RX7 5 objectInit, .arrayClass .long, .fieldLink RX7 11 "PatternGate$Rows" "row" "[J", .instanceMethod yX7_init, .fieldLink RX4 12 "PatternGate$Part" "rows" "LPatternGate$Rows;", .classLink RX4 18 RX3, .instantiable RX3 4, .initialized RX3, .code yX3_init cX3_init 2 none, .methodLink RX3 3 objectInit, .methodLink RX3 9 Lib.Math.max.name, .static Lib.Math.max.name, .initialized "java/lang/Math", .code Lib.Math.max.name Lib.Math.max.code 2 (some .int), .fieldLink RX3 15 "PatternGate$Need" "room" "I", .arrayClass .int, .fieldLink RX3 21 "PatternGate$Need" "triples" "[I", .fieldLink RX3 25 "PatternGate$Need" "sizes" "[I", .methodLink RX4 20 yX3_init, .instanceMethod yX3_init, .fieldLink RX4 23 "PatternGate$Part" "need" "LPatternGate$Need;", .instanceMethod yX4_init, .fieldLink RX1 25 "PatternGate$Compiler" "spot" "LPatternGate$Part;", .classLink RX1 29 RX7, .fieldLink RX1 32 "PatternGate$Compiler" "joined" "LPatternGate$Rows;", .classLink RX1 36 RX3, .methodLink RX1 38 yX3_init, .fieldLink RX1 41 "PatternGate$Compiler" "ofRows" "LPatternGate$Need;", .fieldLink RX1 45 "PatternGate$Compiler" "wide" "LPatternGate$Need;", .fieldLink RX1 48 "PatternGate$Compiler" "choice" "[I", .fieldLink RX1 52 "PatternGate$Compiler" "follow" "[I", .fieldLink RX1 55 "PatternGate$Compiler" "takers" "[I"] ++ wsX10 ++ wsX40 ++ wsX70 ++ wsX30)
theorem fin_X1_init_X1 : ∀ w ∈ wsX10, w ∈ mwX1_init := fun w h => List.mem_cons_of_mem _ (List.mem_append_left _ (List.mem_append_left _ (List.mem_append_left _ (List.mem_append_right _ h))))
theorem fin_X1_init_X3 : ∀ w ∈ wsX30, w ∈ mwX1_init := fun w h => List.mem_cons_of_mem _ (List.mem_append_right _ h)
theorem fin_X1_init_X4 : ∀ w ∈ wsX40, w ∈ mwX1_init := fun w h => List.mem_cons_of_mem _ (List.mem_append_left _ (List.mem_append_left _ (List.mem_append_right _ h)))
theorem fin_X1_init_X7 : ∀ w ∈ wsX70, w ∈ mwX1_init := fun w h => List.mem_cons_of_mem _ (List.mem_append_left _ (List.mem_append_right _ h))
set_option maxRecDepth 20000 in
theorem mg_X1_init_X4_init_24 : GoodIn mwX1_init mwX4_init := goodIn_r _ [11, 12, 2, 3, 13, 14, 15, 16, 17, 18, 19, 20, 21, 22, 23, 24, 25, 26, 27, 28, 29, 30, 31, 32, 33, 34, 35, 36, 37, 68, 69, 60, 61, 62, 63, 64, 65, 66, 67, 70, 71, 72, 73] (by decide +kernel) (by decide +kernel)
set_option maxRecDepth 20000 in
theorem mg_X1_init_X7_init_31 : GoodIn mwX1_init mwX7_init := goodIn_r _ [16, 17, 2, 3, 18, 19, 68, 69] (by decide +kernel) (by decide +kernel)
set_option maxRecDepth 20000 in
theorem mg_X1_init_X3_init_38 : GoodIn mwX1_init mwX3_initn6 := goodIn_r _ [25, 26, 2, 3, 27, 28, 29, 30, 31, 32, 33, 34, 70, 71, 72, 73] (by decide +kernel) (by decide +kernel)
set_option maxHeartbeats 4000000 in
set_option maxRecDepth 100000 in
/-- c_Compiler() -/
theorem c_Compiler (l : Launch) (dC : Nat → ClassId) (dI : Nat → Nat → Nat) (nb sz : Nat) : Met l yX1_init mwX1_init ({ frames := 3, cells := 100, slots := 9000, locals := 180 }) (va_Pc [.ref nb] (fun U => U.heap.size = sz ∧ va_P (dC, dI) vwCl ([(nb, .inr (1, [.null, .null, .null, .null, .null, .null, .null, .null, .null, .null, .int 0]))]) U.heap ∧ va_K (dC, dI) vwCl ([]) U ∧ va_D (fun _ => True) ([(nb, .inr (1, [.null, .null, .null, .null, .null, .null, .null, .null, .null, .null, .int 0]))]) ∧ va_AO "PatternGate$Part" U ∧ va_Nw (.methodLinkNest RX1 24 yX4_init "PatternGate") U ∧ va_Nw (.methodLinkNest RX1 31 yX7_init "PatternGate") U ∧ va_Nw (.methodLinkNest RX4 11 yX7_init "PatternGate") U)) (va_Qv (fun (_ : Unit) => True) (fun _ _ => True) (va_A ([(nb, .inr (1, [.null, .null, .null, .null, .null, .null, .null, .null, .null, .null, .int 0]))]) sz)) 100 9000 (va_A ([(nb, .inr (1, [.null, .null, .null, .null, .null, .null, .null, .null, .null, .null, .int 0]))]) sz) := by
  refine Met.ofW (cc := cX1_init) (maxL := 2) (ret := none) (by decide +kernel) rfl ?_
  intro p e s m args below meth c s₁ B hml hv
  obtain ⟨rfl, hsz, hP, hK, hD0, hAO4, hN24, hN31, hN11⟩ := hv
  have hx := B.exec
  have hb := B.bytes
  have hr := B.returns
  have hts := atoms_spec (ws := mwX1_init) B.pre
  have hown : s.vm.findClass RX1 = some m.cls := findClass_of_methodNamed B.named
  have hlocks := B.notSynchronized
  have hin : meth.name = "<init>" := (name_of_methodNamed B.named B.method).1
  subst hsz
  have hD := hD0.self (sz := s.heap.size)
  generalize hAe : va_A ([(nb, .inr (1, [.null, .null, .null, .null, .null, .null, .null, .null, .null, .null, .int 0]))]) s.heap.size = A at hD ⊢
  have hA : ∀ q : Nat, s.heap.size ≤ q → A q := fun q h => by rw [← hAe]; exact Or.inr h
  have hP : va_P (dC, dI) vwCl [(nb, .inr (1, [.null, .null, .null, .null, .null, .null, .null, .null, .null, .null, .int 0]))] s.heap := hP
  have hD : va_D A [(nb, .inr (1, [.null, .null, .null, .null, .null, .null, .null, .null, .null, .null, .int 0]))] := hD
  have hK : va_K (dC, dI) vwCl [] s := hK
  generalize hH : s.heap = H at hP ⊢
  have hS : va_S A s.heap H [] := by rw [← hH]; exact va_S.rf
  have hl := lv_entry ([.ref nb]) (n := 2) (Nat.le_of_ble_eq_true rfl)
  rw [lg_entry_eq]
  generalize (lg_sl ([.ref nb]) ++ List.replicate (2 - (lg_sl ([.ref nb])).length) Slot.unset).toArray = ls at hl ⊢
  have hl : lv_has ls 2 [(0, .ref nb)] := hl
  refine lv_aload_n hx hb dX1_init_0 rfl (lv_at hl 0 rfl) ?_
  refine W.objInit hx hb hown (hts (.methodLink RX1 3 objectInit) (List.mem_of_getElem? (i := 1) (by decide +kernel))) (hts (.instanceMethod objectInit) (List.mem_of_getElem? (i := 2) (by decide +kernel))) (hts (.code objectInit ⟨#[0xb1]⟩ 1 none) (List.mem_of_getElem? (i := 3) (by decide +kernel))) rfl (by rw [hml]; exact hl.1) rfl dX1_init_1 (Nat.le_of_ble_eq_true rfl) (Nat.le_of_ble_eq_true rfl) ?_
  refine W.eq (g2 := F0 m 4 ls []) rfl ?_
  refine lv_aload_n hx hb dX1_init_4 rfl (lv_at hl 0 rfl) ?_
  refine lv_bipush (v := 6) hx hb dX1_init_5 (by decide) ?_
  refine va_newq (C := "PatternGate$Part") (n := 6) (N' := 6) hx hb hown (hts (.classLink RX1 9 RX4) (List.mem_of_getElem? (i := 4) (by decide +kernel))) hAO4 hK hP hD hS hA (by decide) (by decide) (Nat.le_of_ble_eq_true rfl) (Nat.le_of_ble_eq_true rfl) (Nat.le_of_ble_eq_true rfl) dX1_init_7 (fun q_1 c_2 H hK hP hD hS => ?_)
  have hP : va_P (dC, dI) vwCl [(nb, .inr (1, [.null, .null, .null, .null, .null, .null, .null, .null, .null, .null, .int 0])), (q_1, .inl (c_2, 6, .inr (.inr (.inr (.inr (fun _ => none))))))] H := hP
  have hD : va_D A [(nb, .inr (1, [.null, .null, .null, .null, .null, .null, .null, .null, .null, .null, .int 0])), (q_1, .inl (c_2, 6, .inr (.inr (.inr (.inr (fun _ => none))))))] := hD
  have hK : va_K (dC, dI) vwCl [(c_2, .object "PatternGate$Part")] s := hK
  refine W.widen (k := 1) (n := 6) (by omega) (by omega) ?_
  refine va_putF (D := (dC, dI)) (ci := 1) (v := .ref q_1) (ty := .array (.object "PatternGate$Part")) (C := RX1) (T := TX1) (N := 11) hx hb hts fin_X1_init_X1 tyX1 tyX1_ok nmX1 hown hK hP hD hS 0 rfl rfl 0 (by decide) (hts (.fieldLink RX1 11 "PatternGate$Compiler" "wholes" "[LPatternGate$Part;") (List.mem_of_getElem? (i := 5) (by decide +kernel))) (fun _ h9 => h9) rfl hin rfl (by decide +kernel) rfl rfl (Nat.le_of_ble_eq_true rfl) dX1_init_10 (fun H locs hP hD hS => ?_)
  have hP : va_P (dC, dI) vwCl [(nb, .inr (1, [.ref q_1, .null, .null, .null, .null, .null, .null, .null, .null, .null, .int 0])), (q_1, .inl (c_2, 6, .inr (.inr (.inr (.inr (fun _ => none))))))] H := hP
  have hD : va_D A [(nb, .inr (1, [.ref q_1, .null, .null, .null, .null, .null, .null, .null, .null, .null, .int 0])), (q_1, .inl (c_2, 6, .inr (.inr (.inr (.inr (fun _ => none))))))] := hD
  refine lv_aload_n hx hb dX1_init_13 rfl (lv_at hl 0 rfl) ?_
  refine lv_bipush (v := 6) hx hb dX1_init_14 (by decide) ?_
  refine va_newq (C := "PatternGate$Part") (n := 6) (N' := 6) hx hb hown (hts (.classLink RX1 9 RX4) (List.mem_of_getElem? (i := 4) (by decide +kernel))) hAO4 hK hP hD hS hA (by decide) (by decide) (Nat.le_of_ble_eq_true rfl) (Nat.le_of_ble_eq_true rfl) (Nat.le_of_ble_eq_true rfl) dX1_init_16 (fun q_3 c_4 H hK hP hD hS => ?_)
  have hP : va_P (dC, dI) vwCl [(nb, .inr (1, [.ref q_1, .null, .null, .null, .null, .null, .null, .null, .null, .null, .int 0])), (q_1, .inl (c_2, 6, .inr (.inr (.inr (.inr (fun _ => none)))))), (q_3, .inl (c_4, 6, .inr (.inr (.inr (.inr (fun _ => none))))))] H := hP
  have hD : va_D A [(nb, .inr (1, [.ref q_1, .null, .null, .null, .null, .null, .null, .null, .null, .null, .int 0])), (q_1, .inl (c_2, 6, .inr (.inr (.inr (.inr (fun _ => none)))))), (q_3, .inl (c_4, 6, .inr (.inr (.inr (.inr (fun _ => none))))))] := hD
  have hK : va_K (dC, dI) vwCl [(c_2, .object "PatternGate$Part"), (c_4, .object "PatternGate$Part")] s := hK
  refine W.widen (k := 2) (n := 12) (by omega) (by omega) ?_
  refine va_putF (D := (dC, dI)) (ci := 1) (v := .ref q_3) (ty := .array (.object "PatternGate$Part")) (C := RX1) (T := TX1) (N := 11) hx hb hts fin_X1_init_X1 tyX1 tyX1_ok nmX1 hown hK hP hD hS 0 rfl rfl 1 (by decide) (hts (.fieldLink RX1 17 "PatternGate$Compiler" "branches" "[LPatternGate$Part;") (List.mem_of_getElem? (i := 6) (by decide +kernel))) (fun _ h9 => h9) rfl hin rfl (by decide +kernel) rfl rfl (Nat.le_of_ble_eq_true rfl) dX1_init_19 (fun H locs hP hD hS => ?_)
  have hP : va_P (dC, dI) vwCl [(nb, .inr (1, [.ref q_1, .ref q_3, .null, .null, .null, .null, .null, .null, .null, .null, .int 0])), (q_1, .inl (c_2, 6, .inr (.inr (.inr (.inr (fun _ => none)))))), (q_3, .inl (c_4, 6, .inr (.inr (.inr (.inr (fun _ => none))))))] H := hP
  have hD : va_D A [(nb, .inr (1, [.ref q_1, .ref q_3, .null, .null, .null, .null, .null, .null, .null, .null, .int 0])), (q_1, .inl (c_2, 6, .inr (.inr (.inr (.inr (fun _ => none)))))), (q_3, .inl (c_4, 6, .inr (.inr (.inr (.inr (fun _ => none))))))] := hD
  refine lv_aload_n hx hb dX1_init_22 rfl (lv_at hl 0 rfl) ?_
  refine lv_bipush (v := 6) hx hb dX1_init_23 (by decide) ?_
  refine va_newa (atype := .boolean) (ty := .boolean) (n := 6) (N' := 6) (a0 := (6, .inl (fun _ => 0))) hx hb (hts (.arrayClass .boolean) (List.mem_of_getElem? (i := 7) (by decide +kernel))) rfl hK hP hD hS hA (fun _ => rfl) (by decide) (by decide) (Nat.le_of_ble_eq_true rfl) (Nat.le_of_ble_eq_true rfl) (Nat.le_of_ble_eq_true rfl) dX1_init_25 (fun q_5 c_6 H hK hP hD hS => ?_)
  have hP : va_P (dC, dI) vwCl [(nb, .inr (1, [.ref q_1, .ref q_3, .null, .null, .null, .null, .null, .null, .null, .null, .int 0])), (q_1, .inl (c_2, 6, .inr (.inr (.inr (.inr (fun _ => none)))))), (q_3, .inl (c_4, 6, .inr (.inr (.inr (.inr (fun _ => none)))))), (q_5, .inl (c_6, 6, .inl (fun _ => 0)))] H := hP
  have hD : va_D A [(nb, .inr (1, [.ref q_1, .ref q_3, .null, .null, .null, .null, .null, .null, .null, .null, .int 0])), (q_1, .inl (c_2, 6, .inr (.inr (.inr (.inr (fun _ => none)))))), (q_3, .inl (c_4, 6, .inr (.inr (.inr (.inr (fun _ => none)))))), (q_5, .inl (c_6, 6, .inl (fun _ => 0)))] := hD
  have hK : va_K (dC, dI) vwCl [(c_2, .object "PatternGate$Part"), (c_4, .object "PatternGate$Part"), (c_6, .boolean)] s := hK
  refine W.widen (k := 3) (n := 18) (by omega) (by omega) ?_
  refine va_putF (D := (dC, dI)) (ci := 1) (v := .ref q_5) (ty := .array .boolean) (C := RX1) (T := TX1) (N := 11) hx hb hts fin_X1_init_X1 tyX1 tyX1_ok nmX1 hown hK hP hD hS 0 rfl rfl 2 (by decide) (hts (.fieldLink RX1 20 "PatternGate$Compiler" "begun" "[Z") (List.mem_of_getElem? (i := 8) (by decide +kernel))) (fun _ h9 => h9) rfl hin rfl (by decide +kernel) rfl rfl (Nat.le_of_ble_eq_true rfl) dX1_init_27 (fun H locs hP hD hS => ?_)
  have hP : va_P (dC, dI) vwCl [(nb, .inr (1, [.ref q_1, .ref q_3, .ref q_5, .null, .null, .null, .null, .null, .null, .null, .int 0])), (q_1, .inl (c_2, 6, .inr (.inr (.inr (.inr (fun _ => none)))))), (q_3, .inl (c_4, 6, .inr (.inr (.inr (.inr (fun _ => none)))))), (q_5, .inl (c_6, 6, .inl (fun _ => 0)))] H := hP
  have hD : va_D A [(nb, .inr (1, [.ref q_1, .ref q_3, .ref q_5, .null, .null, .null, .null, .null, .null, .null, .int 0])), (q_1, .inl (c_2, 6, .inr (.inr (.inr (.inr (fun _ => none)))))), (q_3, .inl (c_4, 6, .inr (.inr (.inr (.inr (fun _ => none)))))), (q_5, .inl (c_6, 6, .inl (fun _ => 0)))] := hD
  refine lv_aload_n hx hb dX1_init_30 rfl (lv_at hl 0 rfl) ?_
  refine va_new (ci := 4) (fs := [.null, .null, .int 0, .int 0, .int 0, .int 0, .int 0, .int 0]) (C := RX4) (T := TX4) (N := 8) hx hb hts fin_X1_init_X4 tyX4 tyX4_ok hown (hts (.classLink RX1 9 RX4) (List.mem_of_getElem? (i := 4) (by decide +kernel))) (hts (.instantiable RX4 8) (List.mem_of_getElem? (i := 9) (by decide +kernel))) (hts (.initialized RX4) (List.mem_of_getElem? (i := 10) (by decide +kernel))) hK hP hD hS hA rfl (fun j hj => by rcases (show j = 0 ∨ j = 1 ∨ j = 2 ∨ j = 3 ∨ j = 4 ∨ j = 5 ∨ j = 6 ∨ j = 7 by omega) with rfl | rfl | rfl | rfl | rfl | rfl | rfl | rfl <;> rfl) (Nat.le_of_ble_eq_true rfl) (Nat.le_of_ble_eq_true rfl) dX1_init_31 (fun q_7 H hP hD hS => ?_)
  have hP : va_P (dC, dI) vwCl [(nb, .inr (1, [.ref q_1, .ref q_3, .ref q_5, .null, .null, .null, .null, .null, .null, .null, .int 0])), (q_1, .inl (c_2, 6, .inr (.inr (.inr (.inr (fun _ => none)))))), (q_3, .inl (c_4, 6, .inr (.inr (.inr (.inr (fun _ => none)))))), (q_5, .inl (c_6, 6, .inl (fun _ => 0))), (q_7, .inr (4, [.null, .null, .int 0, .int 0, .int 0, .int 0, .int 0, .int 0]))] H := hP
  have hD : va_D A [(nb, .inr (1, [.ref q_1, .ref q_3, .ref q_5, .null, .null, .null, .null, .null, .null, .null, .int 0])), (q_1, .inl (c_2, 6, .inr (.inr (.inr (.inr (fun _ => none)))))), (q_3, .inl (c_4, 6, .inr (.inr (.inr (.inr (fun _ => none)))))), (q_5, .inl (c_6, 6, .inl (fun _ => 0))), (q_7, .inr (4, [.null, .null, .int 0, .int 0, .int 0, .int 0, .int 0, .int 0]))] := hD
  refine W.widen (k := 4) (n := 26) (by omega) (by omega) ?_
  refine lv_dup hx hb dX1_init_34 rfl ?_
  have hPc := hP.sub (ws' := [(q_7, .inr (4, [.null, .null, .int 0, .int 0, .int 0, .int 0, .int 0, .int 0]))]) [4] rfl
  have hKc := hK.sub (tys' := []) [] rfl
  have hDc := hD.sub (ws' := [(q_7, .inr (4, [.null, .null, .int 0, .int 0, .int 0, .int 0, .int 0, .int 0]))]) [4] (by decide) rfl
  have hFc := va_free (wc := [(q_7, .inr (4, [.null, .null, .int 0, .int 0, .int 0, .int 0, .int 0, .int 0]))]) hD hS hA [4] rfl
  refine va_callv (va_runIN (As := []) (rest := [.ref q_7, .ref nb]) ⟨hx, hb, hml, hown, hts⟩ (c_Part l dC dI q_7 H.size) ⟨va_cnB 0 hts mg_X1_init_X4_init_24 rfl rfl rfl hN24 (hts (.initialized RX4) (List.mem_of_getElem? (i := 10) (by decide +kernel))) (by decide +kernel) ⟨Nat.le_of_ble_eq_true rfl, Nat.le_of_ble_eq_true rfl⟩, rfl, (hts (.instanceMethod yX4_init) (List.mem_of_getElem? (i := 38) (by decide +kernel)))⟩ ⟨fun a U g mk q => by obtain ⟨q0, q1, qP, qK, qD, qE0⟩ := q; exact ⟨q0, q1, qP, va_K.moved (u := U) (U := U.calling g mk a) (Vm.Alike.refl U.vm) qK, qD, va_Nw.same rfl (rfl : U.vm = (U.calling g mk a).vm) qE0⟩, fun U hU hW => ⟨rfl, by rw [hU], by rw [hU]; exact hPc, va_K.moved hW.alike hKc, hDc.weaken (fun _ _ _ _ => trivial), va_Nw.warmM hW hN11⟩⟩ rfl rfl hl.1 rfl (lv_room (Nat.le_of_ble_eq_true rfl)) dX1_init_35 ⟨Nat.le_of_ble_eq_true rfl, Nat.le_of_ble_eq_true rfl⟩) hS (fun q _ h => hFc q h) hFc (fun u t H1 locs ht hvm hw hB hz1 hk1 hS => ?_)
  obtain ⟨r_10, n_11, hP1, hK1, hD1⟩ := hB
  rw [ht] at hP1
  obtain ⟨hP, hD⟩ := va_join (wr := [(nb, .inr (1, [.ref q_1, .ref q_3, .ref q_5, .null, .null, .null, .null, .null, .null, .null, .int 0])), (q_1, .inl (c_2, 6, .inr (.inr (.inr (.inr (fun _ => none)))))), (q_3, .inl (c_4, 6, .inr (.inr (.inr (.inr (fun _ => none)))))), (q_5, .inl (c_6, 6, .inl (fun _ => 0)))]) (w1 := [(q_7, .inr (4, [.ref r_10, .ref n_11, .int 0, .int 0, .int 0, .int 0, .int 0, .int 0]))]) hP hD [4] [0, 1, 2, 3] rfl rfl (by decide) (by decide) hk1 hFc hP1 hD1
  generalize H1 = H at hP hS ⊢
  have hP : va_P (dC, dI) vwCl [(nb, .inr (1, [.ref q_1, .ref q_3, .ref q_5, .null, .null, .null, .null, .null, .null, .null, .int 0])), (q_1, .inl (c_2, 6, .inr (.inr (.inr (.inr (fun _ => none)))))), (q_3, .inl (c_4, 6, .inr (.inr (.inr (.inr (fun _ => none)))))), (q_5, .inl (c_6, 6, .inl (fun _ => 0))), (q_7, .inr (4, [.ref r_10, .ref n_11, .int 0, .int 0, .int 0, .int 0, .int 0, .int 0]))] H := hP
  have hD : va_D A [(nb, .inr (1, [.ref q_1, .ref q_3, .ref q_5, .null, .null, .null, .null, .null, .null, .null, .int 0])), (q_1, .inl (c_2, 6, .inr (.inr (.inr (.inr (fun _ => none)))))), (q_3, .inl (c_4, 6, .inr (.inr (.inr (.inr (fun _ => none)))))), (q_5, .inl (c_6, 6, .inl (fun _ => 0))), (q_7, .inr (4, [.ref r_10, .ref n_11, .int 0, .int 0, .int 0, .int 0, .int 0, .int 0]))] := hD
  refine W.widen (k := 9) (n := 338) (by omega) (by omega) ?_
  refine va_putF (D := (dC, dI)) (ci := 1) (v := .ref q_7) (ty := .object "PatternGate$Part") (C := RX1) (T := TX1) (N := 11) hx hb hts fin_X1_init_X1 tyX1 tyX1_ok nmX1 hown hK hP hD hS 0 rfl rfl 3 (by decide) (hts (.fieldLink RX1 25 "PatternGate$Compiler" "spot" "LPatternGate$Part;") (List.mem_of_getElem? (i := 39) (by decide +kernel))) (fun _ h9 => h9) rfl hin rfl (by decide +kernel) rfl rfl (Nat.le_of_ble_eq_true rfl) dX1_init_38 (fun H locs hP hD hS => ?_)
  have hP : va_P (dC, dI) vwCl [(nb, .inr (1, [.ref q_1, .ref q_3, .ref q_5, .ref q_7, .null, .null, .null, .null, .null, .null, .int 0])), (q_1, .inl (c_2, 6, .inr (.inr (.inr (.inr (fun _ => none)))))), (q_3, .inl (c_4, 6, .inr (.inr (.inr (.inr (fun _ => none)))))), (q_5, .inl (c_6, 6, .inl (fun _ => 0))), (q_7, .inr (4, [.ref r_10, .ref n_11, .int 0, .int 0, .int 0, .int 0, .int 0, .int 0]))] H := hP
  have hD : va_D A [(nb, .inr (1, [.ref q_1, .ref q_3, .ref q_5, .ref q_7, .null, .null, .null, .null, .null, .null, .int 0])), (q_1, .inl (c_2, 6, .inr (.inr (.inr (.inr (fun _ => none)))))), (q_3, .inl (c_4, 6, .inr (.inr (.inr (.inr (fun _ => none)))))), (q_5, .inl (c_6, 6, .inl (fun _ => 0))), (q_7, .inr (4, [.ref r_10, .ref n_11, .int 0, .int 0, .int 0, .int 0, .int 0, .int 0]))] := hD
  refine lv_aload_n hx hb dX1_init_41 rfl (lv_at hl 0 rfl) ?_
  refine va_new (ci := 7) (fs := [.null, .int 0]) (C := RX7) (T := TX7) (N := 2) hx hb hts fin_X1_init_X7 tyX7 tyX7_ok hown (hts (.classLink RX1 29 RX7) (List.mem_of_getElem? (i := 40) (by decide +kernel))) (hts (.instantiable RX7 2) (List.mem_of_getElem? (i := 14) (by decide +kernel))) (hts (.initialized RX7) (List.mem_of_getElem? (i := 15) (by decide +kernel))) hK hP hD hS hA rfl (fun j hj => by rcases (show j = 0 ∨ j = 1 by omega) with rfl | rfl <;> rfl) (Nat.le_of_ble_eq_true rfl) (Nat.le_of_ble_eq_true rfl) dX1_init_42 (fun q_12 H hP hD hS => ?_)
  have hP : va_P (dC, dI) vwCl [(nb, .inr (1, [.ref q_1, .ref q_3, .ref q_5, .ref q_7, .null, .null, .null, .null, .null, .null, .int 0])), (q_1, .inl (c_2, 6, .inr (.inr (.inr (.inr (fun _ => none)))))), (q_3, .inl (c_4, 6, .inr (.inr (.inr (.inr (fun _ => none)))))), (q_5, .inl (c_6, 6, .inl (fun _ => 0))), (q_7, .inr (4, [.ref r_10, .ref n_11, .int 0, .int 0, .int 0, .int 0, .int 0, .int 0])), (q_12, .inr (7, [.null, .int 0]))] H := hP
  have hD : va_D A [(nb, .inr (1, [.ref q_1, .ref q_3, .ref q_5, .ref q_7, .null, .null, .null, .null, .null, .null, .int 0])), (q_1, .inl (c_2, 6, .inr (.inr (.inr (.inr (fun _ => none)))))), (q_3, .inl (c_4, 6, .inr (.inr (.inr (.inr (fun _ => none)))))), (q_5, .inl (c_6, 6, .inl (fun _ => 0))), (q_7, .inr (4, [.ref r_10, .ref n_11, .int 0, .int 0, .int 0, .int 0, .int 0, .int 0])), (q_12, .inr (7, [.null, .int 0]))] := hD
  refine W.widen (k := 10) (n := 340) (by omega) (by omega) ?_
  refine lv_dup hx hb dX1_init_45 rfl ?_
  have hPc := hP.sub (ws' := [(q_12, .inr (7, [.null, .int 0]))]) [5] rfl
  have hKc := hK.sub (tys' := []) [] rfl
  have hDc := hD.sub (ws' := [(q_12, .inr (7, [.null, .int 0]))]) [5] (by decide) rfl
  have hFc := va_free (wc := [(q_12, .inr (7, [.null, .int 0]))]) hD hS hA [5] rfl
  refine va_callv (va_runIN (As := []) (rest := [.ref q_12, .ref nb]) ⟨hx, hb, hml, hown, hts⟩ (c_Rows l dC dI q_12 H.size) ⟨va_cnB 0 hts mg_X1_init_X7_init_31 rfl rfl rfl hN31 (hts (.initialized RX7) (List.mem_of_getElem? (i := 15) (by decide +kernel))) (by decide +kernel) ⟨Nat.le_of_ble_eq_true rfl, Nat.le_of_ble_eq_true rfl⟩, rfl, (hts (.instanceMethod yX7_init) (List.mem_of_getElem? (i := 20) (by decide +kernel)))⟩ ⟨fun a U g mk q => by obtain ⟨q0, q1, qP, qK, qD⟩ := q; exact ⟨q0, q1, qP, va_K.moved (u := U) (U := U.calling g mk a) (Vm.Alike.refl U.vm) qK, qD⟩, fun U hU hW => ⟨rfl, by rw [hU], by rw [hU]; exact hPc, va_K.moved hW.alike hKc, hDc.weaken (fun _ _ _ _ => trivial)⟩⟩ rfl rfl hl.1 rfl (lv_room (Nat.le_of_ble_eq_true rfl)) dX1_init_46 ⟨Nat.le_of_ble_eq_true rfl, Nat.le_of_ble_eq_true rfl⟩) hS (fun q _ h => hFc q h) hFc (fun u t H1 locs ht hvm hw hB hz1 hk1 hS => ?_)
  obtain ⟨hP, hD⟩ := va_join (wr := [(nb, .inr (1, [.ref q_1, .ref q_3, .ref q_5, .ref q_7, .null, .null, .null, .null, .null, .null, .int 0])), (q_1, .inl (c_2, 6, .inr (.inr (.inr (.inr (fun _ => none)))))), (q_3, .inl (c_4, 6, .inr (.inr (.inr (.inr (fun _ => none)))))), (q_5, .inl (c_6, 6, .inl (fun _ => 0))), (q_7, .inr (4, [.ref r_10, .ref n_11, .int 0, .int 0, .int 0, .int 0, .int 0, .int 0]))]) (w1 := []) hP hD [5] [0, 1, 2, 3, 4] rfl rfl (by decide) (by decide) hk1 hFc (fun k q h => by simp at h) ⟨fun i j p q h => by simp at h, fun k q h => by simp at h⟩
  generalize H1 = H at hP hS ⊢
  have hP : va_P (dC, dI) vwCl [(nb, .inr (1, [.ref q_1, .ref q_3, .ref q_5, .ref q_7, .null, .null, .null, .null, .null, .null, .int 0])), (q_1, .inl (c_2, 6, .inr (.inr (.inr (.inr (fun _ => none)))))), (q_3, .inl (c_4, 6, .inr (.inr (.inr (.inr (fun _ => none)))))), (q_5, .inl (c_6, 6, .inl (fun _ => 0))), (q_7, .inr (4, [.ref r_10, .ref n_11, .int 0, .int 0, .int 0, .int 0, .int 0, .int 0]))] H := hP
  have hD : va_D A [(nb, .inr (1, [.ref q_1, .ref q_3, .ref q_5, .ref q_7, .null, .null, .null, .null, .null, .null, .int 0])), (q_1, .inl (c_2, 6, .inr (.inr (.inr (.inr (fun _ => none)))))), (q_3, .inl (c_4, 6, .inr (.inr (.inr (.inr (fun _ => none)))))), (q_5, .inl (c_6, 6, .inl (fun _ => 0))), (q_7, .inr (4, [.ref r_10, .ref n_11, .int 0, .int 0, .int 0, .int 0, .int 0, .int 0]))] := hD
  refine W.widen (k := 11) (n := 346) (by omega) (by omega) ?_
  refine va_putF (D := (dC, dI)) (ci := 1) (v := .ref q_12) (ty := .object "PatternGate$Rows") (C := RX1) (T := TX1) (N := 11) hx hb hts fin_X1_init_X1 tyX1 tyX1_ok nmX1 hown hK hP hD hS 0 rfl rfl 4 (by decide) (hts (.fieldLink RX1 32 "PatternGate$Compiler" "joined" "LPatternGate$Rows;") (List.mem_of_getElem? (i := 41) (by decide +kernel))) (fun _ h9 => h9) rfl hin rfl (by decide +kernel) rfl rfl (Nat.le_of_ble_eq_true rfl) dX1_init_49 (fun H locs hP hD hS => ?_)
  have hP : va_P (dC, dI) vwCl [(nb, .inr (1, [.ref q_1, .ref q_3, .ref q_5, .ref q_7, .ref q_12, .null, .null, .null, .null, .null, .int 0])), (q_1, .inl (c_2, 6, .inr (.inr (.inr (.inr (fun _ => none)))))), (q_3, .inl (c_4, 6, .inr (.inr (.inr (.inr (fun _ => none)))))), (q_5, .inl (c_6, 6, .inl (fun _ => 0))), (q_7, .inr (4, [.ref r_10, .ref n_11, .int 0, .int 0, .int 0, .int 0, .int 0, .int 0]))] H := hP
  have hD : va_D A [(nb, .inr (1, [.ref q_1, .ref q_3, .ref q_5, .ref q_7, .ref q_12, .null, .null, .null, .null, .null, .int 0])), (q_1, .inl (c_2, 6, .inr (.inr (.inr (.inr (fun _ => none)))))), (q_3, .inl (c_4, 6, .inr (.inr (.inr (.inr (fun _ => none)))))), (q_5, .inl (c_6, 6, .inl (fun _ => 0))), (q_7, .inr (4, [.ref r_10, .ref n_11, .int 0, .int 0, .int 0, .int 0, .int 0, .int 0]))] := hD
  refine lv_aload_n hx hb dX1_init_52 rfl (lv_at hl 0 rfl) ?_
  refine va_new (ci := 3) (fs := [.int 0, .null, .null, .int 0]) (C := RX3) (T := TX3) (N := 4) hx hb hts fin_X1_init_X3 tyX3 tyX3_ok hown (hts (.classLink RX1 36 RX3) (List.mem_of_getElem? (i := 42) (by decide +kernel))) (hts (.instantiable RX3 4) (List.mem_of_getElem? (i := 23) (by decide +kernel))) (hts (.initialized RX3) (List.mem_of_getElem? (i := 24) (by decide +kernel))) hK hP hD hS hA rfl (fun j hj => by rcases (show j = 0 ∨ j = 1 ∨ j = 2 ∨ j = 3 by omega) with rfl | rfl | rfl | rfl <;> rfl) (Nat.le_of_ble_eq_true rfl) (Nat.le_of_ble_eq_true rfl) dX1_init_53 (fun q_15 H hP hD hS => ?_)
  have hP : va_P (dC, dI) vwCl [(nb, .inr (1, [.ref q_1, .ref q_3, .ref q_5, .ref q_7, .ref q_12, .null, .null, .null, .null, .null, .int 0])), (q_1, .inl (c_2, 6, .inr (.inr (.inr (.inr (fun _ => none)))))), (q_3, .inl (c_4, 6, .inr (.inr (.inr (.inr (fun _ => none)))))), (q_5, .inl (c_6, 6, .inl (fun _ => 0))), (q_7, .inr (4, [.ref r_10, .ref n_11, .int 0, .int 0, .int 0, .int 0, .int 0, .int 0])), (q_15, .inr (3, [.int 0, .null, .null, .int 0]))] H := hP
  have hD : va_D A [(nb, .inr (1, [.ref q_1, .ref q_3, .ref q_5, .ref q_7, .ref q_12, .null, .null, .null, .null, .null, .int 0])), (q_1, .inl (c_2, 6, .inr (.inr (.inr (.inr (fun _ => none)))))), (q_3, .inl (c_4, 6, .inr (.inr (.inr (.inr (fun _ => none)))))), (q_5, .inl (c_6, 6, .inl (fun _ => 0))), (q_7, .inr (4, [.ref r_10, .ref n_11, .int 0, .int 0, .int 0, .int 0, .int 0, .int 0])), (q_15, .inr (3, [.int 0, .null, .null, .int 0]))] := hD
  refine W.widen (k := 12) (n := 350) (by omega) (by omega) ?_
  refine lv_dup hx hb dX1_init_56 rfl ?_
  refine lv_bipush (v := 6) hx hb dX1_init_57 (by decide) ?_
  have hPc := hP.sub (ws' := [(q_15, .inr (3, [.int 0, .null, .null, .int 0]))]) [5] rfl
  have hKc := hK.sub (tys' := []) [] rfl
  have hDc := hD.sub (ws' := [(q_15, .inr (3, [.int 0, .null, .null, .int 0]))]) [5] (by decide) rfl
  have hFc := va_free (wc := [(q_15, .inr (3, [.int 0, .null, .null, .int 0]))]) hD hS hA [5] rfl
  refine va_callv (va_runI (As := [.int 6]) (rest := [.ref q_15, .ref nb]) ⟨hx, hb, hml, hown, hts⟩ (c_Need6 l dC dI q_15 H.size) (cwI 1 hts mg_X1_init_X3_init_38 rfl rfl rfl (hts (.initialized RX3) (List.mem_of_getElem? (i := 24) (by decide +kernel))) (hts (.methodLink RX1 38 yX3_init) (List.mem_of_getElem? (i := 43) (by decide +kernel))) (hts (.instanceMethod yX3_init) (List.mem_of_getElem? (i := 36) (by decide +kernel))) rfl (by decide +kernel) ⟨Nat.le_of_ble_eq_true rfl, Nat.le_of_ble_eq_true rfl⟩) ⟨fun a U g mk q => by obtain ⟨q0, q1, qP, qK, qD⟩ := q; exact ⟨q0, q1, qP, va_K.moved (u := U) (U := U.calling g mk a) (Vm.Alike.refl U.vm) qK, qD⟩, fun U hU hW => ⟨rfl, by rw [hU], by rw [hU]; exact hPc, va_K.moved hW.alike hKc, hDc.weaken (fun _ _ _ _ => trivial)⟩⟩ rfl rfl hl.1 rfl (lv_room (Nat.le_of_ble_eq_true rfl)) dX1_init_59 ⟨Nat.le_of_ble_eq_true rfl, Nat.le_of_ble_eq_true rfl⟩) hS (fun q _ h => hFc q h) hFc (fun u t H1 locs ht hvm hw hB hz1 hk1 hS => ?_)
  obtain ⟨hP, hD⟩ := va_join (wr := [(nb, .inr (1, [.ref q_1, .ref q_3, .ref q_5, .ref q_7, .ref q_12, .null, .null, .null, .null, .null, .int 0])), (q_1, .inl (c_2, 6, .inr (.inr (.inr (.inr (fun _ => none)))))), (q_3, .inl (c_4, 6, .inr (.inr (.inr (.inr (fun _ => none)))))), (q_5, .inl (c_6, 6, .inl (fun _ => 0))), (q_7, .inr (4, [.ref r_10, .ref n_11, .int 0, .int 0, .int 0, .int 0, .int 0, .int 0]))]) (w1 := []) hP hD [5] [0, 1, 2, 3, 4] rfl rfl (by decide) (by decide) hk1 hFc (fun k q h => by simp at h) ⟨fun i j p q h => by simp at h, fun k q h => by simp at h⟩
  generalize H1 = H at hP hS ⊢
  have hP : va_P (dC, dI) vwCl [(nb, .inr (1, [.ref q_1, .ref q_3, .ref q_5, .ref q_7, .ref q_12, .null, .null, .null, .null, .null, .int 0])), (q_1, .inl (c_2, 6, .inr (.inr (.inr (.inr (fun _ => none)))))), (q_3, .inl (c_4, 6, .inr (.inr (.inr (.inr (fun _ => none)))))), (q_5, .inl (c_6, 6, .inl (fun _ => 0))), (q_7, .inr (4, [.ref r_10, .ref n_11, .int 0, .int 0, .int 0, .int 0, .int 0, .int 0]))] H := hP
  have hD : va_D A [(nb, .inr (1, [.ref q_1, .ref q_3, .ref q_5, .ref q_7, .ref q_12, .null, .null, .null, .null, .null, .int 0])), (q_1, .inl (c_2, 6, .inr (.inr (.inr (.inr (fun _ => none)))))), (q_3, .inl (c_4, 6, .inr (.inr (.inr (.inr (fun _ => none)))))), (q_5, .inl (c_6, 6, .inl (fun _ => 0))), (q_7, .inr (4, [.ref r_10, .ref n_11, .int 0, .int 0, .int 0, .int 0, .int 0, .int 0]))] := hD
  refine W.widen (k := 14) (n := 500) (by omega) (by omega) ?_
  refine va_putF (D := (dC, dI)) (ci := 1) (v := .ref q_15) (ty := .object "PatternGate$Need") (C := RX1) (T := TX1) (N := 11) hx hb hts fin_X1_init_X1 tyX1 tyX1_ok nmX1 hown hK hP hD hS 0 rfl rfl 5 (by decide) (hts (.fieldLink RX1 41 "PatternGate$Compiler" "ofRows" "LPatternGate$Need;") (List.mem_of_getElem? (i := 44) (by decide +kernel))) (fun _ h9 => h9) rfl hin rfl (by decide +kernel) rfl rfl (Nat.le_of_ble_eq_true rfl) dX1_init_62 (fun H locs hP hD hS => ?_)
  have hP : va_P (dC, dI) vwCl [(nb, .inr (1, [.ref q_1, .ref q_3, .ref q_5, .ref q_7, .ref q_12, .ref q_15, .null, .null, .null, .null, .int 0])), (q_1, .inl (c_2, 6, .inr (.inr (.inr (.inr (fun _ => none)))))), (q_3, .inl (c_4, 6, .inr (.inr (.inr (.inr (fun _ => none)))))), (q_5, .inl (c_6, 6, .inl (fun _ => 0))), (q_7, .inr (4, [.ref r_10, .ref n_11, .int 0, .int 0, .int 0, .int 0, .int 0, .int 0]))] H := hP
  have hD : va_D A [(nb, .inr (1, [.ref q_1, .ref q_3, .ref q_5, .ref q_7, .ref q_12, .ref q_15, .null, .null, .null, .null, .int 0])), (q_1, .inl (c_2, 6, .inr (.inr (.inr (.inr (fun _ => none)))))), (q_3, .inl (c_4, 6, .inr (.inr (.inr (.inr (fun _ => none)))))), (q_5, .inl (c_6, 6, .inl (fun _ => 0))), (q_7, .inr (4, [.ref r_10, .ref n_11, .int 0, .int 0, .int 0, .int 0, .int 0, .int 0]))] := hD
  refine lv_aload_n hx hb dX1_init_65 rfl (lv_at hl 0 rfl) ?_
  refine va_new (ci := 3) (fs := [.int 0, .null, .null, .int 0]) (C := RX3) (T := TX3) (N := 4) hx hb hts fin_X1_init_X3 tyX3 tyX3_ok hown (hts (.classLink RX1 36 RX3) (List.mem_of_getElem? (i := 42) (by decide +kernel))) (hts (.instantiable RX3 4) (List.mem_of_getElem? (i := 23) (by decide +kernel))) (hts (.initialized RX3) (List.mem_of_getElem? (i := 24) (by decide +kernel))) hK hP hD hS hA rfl (fun j hj => by rcases (show j = 0 ∨ j = 1 ∨ j = 2 ∨ j = 3 by omega) with rfl | rfl | rfl | rfl <;> rfl) (Nat.le_of_ble_eq_true rfl) (Nat.le_of_ble_eq_true rfl) dX1_init_66 (fun q_18 H hP hD hS => ?_)
  have hP : va_P (dC, dI) vwCl [(nb, .inr (1, [.ref q_1, .ref q_3, .ref q_5, .ref q_7, .ref q_12, .ref q_15, .null, .null, .null, .null, .int 0])), (q_1, .inl (c_2, 6, .inr (.inr (.inr (.inr (fun _ => none)))))), (q_3, .inl (c_4, 6, .inr (.inr (.inr (.inr (fun _ => none)))))), (q_5, .inl (c_6, 6, .inl (fun _ => 0))), (q_7, .inr (4, [.ref r_10, .ref n_11, .int 0, .int 0, .int 0, .int 0, .int 0, .int 0])), (q_18, .inr (3, [.int 0, .null, .null, .int 0]))] H := hP
  have hD : va_D A [(nb, .inr (1, [.ref q_1, .ref q_3, .ref q_5, .ref q_7, .ref q_12, .ref q_15, .null, .null, .null, .null, .int 0])), (q_1, .inl (c_2, 6, .inr (.inr (.inr (.inr (fun _ => none)))))), (q_3, .inl (c_4, 6, .inr (.inr (.inr (.inr (fun _ => none)))))), (q_5, .inl (c_6, 6, .inl (fun _ => 0))), (q_7, .inr (4, [.ref r_10, .ref n_11, .int 0, .int 0, .int 0, .int 0, .int 0, .int 0])), (q_18, .inr (3, [.int 0, .null, .null, .int 0]))] := hD
  refine W.widen (k := 15) (n := 504) (by omega) (by omega) ?_
  refine lv_dup hx hb dX1_init_69 rfl ?_
  refine lv_sipush (v := 144) hx hb dX1_init_70 (by decide) ?_
  have hPc := hP.sub (ws' := [(q_18, .inr (3, [.int 0, .null, .null, .int 0]))]) [5] rfl
  have hKc := hK.sub (tys' := []) [] rfl
  have hDc := hD.sub (ws' := [(q_18, .inr (3, [.int 0, .null, .null, .int 0]))]) [5] (by decide) rfl
  have hFc := va_free (wc := [(q_18, .inr (3, [.int 0, .null, .null, .int 0]))]) hD hS hA [5] rfl
  refine va_callv (va_runI (As := [.int 144]) (rest := [.ref q_18, .ref nb]) ⟨hx, hb, hml, hown, hts⟩ (c_Need144 l dC dI q_18 H.size) (cwI 1 hts mg_X1_init_X3_init_38 rfl rfl rfl (hts (.initialized RX3) (List.mem_of_getElem? (i := 24) (by decide +kernel))) (hts (.methodLink RX1 38 yX3_init) (List.mem_of_getElem? (i := 43) (by decide +kernel))) (hts (.instanceMethod yX3_init) (List.mem_of_getElem? (i := 36) (by decide +kernel))) rfl (by decide +kernel) ⟨Nat.le_of_ble_eq_true rfl, Nat.le_of_ble_eq_true rfl⟩) ⟨fun a U g mk q => by obtain ⟨q0, q1, qP, qK, qD⟩ := q; exact ⟨q0, q1, qP, va_K.moved (u := U) (U := U.calling g mk a) (Vm.Alike.refl U.vm) qK, qD⟩, fun U hU hW => ⟨rfl, by rw [hU], by rw [hU]; exact hPc, va_K.moved hW.alike hKc, hDc.weaken (fun _ _ _ _ => trivial)⟩⟩ rfl rfl hl.1 rfl (lv_room (Nat.le_of_ble_eq_true rfl)) dX1_init_73 ⟨Nat.le_of_ble_eq_true rfl, Nat.le_of_ble_eq_true rfl⟩) hS (fun q _ h => hFc q h) hFc (fun u t H1 locs ht hvm hw hB hz1 hk1 hS => ?_)
  obtain ⟨hP, hD⟩ := va_join (wr := [(nb, .inr (1, [.ref q_1, .ref q_3, .ref q_5, .ref q_7, .ref q_12, .ref q_15, .null, .null, .null, .null, .int 0])), (q_1, .inl (c_2, 6, .inr (.inr (.inr (.inr (fun _ => none)))))), (q_3, .inl (c_4, 6, .inr (.inr (.inr (.inr (fun _ => none)))))), (q_5, .inl (c_6, 6, .inl (fun _ => 0))), (q_7, .inr (4, [.ref r_10, .ref n_11, .int 0, .int 0, .int 0, .int 0, .int 0, .int 0]))]) (w1 := []) hP hD [5] [0, 1, 2, 3, 4] rfl rfl (by decide) (by decide) hk1 hFc (fun k q h => by simp at h) ⟨fun i j p q h => by simp at h, fun k q h => by simp at h⟩
  generalize H1 = H at hP hS ⊢
  have hP : va_P (dC, dI) vwCl [(nb, .inr (1, [.ref q_1, .ref q_3, .ref q_5, .ref q_7, .ref q_12, .ref q_15, .null, .null, .null, .null, .int 0])), (q_1, .inl (c_2, 6, .inr (.inr (.inr (.inr (fun _ => none)))))), (q_3, .inl (c_4, 6, .inr (.inr (.inr (.inr (fun _ => none)))))), (q_5, .inl (c_6, 6, .inl (fun _ => 0))), (q_7, .inr (4, [.ref r_10, .ref n_11, .int 0, .int 0, .int 0, .int 0, .int 0, .int 0]))] H := hP
  have hD : va_D A [(nb, .inr (1, [.ref q_1, .ref q_3, .ref q_5, .ref q_7, .ref q_12, .ref q_15, .null, .null, .null, .null, .int 0])), (q_1, .inl (c_2, 6, .inr (.inr (.inr (.inr (fun _ => none)))))), (q_3, .inl (c_4, 6, .inr (.inr (.inr (.inr (fun _ => none)))))), (q_5, .inl (c_6, 6, .inl (fun _ => 0))), (q_7, .inr (4, [.ref r_10, .ref n_11, .int 0, .int 0, .int 0, .int 0, .int 0, .int 0]))] := hD
  refine W.widen (k := 17) (n := 4104) (by omega) (by omega) ?_
  refine va_putF (D := (dC, dI)) (ci := 1) (v := .ref q_18) (ty := .object "PatternGate$Need") (C := RX1) (T := TX1) (N := 11) hx hb hts fin_X1_init_X1 tyX1 tyX1_ok nmX1 hown hK hP hD hS 0 rfl rfl 6 (by decide) (hts (.fieldLink RX1 45 "PatternGate$Compiler" "wide" "LPatternGate$Need;") (List.mem_of_getElem? (i := 45) (by decide +kernel))) (fun _ h9 => h9) rfl hin rfl (by decide +kernel) rfl rfl (Nat.le_of_ble_eq_true rfl) dX1_init_76 (fun H locs hP hD hS => ?_)
  have hP : va_P (dC, dI) vwCl [(nb, .inr (1, [.ref q_1, .ref q_3, .ref q_5, .ref q_7, .ref q_12, .ref q_15, .ref q_18, .null, .null, .null, .int 0])), (q_1, .inl (c_2, 6, .inr (.inr (.inr (.inr (fun _ => none)))))), (q_3, .inl (c_4, 6, .inr (.inr (.inr (.inr (fun _ => none)))))), (q_5, .inl (c_6, 6, .inl (fun _ => 0))), (q_7, .inr (4, [.ref r_10, .ref n_11, .int 0, .int 0, .int 0, .int 0, .int 0, .int 0]))] H := hP
  have hD : va_D A [(nb, .inr (1, [.ref q_1, .ref q_3, .ref q_5, .ref q_7, .ref q_12, .ref q_15, .ref q_18, .null, .null, .null, .int 0])), (q_1, .inl (c_2, 6, .inr (.inr (.inr (.inr (fun _ => none)))))), (q_3, .inl (c_4, 6, .inr (.inr (.inr (.inr (fun _ => none)))))), (q_5, .inl (c_6, 6, .inl (fun _ => 0))), (q_7, .inr (4, [.ref r_10, .ref n_11, .int 0, .int 0, .int 0, .int 0, .int 0, .int 0]))] := hD
  refine lv_aload_n hx hb dX1_init_79 rfl (lv_at hl 0 rfl) ?_
  refine lv_bipush (v := 24) hx hb dX1_init_80 (by decide) ?_
  refine va_newa (atype := .int) (ty := .int) (n := 24) (N' := 24) (a0 := (24, .inl (fun _ => 0))) hx hb (hts (.arrayClass .int) (List.mem_of_getElem? (i := 32) (by decide +kernel))) rfl hK hP hD hS hA (fun _ => rfl) (by decide) (by decide) (Nat.le_of_ble_eq_true rfl) (Nat.le_of_ble_eq_true rfl) (Nat.le_of_ble_eq_true rfl) dX1_init_82 (fun q_21 c_22 H hK hP hD hS => ?_)
  have hP : va_P (dC, dI) vwCl [(nb, .inr (1, [.ref q_1, .ref q_3, .ref q_5, .ref q_7, .ref q_12, .ref q_15, .ref q_18, .null, .null, .null, .int 0])), (q_1, .inl (c_2, 6, .inr (.inr (.inr (.inr (fun _ => none)))))), (q_3, .inl (c_4, 6, .inr (.inr (.inr (.inr (fun _ => none)))))), (q_5, .inl (c_6, 6, .inl (fun _ => 0))), (q_7, .inr (4, [.ref r_10, .ref n_11, .int 0, .int 0, .int 0, .int 0, .int 0, .int 0])), (q_21, .inl (c_22, 24, .inl (fun _ => 0)))] H := hP
  have hD : va_D A [(nb, .inr (1, [.ref q_1, .ref q_3, .ref q_5, .ref q_7, .ref q_12, .ref q_15, .ref q_18, .null, .null, .null, .int 0])), (q_1, .inl (c_2, 6, .inr (.inr (.inr (.inr (fun _ => none)))))), (q_3, .inl (c_4, 6, .inr (.inr (.inr (.inr (fun _ => none)))))), (q_5, .inl (c_6, 6, .inl (fun _ => 0))), (q_7, .inr (4, [.ref r_10, .ref n_11, .int 0, .int 0, .int 0, .int 0, .int 0, .int 0])), (q_21, .inl (c_22, 24, .inl (fun _ => 0)))] := hD
  have hK : va_K (dC, dI) vwCl [(c_2, .object "PatternGate$Part"), (c_4, .object "PatternGate$Part"), (c_6, .boolean), (c_22, .int)] s := hK
  refine W.widen (k := 18) (n := 4128) (by omega) (by omega) ?_
  refine va_putF (D := (dC, dI)) (ci := 1) (v := .ref q_21) (ty := .array .int) (C := RX1) (T := TX1) (N := 11) hx hb hts fin_X1_init_X1 tyX1 tyX1_ok nmX1 hown hK hP hD hS 0 rfl rfl 7 (by decide) (hts (.fieldLink RX1 48 "PatternGate$Compiler" "choice" "[I") (List.mem_of_getElem? (i := 46) (by decide +kernel))) (fun _ h9 => h9) rfl hin rfl (by decide +kernel) rfl rfl (Nat.le_of_ble_eq_true rfl) dX1_init_84 (fun H locs hP hD hS => ?_)
  have hP : va_P (dC, dI) vwCl [(nb, .inr (1, [.ref q_1, .ref q_3, .ref q_5, .ref q_7, .ref q_12, .ref q_15, .ref q_18, .ref q_21, .null, .null, .int 0])), (q_1, .inl (c_2, 6, .inr (.inr (.inr (.inr (fun _ => none)))))), (q_3, .inl (c_4, 6, .inr (.inr (.inr (.inr (fun _ => none)))))), (q_5, .inl (c_6, 6, .inl (fun _ => 0))), (q_7, .inr (4, [.ref r_10, .ref n_11, .int 0, .int 0, .int 0, .int 0, .int 0, .int 0])), (q_21, .inl (c_22, 24, .inl (fun _ => 0)))] H := hP
  have hD : va_D A [(nb, .inr (1, [.ref q_1, .ref q_3, .ref q_5, .ref q_7, .ref q_12, .ref q_15, .ref q_18, .ref q_21, .null, .null, .int 0])), (q_1, .inl (c_2, 6, .inr (.inr (.inr (.inr (fun _ => none)))))), (q_3, .inl (c_4, 6, .inr (.inr (.inr (.inr (fun _ => none)))))), (q_5, .inl (c_6, 6, .inl (fun _ => 0))), (q_7, .inr (4, [.ref r_10, .ref n_11, .int 0, .int 0, .int 0, .int 0, .int 0, .int 0])), (q_21, .inl (c_22, 24, .inl (fun _ => 0)))] := hD
  refine lv_aload_n hx hb dX1_init_87 rfl (lv_at hl 0 rfl) ?_
  refine lv_bipush (v := 24) hx hb dX1_init_88 (by decide) ?_
  refine va_newa (atype := .int) (ty := .int) (n := 24) (N' := 24) (a0 := (24, .inl (fun _ => 0))) hx hb (hts (.arrayClass .int) (List.mem_of_getElem? (i := 32) (by decide +kernel))) rfl hK hP hD hS hA (fun _ => rfl) (by decide) (by decide) (Nat.le_of_ble_eq_true rfl) (Nat.le_of_ble_eq_true rfl) (Nat.le_of_ble_eq_true rfl) dX1_init_90 (fun q_23 c_24 H hK hP hD hS => ?_)
  have hP : va_P (dC, dI) vwCl [(nb, .inr (1, [.ref q_1, .ref q_3, .ref q_5, .ref q_7, .ref q_12, .ref q_15, .ref q_18, .ref q_21, .null, .null, .int 0])), (q_1, .inl (c_2, 6, .inr (.inr (.inr (.inr (fun _ => none)))))), (q_3, .inl (c_4, 6, .inr (.inr (.inr (.inr (fun _ => none)))))), (q_5, .inl (c_6, 6, .inl (fun _ => 0))), (q_7, .inr (4, [.ref r_10, .ref n_11, .int 0, .int 0, .int 0, .int 0, .int 0, .int 0])), (q_21, .inl (c_22, 24, .inl (fun _ => 0))), (q_23, .inl (c_24, 24, .inl (fun _ => 0)))] H := hP
  have hD : va_D A [(nb, .inr (1, [.ref q_1, .ref q_3, .ref q_5, .ref q_7, .ref q_12, .ref q_15, .ref q_18, .ref q_21, .null, .null, .int 0])), (q_1, .inl (c_2, 6, .inr (.inr (.inr (.inr (fun _ => none)))))), (q_3, .inl (c_4, 6, .inr (.inr (.inr (.inr (fun _ => none)))))), (q_5, .inl (c_6, 6, .inl (fun _ => 0))), (q_7, .inr (4, [.ref r_10, .ref n_11, .int 0, .int 0, .int 0, .int 0, .int 0, .int 0])), (q_21, .inl (c_22, 24, .inl (fun _ => 0))), (q_23, .inl (c_24, 24, .inl (fun _ => 0)))] := hD
  have hK : va_K (dC, dI) vwCl [(c_2, .object "PatternGate$Part"), (c_4, .object "PatternGate$Part"), (c_6, .boolean), (c_22, .int), (c_24, .int)] s := hK
  refine W.widen (k := 19) (n := 4152) (by omega) (by omega) ?_
  refine va_putF (D := (dC, dI)) (ci := 1) (v := .ref q_23) (ty := .array .int) (C := RX1) (T := TX1) (N := 11) hx hb hts fin_X1_init_X1 tyX1 tyX1_ok nmX1 hown hK hP hD hS 0 rfl rfl 8 (by decide) (hts (.fieldLink RX1 52 "PatternGate$Compiler" "follow" "[I") (List.mem_of_getElem? (i := 47) (by decide +kernel))) (fun _ h9 => h9) rfl hin rfl (by decide +kernel) rfl rfl (Nat.le_of_ble_eq_true rfl) dX1_init_92 (fun H locs hP hD hS => ?_)
  have hP : va_P (dC, dI) vwCl [(nb, .inr (1, [.ref q_1, .ref q_3, .ref q_5, .ref q_7, .ref q_12, .ref q_15, .ref q_18, .ref q_21, .ref q_23, .null, .int 0])), (q_1, .inl (c_2, 6, .inr (.inr (.inr (.inr (fun _ => none)))))), (q_3, .inl (c_4, 6, .inr (.inr (.inr (.inr (fun _ => none)))))), (q_5, .inl (c_6, 6, .inl (fun _ => 0))), (q_7, .inr (4, [.ref r_10, .ref n_11, .int 0, .int 0, .int 0, .int 0, .int 0, .int 0])), (q_21, .inl (c_22, 24, .inl (fun _ => 0))), (q_23, .inl (c_24, 24, .inl (fun _ => 0)))] H := hP
  have hD : va_D A [(nb, .inr (1, [.ref q_1, .ref q_3, .ref q_5, .ref q_7, .ref q_12, .ref q_15, .ref q_18, .ref q_21, .ref q_23, .null, .int 0])), (q_1, .inl (c_2, 6, .inr (.inr (.inr (.inr (fun _ => none)))))), (q_3, .inl (c_4, 6, .inr (.inr (.inr (.inr (fun _ => none)))))), (q_5, .inl (c_6, 6, .inl (fun _ => 0))), (q_7, .inr (4, [.ref r_10, .ref n_11, .int 0, .int 0, .int 0, .int 0, .int 0, .int 0])), (q_21, .inl (c_22, 24, .inl (fun _ => 0))), (q_23, .inl (c_24, 24, .inl (fun _ => 0)))] := hD
  refine lv_aload_n hx hb dX1_init_95 rfl (lv_at hl 0 rfl) ?_
  refine lv_bipush (v := 26) hx hb dX1_init_96 (by decide) ?_
  refine va_newa (atype := .int) (ty := .int) (n := 26) (N' := 26) (a0 := (26, .inl (fun _ => 0))) hx hb (hts (.arrayClass .int) (List.mem_of_getElem? (i := 32) (by decide +kernel))) rfl hK hP hD hS hA (fun _ => rfl) (by decide) (by decide) (Nat.le_of_ble_eq_true rfl) (Nat.le_of_ble_eq_true rfl) (Nat.le_of_ble_eq_true rfl) dX1_init_98 (fun q_25 c_26 H hK hP hD hS => ?_)
  have hP : va_P (dC, dI) vwCl [(nb, .inr (1, [.ref q_1, .ref q_3, .ref q_5, .ref q_7, .ref q_12, .ref q_15, .ref q_18, .ref q_21, .ref q_23, .null, .int 0])), (q_1, .inl (c_2, 6, .inr (.inr (.inr (.inr (fun _ => none)))))), (q_3, .inl (c_4, 6, .inr (.inr (.inr (.inr (fun _ => none)))))), (q_5, .inl (c_6, 6, .inl (fun _ => 0))), (q_7, .inr (4, [.ref r_10, .ref n_11, .int 0, .int 0, .int 0, .int 0, .int 0, .int 0])), (q_21, .inl (c_22, 24, .inl (fun _ => 0))), (q_23, .inl (c_24, 24, .inl (fun _ => 0))), (q_25, .inl (c_26, 26, .inl (fun _ => 0)))] H := hP
  have hD : va_D A [(nb, .inr (1, [.ref q_1, .ref q_3, .ref q_5, .ref q_7, .ref q_12, .ref q_15, .ref q_18, .ref q_21, .ref q_23, .null, .int 0])), (q_1, .inl (c_2, 6, .inr (.inr (.inr (.inr (fun _ => none)))))), (q_3, .inl (c_4, 6, .inr (.inr (.inr (.inr (fun _ => none)))))), (q_5, .inl (c_6, 6, .inl (fun _ => 0))), (q_7, .inr (4, [.ref r_10, .ref n_11, .int 0, .int 0, .int 0, .int 0, .int 0, .int 0])), (q_21, .inl (c_22, 24, .inl (fun _ => 0))), (q_23, .inl (c_24, 24, .inl (fun _ => 0))), (q_25, .inl (c_26, 26, .inl (fun _ => 0)))] := hD
  have hK : va_K (dC, dI) vwCl [(c_2, .object "PatternGate$Part"), (c_4, .object "PatternGate$Part"), (c_6, .boolean), (c_22, .int), (c_24, .int), (c_26, .int)] s := hK
  refine W.widen (k := 20) (n := 4178) (by omega) (by omega) ?_
  refine va_putF (D := (dC, dI)) (ci := 1) (v := .ref q_25) (ty := .array .int) (C := RX1) (T := TX1) (N := 11) hx hb hts fin_X1_init_X1 tyX1 tyX1_ok nmX1 hown hK hP hD hS 0 rfl rfl 9 (by decide) (hts (.fieldLink RX1 55 "PatternGate$Compiler" "takers" "[I") (List.mem_of_getElem? (i := 48) (by decide +kernel))) (fun _ h9 => h9) rfl hin rfl (by decide +kernel) rfl rfl (Nat.le_of_ble_eq_true rfl) dX1_init_100 (fun H locs hP hD hS => ?_)
  have hP : va_P (dC, dI) vwCl [(nb, .inr (1, [.ref q_1, .ref q_3, .ref q_5, .ref q_7, .ref q_12, .ref q_15, .ref q_18, .ref q_21, .ref q_23, .ref q_25, .int 0])), (q_1, .inl (c_2, 6, .inr (.inr (.inr (.inr (fun _ => none)))))), (q_3, .inl (c_4, 6, .inr (.inr (.inr (.inr (fun _ => none)))))), (q_5, .inl (c_6, 6, .inl (fun _ => 0))), (q_7, .inr (4, [.ref r_10, .ref n_11, .int 0, .int 0, .int 0, .int 0, .int 0, .int 0])), (q_21, .inl (c_22, 24, .inl (fun _ => 0))), (q_23, .inl (c_24, 24, .inl (fun _ => 0))), (q_25, .inl (c_26, 26, .inl (fun _ => 0)))] H := hP
  have hD : va_D A [(nb, .inr (1, [.ref q_1, .ref q_3, .ref q_5, .ref q_7, .ref q_12, .ref q_15, .ref q_18, .ref q_21, .ref q_23, .ref q_25, .int 0])), (q_1, .inl (c_2, 6, .inr (.inr (.inr (.inr (fun _ => none)))))), (q_3, .inl (c_4, 6, .inr (.inr (.inr (.inr (fun _ => none)))))), (q_5, .inl (c_6, 6, .inl (fun _ => 0))), (q_7, .inr (4, [.ref r_10, .ref n_11, .int 0, .int 0, .int 0, .int 0, .int 0, .int 0])), (q_21, .inl (c_22, 24, .inl (fun _ => 0))), (q_23, .inl (c_24, 24, .inl (fun _ => 0))), (q_25, .inl (c_26, 26, .inl (fun _ => 0)))] := hD
  refine lv_iconst (v := 0) hx hb dX1_init_103 (by decide) ?_
  refine lv_istore_n (lv' := [(1, .int 0), (0, .ref nb)]) hx hb dX1_init_104 rfl hl (by decide) rfl (fun ls hl => ?_)
  have hP := hP.sub (ws' := [(nb, .inr (1, [.ref q_1, .ref q_3, .ref q_5, .ref q_7, .ref q_12, .ref q_15, .ref q_18, .ref q_21, .ref q_23, .ref q_25, .int 0])), (q_1, .inl (c_2, 6, .inr (.inr (.inr (.inr (fun _ => none)))))), (q_3, .inl (c_4, 6, .inr (.inr (.inr (.inr (fun _ => none))))))]) [0, 1, 2] rfl
  have hD := hD.sub (ws' := [(nb, .inr (1, [.ref q_1, .ref q_3, .ref q_5, .ref q_7, .ref q_12, .ref q_15, .ref q_18, .ref q_21, .ref q_23, .ref q_25, .int 0])), (q_1, .inl (c_2, 6, .inr (.inr (.inr (.inr (fun _ => none)))))), (q_3, .inl (c_4, 6, .inr (.inr (.inr (.inr (fun _ => none))))))]) [0, 1, 2] (by decide) rfl
  refine lv_iload_n hx hb dX1_init_105 rfl (lv_at hl 0 rfl) ?_
  refine lv_aload_n hx hb dX1_init_106 rfl (lv_at hl 1 rfl) ?_
  refine va_get (D := (dC, dI)) (ci := 1) (v := .ref q_1) (C := RX1) (T := TX1) (N := 11) hx hb hts fin_X1_init_X1 hown hK hP 0 rfl rfl 0 (by decide) (hts (.fieldLink RX1 11 "PatternGate$Compiler" "wholes" "[LPatternGate$Part;") (List.mem_of_getElem? (i := 5) (by decide +kernel))) (fun _ h9 => h9) rfl dX1_init_107 ?_
  refine va_alen (v := 6) hx hb hK hP 1 0 rfl rfl rfl dX1_init_110 ?_
  refine lv_icmp_ge (tgt := 146) hx hb dX1_init_111 (by decide) (fun k_27 => absurd k_27 (by decide)) (fun k_27 => ?_)
  refine lv_aload_n hx hb dX1_init_114 rfl (lv_at hl 1 rfl) ?_
  refine va_get (D := (dC, dI)) (ci := 1) (v := .ref q_1) (C := RX1) (T := TX1) (N := 11) hx hb hts fin_X1_init_X1 hown hK hP 0 rfl rfl 0 (by decide) (hts (.fieldLink RX1 11 "PatternGate$Compiler" "wholes" "[LPatternGate$Part;") (List.mem_of_getElem? (i := 5) (by decide +kernel))) (fun _ h9 => h9) rfl dX1_init_115 ?_
  refine lv_iload_n hx hb dX1_init_118 rfl (lv_at hl 0 rfl) ?_
  refine va_new (ci := 4) (fs := [.null, .null, .int 0, .int 0, .int 0, .int 0, .int 0, .int 0]) (C := RX4) (T := TX4) (N := 8) hx hb hts fin_X1_init_X4 tyX4 tyX4_ok hown (hts (.classLink RX1 9 RX4) (List.mem_of_getElem? (i := 4) (by decide +kernel))) (hts (.instantiable RX4 8) (List.mem_of_getElem? (i := 9) (by decide +kernel))) (hts (.initialized RX4) (List.mem_of_getElem? (i := 10) (by decide +kernel))) hK hP hD hS hA rfl (fun j hj => by rcases (show j = 0 ∨ j = 1 ∨ j = 2 ∨ j = 3 ∨ j = 4 ∨ j = 5 ∨ j = 6 ∨ j = 7 by omega) with rfl | rfl | rfl | rfl | rfl | rfl | rfl | rfl <;> rfl) (Nat.le_of_ble_eq_true rfl) (Nat.le_of_ble_eq_true rfl) dX1_init_119 (fun q_28 H hP hD hS => ?_)
  have hP : va_P (dC, dI) vwCl [(nb, .inr (1, [.ref q_1, .ref q_3, .ref q_5, .ref q_7, .ref q_12, .ref q_15, .ref q_18, .ref q_21, .ref q_23, .ref q_25, .int 0])), (q_1, .inl (c_2, 6, .inr (.inr (.inr (.inr (fun _ => none)))))), (q_3, .inl (c_4, 6, .inr (.inr (.inr (.inr (fun _ => none)))))), (q_28, .inr (4, [.null, .null, .int 0, .int 0, .int 0, .int 0, .int 0, .int 0]))] H := hP
  have hD : va_D A [(nb, .inr (1, [.ref q_1, .ref q_3, .ref q_5, .ref q_7, .ref q_12, .ref q_15, .ref q_18, .ref q_21, .ref q_23, .ref q_25, .int 0])), (q_1, .inl (c_2, 6, .inr (.inr (.inr (.inr (fun _ => none)))))), (q_3, .inl (c_4, 6, .inr (.inr (.inr (.inr (fun _ => none)))))), (q_28, .inr (4, [.null, .null, .int 0, .int 0, .int 0, .int 0, .int 0, .int 0]))] := hD
  refine W.widen (k := 21) (n := 4186) (by omega) (by omega) ?_
  refine lv_dup hx hb dX1_init_122 rfl ?_
  have hPc := hP.sub (ws' := [(q_28, .inr (4, [.null, .null, .int 0, .int 0, .int 0, .int 0, .int 0, .int 0]))]) [3] rfl
  have hKc := hK.sub (tys' := []) [] rfl
  have hDc := hD.sub (ws' := [(q_28, .inr (4, [.null, .null, .int 0, .int 0, .int 0, .int 0, .int 0, .int 0]))]) [3] (by decide) rfl
  have hFc := va_free (wc := [(q_28, .inr (4, [.null, .null, .int 0, .int 0, .int 0, .int 0, .int 0, .int 0]))]) hD hS hA [3] rfl
  refine va_callv (va_runIN (As := []) (rest := [.ref q_28, .int 0, .ref q_1]) ⟨hx, hb, hml, hown, hts⟩ (c_Part l dC dI q_28 H.size) ⟨va_cnB 0 hts mg_X1_init_X4_init_24 rfl rfl rfl hN24 (hts (.initialized RX4) (List.mem_of_getElem? (i := 10) (by decide +kernel))) (by decide +kernel) ⟨Nat.le_of_ble_eq_true rfl, Nat.le_of_ble_eq_true rfl⟩, rfl, (hts (.instanceMethod yX4_init) (List.mem_of_getElem? (i := 38) (by decide +kernel)))⟩ ⟨fun a U g mk q => by obtain ⟨q0, q1, qP, qK, qD, qE0⟩ := q; exact ⟨q0, q1, qP, va_K.moved (u := U) (U := U.calling g mk a) (Vm.Alike.refl U.vm) qK, qD, va_Nw.same rfl (rfl : U.vm = (U.calling g mk a).vm) qE0⟩, fun U hU hW => ⟨rfl, by rw [hU], by rw [hU]; exact hPc, va_K.moved hW.alike hKc, hDc.weaken (fun _ _ _ _ => trivial), va_Nw.warmM hW hN11⟩⟩ rfl rfl hl.1 rfl (lv_room (Nat.le_of_ble_eq_true rfl)) dX1_init_123 ⟨Nat.le_of_ble_eq_true rfl, Nat.le_of_ble_eq_true rfl⟩) hS (fun q _ h => hFc q h) hFc (fun u t H1 locs ht hvm hw hB hz1 hk1 hS => ?_)
  obtain ⟨r_31, n_32, hP1, hK1, hD1⟩ := hB
  rw [ht] at hP1
  obtain ⟨hP, hD⟩ := va_join (wr := [(nb, .inr (1, [.ref q_1, .ref q_3, .ref q_5, .ref q_7, .ref q_12, .ref q_15, .ref q_18, .ref q_21, .ref q_23, .ref q_25, .int 0])), (q_1, .inl (c_2, 6, .inr (.inr (.inr (.inr (fun _ => none)))))), (q_3, .inl (c_4, 6, .inr (.inr (.inr (.inr (fun _ => none))))))]) (w1 := [(q_28, .inr (4, [.ref r_31, .ref n_32, .int 0, .int 0, .int 0, .int 0, .int 0, .int 0]))]) hP hD [3] [0, 1, 2] rfl rfl (by decide) (by decide) hk1 hFc hP1 hD1
  generalize H1 = H at hP hS ⊢
  have hP : va_P (dC, dI) vwCl [(nb, .inr (1, [.ref q_1, .ref q_3, .ref q_5, .ref q_7, .ref q_12, .ref q_15, .ref q_18, .ref q_21, .ref q_23, .ref q_25, .int 0])), (q_1, .inl (c_2, 6, .inr (.inr (.inr (.inr (fun _ => none)))))), (q_3, .inl (c_4, 6, .inr (.inr (.inr (.inr (fun _ => none)))))), (q_28, .inr (4, [.ref r_31, .ref n_32, .int 0, .int 0, .int 0, .int 0, .int 0, .int 0]))] H := hP
  have hD : va_D A [(nb, .inr (1, [.ref q_1, .ref q_3, .ref q_5, .ref q_7, .ref q_12, .ref q_15, .ref q_18, .ref q_21, .ref q_23, .ref q_25, .int 0])), (q_1, .inl (c_2, 6, .inr (.inr (.inr (.inr (fun _ => none)))))), (q_3, .inl (c_4, 6, .inr (.inr (.inr (.inr (fun _ => none)))))), (q_28, .inr (4, [.ref r_31, .ref n_32, .int 0, .int 0, .int 0, .int 0, .int 0, .int 0]))] := hD
  refine W.widen (k := 26) (n := 4498) (by omega) (by omega) ?_
  refine va_astq (r := (RX4, TX4, 8)) hx hb hK hP hD hS 1 0 3 4 rfl rfl rfl rfl (i := 0) (by unfold vp_in; decide +kernel) dX1_init_126 (fun H locs hP hD hS => ?_)
  generalize hf_f_33 : va_up (fun _ => none) _ _ = f_33 at hP hD
  have hP : va_P (dC, dI) vwCl [(nb, .inr (1, [.ref q_1, .ref q_3, .ref q_5, .ref q_7, .ref q_12, .ref q_15, .ref q_18, .ref q_21, .ref q_23, .ref q_25, .int 0])), (q_1, .inl (c_2, 6, .inr (.inr (.inr (.inr f_33))))), (q_3, .inl (c_4, 6, .inr (.inr (.inr (.inr (fun _ => none)))))), (q_28, .inr (4, [.ref r_31, .ref n_32, .int 0, .int 0, .int 0, .int 0, .int 0, .int 0]))] H := hP
  have hD : va_D A [(nb, .inr (1, [.ref q_1, .ref q_3, .ref q_5, .ref q_7, .ref q_12, .ref q_15, .ref q_18, .ref q_21, .ref q_23, .ref q_25, .int 0])), (q_1, .inl (c_2, 6, .inr (.inr (.inr (.inr f_33))))), (q_3, .inl (c_4, 6, .inr (.inr (.inr (.inr (fun _ => none)))))), (q_28, .inr (4, [.ref r_31, .ref n_32, .int 0, .int 0, .int 0, .int 0, .int 0, .int 0]))] := hD
  refine lv_aload_n hx hb dX1_init_127 rfl (lv_at hl 1 rfl) ?_
  refine va_get (D := (dC, dI)) (ci := 1) (v := .ref q_3) (C := RX1) (T := TX1) (N := 11) hx hb hts fin_X1_init_X1 hown hK hP 0 rfl rfl 1 (by decide) (hts (.fieldLink RX1 17 "PatternGate$Compiler" "branches" "[LPatternGate$Part;") (List.mem_of_getElem? (i := 6) (by decide +kernel))) (fun _ h9 => h9) rfl dX1_init_128 ?_
  refine lv_iload_n hx hb dX1_init_131 rfl (lv_at hl 0 rfl) ?_
  refine va_new (ci := 4) (fs := [.null, .null, .int 0, .int 0, .int 0, .int 0, .int 0, .int 0]) (C := RX4) (T := TX4) (N := 8) hx hb hts fin_X1_init_X4 tyX4 tyX4_ok hown (hts (.classLink RX1 9 RX4) (List.mem_of_getElem? (i := 4) (by decide +kernel))) (hts (.instantiable RX4 8) (List.mem_of_getElem? (i := 9) (by decide +kernel))) (hts (.initialized RX4) (List.mem_of_getElem? (i := 10) (by decide +kernel))) hK hP hD hS hA rfl (fun j hj => by rcases (show j = 0 ∨ j = 1 ∨ j = 2 ∨ j = 3 ∨ j = 4 ∨ j = 5 ∨ j = 6 ∨ j = 7 by omega) with rfl | rfl | rfl | rfl | rfl | rfl | rfl | rfl <;> rfl) (Nat.le_of_ble_eq_true rfl) (Nat.le_of_ble_eq_true rfl) dX1_init_132 (fun q_34 H hP hD hS => ?_)
  have hP : va_P (dC, dI) vwCl [(nb, .inr (1, [.ref q_1, .ref q_3, .ref q_5, .ref q_7, .ref q_12, .ref q_15, .ref q_18, .ref q_21, .ref q_23, .ref q_25, .int 0])), (q_1, .inl (c_2, 6, .inr (.inr (.inr (.inr f_33))))), (q_3, .inl (c_4, 6, .inr (.inr (.inr (.inr (fun _ => none)))))), (q_28, .inr (4, [.ref r_31, .ref n_32, .int 0, .int 0, .int 0, .int 0, .int 0, .int 0])), (q_34, .inr (4, [.null, .null, .int 0, .int 0, .int 0, .int 0, .int 0, .int 0]))] H := hP
  have hD : va_D A [(nb, .inr (1, [.ref q_1, .ref q_3, .ref q_5, .ref q_7, .ref q_12, .ref q_15, .ref q_18, .ref q_21, .ref q_23, .ref q_25, .int 0])), (q_1, .inl (c_2, 6, .inr (.inr (.inr (.inr f_33))))), (q_3, .inl (c_4, 6, .inr (.inr (.inr (.inr (fun _ => none)))))), (q_28, .inr (4, [.ref r_31, .ref n_32, .int 0, .int 0, .int 0, .int 0, .int 0, .int 0])), (q_34, .inr (4, [.null, .null, .int 0, .int 0, .int 0, .int 0, .int 0, .int 0]))] := hD
  refine W.widen (k := 27) (n := 4506) (by omega) (by omega) ?_
  refine lv_dup hx hb dX1_init_135 rfl ?_
  have hPc := hP.sub (ws' := [(q_34, .inr (4, [.null, .null, .int 0, .int 0, .int 0, .int 0, .int 0, .int 0]))]) [4] rfl
  have hKc := hK.sub (tys' := []) [] rfl
  have hDc := hD.sub (ws' := [(q_34, .inr (4, [.null, .null, .int 0, .int 0, .int 0, .int 0, .int 0, .int 0]))]) [4] (by decide) rfl
  have hFc := va_free (wc := [(q_34, .inr (4, [.null, .null, .int 0, .int 0, .int 0, .int 0, .int 0, .int 0]))]) hD hS hA [4] rfl
  refine va_callv (va_runIN (As := []) (rest := [.ref q_34, .int 0, .ref q_3]) ⟨hx, hb, hml, hown, hts⟩ (c_Part l dC dI q_34 H.size) ⟨va_cnB 0 hts mg_X1_init_X4_init_24 rfl rfl rfl hN24 (hts (.initialized RX4) (List.mem_of_getElem? (i := 10) (by decide +kernel))) (by decide +kernel) ⟨Nat.le_of_ble_eq_true rfl, Nat.le_of_ble_eq_true rfl⟩, rfl, (hts (.instanceMethod yX4_init) (List.mem_of_getElem? (i := 38) (by decide +kernel)))⟩ ⟨fun a U g mk q => by obtain ⟨q0, q1, qP, qK, qD, qE0⟩ := q; exact ⟨q0, q1, qP, va_K.moved (u := U) (U := U.calling g mk a) (Vm.Alike.refl U.vm) qK, qD, va_Nw.same rfl (rfl : U.vm = (U.calling g mk a).vm) qE0⟩, fun U hU hW => ⟨rfl, by rw [hU], by rw [hU]; exact hPc, va_K.moved hW.alike hKc, hDc.weaken (fun _ _ _ _ => trivial), va_Nw.warmM hW hN11⟩⟩ rfl rfl hl.1 rfl (lv_room (Nat.le_of_ble_eq_true rfl)) dX1_init_136 ⟨Nat.le_of_ble_eq_true rfl, Nat.le_of_ble_eq_true rfl⟩) hS (fun q _ h => hFc q h) hFc (fun u t H1 locs ht hvm hw hB hz1 hk1 hS => ?_)
  obtain ⟨r_37, n_38, hP1, hK1, hD1⟩ := hB
  rw [ht] at hP1
  obtain ⟨hP, hD⟩ := va_join (wr := [(nb, .inr (1, [.ref q_1, .ref q_3, .ref q_5, .ref q_7, .ref q_12, .ref q_15, .ref q_18, .ref q_21, .ref q_23, .ref q_25, .int 0])), (q_1, .inl (c_2, 6, .inr (.inr (.inr (.inr f_33))))), (q_3, .inl (c_4, 6, .inr (.inr (.inr (.inr (fun _ => none)))))), (q_28, .inr (4, [.ref r_31, .ref n_32, .int 0, .int 0, .int 0, .int 0, .int 0, .int 0]))]) (w1 := [(q_34, .inr (4, [.ref r_37, .ref n_38, .int 0, .int 0, .int 0, .int 0, .int 0, .int 0]))]) hP hD [4] [0, 1, 2, 3] rfl rfl (by decide) (by decide) hk1 hFc hP1 hD1
  generalize H1 = H at hP hS ⊢
  have hP : va_P (dC, dI) vwCl [(nb, .inr (1, [.ref q_1, .ref q_3, .ref q_5, .ref q_7, .ref q_12, .ref q_15, .ref q_18, .ref q_21, .ref q_23, .ref q_25, .int 0])), (q_1, .inl (c_2, 6, .inr (.inr (.inr (.inr f_33))))), (q_3, .inl (c_4, 6, .inr (.inr (.inr (.inr (fun _ => none)))))), (q_28, .inr (4, [.ref r_31, .ref n_32, .int 0, .int 0, .int 0, .int 0, .int 0, .int 0])), (q_34, .inr (4, [.ref r_37, .ref n_38, .int 0, .int 0, .int 0, .int 0, .int 0, .int 0]))] H := hP
  have hD : va_D A [(nb, .inr (1, [.ref q_1, .ref q_3, .ref q_5, .ref q_7, .ref q_12, .ref q_15, .ref q_18, .ref q_21, .ref q_23, .ref q_25, .int 0])), (q_1, .inl (c_2, 6, .inr (.inr (.inr (.inr f_33))))), (q_3, .inl (c_4, 6, .inr (.inr (.inr (.inr (fun _ => none)))))), (q_28, .inr (4, [.ref r_31, .ref n_32, .int 0, .int 0, .int 0, .int 0, .int 0, .int 0])), (q_34, .inr (4, [.ref r_37, .ref n_38, .int 0, .int 0, .int 0, .int 0, .int 0, .int 0]))] := hD
  refine W.widen (k := 32) (n := 4818) (by omega) (by omega) ?_
  refine va_astq (r := (RX4, TX4, 8)) hx hb hK hP hD hS 2 1 4 4 rfl rfl rfl rfl (i := 0) (by unfold vp_in; decide +kernel) dX1_init_139 (fun H locs hP hD hS => ?_)
  generalize hf_f_39 : va_up (fun _ => none) _ _ = f_39 at hP hD
  have hP : va_P (dC, dI) vwCl [(nb, .inr (1, [.ref q_1, .ref q_3, .ref q_5, .ref q_7, .ref q_12, .ref q_15, .ref q_18, .ref q_21, .ref q_23, .ref q_25, .int 0])), (q_1, .inl (c_2, 6, .inr (.inr (.inr (.inr f_33))))), (q_3, .inl (c_4, 6, .inr (.inr (.inr (.inr f_39))))), (q_28, .inr (4, [.ref r_31, .ref n_32, .int 0, .int 0, .int 0, .int 0, .int 0, .int 0])), (q_34, .inr (4, [.ref r_37, .ref n_38, .int 0, .int 0, .int 0, .int 0, .int 0, .int 0]))] H := hP
  have hD : va_D A [(nb, .inr (1, [.ref q_1, .ref q_3, .ref q_5, .ref q_7, .ref q_12, .ref q_15, .ref q_18, .ref q_21, .ref q_23, .ref q_25, .int 0])), (q_1, .inl (c_2, 6, .inr (.inr (.inr (.inr f_33))))), (q_3, .inl (c_4, 6, .inr (.inr (.inr (.inr f_39))))), (q_28, .inr (4, [.ref r_31, .ref n_32, .int 0, .int 0, .int 0, .int 0, .int 0, .int 0])), (q_34, .inr (4, [.ref r_37, .ref n_38, .int 0, .int 0, .int 0, .int 0, .int 0, .int 0]))] := hD
  refine lv_iinc (v := 1) (lv' := [(1, .int 1), (0, .ref nb)]) hx hb dX1_init_140 hl (k := 0) rfl (by decide) (by decide) rfl (fun ls hl => ?_)
  refine lv_goto (tgt := 105) hx hb dX1_init_143 (by decide) ?_
  have hP := hP.sub (ws' := [(nb, .inr (1, [.ref q_1, .ref q_3, .ref q_5, .ref q_7, .ref q_12, .ref q_15, .ref q_18, .ref q_21, .ref q_23, .ref q_25, .int 0])), (q_1, .inl (c_2, 6, .inr (.inr (.inr (.inr f_33))))), (q_3, .inl (c_4, 6, .inr (.inr (.inr (.inr f_39)))))]) [0, 1, 2] rfl
  have hD := hD.sub (ws' := [(nb, .inr (1, [.ref q_1, .ref q_3, .ref q_5, .ref q_7, .ref q_12, .ref q_15, .ref q_18, .ref q_21, .ref q_23, .ref q_25, .int 0])), (q_1, .inl (c_2, 6, .inr (.inr (.inr (.inr f_33))))), (q_3, .inl (c_4, 6, .inr (.inr (.inr (.inr f_39)))))]) [0, 1, 2] (by decide) rfl
  refine lv_iload_n hx hb dX1_init_105 rfl (lv_at hl 0 rfl) ?_
  refine lv_aload_n hx hb dX1_init_106 rfl (lv_at hl 1 rfl) ?_
  refine va_get (D := (dC, dI)) (ci := 1) (v := .ref q_1) (C := RX1) (T := TX1) (N := 11) hx hb hts fin_X1_init_X1 hown hK hP 0 rfl rfl 0 (by decide) (hts (.fieldLink RX1 11 "PatternGate$Compiler" "wholes" "[LPatternGate$Part;") (List.mem_of_getElem? (i := 5) (by decide +kernel))) (fun _ h9 => h9) rfl dX1_init_107 ?_
  refine va_alen (v := 6) hx hb hK hP 1 0 rfl rfl rfl dX1_init_110 ?_
  refine lv_icmp_ge (tgt := 146) hx hb dX1_init_111 (by decide) (fun k_40 => absurd k_40 (by decide)) (fun k_40 => ?_)
  refine lv_aload_n hx hb dX1_init_114 rfl (lv_at hl 1 rfl) ?_
  refine va_get (D := (dC, dI)) (ci := 1) (v := .ref q_1) (C := RX1) (T := TX1) (N := 11) hx hb hts fin_X1_init_X1 hown hK hP 0 rfl rfl 0 (by decide) (hts (.fieldLink RX1 11 "PatternGate$Compiler" "wholes" "[LPatternGate$Part;") (List.mem_of_getElem? (i := 5) (by decide +kernel))) (fun _ h9 => h9) rfl dX1_init_115 ?_
  refine lv_iload_n hx hb dX1_init_118 rfl (lv_at hl 0 rfl) ?_
  refine va_new (ci := 4) (fs := [.null, .null, .int 0, .int 0, .int 0, .int 0, .int 0, .int 0]) (C := RX4) (T := TX4) (N := 8) hx hb hts fin_X1_init_X4 tyX4 tyX4_ok hown (hts (.classLink RX1 9 RX4) (List.mem_of_getElem? (i := 4) (by decide +kernel))) (hts (.instantiable RX4 8) (List.mem_of_getElem? (i := 9) (by decide +kernel))) (hts (.initialized RX4) (List.mem_of_getElem? (i := 10) (by decide +kernel))) hK hP hD hS hA rfl (fun j hj => by rcases (show j = 0 ∨ j = 1 ∨ j = 2 ∨ j = 3 ∨ j = 4 ∨ j = 5 ∨ j = 6 ∨ j = 7 by omega) with rfl | rfl | rfl | rfl | rfl | rfl | rfl | rfl <;> rfl) (Nat.le_of_ble_eq_true rfl) (Nat.le_of_ble_eq_true rfl) dX1_init_119 (fun q_41 H hP hD hS => ?_)
  have hP : va_P (dC, dI) vwCl [(nb, .inr (1, [.ref q_1, .ref q_3, .ref q_5, .ref q_7, .ref q_12, .ref q_15, .ref q_18, .ref q_21, .ref q_23, .ref q_25, .int 0])), (q_1, .inl (c_2, 6, .inr (.inr (.inr (.inr f_33))))), (q_3, .inl (c_4, 6, .inr (.inr (.inr (.inr f_39))))), (q_41, .inr (4, [.null, .null, .int 0, .int 0, .int 0, .int 0, .int 0, .int 0]))] H := hP
  have hD : va_D A [(nb, .inr (1, [.ref q_1, .ref q_3, .ref q_5, .ref q_7, .ref q_12, .ref q_15, .ref q_18, .ref q_21, .ref q_23, .ref q_25, .int 0])), (q_1, .inl (c_2, 6, .inr (.inr (.inr (.inr f_33))))), (q_3, .inl (c_4, 6, .inr (.inr (.inr (.inr f_39))))), (q_41, .inr (4, [.null, .null, .int 0, .int 0, .int 0, .int 0, .int 0, .int 0]))] := hD
  refine W.widen (k := 33) (n := 4826) (by omega) (by omega) ?_
  refine lv_dup hx hb dX1_init_122 rfl ?_
  have hPc := hP.sub (ws' := [(q_41, .inr (4, [.null, .null, .int 0, .int 0, .int 0, .int 0, .int 0, .int 0]))]) [3] rfl
  have hKc := hK.sub (tys' := []) [] rfl
  have hDc := hD.sub (ws' := [(q_41, .inr (4, [.null, .null, .int 0, .int 0, .int 0, .int 0, .int 0, .int 0]))]) [3] (by decide) rfl
  have hFc := va_free (wc := [(q_41, .inr (4, [.null, .null, .int 0, .int 0, .int 0, .int 0, .int 0, .int 0]))]) hD hS hA [3] rfl
  refine va_callv (va_runIN (As := []) (rest := [.ref q_41, .int 1, .ref q_1]) ⟨hx, hb, hml, hown, hts⟩ (c_Part l dC dI q_41 H.size) ⟨va_cnB 0 hts mg_X1_init_X4_init_24 rfl rfl rfl hN24 (hts (.initialized RX4) (List.mem_of_getElem? (i := 10) (by decide +kernel))) (by decide +kernel) ⟨Nat.le_of_ble_eq_true rfl, Nat.le_of_ble_eq_true rfl⟩, rfl, (hts (.instanceMethod yX4_init) (List.mem_of_getElem? (i := 38) (by decide +kernel)))⟩ ⟨fun a U g mk q => by obtain ⟨q0, q1, qP, qK, qD, qE0⟩ := q; exact ⟨q0, q1, qP, va_K.moved (u := U) (U := U.calling g mk a) (Vm.Alike.refl U.vm) qK, qD, va_Nw.same rfl (rfl : U.vm = (U.calling g mk a).vm) qE0⟩, fun U hU hW => ⟨rfl, by rw [hU], by rw [hU]; exact hPc, va_K.moved hW.alike hKc, hDc.weaken (fun _ _ _ _ => trivial), va_Nw.warmM hW hN11⟩⟩ rfl rfl hl.1 rfl (lv_room (Nat.le_of_ble_eq_true rfl)) dX1_init_123 ⟨Nat.le_of_ble_eq_true rfl, Nat.le_of_ble_eq_true rfl⟩) hS (fun q _ h => hFc q h) hFc (fun u t H1 locs ht hvm hw hB hz1 hk1 hS => ?_)
  obtain ⟨r_44, n_45, hP1, hK1, hD1⟩ := hB
  rw [ht] at hP1
  obtain ⟨hP, hD⟩ := va_join (wr := [(nb, .inr (1, [.ref q_1, .ref q_3, .ref q_5, .ref q_7, .ref q_12, .ref q_15, .ref q_18, .ref q_21, .ref q_23, .ref q_25, .int 0])), (q_1, .inl (c_2, 6, .inr (.inr (.inr (.inr f_33))))), (q_3, .inl (c_4, 6, .inr (.inr (.inr (.inr f_39)))))]) (w1 := [(q_41, .inr (4, [.ref r_44, .ref n_45, .int 0, .int 0, .int 0, .int 0, .int 0, .int 0]))]) hP hD [3] [0, 1, 2] rfl rfl (by decide) (by decide) hk1 hFc hP1 hD1
  generalize H1 = H at hP hS ⊢
  have hP : va_P (dC, dI) vwCl [(nb, .inr (1, [.ref q_1, .ref q_3, .ref q_5, .ref q_7, .ref q_12, .ref q_15, .ref q_18, .ref q_21, .ref q_23, .ref q_25, .int 0])), (q_1, .inl (c_2, 6, .inr (.inr (.inr (.inr f_33))))), (q_3, .inl (c_4, 6, .inr (.inr (.inr (.inr f_39))))), (q_41, .inr (4, [.ref r_44, .ref n_45, .int 0, .int 0, .int 0, .int 0, .int 0, .int 0]))] H := hP
  have hD : va_D A [(nb, .inr (1, [.ref q_1, .ref q_3, .ref q_5, .ref q_7, .ref q_12, .ref q_15, .ref q_18, .ref q_21, .ref q_23, .ref q_25, .int 0])), (q_1, .inl (c_2, 6, .inr (.inr (.inr (.inr f_33))))), (q_3, .inl (c_4, 6, .inr (.inr (.inr (.inr f_39))))), (q_41, .inr (4, [.ref r_44, .ref n_45, .int 0, .int 0, .int 0, .int 0, .int 0, .int 0]))] := hD
  refine W.widen (k := 38) (n := 5138) (by omega) (by omega) ?_
  refine va_astq (r := (RX4, TX4, 8)) hx hb hK hP hD hS 1 0 3 4 rfl rfl rfl rfl (i := 1) (by unfold vp_in; decide +kernel) dX1_init_126 (fun H locs hP hD hS => ?_)
  generalize hf_f_46 : va_up f_33 _ _ = f_46 at hP hD
  have hP : va_P (dC, dI) vwCl [(nb, .inr (1, [.ref q_1, .ref q_3, .ref q_5, .ref q_7, .ref q_12, .ref q_15, .ref q_18, .ref q_21, .ref q_23, .ref q_25, .int 0])), (q_1, .inl (c_2, 6, .inr (.inr (.inr (.inr f_46))))), (q_3, .inl (c_4, 6, .inr (.inr (.inr (.inr f_39))))), (q_41, .inr (4, [.ref r_44, .ref n_45, .int 0, .int 0, .int 0, .int 0, .int 0, .int 0]))] H := hP
  have hD : va_D A [(nb, .inr (1, [.ref q_1, .ref q_3, .ref q_5, .ref q_7, .ref q_12, .ref q_15, .ref q_18, .ref q_21, .ref q_23, .ref q_25, .int 0])), (q_1, .inl (c_2, 6, .inr (.inr (.inr (.inr f_46))))), (q_3, .inl (c_4, 6, .inr (.inr (.inr (.inr f_39))))), (q_41, .inr (4, [.ref r_44, .ref n_45, .int 0, .int 0, .int 0, .int 0, .int 0, .int 0]))] := hD
  refine lv_aload_n hx hb dX1_init_127 rfl (lv_at hl 1 rfl) ?_
  refine va_get (D := (dC, dI)) (ci := 1) (v := .ref q_3) (C := RX1) (T := TX1) (N := 11) hx hb hts fin_X1_init_X1 hown hK hP 0 rfl rfl 1 (by decide) (hts (.fieldLink RX1 17 "PatternGate$Compiler" "branches" "[LPatternGate$Part;") (List.mem_of_getElem? (i := 6) (by decide +kernel))) (fun _ h9 => h9) rfl dX1_init_128 ?_
  refine lv_iload_n hx hb dX1_init_131 rfl (lv_at hl 0 rfl) ?_
  refine va_new (ci := 4) (fs := [.null, .null, .int 0, .int 0, .int 0, .int 0, .int 0, .int 0]) (C := RX4) (T := TX4) (N := 8) hx hb hts fin_X1_init_X4 tyX4 tyX4_ok hown (hts (.classLink RX1 9 RX4) (List.mem_of_getElem? (i := 4) (by decide +kernel))) (hts (.instantiable RX4 8) (List.mem_of_getElem? (i := 9) (by decide +kernel))) (hts (.initialized RX4) (List.mem_of_getElem? (i := 10) (by decide +kernel))) hK hP hD hS hA rfl (fun j hj => by rcases (show j = 0 ∨ j = 1 ∨ j = 2 ∨ j = 3 ∨ j = 4 ∨ j = 5 ∨ j = 6 ∨ j = 7 by omega) with rfl | rfl | rfl | rfl | rfl | rfl | rfl | rfl <;> rfl) (Nat.le_of_ble_eq_true rfl) (Nat.le_of_ble_eq_true rfl) dX1_init_132 (fun q_47 H hP hD hS => ?_)
  have hP : va_P (dC, dI) vwCl [(nb, .inr (1, [.ref q_1, .ref q_3, .ref q_5, .ref q_7, .ref q_12, .ref q_15, .ref q_18, .ref q_21, .ref q_23, .ref q_25, .int 0])), (q_1, .inl (c_2, 6, .inr (.inr (.inr (.inr f_46))))), (q_3, .inl (c_4, 6, .inr (.inr (.inr (.inr f_39))))), (q_41, .inr (4, [.ref r_44, .ref n_45, .int 0, .int 0, .int 0, .int 0, .int 0, .int 0])), (q_47, .inr (4, [.null, .null, .int 0, .int 0, .int 0, .int 0, .int 0, .int 0]))] H := hP
  have hD : va_D A [(nb, .inr (1, [.ref q_1, .ref q_3, .ref q_5, .ref q_7, .ref q_12, .ref q_15, .ref q_18, .ref q_21, .ref q_23, .ref q_25, .int 0])), (q_1, .inl (c_2, 6, .inr (.inr (.inr (.inr f_46))))), (q_3, .inl (c_4, 6, .inr (.inr (.inr (.inr f_39))))), (q_41, .inr (4, [.ref r_44, .ref n_45, .int 0, .int 0, .int 0, .int 0, .int 0, .int 0])), (q_47, .inr (4, [.null, .null, .int 0, .int 0, .int 0, .int 0, .int 0, .int 0]))] := hD
  refine W.widen (k := 39) (n := 5146) (by omega) (by omega) ?_
  refine lv_dup hx hb dX1_init_135 rfl ?_
  have hPc := hP.sub (ws' := [(q_47, .inr (4, [.null, .null, .int 0, .int 0, .int 0, .int 0, .int 0, .int 0]))]) [4] rfl
  have hKc := hK.sub (tys' := []) [] rfl
  have hDc := hD.sub (ws' := [(q_47, .inr (4, [.null, .null, .int 0, .int 0, .int 0, .int 0, .int 0, .int 0]))]) [4] (by decide) rfl
  have hFc := va_free (wc := [(q_47, .inr (4, [.null, .null, .int 0, .int 0, .int 0, .int 0, .int 0, .int 0]))]) hD hS hA [4] rfl
  refine va_callv (va_runIN (As := []) (rest := [.ref q_47, .int 1, .ref q_3]) ⟨hx, hb, hml, hown, hts⟩ (c_Part l dC dI q_47 H.size) ⟨va_cnB 0 hts mg_X1_init_X4_init_24 rfl rfl rfl hN24 (hts (.initialized RX4) (List.mem_of_getElem? (i := 10) (by decide +kernel))) (by decide +kernel) ⟨Nat.le_of_ble_eq_true rfl, Nat.le_of_ble_eq_true rfl⟩, rfl, (hts (.instanceMethod yX4_init) (List.mem_of_getElem? (i := 38) (by decide +kernel)))⟩ ⟨fun a U g mk q => by obtain ⟨q0, q1, qP, qK, qD, qE0⟩ := q; exact ⟨q0, q1, qP, va_K.moved (u := U) (U := U.calling g mk a) (Vm.Alike.refl U.vm) qK, qD, va_Nw.same rfl (rfl : U.vm = (U.calling g mk a).vm) qE0⟩, fun U hU hW => ⟨rfl, by rw [hU], by rw [hU]; exact hPc, va_K.moved hW.alike hKc, hDc.weaken (fun _ _ _ _ => trivial), va_Nw.warmM hW hN11⟩⟩ rfl rfl hl.1 rfl (lv_room (Nat.le_of_ble_eq_true rfl)) dX1_init_136 ⟨Nat.le_of_ble_eq_true rfl, Nat.le_of_ble_eq_true rfl⟩) hS (fun q _ h => hFc q h) hFc (fun u t H1 locs ht hvm hw hB hz1 hk1 hS => ?_)
  obtain ⟨r_50, n_51, hP1, hK1, hD1⟩ := hB
  rw [ht] at hP1
  obtain ⟨hP, hD⟩ := va_join (wr := [(nb, .inr (1, [.ref q_1, .ref q_3, .ref q_5, .ref q_7, .ref q_12, .ref q_15, .ref q_18, .ref q_21, .ref q_23, .ref q_25, .int 0])), (q_1, .inl (c_2, 6, .inr (.inr (.inr (.inr f_46))))), (q_3, .inl (c_4, 6, .inr (.inr (.inr (.inr f_39))))), (q_41, .inr (4, [.ref r_44, .ref n_45, .int 0, .int 0, .int 0, .int 0, .int 0, .int 0]))]) (w1 := [(q_47, .inr (4, [.ref r_50, .ref n_51, .int 0, .int 0, .int 0, .int 0, .int 0, .int 0]))]) hP hD [4] [0, 1, 2, 3] rfl rfl (by decide) (by decide) hk1 hFc hP1 hD1
  generalize H1 = H at hP hS ⊢
  have hP : va_P (dC, dI) vwCl [(nb, .inr (1, [.ref q_1, .ref q_3, .ref q_5, .ref q_7, .ref q_12, .ref q_15, .ref q_18, .ref q_21, .ref q_23, .ref q_25, .int 0])), (q_1, .inl (c_2, 6, .inr (.inr (.inr (.inr f_46))))), (q_3, .inl (c_4, 6, .inr (.inr (.inr (.inr f_39))))), (q_41, .inr (4, [.ref r_44, .ref n_45, .int 0, .int 0, .int 0, .int 0, .int 0, .int 0])), (q_47, .inr (4, [.ref r_50, .ref n_51, .int 0, .int 0, .int 0, .int 0, .int 0, .int 0]))] H := hP
  have hD : va_D A [(nb, .inr (1, [.ref q_1, .ref q_3, .ref q_5, .ref q_7, .ref q_12, .ref q_15, .ref q_18, .ref q_21, .ref q_23, .ref q_25, .int 0])), (q_1, .inl (c_2, 6, .inr (.inr (.inr (.inr f_46))))), (q_3, .inl (c_4, 6, .inr (.inr (.inr (.inr f_39))))), (q_41, .inr (4, [.ref r_44, .ref n_45, .int 0, .int 0, .int 0, .int 0, .int 0, .int 0])), (q_47, .inr (4, [.ref r_50, .ref n_51, .int 0, .int 0, .int 0, .int 0, .int 0, .int 0]))] := hD
  refine W.widen (k := 44) (n := 5458) (by omega) (by omega) ?_
  refine va_astq (r := (RX4, TX4, 8)) hx hb hK hP hD hS 2 1 4 4 rfl rfl rfl rfl (i := 1) (by unfold vp_in; decide +kernel) dX1_init_139 (fun H locs hP hD hS => ?_)
  generalize hf_f_52 : va_up f_39 _ _ = f_52 at hP hD
  have hP : va_P (dC, dI) vwCl [(nb, .inr (1, [.ref q_1, .ref q_3, .ref q_5, .ref q_7, .ref q_12, .ref q_15, .ref q_18, .ref q_21, .ref q_23, .ref q_25, .int 0])), (q_1, .inl (c_2, 6, .inr (.inr (.inr (.inr f_46))))), (q_3, .inl (c_4, 6, .inr (.inr (.inr (.inr f_52))))), (q_41, .inr (4, [.ref r_44, .ref n_45, .int 0, .int 0, .int 0, .int 0, .int 0, .int 0])), (q_47, .inr (4, [.ref r_50, .ref n_51, .int 0, .int 0, .int 0, .int 0, .int 0, .int 0]))] H := hP
  have hD : va_D A [(nb, .inr (1, [.ref q_1, .ref q_3, .ref q_5, .ref q_7, .ref q_12, .ref q_15, .ref q_18, .ref q_21, .ref q_23, .ref q_25, .int 0])), (q_1, .inl (c_2, 6, .inr (.inr (.inr (.inr f_46))))), (q_3, .inl (c_4, 6, .inr (.inr (.inr (.inr f_52))))), (q_41, .inr (4, [.ref r_44, .ref n_45, .int 0, .int 0, .int 0, .int 0, .int 0, .int 0])), (q_47, .inr (4, [.ref r_50, .ref n_51, .int 0, .int 0, .int 0, .int 0, .int 0, .int 0]))] := hD
  refine lv_iinc (v := 2) (lv' := [(1, .int 2), (0, .ref nb)]) hx hb dX1_init_140 hl (k := 0) rfl (by decide) (by decide) rfl (fun ls hl => ?_)
  refine lv_goto (tgt := 105) hx hb dX1_init_143 (by decide) ?_
  have hP := hP.sub (ws' := [(nb, .inr (1, [.ref q_1, .ref q_3, .ref q_5, .ref q_7, .ref q_12, .ref q_15, .ref q_18, .ref q_21, .ref q_23, .ref q_25, .int 0])), (q_1, .inl (c_2, 6, .inr (.inr (.inr (.inr f_46))))), (q_3, .inl (c_4, 6, .inr (.inr (.inr (.inr f_52)))))]) [0, 1, 2] rfl
  have hD := hD.sub (ws' := [(nb, .inr (1, [.ref q_1, .ref q_3, .ref q_5, .ref q_7, .ref q_12, .ref q_15, .ref q_18, .ref q_21, .ref q_23, .ref q_25, .int 0])), (q_1, .inl (c_2, 6, .inr (.inr (.inr (.inr f_46))))), (q_3, .inl (c_4, 6, .inr (.inr (.inr (.inr f_52)))))]) [0, 1, 2] (by decide) rfl
  refine lv_iload_n hx hb dX1_init_105 rfl (lv_at hl 0 rfl) ?_
  refine lv_aload_n hx hb dX1_init_106 rfl (lv_at hl 1 rfl) ?_
  refine va_get (D := (dC, dI)) (ci := 1) (v := .ref q_1) (C := RX1) (T := TX1) (N := 11) hx hb hts fin_X1_init_X1 hown hK hP 0 rfl rfl 0 (by decide) (hts (.fieldLink RX1 11 "PatternGate$Compiler" "wholes" "[LPatternGate$Part;") (List.mem_of_getElem? (i := 5) (by decide +kernel))) (fun _ h9 => h9) rfl dX1_init_107 ?_
  refine va_alen (v := 6) hx hb hK hP 1 0 rfl rfl rfl dX1_init_110 ?_
  refine lv_icmp_ge (tgt := 146) hx hb dX1_init_111 (by decide) (fun k_53 => absurd k_53 (by decide)) (fun k_53 => ?_)
  refine lv_aload_n hx hb dX1_init_114 rfl (lv_at hl 1 rfl) ?_
  refine va_get (D := (dC, dI)) (ci := 1) (v := .ref q_1) (C := RX1) (T := TX1) (N := 11) hx hb hts fin_X1_init_X1 hown hK hP 0 rfl rfl 0 (by decide) (hts (.fieldLink RX1 11 "PatternGate$Compiler" "wholes" "[LPatternGate$Part;") (List.mem_of_getElem? (i := 5) (by decide +kernel))) (fun _ h9 => h9) rfl dX1_init_115 ?_
  refine lv_iload_n hx hb dX1_init_118 rfl (lv_at hl 0 rfl) ?_
  refine va_new (ci := 4) (fs := [.null, .null, .int 0, .int 0, .int 0, .int 0, .int 0, .int 0]) (C := RX4) (T := TX4) (N := 8) hx hb hts fin_X1_init_X4 tyX4 tyX4_ok hown (hts (.classLink RX1 9 RX4) (List.mem_of_getElem? (i := 4) (by decide +kernel))) (hts (.instantiable RX4 8) (List.mem_of_getElem? (i := 9) (by decide +kernel))) (hts (.initialized RX4) (List.mem_of_getElem? (i := 10) (by decide +kernel))) hK hP hD hS hA rfl (fun j hj => by rcases (show j = 0 ∨ j = 1 ∨ j = 2 ∨ j = 3 ∨ j = 4 ∨ j = 5 ∨ j = 6 ∨ j = 7 by omega) with rfl | rfl | rfl | rfl | rfl | rfl | rfl | rfl <;> rfl) (Nat.le_of_ble_eq_true rfl) (Nat.le_of_ble_eq_true rfl) dX1_init_119 (fun q_54 H hP hD hS => ?_)
  have hP : va_P (dC, dI) vwCl [(nb, .inr (1, [.ref q_1, .ref q_3, .ref q_5, .ref q_7, .ref q_12, .ref q_15, .ref q_18, .ref q_21, .ref q_23, .ref q_25, .int 0])), (q_1, .inl (c_2, 6, .inr (.inr (.inr (.inr f_46))))), (q_3, .inl (c_4, 6, .inr (.inr (.inr (.inr f_52))))), (q_54, .inr (4, [.null, .null, .int 0, .int 0, .int 0, .int 0, .int 0, .int 0]))] H := hP
  have hD : va_D A [(nb, .inr (1, [.ref q_1, .ref q_3, .ref q_5, .ref q_7, .ref q_12, .ref q_15, .ref q_18, .ref q_21, .ref q_23, .ref q_25, .int 0])), (q_1, .inl (c_2, 6, .inr (.inr (.inr (.inr f_46))))), (q_3, .inl (c_4, 6, .inr (.inr (.inr (.inr f_52))))), (q_54, .inr (4, [.null, .null, .int 0, .int 0, .int 0, .int 0, .int 0, .int 0]))] := hD
  refine W.widen (k := 45) (n := 5466) (by omega) (by omega) ?_
  refine lv_dup hx hb dX1_init_122 rfl ?_
  have hPc := hP.sub (ws' := [(q_54, .inr (4, [.null, .null, .int 0, .int 0, .int 0, .int 0, .int 0, .int 0]))]) [3] rfl
  have hKc := hK.sub (tys' := []) [] rfl
  have hDc := hD.sub (ws' := [(q_54, .inr (4, [.null, .null, .int 0, .int 0, .int 0, .int 0, .int 0, .int 0]))]) [3] (by decide) rfl
  have hFc := va_free (wc := [(q_54, .inr (4, [.null, .null, .int 0, .int 0, .int 0, .int 0, .int 0, .int 0]))]) hD hS hA [3] rfl
  refine va_callv (va_runIN (As := []) (rest := [.ref q_54, .int 2, .ref q_1]) ⟨hx, hb, hml, hown, hts⟩ (c_Part l dC dI q_54 H.size) ⟨va_cnB 0 hts mg_X1_init_X4_init_24 rfl rfl rfl hN24 (hts (.initialized RX4) (List.mem_of_getElem? (i := 10) (by decide +kernel))) (by decide +kernel) ⟨Nat.le_of_ble_eq_true rfl, Nat.le_of_ble_eq_true rfl⟩, rfl, (hts (.instanceMethod yX4_init) (List.mem_of_getElem? (i := 38) (by decide +kernel)))⟩ ⟨fun a U g mk q => by obtain ⟨q0, q1, qP, qK, qD, qE0⟩ := q; exact ⟨q0, q1, qP, va_K.moved (u := U) (U := U.calling g mk a) (Vm.Alike.refl U.vm) qK, qD, va_Nw.same rfl (rfl : U.vm = (U.calling g mk a).vm) qE0⟩, fun U hU hW => ⟨rfl, by rw [hU], by rw [hU]; exact hPc, va_K.moved hW.alike hKc, hDc.weaken (fun _ _ _ _ => trivial), va_Nw.warmM hW hN11⟩⟩ rfl rfl hl.1 rfl (lv_room (Nat.le_of_ble_eq_true rfl)) dX1_init_123 ⟨Nat.le_of_ble_eq_true rfl, Nat.le_of_ble_eq_true rfl⟩) hS (fun q _ h => hFc q h) hFc (fun u t H1 locs ht hvm hw hB hz1 hk1 hS => ?_)
  obtain ⟨r_57, n_58, hP1, hK1, hD1⟩ := hB
  rw [ht] at hP1
  obtain ⟨hP, hD⟩ := va_join (wr := [(nb, .inr (1, [.ref q_1, .ref q_3, .ref q_5, .ref q_7, .ref q_12, .ref q_15, .ref q_18, .ref q_21, .ref q_23, .ref q_25, .int 0])), (q_1, .inl (c_2, 6, .inr (.inr (.inr (.inr f_46))))), (q_3, .inl (c_4, 6, .inr (.inr (.inr (.inr f_52)))))]) (w1 := [(q_54, .inr (4, [.ref r_57, .ref n_58, .int 0, .int 0, .int 0, .int 0, .int 0, .int 0]))]) hP hD [3] [0, 1, 2] rfl rfl (by decide) (by decide) hk1 hFc hP1 hD1
  generalize H1 = H at hP hS ⊢
  have hP : va_P (dC, dI) vwCl [(nb, .inr (1, [.ref q_1, .ref q_3, .ref q_5, .ref q_7, .ref q_12, .ref q_15, .ref q_18, .ref q_21, .ref q_23, .ref q_25, .int 0])), (q_1, .inl (c_2, 6, .inr (.inr (.inr (.inr f_46))))), (q_3, .inl (c_4, 6, .inr (.inr (.inr (.inr f_52))))), (q_54, .inr (4, [.ref r_57, .ref n_58, .int 0, .int 0, .int 0, .int 0, .int 0, .int 0]))] H := hP
  have hD : va_D A [(nb, .inr (1, [.ref q_1, .ref q_3, .ref q_5, .ref q_7, .ref q_12, .ref q_15, .ref q_18, .ref q_21, .ref q_23, .ref q_25, .int 0])), (q_1, .inl (c_2, 6, .inr (.inr (.inr (.inr f_46))))), (q_3, .inl (c_4, 6, .inr (.inr (.inr (.inr f_52))))), (q_54, .inr (4, [.ref r_57, .ref n_58, .int 0, .int 0, .int 0, .int 0, .int 0, .int 0]))] := hD
  refine W.widen (k := 50) (n := 5778) (by omega) (by omega) ?_
  refine va_astq (r := (RX4, TX4, 8)) hx hb hK hP hD hS 1 0 3 4 rfl rfl rfl rfl (i := 2) (by unfold vp_in; decide +kernel) dX1_init_126 (fun H locs hP hD hS => ?_)
  generalize hf_f_59 : va_up f_46 _ _ = f_59 at hP hD
  have hP : va_P (dC, dI) vwCl [(nb, .inr (1, [.ref q_1, .ref q_3, .ref q_5, .ref q_7, .ref q_12, .ref q_15, .ref q_18, .ref q_21, .ref q_23, .ref q_25, .int 0])), (q_1, .inl (c_2, 6, .inr (.inr (.inr (.inr f_59))))), (q_3, .inl (c_4, 6, .inr (.inr (.inr (.inr f_52))))), (q_54, .inr (4, [.ref r_57, .ref n_58, .int 0, .int 0, .int 0, .int 0, .int 0, .int 0]))] H := hP
  have hD : va_D A [(nb, .inr (1, [.ref q_1, .ref q_3, .ref q_5, .ref q_7, .ref q_12, .ref q_15, .ref q_18, .ref q_21, .ref q_23, .ref q_25, .int 0])), (q_1, .inl (c_2, 6, .inr (.inr (.inr (.inr f_59))))), (q_3, .inl (c_4, 6, .inr (.inr (.inr (.inr f_52))))), (q_54, .inr (4, [.ref r_57, .ref n_58, .int 0, .int 0, .int 0, .int 0, .int 0, .int 0]))] := hD
  refine lv_aload_n hx hb dX1_init_127 rfl (lv_at hl 1 rfl) ?_
  refine va_get (D := (dC, dI)) (ci := 1) (v := .ref q_3) (C := RX1) (T := TX1) (N := 11) hx hb hts fin_X1_init_X1 hown hK hP 0 rfl rfl 1 (by decide) (hts (.fieldLink RX1 17 "PatternGate$Compiler" "branches" "[LPatternGate$Part;") (List.mem_of_getElem? (i := 6) (by decide +kernel))) (fun _ h9 => h9) rfl dX1_init_128 ?_
  refine lv_iload_n hx hb dX1_init_131 rfl (lv_at hl 0 rfl) ?_
  refine va_new (ci := 4) (fs := [.null, .null, .int 0, .int 0, .int 0, .int 0, .int 0, .int 0]) (C := RX4) (T := TX4) (N := 8) hx hb hts fin_X1_init_X4 tyX4 tyX4_ok hown (hts (.classLink RX1 9 RX4) (List.mem_of_getElem? (i := 4) (by decide +kernel))) (hts (.instantiable RX4 8) (List.mem_of_getElem? (i := 9) (by decide +kernel))) (hts (.initialized RX4) (List.mem_of_getElem? (i := 10) (by decide +kernel))) hK hP hD hS hA rfl (fun j hj => by rcases (show j = 0 ∨ j = 1 ∨ j = 2 ∨ j = 3 ∨ j = 4 ∨ j = 5 ∨ j = 6 ∨ j = 7 by omega) with rfl | rfl | rfl | rfl | rfl | rfl | rfl | rfl <;> rfl) (Nat.le_of_ble_eq_true rfl) (Nat.le_of_ble_eq_true rfl) dX1_init_132 (fun q_60 H hP hD hS => ?_)
  have hP : va_P (dC, dI) vwCl [(nb, .inr (1, [.ref q_1, .ref q_3, .ref q_5, .ref q_7, .ref q_12, .ref q_15, .ref q_18, .ref q_21, .ref q_23, .ref q_25, .int 0])), (q_1, .inl (c_2, 6, .inr (.inr (.inr (.inr f_59))))), (q_3, .inl (c_4, 6, .inr (.inr (.inr (.inr f_52))))), (q_54, .inr (4, [.ref r_57, .ref n_58, .int 0, .int 0, .int 0, .int 0, .int 0, .int 0])), (q_60, .inr (4, [.null, .null, .int 0, .int 0, .int 0, .int 0, .int 0, .int 0]))] H := hP
  have hD : va_D A [(nb, .inr (1, [.ref q_1, .ref q_3, .ref q_5, .ref q_7, .ref q_12, .ref q_15, .ref q_18, .ref q_21, .ref q_23, .ref q_25, .int 0])), (q_1, .inl (c_2, 6, .inr (.inr (.inr (.inr f_59))))), (q_3, .inl (c_4, 6, .inr (.inr (.inr (.inr f_52))))), (q_54, .inr (4, [.ref r_57, .ref n_58, .int 0, .int 0, .int 0, .int 0, .int 0, .int 0])), (q_60, .inr (4, [.null, .null, .int 0, .int 0, .int 0, .int 0, .int 0, .int 0]))] := hD
  refine W.widen (k := 51) (n := 5786) (by omega) (by omega) ?_
  refine lv_dup hx hb dX1_init_135 rfl ?_
  have hPc := hP.sub (ws' := [(q_60, .inr (4, [.null, .null, .int 0, .int 0, .int 0, .int 0, .int 0, .int 0]))]) [4] rfl
  have hKc := hK.sub (tys' := []) [] rfl
  have hDc := hD.sub (ws' := [(q_60, .inr (4, [.null, .null, .int 0, .int 0, .int 0, .int 0, .int 0, .int 0]))]) [4] (by decide) rfl
  have hFc := va_free (wc := [(q_60, .inr (4, [.null, .null, .int 0, .int 0, .int 0, .int 0, .int 0, .int 0]))]) hD hS hA [4] rfl
  refine va_callv (va_runIN (As := []) (rest := [.ref q_60, .int 2, .ref q_3]) ⟨hx, hb, hml, hown, hts⟩ (c_Part l dC dI q_60 H.size) ⟨va_cnB 0 hts mg_X1_init_X4_init_24 rfl rfl rfl hN24 (hts (.initialized RX4) (List.mem_of_getElem? (i := 10) (by decide +kernel))) (by decide +kernel) ⟨Nat.le_of_ble_eq_true rfl, Nat.le_of_ble_eq_true rfl⟩, rfl, (hts (.instanceMethod yX4_init) (List.mem_of_getElem? (i := 38) (by decide +kernel)))⟩ ⟨fun a U g mk q => by obtain ⟨q0, q1, qP, qK, qD, qE0⟩ := q; exact ⟨q0, q1, qP, va_K.moved (u := U) (U := U.calling g mk a) (Vm.Alike.refl U.vm) qK, qD, va_Nw.same rfl (rfl : U.vm = (U.calling g mk a).vm) qE0⟩, fun U hU hW => ⟨rfl, by rw [hU], by rw [hU]; exact hPc, va_K.moved hW.alike hKc, hDc.weaken (fun _ _ _ _ => trivial), va_Nw.warmM hW hN11⟩⟩ rfl rfl hl.1 rfl (lv_room (Nat.le_of_ble_eq_true rfl)) dX1_init_136 ⟨Nat.le_of_ble_eq_true rfl, Nat.le_of_ble_eq_true rfl⟩) hS (fun q _ h => hFc q h) hFc (fun u t H1 locs ht hvm hw hB hz1 hk1 hS => ?_)
  obtain ⟨r_63, n_64, hP1, hK1, hD1⟩ := hB
  rw [ht] at hP1
  obtain ⟨hP, hD⟩ := va_join (wr := [(nb, .inr (1, [.ref q_1, .ref q_3, .ref q_5, .ref q_7, .ref q_12, .ref q_15, .ref q_18, .ref q_21, .ref q_23, .ref q_25, .int 0])), (q_1, .inl (c_2, 6, .inr (.inr (.inr (.inr f_59))))), (q_3, .inl (c_4, 6, .inr (.inr (.inr (.inr f_52))))), (q_54, .inr (4, [.ref r_57, .ref n_58, .int 0, .int 0, .int 0, .int 0, .int 0, .int 0]))]) (w1 := [(q_60, .inr (4, [.ref r_63, .ref n_64, .int 0, .int 0, .int 0, .int 0, .int 0, .int 0]))]) hP hD [4] [0, 1, 2, 3] rfl rfl (by decide) (by decide) hk1 hFc hP1 hD1
  generalize H1 = H at hP hS ⊢
  have hP : va_P (dC, dI) vwCl [(nb, .inr (1, [.ref q_1, .ref q_3, .ref q_5, .ref q_7, .ref q_12, .ref q_15, .ref q_18, .ref q_21, .ref q_23, .ref q_25, .int 0])), (q_1, .inl (c_2, 6, .inr (.inr (.inr (.inr f_59))))), (q_3, .inl (c_4, 6, .inr (.inr (.inr (.inr f_52))))), (q_54, .inr (4, [.ref r_57, .ref n_58, .int 0, .int 0, .int 0, .int 0, .int 0, .int 0])), (q_60, .inr (4, [.ref r_63, .ref n_64, .int 0, .int 0, .int 0, .int 0, .int 0, .int 0]))] H := hP
  have hD : va_D A [(nb, .inr (1, [.ref q_1, .ref q_3, .ref q_5, .ref q_7, .ref q_12, .ref q_15, .ref q_18, .ref q_21, .ref q_23, .ref q_25, .int 0])), (q_1, .inl (c_2, 6, .inr (.inr (.inr (.inr f_59))))), (q_3, .inl (c_4, 6, .inr (.inr (.inr (.inr f_52))))), (q_54, .inr (4, [.ref r_57, .ref n_58, .int 0, .int 0, .int 0, .int 0, .int 0, .int 0])), (q_60, .inr (4, [.ref r_63, .ref n_64, .int 0, .int 0, .int 0, .int 0, .int 0, .int 0]))] := hD
  refine W.widen (k := 56) (n := 6098) (by omega) (by omega) ?_
  refine va_astq (r := (RX4, TX4, 8)) hx hb hK hP hD hS 2 1 4 4 rfl rfl rfl rfl (i := 2) (by unfold vp_in; decide +kernel) dX1_init_139 (fun H locs hP hD hS => ?_)
  generalize hf_f_65 : va_up f_52 _ _ = f_65 at hP hD
  have hP : va_P (dC, dI) vwCl [(nb, .inr (1, [.ref q_1, .ref q_3, .ref q_5, .ref q_7, .ref q_12, .ref q_15, .ref q_18, .ref q_21, .ref q_23, .ref q_25, .int 0])), (q_1, .inl (c_2, 6, .inr (.inr (.inr (.inr f_59))))), (q_3, .inl (c_4, 6, .inr (.inr (.inr (.inr f_65))))), (q_54, .inr (4, [.ref r_57, .ref n_58, .int 0, .int 0, .int 0, .int 0, .int 0, .int 0])), (q_60, .inr (4, [.ref r_63, .ref n_64, .int 0, .int 0, .int 0, .int 0, .int 0, .int 0]))] H := hP
  have hD : va_D A [(nb, .inr (1, [.ref q_1, .ref q_3, .ref q_5, .ref q_7, .ref q_12, .ref q_15, .ref q_18, .ref q_21, .ref q_23, .ref q_25, .int 0])), (q_1, .inl (c_2, 6, .inr (.inr (.inr (.inr f_59))))), (q_3, .inl (c_4, 6, .inr (.inr (.inr (.inr f_65))))), (q_54, .inr (4, [.ref r_57, .ref n_58, .int 0, .int 0, .int 0, .int 0, .int 0, .int 0])), (q_60, .inr (4, [.ref r_63, .ref n_64, .int 0, .int 0, .int 0, .int 0, .int 0, .int 0]))] := hD
  refine lv_iinc (v := 3) (lv' := [(1, .int 3), (0, .ref nb)]) hx hb dX1_init_140 hl (k := 0) rfl (by decide) (by decide) rfl (fun ls hl => ?_)
  refine lv_goto (tgt := 105) hx hb dX1_init_143 (by decide) ?_
  have hP := hP.sub (ws' := [(nb, .inr (1, [.ref q_1, .ref q_3, .ref q_5, .ref q_7, .ref q_12, .ref q_15, .ref q_18, .ref q_21, .ref q_23, .ref q_25, .int 0])), (q_1, .inl (c_2, 6, .inr (.inr (.inr (.inr f_59))))), (q_3, .inl (c_4, 6, .inr (.inr (.inr (.inr f_65)))))]) [0, 1, 2] rfl
  have hD := hD.sub (ws' := [(nb, .inr (1, [.ref q_1, .ref q_3, .ref q_5, .ref q_7, .ref q_12, .ref q_15, .ref q_18, .ref q_21, .ref q_23, .ref q_25, .int 0])), (q_1, .inl (c_2, 6, .inr (.inr (.inr (.inr f_59))))), (q_3, .inl (c_4, 6, .inr (.inr (.inr (.inr f_65)))))]) [0, 1, 2] (by decide) rfl
  refine lv_iload_n hx hb dX1_init_105 rfl (lv_at hl 0 rfl) ?_
  refine lv_aload_n hx hb dX1_init_106 rfl (lv_at hl 1 rfl) ?_
  refine va_get (D := (dC, dI)) (ci := 1) (v := .ref q_1) (C := RX1) (T := TX1) (N := 11) hx hb hts fin_X1_init_X1 hown hK hP 0 rfl rfl 0 (by decide) (hts (.fieldLink RX1 11 "PatternGate$Compiler" "wholes" "[LPatternGate$Part;") (List.mem_of_getElem? (i := 5) (by decide +kernel))) (fun _ h9 => h9) rfl dX1_init_107 ?_
  refine va_alen (v := 6) hx hb hK hP 1 0 rfl rfl rfl dX1_init_110 ?_
  refine lv_icmp_ge (tgt := 146) hx hb dX1_init_111 (by decide) (fun k_66 => absurd k_66 (by decide)) (fun k_66 => ?_)
  refine lv_aload_n hx hb dX1_init_114 rfl (lv_at hl 1 rfl) ?_
  refine va_get (D := (dC, dI)) (ci := 1) (v := .ref q_1) (C := RX1) (T := TX1) (N := 11) hx hb hts fin_X1_init_X1 hown hK hP 0 rfl rfl 0 (by decide) (hts (.fieldLink RX1 11 "PatternGate$Compiler" "wholes" "[LPatternGate$Part;") (List.mem_of_getElem? (i := 5) (by decide +kernel))) (fun _ h9 => h9) rfl dX1_init_115 ?_
  refine lv_iload_n hx hb dX1_init_118 rfl (lv_at hl 0 rfl) ?_
  refine va_new (ci := 4) (fs := [.null, .null, .int 0, .int 0, .int 0, .int 0, .int 0, .int 0]) (C := RX4) (T := TX4) (N := 8) hx hb hts fin_X1_init_X4 tyX4 tyX4_ok hown (hts (.classLink RX1 9 RX4) (List.mem_of_getElem? (i := 4) (by decide +kernel))) (hts (.instantiable RX4 8) (List.mem_of_getElem? (i := 9) (by decide +kernel))) (hts (.initialized RX4) (List.mem_of_getElem? (i := 10) (by decide +kernel))) hK hP hD hS hA rfl (fun j hj => by rcases (show j = 0 ∨ j = 1 ∨ j = 2 ∨ j = 3 ∨ j = 4 ∨ j = 5 ∨ j = 6 ∨ j = 7 by omega) with rfl | rfl | rfl | rfl | rfl | rfl | rfl | rfl <;> rfl) (Nat.le_of_ble_eq_true rfl) (Nat.le_of_ble_eq_true rfl) dX1_init_119 (fun q_67 H hP hD hS => ?_)
  have hP : va_P (dC, dI) vwCl [(nb, .inr (1, [.ref q_1, .ref q_3, .ref q_5, .ref q_7, .ref q_12, .ref q_15, .ref q_18, .ref q_21, .ref q_23, .ref q_25, .int 0])), (q_1, .inl (c_2, 6, .inr (.inr (.inr (.inr f_59))))), (q_3, .inl (c_4, 6, .inr (.inr (.inr (.inr f_65))))), (q_67, .inr (4, [.null, .null, .int 0, .int 0, .int 0, .int 0, .int 0, .int 0]))] H := hP
  have hD : va_D A [(nb, .inr (1, [.ref q_1, .ref q_3, .ref q_5, .ref q_7, .ref q_12, .ref q_15, .ref q_18, .ref q_21, .ref q_23, .ref q_25, .int 0])), (q_1, .inl (c_2, 6, .inr (.inr (.inr (.inr f_59))))), (q_3, .inl (c_4, 6, .inr (.inr (.inr (.inr f_65))))), (q_67, .inr (4, [.null, .null, .int 0, .int 0, .int 0, .int 0, .int 0, .int 0]))] := hD
  refine W.widen (k := 57) (n := 6106) (by omega) (by omega) ?_
  refine lv_dup hx hb dX1_init_122 rfl ?_
  have hPc := hP.sub (ws' := [(q_67, .inr (4, [.null, .null, .int 0, .int 0, .int 0, .int 0, .int 0, .int 0]))]) [3] rfl
  have hKc := hK.sub (tys' := []) [] rfl
  have hDc := hD.sub (ws' := [(q_67, .inr (4, [.null, .null, .int 0, .int 0, .int 0, .int 0, .int 0, .int 0]))]) [3] (by decide) rfl
  have hFc := va_free (wc := [(q_67, .inr (4, [.null, .null, .int 0, .int 0, .int 0, .int 0, .int 0, .int 0]))]) hD hS hA [3] rfl
  refine va_callv (va_runIN (As := []) (rest := [.ref q_67, .int 3, .ref q_1]) ⟨hx, hb, hml, hown, hts⟩ (c_Part l dC dI q_67 H.size) ⟨va_cnB 0 hts mg_X1_init_X4_init_24 rfl rfl rfl hN24 (hts (.initialized RX4) (List.mem_of_getElem? (i := 10) (by decide +kernel))) (by decide +kernel) ⟨Nat.le_of_ble_eq_true rfl, Nat.le_of_ble_eq_true rfl⟩, rfl, (hts (.instanceMethod yX4_init) (List.mem_of_getElem? (i := 38) (by decide +kernel)))⟩ ⟨fun a U g mk q => by obtain ⟨q0, q1, qP, qK, qD, qE0⟩ := q; exact ⟨q0, q1, qP, va_K.moved (u := U) (U := U.calling g mk a) (Vm.Alike.refl U.vm) qK, qD, va_Nw.same rfl (rfl : U.vm = (U.calling g mk a).vm) qE0⟩, fun U hU hW => ⟨rfl, by rw [hU], by rw [hU]; exact hPc, va_K.moved hW.alike hKc, hDc.weaken (fun _ _ _ _ => trivial), va_Nw.warmM hW hN11⟩⟩ rfl rfl hl.1 rfl (lv_room (Nat.le_of_ble_eq_true rfl)) dX1_init_123 ⟨Nat.le_of_ble_eq_true rfl, Nat.le_of_ble_eq_true rfl⟩) hS (fun q _ h => hFc q h) hFc (fun u t H1 locs ht hvm hw hB hz1 hk1 hS => ?_)
  obtain ⟨r_70, n_71, hP1, hK1, hD1⟩ := hB
  rw [ht] at hP1
  obtain ⟨hP, hD⟩ := va_join (wr := [(nb, .inr (1, [.ref q_1, .ref q_3, .ref q_5, .ref q_7, .ref q_12, .ref q_15, .ref q_18, .ref q_21, .ref q_23, .ref q_25, .int 0])), (q_1, .inl (c_2, 6, .inr (.inr (.inr (.inr f_59))))), (q_3, .inl (c_4, 6, .inr (.inr (.inr (.inr f_65)))))]) (w1 := [(q_67, .inr (4, [.ref r_70, .ref n_71, .int 0, .int 0, .int 0, .int 0, .int 0, .int 0]))]) hP hD [3] [0, 1, 2] rfl rfl (by decide) (by decide) hk1 hFc hP1 hD1
  generalize H1 = H at hP hS ⊢
  have hP : va_P (dC, dI) vwCl [(nb, .inr (1, [.ref q_1, .ref q_3, .ref q_5, .ref q_7, .ref q_12, .ref q_15, .ref q_18, .ref q_21, .ref q_23, .ref q_25, .int 0])), (q_1, .inl (c_2, 6, .inr (.inr (.inr (.inr f_59))))), (q_3, .inl (c_4, 6, .inr (.inr (.inr (.inr f_65))))), (q_67, .inr (4, [.ref r_70, .ref n_71, .int 0, .int 0, .int 0, .int 0, .int 0, .int 0]))] H := hP
  have hD : va_D A [(nb, .inr (1, [.ref q_1, .ref q_3, .ref q_5, .ref q_7, .ref q_12, .ref q_15, .ref q_18, .ref q_21, .ref q_23, .ref q_25, .int 0])), (q_1, .inl (c_2, 6, .inr (.inr (.inr (.inr f_59))))), (q_3, .inl (c_4, 6, .inr (.inr (.inr (.inr f_65))))), (q_67, .inr (4, [.ref r_70, .ref n_71, .int 0, .int 0, .int 0, .int 0, .int 0, .int 0]))] := hD
  refine W.widen (k := 62) (n := 6418) (by omega) (by omega) ?_
  refine va_astq (r := (RX4, TX4, 8)) hx hb hK hP hD hS 1 0 3 4 rfl rfl rfl rfl (i := 3) (by unfold vp_in; decide +kernel) dX1_init_126 (fun H locs hP hD hS => ?_)
  generalize hf_f_72 : va_up f_59 _ _ = f_72 at hP hD
  have hP : va_P (dC, dI) vwCl [(nb, .inr (1, [.ref q_1, .ref q_3, .ref q_5, .ref q_7, .ref q_12, .ref q_15, .ref q_18, .ref q_21, .ref q_23, .ref q_25, .int 0])), (q_1, .inl (c_2, 6, .inr (.inr (.inr (.inr f_72))))), (q_3, .inl (c_4, 6, .inr (.inr (.inr (.inr f_65))))), (q_67, .inr (4, [.ref r_70, .ref n_71, .int 0, .int 0, .int 0, .int 0, .int 0, .int 0]))] H := hP
  have hD : va_D A [(nb, .inr (1, [.ref q_1, .ref q_3, .ref q_5, .ref q_7, .ref q_12, .ref q_15, .ref q_18, .ref q_21, .ref q_23, .ref q_25, .int 0])), (q_1, .inl (c_2, 6, .inr (.inr (.inr (.inr f_72))))), (q_3, .inl (c_4, 6, .inr (.inr (.inr (.inr f_65))))), (q_67, .inr (4, [.ref r_70, .ref n_71, .int 0, .int 0, .int 0, .int 0, .int 0, .int 0]))] := hD
  refine lv_aload_n hx hb dX1_init_127 rfl (lv_at hl 1 rfl) ?_
  refine va_get (D := (dC, dI)) (ci := 1) (v := .ref q_3) (C := RX1) (T := TX1) (N := 11) hx hb hts fin_X1_init_X1 hown hK hP 0 rfl rfl 1 (by decide) (hts (.fieldLink RX1 17 "PatternGate$Compiler" "branches" "[LPatternGate$Part;") (List.mem_of_getElem? (i := 6) (by decide +kernel))) (fun _ h9 => h9) rfl dX1_init_128 ?_
  refine lv_iload_n hx hb dX1_init_131 rfl (lv_at hl 0 rfl) ?_
  refine va_new (ci := 4) (fs := [.null, .null, .int 0, .int 0, .int 0, .int 0, .int 0, .int 0]) (C := RX4) (T := TX4) (N := 8) hx hb hts fin_X1_init_X4 tyX4 tyX4_ok hown (hts (.classLink RX1 9 RX4) (List.mem_of_getElem? (i := 4) (by decide +kernel))) (hts (.instantiable RX4 8) (List.mem_of_getElem? (i := 9) (by decide +kernel))) (hts (.initialized RX4) (List.mem_of_getElem? (i := 10) (by decide +kernel))) hK hP hD hS hA rfl (fun j hj => by rcases (show j = 0 ∨ j = 1 ∨ j = 2 ∨ j = 3 ∨ j = 4 ∨ j = 5 ∨ j = 6 ∨ j = 7 by omega) with rfl | rfl | rfl | rfl | rfl | rfl | rfl | rfl <;> rfl) (Nat.le_of_ble_eq_true rfl) (Nat.le_of_ble_eq_true rfl) dX1_init_132 (fun q_73 H hP hD hS => ?_)
  have hP : va_P (dC, dI) vwCl [(nb, .inr (1, [.ref q_1, .ref q_3, .ref q_5, .ref q_7, .ref q_12, .ref q_15, .ref q_18, .ref q_21, .ref q_23, .ref q_25, .int 0])), (q_1, .inl (c_2, 6, .inr (.inr (.inr (.inr f_72))))), (q_3, .inl (c_4, 6, .inr (.inr (.inr (.inr f_65))))), (q_67, .inr (4, [.ref r_70, .ref n_71, .int 0, .int 0, .int 0, .int 0, .int 0, .int 0])), (q_73, .inr (4, [.null, .null, .int 0, .int 0, .int 0, .int 0, .int 0, .int 0]))] H := hP
  have hD : va_D A [(nb, .inr (1, [.ref q_1, .ref q_3, .ref q_5, .ref q_7, .ref q_12, .ref q_15, .ref q_18, .ref q_21, .ref q_23, .ref q_25, .int 0])), (q_1, .inl (c_2, 6, .inr (.inr (.inr (.inr f_72))))), (q_3, .inl (c_4, 6, .inr (.inr (.inr (.inr f_65))))), (q_67, .inr (4, [.ref r_70, .ref n_71, .int 0, .int 0, .int 0, .int 0, .int 0, .int 0])), (q_73, .inr (4, [.null, .null, .int 0, .int 0, .int 0, .int 0, .int 0, .int 0]))] := hD
  refine W.widen (k := 63) (n := 6426) (by omega) (by omega) ?_
  refine lv_dup hx hb dX1_init_135 rfl ?_
  have hPc := hP.sub (ws' := [(q_73, .inr (4, [.null, .null, .int 0, .int 0, .int 0, .int 0, .int 0, .int 0]))]) [4] rfl
  have hKc := hK.sub (tys' := []) [] rfl
  have hDc := hD.sub (ws' := [(q_73, .inr (4, [.null, .null, .int 0, .int 0, .int 0, .int 0, .int 0, .int 0]))]) [4] (by decide) rfl
  have hFc := va_free (wc := [(q_73, .inr (4, [.null, .null, .int 0, .int 0, .int 0, .int 0, .int 0, .int 0]))]) hD hS hA [4] rfl
  refine va_callv (va_runIN (As := []) (rest := [.ref q_73, .int 3, .ref q_3]) ⟨hx, hb, hml, hown, hts⟩ (c_Part l dC dI q_73 H.size) ⟨va_cnB 0 hts mg_X1_init_X4_init_24 rfl rfl rfl hN24 (hts (.initialized RX4) (List.mem_of_getElem? (i := 10) (by decide +kernel))) (by decide +kernel) ⟨Nat.le_of_ble_eq_true rfl, Nat.le_of_ble_eq_true rfl⟩, rfl, (hts (.instanceMethod yX4_init) (List.mem_of_getElem? (i := 38) (by decide +kernel)))⟩ ⟨fun a U g mk q => by obtain ⟨q0, q1, qP, qK, qD, qE0⟩ := q; exact ⟨q0, q1, qP, va_K.moved (u := U) (U := U.calling g mk a) (Vm.Alike.refl U.vm) qK, qD, va_Nw.same rfl (rfl : U.vm = (U.calling g mk a).vm) qE0⟩, fun U hU hW => ⟨rfl, by rw [hU], by rw [hU]; exact hPc, va_K.moved hW.alike hKc, hDc.weaken (fun _ _ _ _ => trivial), va_Nw.warmM hW hN11⟩⟩ rfl rfl hl.1 rfl (lv_room (Nat.le_of_ble_eq_true rfl)) dX1_init_136 ⟨Nat.le_of_ble_eq_true rfl, Nat.le_of_ble_eq_true rfl⟩) hS (fun q _ h => hFc q h) hFc (fun u t H1 locs ht hvm hw hB hz1 hk1 hS => ?_)
  obtain ⟨r_76, n_77, hP1, hK1, hD1⟩ := hB
  rw [ht] at hP1
  obtain ⟨hP, hD⟩ := va_join (wr := [(nb, .inr (1, [.ref q_1, .ref q_3, .ref q_5, .ref q_7, .ref q_12, .ref q_15, .ref q_18, .ref q_21, .ref q_23, .ref q_25, .int 0])), (q_1, .inl (c_2, 6, .inr (.inr (.inr (.inr f_72))))), (q_3, .inl (c_4, 6, .inr (.inr (.inr (.inr f_65))))), (q_67, .inr (4, [.ref r_70, .ref n_71, .int 0, .int 0, .int 0, .int 0, .int 0, .int 0]))]) (w1 := [(q_73, .inr (4, [.ref r_76, .ref n_77, .int 0, .int 0, .int 0, .int 0, .int 0, .int 0]))]) hP hD [4] [0, 1, 2, 3] rfl rfl (by decide) (by decide) hk1 hFc hP1 hD1
  generalize H1 = H at hP hS ⊢
  have hP : va_P (dC, dI) vwCl [(nb, .inr (1, [.ref q_1, .ref q_3, .ref q_5, .ref q_7, .ref q_12, .ref q_15, .ref q_18, .ref q_21, .ref q_23, .ref q_25, .int 0])), (q_1, .inl (c_2, 6, .inr (.inr (.inr (.inr f_72))))), (q_3, .inl (c_4, 6, .inr (.inr (.inr (.inr f_65))))), (q_67, .inr (4, [.ref r_70, .ref n_71, .int 0, .int 0, .int 0, .int 0, .int 0, .int 0])), (q_73, .inr (4, [.ref r_76, .ref n_77, .int 0, .int 0, .int 0, .int 0, .int 0, .int 0]))] H := hP
  have hD : va_D A [(nb, .inr (1, [.ref q_1, .ref q_3, .ref q_5, .ref q_7, .ref q_12, .ref q_15, .ref q_18, .ref q_21, .ref q_23, .ref q_25, .int 0])), (q_1, .inl (c_2, 6, .inr (.inr (.inr (.inr f_72))))), (q_3, .inl (c_4, 6, .inr (.inr (.inr (.inr f_65))))), (q_67, .inr (4, [.ref r_70, .ref n_71, .int 0, .int 0, .int 0, .int 0, .int 0, .int 0])), (q_73, .inr (4, [.ref r_76, .ref n_77, .int 0, .int 0, .int 0, .int 0, .int 0, .int 0]))] := hD
  refine W.widen (k := 68) (n := 6738) (by omega) (by omega) ?_
  refine va_astq (r := (RX4, TX4, 8)) hx hb hK hP hD hS 2 1 4 4 rfl rfl rfl rfl (i := 3) (by unfold vp_in; decide +kernel) dX1_init_139 (fun H locs hP hD hS => ?_)
  generalize hf_f_78 : va_up f_65 _ _ = f_78 at hP hD
  have hP : va_P (dC, dI) vwCl [(nb, .inr (1, [.ref q_1, .ref q_3, .ref q_5, .ref q_7, .ref q_12, .ref q_15, .ref q_18, .ref q_21, .ref q_23, .ref q_25, .int 0])), (q_1, .inl (c_2, 6, .inr (.inr (.inr (.inr f_72))))), (q_3, .inl (c_4, 6, .inr (.inr (.inr (.inr f_78))))), (q_67, .inr (4, [.ref r_70, .ref n_71, .int 0, .int 0, .int 0, .int 0, .int 0, .int 0])), (q_73, .inr (4, [.ref r_76, .ref n_77, .int 0, .int 0, .int 0, .int 0, .int 0, .int 0]))] H := hP
  have hD : va_D A [(nb, .inr (1, [.ref q_1, .ref q_3, .ref q_5, .ref q_7, .ref q_12, .ref q_15, .ref q_18, .ref q_21, .ref q_23, .ref q_25, .int 0])), (q_1, .inl (c_2, 6, .inr (.inr (.inr (.inr f_72))))), (q_3, .inl (c_4, 6, .inr (.inr (.inr (.inr f_78))))), (q_67, .inr (4, [.ref r_70, .ref n_71, .int 0, .int 0, .int 0, .int 0, .int 0, .int 0])), (q_73, .inr (4, [.ref r_76, .ref n_77, .int 0, .int 0, .int 0, .int 0, .int 0, .int 0]))] := hD
  refine lv_iinc (v := 4) (lv' := [(1, .int 4), (0, .ref nb)]) hx hb dX1_init_140 hl (k := 0) rfl (by decide) (by decide) rfl (fun ls hl => ?_)
  refine lv_goto (tgt := 105) hx hb dX1_init_143 (by decide) ?_
  have hP := hP.sub (ws' := [(nb, .inr (1, [.ref q_1, .ref q_3, .ref q_5, .ref q_7, .ref q_12, .ref q_15, .ref q_18, .ref q_21, .ref q_23, .ref q_25, .int 0])), (q_1, .inl (c_2, 6, .inr (.inr (.inr (.inr f_72))))), (q_3, .inl (c_4, 6, .inr (.inr (.inr (.inr f_78)))))]) [0, 1, 2] rfl
  have hD := hD.sub (ws' := [(nb, .inr (1, [.ref q_1, .ref q_3, .ref q_5, .ref q_7, .ref q_12, .ref q_15, .ref q_18, .ref q_21, .ref q_23, .ref q_25, .int 0])), (q_1, .inl (c_2, 6, .inr (.inr (.inr (.inr f_72))))), (q_3, .inl (c_4, 6, .inr (.inr (.inr (.inr f_78)))))]) [0, 1, 2] (by decide) rfl
  refine lv_iload_n hx hb dX1_init_105 rfl (lv_at hl 0 rfl) ?_
  refine lv_aload_n hx hb dX1_init_106 rfl (lv_at hl 1 rfl) ?_
  refine va_get (D := (dC, dI)) (ci := 1) (v := .ref q_1) (C := RX1) (T := TX1) (N := 11) hx hb hts fin_X1_init_X1 hown hK hP 0 rfl rfl 0 (by decide) (hts (.fieldLink RX1 11 "PatternGate$Compiler" "wholes" "[LPatternGate$Part;") (List.mem_of_getElem? (i := 5) (by decide +kernel))) (fun _ h9 => h9) rfl dX1_init_107 ?_
  refine va_alen (v := 6) hx hb hK hP 1 0 rfl rfl rfl dX1_init_110 ?_
  refine lv_icmp_ge (tgt := 146) hx hb dX1_init_111 (by decide) (fun k_79 => absurd k_79 (by decide)) (fun k_79 => ?_)
  refine lv_aload_n hx hb dX1_init_114 rfl (lv_at hl 1 rfl) ?_
  refine va_get (D := (dC, dI)) (ci := 1) (v := .ref q_1) (C := RX1) (T := TX1) (N := 11) hx hb hts fin_X1_init_X1 hown hK hP 0 rfl rfl 0 (by decide) (hts (.fieldLink RX1 11 "PatternGate$Compiler" "wholes" "[LPatternGate$Part;") (List.mem_of_getElem? (i := 5) (by decide +kernel))) (fun _ h9 => h9) rfl dX1_init_115 ?_
  refine lv_iload_n hx hb dX1_init_118 rfl (lv_at hl 0 rfl) ?_
  refine va_new (ci := 4) (fs := [.null, .null, .int 0, .int 0, .int 0, .int 0, .int 0, .int 0]) (C := RX4) (T := TX4) (N := 8) hx hb hts fin_X1_init_X4 tyX4 tyX4_ok hown (hts (.classLink RX1 9 RX4) (List.mem_of_getElem? (i := 4) (by decide +kernel))) (hts (.instantiable RX4 8) (List.mem_of_getElem? (i := 9) (by decide +kernel))) (hts (.initialized RX4) (List.mem_of_getElem? (i := 10) (by decide +kernel))) hK hP hD hS hA rfl (fun j hj => by rcases (show j = 0 ∨ j = 1 ∨ j = 2 ∨ j = 3 ∨ j = 4 ∨ j = 5 ∨ j = 6 ∨ j = 7 by omega) with rfl | rfl | rfl | rfl | rfl | rfl | rfl | rfl <;> rfl) (Nat.le_of_ble_eq_true rfl) (Nat.le_of_ble_eq_true rfl) dX1_init_119 (fun q_80 H hP hD hS => ?_)
  have hP : va_P (dC, dI) vwCl [(nb, .inr (1, [.ref q_1, .ref q_3, .ref q_5, .ref q_7, .ref q_12, .ref q_15, .ref q_18, .ref q_21, .ref q_23, .ref q_25, .int 0])), (q_1, .inl (c_2, 6, .inr (.inr (.inr (.inr f_72))))), (q_3, .inl (c_4, 6, .inr (.inr (.inr (.inr f_78))))), (q_80, .inr (4, [.null, .null, .int 0, .int 0, .int 0, .int 0, .int 0, .int 0]))] H := hP
  have hD : va_D A [(nb, .inr (1, [.ref q_1, .ref q_3, .ref q_5, .ref q_7, .ref q_12, .ref q_15, .ref q_18, .ref q_21, .ref q_23, .ref q_25, .int 0])), (q_1, .inl (c_2, 6, .inr (.inr (.inr (.inr f_72))))), (q_3, .inl (c_4, 6, .inr (.inr (.inr (.inr f_78))))), (q_80, .inr (4, [.null, .null, .int 0, .int 0, .int 0, .int 0, .int 0, .int 0]))] := hD
  refine W.widen (k := 69) (n := 6746) (by omega) (by omega) ?_
  refine lv_dup hx hb dX1_init_122 rfl ?_
  have hPc := hP.sub (ws' := [(q_80, .inr (4, [.null, .null, .int 0, .int 0, .int 0, .int 0, .int 0, .int 0]))]) [3] rfl
  have hKc := hK.sub (tys' := []) [] rfl
  have hDc := hD.sub (ws' := [(q_80, .inr (4, [.null, .null, .int 0, .int 0, .int 0, .int 0, .int 0, .int 0]))]) [3] (by decide) rfl
  have hFc := va_free (wc := [(q_80, .inr (4, [.null, .null, .int 0, .int 0, .int 0, .int 0, .int 0, .int 0]))]) hD hS hA [3] rfl
  refine va_callv (va_runIN (As := []) (rest := [.ref q_80, .int 4, .ref q_1]) ⟨hx, hb, hml, hown, hts⟩ (c_Part l dC dI q_80 H.size) ⟨va_cnB 0 hts mg_X1_init_X4_init_24 rfl rfl rfl hN24 (hts (.initialized RX4) (List.mem_of_getElem? (i := 10) (by decide +kernel))) (by decide +kernel) ⟨Nat.le_of_ble_eq_true rfl, Nat.le_of_ble_eq_true rfl⟩, rfl, (hts (.instanceMethod yX4_init) (List.mem_of_getElem? (i := 38) (by decide +kernel)))⟩ ⟨fun a U g mk q => by obtain ⟨q0, q1, qP, qK, qD, qE0⟩ := q; exact ⟨q0, q1, qP, va_K.moved (u := U) (U := U.calling g mk a) (Vm.Alike.refl U.vm) qK, qD, va_Nw.same rfl (rfl : U.vm = (U.calling g mk a).vm) qE0⟩, fun U hU hW => ⟨rfl, by rw [hU], by rw [hU]; exact hPc, va_K.moved hW.alike hKc, hDc.weaken (fun _ _ _ _ => trivial), va_Nw.warmM hW hN11⟩⟩ rfl rfl hl.1 rfl (lv_room (Nat.le_of_ble_eq_true rfl)) dX1_init_123 ⟨Nat.le_of_ble_eq_true rfl, Nat.le_of_ble_eq_true rfl⟩) hS (fun q _ h => hFc q h) hFc (fun u t H1 locs ht hvm hw hB hz1 hk1 hS => ?_)
  obtain ⟨r_83, n_84, hP1, hK1, hD1⟩ := hB
  rw [ht] at hP1
  obtain ⟨hP, hD⟩ := va_join (wr := [(nb, .inr (1, [.ref q_1, .ref q_3, .ref q_5, .ref q_7, .ref q_12, .ref q_15, .ref q_18, .ref q_21, .ref q_23, .ref q_25, .int 0])), (q_1, .inl (c_2, 6, .inr (.inr (.inr (.inr f_72))))), (q_3, .inl (c_4, 6, .inr (.inr (.inr (.inr f_78)))))]) (w1 := [(q_80, .inr (4, [.ref r_83, .ref n_84, .int 0, .int 0, .int 0, .int 0, .int 0, .int 0]))]) hP hD [3] [0, 1, 2] rfl rfl (by decide) (by decide) hk1 hFc hP1 hD1
  generalize H1 = H at hP hS ⊢
  have hP : va_P (dC, dI) vwCl [(nb, .inr (1, [.ref q_1, .ref q_3, .ref q_5, .ref q_7, .ref q_12, .ref q_15, .ref q_18, .ref q_21, .ref q_23, .ref q_25, .int 0])), (q_1, .inl (c_2, 6, .inr (.inr (.inr (.inr f_72))))), (q_3, .inl (c_4, 6, .inr (.inr (.inr (.inr f_78))))), (q_80, .inr (4, [.ref r_83, .ref n_84, .int 0, .int 0, .int 0, .int 0, .int 0, .int 0]))] H := hP
  have hD : va_D A [(nb, .inr (1, [.ref q_1, .ref q_3, .ref q_5, .ref q_7, .ref q_12, .ref q_15, .ref q_18, .ref q_21, .ref q_23, .ref q_25, .int 0])), (q_1, .inl (c_2, 6, .inr (.inr (.inr (.inr f_72))))), (q_3, .inl (c_4, 6, .inr (.inr (.inr (.inr f_78))))), (q_80, .inr (4, [.ref r_83, .ref n_84, .int 0, .int 0, .int 0, .int 0, .int 0, .int 0]))] := hD
  refine W.widen (k := 74) (n := 7058) (by omega) (by omega) ?_
  refine va_astq (r := (RX4, TX4, 8)) hx hb hK hP hD hS 1 0 3 4 rfl rfl rfl rfl (i := 4) (by unfold vp_in; decide +kernel) dX1_init_126 (fun H locs hP hD hS => ?_)
  generalize hf_f_85 : va_up f_72 _ _ = f_85 at hP hD
  have hP : va_P (dC, dI) vwCl [(nb, .inr (1, [.ref q_1, .ref q_3, .ref q_5, .ref q_7, .ref q_12, .ref q_15, .ref q_18, .ref q_21, .ref q_23, .ref q_25, .int 0])), (q_1, .inl (c_2, 6, .inr (.inr (.inr (.inr f_85))))), (q_3, .inl (c_4, 6, .inr (.inr (.inr (.inr f_78))))), (q_80, .inr (4, [.ref r_83, .ref n_84, .int 0, .int 0, .int 0, .int 0, .int 0, .int 0]))] H := hP
  have hD : va_D A [(nb, .inr (1, [.ref q_1, .ref q_3, .ref q_5, .ref q_7, .ref q_12, .ref q_15, .ref q_18, .ref q_21, .ref q_23, .ref q_25, .int 0])), (q_1, .inl (c_2, 6, .inr (.inr (.inr (.inr f_85))))), (q_3, .inl (c_4, 6, .inr (.inr (.inr (.inr f_78))))), (q_80, .inr (4, [.ref r_83, .ref n_84, .int 0, .int 0, .int 0, .int 0, .int 0, .int 0]))] := hD
  refine lv_aload_n hx hb dX1_init_127 rfl (lv_at hl 1 rfl) ?_
  refine va_get (D := (dC, dI)) (ci := 1) (v := .ref q_3) (C := RX1) (T := TX1) (N := 11) hx hb hts fin_X1_init_X1 hown hK hP 0 rfl rfl 1 (by decide) (hts (.fieldLink RX1 17 "PatternGate$Compiler" "branches" "[LPatternGate$Part;") (List.mem_of_getElem? (i := 6) (by decide +kernel))) (fun _ h9 => h9) rfl dX1_init_128 ?_
  refine lv_iload_n hx hb dX1_init_131 rfl (lv_at hl 0 rfl) ?_
  refine va_new (ci := 4) (fs := [.null, .null, .int 0, .int 0, .int 0, .int 0, .int 0, .int 0]) (C := RX4) (T := TX4) (N := 8) hx hb hts fin_X1_init_X4 tyX4 tyX4_ok hown (hts (.classLink RX1 9 RX4) (List.mem_of_getElem? (i := 4) (by decide +kernel))) (hts (.instantiable RX4 8) (List.mem_of_getElem? (i := 9) (by decide +kernel))) (hts (.initialized RX4) (List.mem_of_getElem? (i := 10) (by decide +kernel))) hK hP hD hS hA rfl (fun j hj => by rcases (show j = 0 ∨ j = 1 ∨ j = 2 ∨ j = 3 ∨ j = 4 ∨ j = 5 ∨ j = 6 ∨ j = 7 by omega) with rfl | rfl | rfl | rfl | rfl | rfl | rfl | rfl <;> rfl) (Nat.le_of_ble_eq_true rfl) (Nat.le_of_ble_eq_true rfl) dX1_init_132 (fun q_86 H hP hD hS => ?_)
  have hP : va_P (dC, dI) vwCl [(nb, .inr (1, [.ref q_1, .ref q_3, .ref q_5, .ref q_7, .ref q_12, .ref q_15, .ref q_18, .ref q_21, .ref q_23, .ref q_25, .int 0])), (q_1, .inl (c_2, 6, .inr (.inr (.inr (.inr f_85))))), (q_3, .inl (c_4, 6, .inr (.inr (.inr (.inr f_78))))), (q_80, .inr (4, [.ref r_83, .ref n_84, .int 0, .int 0, .int 0, .int 0, .int 0, .int 0])), (q_86, .inr (4, [.null, .null, .int 0, .int 0, .int 0, .int 0, .int 0, .int 0]))] H := hP
  have hD : va_D A [(nb, .inr (1, [.ref q_1, .ref q_3, .ref q_5, .ref q_7, .ref q_12, .ref q_15, .ref q_18, .ref q_21, .ref q_23, .ref q_25, .int 0])), (q_1, .inl (c_2, 6, .inr (.inr (.inr (.inr f_85))))), (q_3, .inl (c_4, 6, .inr (.inr (.inr (.inr f_78))))), (q_80, .inr (4, [.ref r_83, .ref n_84, .int 0, .int 0, .int 0, .int 0, .int 0, .int 0])), (q_86, .inr (4, [.null, .null, .int 0, .int 0, .int 0, .int 0, .int 0, .int 0]))] := hD
  refine W.widen (k := 75) (n := 7066) (by omega) (by omega) ?_
  refine lv_dup hx hb dX1_init_135 rfl ?_
  have hPc := hP.sub (ws' := [(q_86, .inr (4, [.null, .null, .int 0, .int 0, .int 0, .int 0, .int 0, .int 0]))]) [4] rfl
  have hKc := hK.sub (tys' := []) [] rfl
  have hDc := hD.sub (ws' := [(q_86, .inr (4, [.null, .null, .int 0, .int 0, .int 0, .int 0, .int 0, .int 0]))]) [4] (by decide) rfl
  have hFc := va_free (wc := [(q_86, .inr (4, [.null, .null, .int 0, .int 0, .int 0, .int 0, .int 0, .int 0]))]) hD hS hA [4] rfl
  refine va_callv (va_runIN (As := []) (rest := [.ref q_86, .int 4, .ref q_3]) ⟨hx, hb, hml, hown, hts⟩ (c_Part l dC dI q_86 H.size) ⟨va_cnB 0 hts mg_X1_init_X4_init_24 rfl rfl rfl hN24 (hts (.initialized RX4) (List.mem_of_getElem? (i := 10) (by decide +kernel))) (by decide +kernel) ⟨Nat.le_of_ble_eq_true rfl, Nat.le_of_ble_eq_true rfl⟩, rfl, (hts (.instanceMethod yX4_init) (List.mem_of_getElem? (i := 38) (by decide +kernel)))⟩ ⟨fun a U g mk q => by obtain ⟨q0, q1, qP, qK, qD, qE0⟩ := q; exact ⟨q0, q1, qP, va_K.moved (u := U) (U := U.calling g mk a) (Vm.Alike.refl U.vm) qK, qD, va_Nw.same rfl (rfl : U.vm = (U.calling g mk a).vm) qE0⟩, fun U hU hW => ⟨rfl, by rw [hU], by rw [hU]; exact hPc, va_K.moved hW.alike hKc, hDc.weaken (fun _ _ _ _ => trivial), va_Nw.warmM hW hN11⟩⟩ rfl rfl hl.1 rfl (lv_room (Nat.le_of_ble_eq_true rfl)) dX1_init_136 ⟨Nat.le_of_ble_eq_true rfl, Nat.le_of_ble_eq_true rfl⟩) hS (fun q _ h => hFc q h) hFc (fun u t H1 locs ht hvm hw hB hz1 hk1 hS => ?_)
  obtain ⟨r_89, n_90, hP1, hK1, hD1⟩ := hB
  rw [ht] at hP1
  obtain ⟨hP, hD⟩ := va_join (wr := [(nb, .inr (1, [.ref q_1, .ref q_3, .ref q_5, .ref q_7, .ref q_12, .ref q_15, .ref q_18, .ref q_21, .ref q_23, .ref q_25, .int 0])), (q_1, .inl (c_2, 6, .inr (.inr (.inr (.inr f_85))))), (q_3, .inl (c_4, 6, .inr (.inr (.inr (.inr f_78))))), (q_80, .inr (4, [.ref r_83, .ref n_84, .int 0, .int 0, .int 0, .int 0, .int 0, .int 0]))]) (w1 := [(q_86, .inr (4, [.ref r_89, .ref n_90, .int 0, .int 0, .int 0, .int 0, .int 0, .int 0]))]) hP hD [4] [0, 1, 2, 3] rfl rfl (by decide) (by decide) hk1 hFc hP1 hD1
  generalize H1 = H at hP hS ⊢
  have hP : va_P (dC, dI) vwCl [(nb, .inr (1, [.ref q_1, .ref q_3, .ref q_5, .ref q_7, .ref q_12, .ref q_15, .ref q_18, .ref q_21, .ref q_23, .ref q_25, .int 0])), (q_1, .inl (c_2, 6, .inr (.inr (.inr (.inr f_85))))), (q_3, .inl (c_4, 6, .inr (.inr (.inr (.inr f_78))))), (q_80, .inr (4, [.ref r_83, .ref n_84, .int 0, .int 0, .int 0, .int 0, .int 0, .int 0])), (q_86, .inr (4, [.ref r_89, .ref n_90, .int 0, .int 0, .int 0, .int 0, .int 0, .int 0]))] H := hP
  have hD : va_D A [(nb, .inr (1, [.ref q_1, .ref q_3, .ref q_5, .ref q_7, .ref q_12, .ref q_15, .ref q_18, .ref q_21, .ref q_23, .ref q_25, .int 0])), (q_1, .inl (c_2, 6, .inr (.inr (.inr (.inr f_85))))), (q_3, .inl (c_4, 6, .inr (.inr (.inr (.inr f_78))))), (q_80, .inr (4, [.ref r_83, .ref n_84, .int 0, .int 0, .int 0, .int 0, .int 0, .int 0])), (q_86, .inr (4, [.ref r_89, .ref n_90, .int 0, .int 0, .int 0, .int 0, .int 0, .int 0]))] := hD
  refine W.widen (k := 80) (n := 7378) (by omega) (by omega) ?_
  refine va_astq (r := (RX4, TX4, 8)) hx hb hK hP hD hS 2 1 4 4 rfl rfl rfl rfl (i := 4) (by unfold vp_in; decide +kernel) dX1_init_139 (fun H locs hP hD hS => ?_)
  generalize hf_f_91 : va_up f_78 _ _ = f_91 at hP hD
  have hP : va_P (dC, dI) vwCl [(nb, .inr (1, [.ref q_1, .ref q_3, .ref q_5, .ref q_7, .ref q_12, .ref q_15, .ref q_18, .ref q_21, .ref q_23, .ref q_25, .int 0])), (q_1, .inl (c_2, 6, .inr (.inr (.inr (.inr f_85))))), (q_3, .inl (c_4, 6, .inr (.inr (.inr (.inr f_91))))), (q_80, .inr (4, [.ref r_83, .ref n_84, .int 0, .int 0, .int 0, .int 0, .int 0, .int 0])), (q_86, .inr (4, [.ref r_89, .ref n_90, .int 0, .int 0, .int 0, .int 0, .int 0, .int 0]))] H := hP
  have hD : va_D A [(nb, .inr (1, [.ref q_1, .ref q_3, .ref q_5, .ref q_7, .ref q_12, .ref q_15, .ref q_18, .ref q_21, .ref q_23, .ref q_25, .int 0])), (q_1, .inl (c_2, 6, .inr (.inr (.inr (.inr f_85))))), (q_3, .inl (c_4, 6, .inr (.inr (.inr (.inr f_91))))), (q_80, .inr (4, [.ref r_83, .ref n_84, .int 0, .int 0, .int 0, .int 0, .int 0, .int 0])), (q_86, .inr (4, [.ref r_89, .ref n_90, .int 0, .int 0, .int 0, .int 0, .int 0, .int 0]))] := hD
  refine lv_iinc (v := 5) (lv' := [(1, .int 5), (0, .ref nb)]) hx hb dX1_init_140 hl (k := 0) rfl (by decide) (by decide) rfl (fun ls hl => ?_)
  refine lv_goto (tgt := 105) hx hb dX1_init_143 (by decide) ?_
  have hP := hP.sub (ws' := [(nb, .inr (1, [.ref q_1, .ref q_3, .ref q_5, .ref q_7, .ref q_12, .ref q_15, .ref q_18, .ref q_21, .ref q_23, .ref q_25, .int 0])), (q_1, .inl (c_2, 6, .inr (.inr (.inr (.inr f_85))))), (q_3, .inl (c_4, 6, .inr (.inr (.inr (.inr f_91)))))]) [0, 1, 2] rfl
  have hD := hD.sub (ws' := [(nb, .inr (1, [.ref q_1, .ref q_3, .ref q_5, .ref q_7, .ref q_12, .ref q_15, .ref q_18, .ref q_21, .ref q_23, .ref q_25, .int 0])), (q_1, .inl (c_2, 6, .inr (.inr (.inr (.inr f_85))))), (q_3, .inl (c_4, 6, .inr (.inr (.inr (.inr f_91)))))]) [0, 1, 2] (by decide) rfl
  refine lv_iload_n hx hb dX1_init_105 rfl (lv_at hl 0 rfl) ?_
  refine lv_aload_n hx hb dX1_init_106 rfl (lv_at hl 1 rfl) ?_
  refine va_get (D := (dC, dI)) (ci := 1) (v := .ref q_1) (C := RX1) (T := TX1) (N := 11) hx hb hts fin_X1_init_X1 hown hK hP 0 rfl rfl 0 (by decide) (hts (.fieldLink RX1 11 "PatternGate$Compiler" "wholes" "[LPatternGate$Part;") (List.mem_of_getElem? (i := 5) (by decide +kernel))) (fun _ h9 => h9) rfl dX1_init_107 ?_
  refine va_alen (v := 6) hx hb hK hP 1 0 rfl rfl rfl dX1_init_110 ?_
  refine lv_icmp_ge (tgt := 146) hx hb dX1_init_111 (by decide) (fun k_92 => absurd k_92 (by decide)) (fun k_92 => ?_)
  refine lv_aload_n hx hb dX1_init_114 rfl (lv_at hl 1 rfl) ?_
  refine va_get (D := (dC, dI)) (ci := 1) (v := .ref q_1) (C := RX1) (T := TX1) (N := 11) hx hb hts fin_X1_init_X1 hown hK hP 0 rfl rfl 0 (by decide) (hts (.fieldLink RX1 11 "PatternGate$Compiler" "wholes" "[LPatternGate$Part;") (List.mem_of_getElem? (i := 5) (by decide +kernel))) (fun _ h9 => h9) rfl dX1_init_115 ?_
  refine lv_iload_n hx hb dX1_init_118 rfl (lv_at hl 0 rfl) ?_
  refine va_new (ci := 4) (fs := [.null, .null, .int 0, .int 0, .int 0, .int 0, .int 0, .int 0]) (C := RX4) (T := TX4) (N := 8) hx hb hts fin_X1_init_X4 tyX4 tyX4_ok hown (hts (.classLink RX1 9 RX4) (List.mem_of_getElem? (i := 4) (by decide +kernel))) (hts (.instantiable RX4 8) (List.mem_of_getElem? (i := 9) (by decide +kernel))) (hts (.initialized RX4) (List.mem_of_getElem? (i := 10) (by decide +kernel))) hK hP hD hS hA rfl (fun j hj => by rcases (show j = 0 ∨ j = 1 ∨ j = 2 ∨ j = 3 ∨ j = 4 ∨ j = 5 ∨ j = 6 ∨ j = 7 by omega) with rfl | rfl | rfl | rfl | rfl | rfl | rfl | rfl <;> rfl) (Nat.le_of_ble_eq_true rfl) (Nat.le_of_ble_eq_true rfl) dX1_init_119 (fun q_93 H hP hD hS => ?_)
  have hP : va_P (dC, dI) vwCl [(nb, .inr (1, [.ref q_1, .ref q_3, .ref q_5, .ref q_7, .ref q_12, .ref q_15, .ref q_18, .ref q_21, .ref q_23, .ref q_25, .int 0])), (q_1, .inl (c_2, 6, .inr (.inr (.inr (.inr f_85))))), (q_3, .inl (c_4, 6, .inr (.inr (.inr (.inr f_91))))), (q_93, .inr (4, [.null, .null, .int 0, .int 0, .int 0, .int 0, .int 0, .int 0]))] H := hP
  have hD : va_D A [(nb, .inr (1, [.ref q_1, .ref q_3, .ref q_5, .ref q_7, .ref q_12, .ref q_15, .ref q_18, .ref q_21, .ref q_23, .ref q_25, .int 0])), (q_1, .inl (c_2, 6, .inr (.inr (.inr (.inr f_85))))), (q_3, .inl (c_4, 6, .inr (.inr (.inr (.inr f_91))))), (q_93, .inr (4, [.null, .null, .int 0, .int 0, .int 0, .int 0, .int 0, .int 0]))] := hD
  refine W.widen (k := 81) (n := 7386) (by omega) (by omega) ?_
  refine lv_dup hx hb dX1_init_122 rfl ?_
  have hPc := hP.sub (ws' := [(q_93, .inr (4, [.null, .null, .int 0, .int 0, .int 0, .int 0, .int 0, .int 0]))]) [3] rfl
  have hKc := hK.sub (tys' := []) [] rfl
  have hDc := hD.sub (ws' := [(q_93, .inr (4, [.null, .null, .int 0, .int 0, .int 0, .int 0, .int 0, .int 0]))]) [3] (by decide) rfl
  have hFc := va_free (wc := [(q_93, .inr (4, [.null, .null, .int 0, .int 0, .int 0, .int 0, .int 0, .int 0]))]) hD hS hA [3] rfl
  refine va_callv (va_runIN (As := []) (rest := [.ref q_93, .int 5, .ref q_1]) ⟨hx, hb, hml, hown, hts⟩ (c_Part l dC dI q_93 H.size) ⟨va_cnB 0 hts mg_X1_init_X4_init_24 rfl rfl rfl hN24 (hts (.initialized RX4) (List.mem_of_getElem? (i := 10) (by decide +kernel))) (by decide +kernel) ⟨Nat.le_of_ble_eq_true rfl, Nat.le_of_ble_eq_true rfl⟩, rfl, (hts (.instanceMethod yX4_init) (List.mem_of_getElem? (i := 38) (by decide +kernel)))⟩ ⟨fun a U g mk q => by obtain ⟨q0, q1, qP, qK, qD, qE0⟩ := q; exact ⟨q0, q1, qP, va_K.moved (u := U) (U := U.calling g mk a) (Vm.Alike.refl U.vm) qK, qD, va_Nw.same rfl (rfl : U.vm = (U.calling g mk a).vm) qE0⟩, fun U hU hW => ⟨rfl, by rw [hU], by rw [hU]; exact hPc, va_K.moved hW.alike hKc, hDc.weaken (fun _ _ _ _ => trivial), va_Nw.warmM hW hN11⟩⟩ rfl rfl hl.1 rfl (lv_room (Nat.le_of_ble_eq_true rfl)) dX1_init_123 ⟨Nat.le_of_ble_eq_true rfl, Nat.le_of_ble_eq_true rfl⟩) hS (fun q _ h => hFc q h) hFc (fun u t H1 locs ht hvm hw hB hz1 hk1 hS => ?_)
  obtain ⟨r_96, n_97, hP1, hK1, hD1⟩ := hB
  rw [ht] at hP1
  obtain ⟨hP, hD⟩ := va_join (wr := [(nb, .inr (1, [.ref q_1, .ref q_3, .ref q_5, .ref q_7, .ref q_12, .ref q_15, .ref q_18, .ref q_21, .ref q_23, .ref q_25, .int 0])), (q_1, .inl (c_2, 6, .inr (.inr (.inr (.inr f_85))))), (q_3, .inl (c_4, 6, .inr (.inr (.inr (.inr f_91)))))]) (w1 := [(q_93, .inr (4, [.ref r_96, .ref n_97, .int 0, .int 0, .int 0, .int 0, .int 0, .int 0]))]) hP hD [3] [0, 1, 2] rfl rfl (by decide) (by decide) hk1 hFc hP1 hD1
  generalize H1 = H at hP hS ⊢
  have hP : va_P (dC, dI) vwCl [(nb, .inr (1, [.ref q_1, .ref q_3, .ref q_5, .ref q_7, .ref q_12, .ref q_15, .ref q_18, .ref q_21, .ref q_23, .ref q_25, .int 0])), (q_1, .inl (c_2, 6, .inr (.inr (.inr (.inr f_85))))), (q_3, .inl (c_4, 6, .inr (.inr (.inr (.inr f_91))))), (q_93, .inr (4, [.ref r_96, .ref n_97, .int 0, .int 0, .int 0, .int 0, .int 0, .int 0]))] H := hP
  have hD : va_D A [(nb, .inr (1, [.ref q_1, .ref q_3, .ref q_5, .ref q_7, .ref q_12, .ref q_15, .ref q_18, .ref q_21, .ref q_23, .ref q_25, .int 0])), (q_1, .inl (c_2, 6, .inr (.inr (.inr (.inr f_85))))), (q_3, .inl (c_4, 6, .inr (.inr (.inr (.inr f_91))))), (q_93, .inr (4, [.ref r_96, .ref n_97, .int 0, .int 0, .int 0, .int 0, .int 0, .int 0]))] := hD
  refine W.widen (k := 86) (n := 7698) (by omega) (by omega) ?_
  refine va_astq (r := (RX4, TX4, 8)) hx hb hK hP hD hS 1 0 3 4 rfl rfl rfl rfl (i := 5) (by unfold vp_in; decide +kernel) dX1_init_126 (fun H locs hP hD hS => ?_)
  generalize hf_f_98 : va_up f_85 _ _ = f_98 at hP hD
  have hP : va_P (dC, dI) vwCl [(nb, .inr (1, [.ref q_1, .ref q_3, .ref q_5, .ref q_7, .ref q_12, .ref q_15, .ref q_18, .ref q_21, .ref q_23, .ref q_25, .int 0])), (q_1, .inl (c_2, 6, .inr (.inr (.inr (.inr f_98))))), (q_3, .inl (c_4, 6, .inr (.inr (.inr (.inr f_91))))), (q_93, .inr (4, [.ref r_96, .ref n_97, .int 0, .int 0, .int 0, .int 0, .int 0, .int 0]))] H := hP
  have hD : va_D A [(nb, .inr (1, [.ref q_1, .ref q_3, .ref q_5, .ref q_7, .ref q_12, .ref q_15, .ref q_18, .ref q_21, .ref q_23, .ref q_25, .int 0])), (q_1, .inl (c_2, 6, .inr (.inr (.inr (.inr f_98))))), (q_3, .inl (c_4, 6, .inr (.inr (.inr (.inr f_91))))), (q_93, .inr (4, [.ref r_96, .ref n_97, .int 0, .int 0, .int 0, .int 0, .int 0, .int 0]))] := hD
  refine lv_aload_n hx hb dX1_init_127 rfl (lv_at hl 1 rfl) ?_
  refine va_get (D := (dC, dI)) (ci := 1) (v := .ref q_3) (C := RX1) (T := TX1) (N := 11) hx hb hts fin_X1_init_X1 hown hK hP 0 rfl rfl 1 (by decide) (hts (.fieldLink RX1 17 "PatternGate$Compiler" "branches" "[LPatternGate$Part;") (List.mem_of_getElem? (i := 6) (by decide +kernel))) (fun _ h9 => h9) rfl dX1_init_128 ?_
  refine lv_iload_n hx hb dX1_init_131 rfl (lv_at hl 0 rfl) ?_
  refine va_new (ci := 4) (fs := [.null, .null, .int 0, .int 0, .int 0, .int 0, .int 0, .int 0]) (C := RX4) (T := TX4) (N := 8) hx hb hts fin_X1_init_X4 tyX4 tyX4_ok hown (hts (.classLink RX1 9 RX4) (List.mem_of_getElem? (i := 4) (by decide +kernel))) (hts (.instantiable RX4 8) (List.mem_of_getElem? (i := 9) (by decide +kernel))) (hts (.initialized RX4) (List.mem_of_getElem? (i := 10) (by decide +kernel))) hK hP hD hS hA rfl (fun j hj => by rcases (show j = 0 ∨ j = 1 ∨ j = 2 ∨ j = 3 ∨ j = 4 ∨ j = 5 ∨ j = 6 ∨ j = 7 by omega) with rfl | rfl | rfl | rfl | rfl | rfl | rfl | rfl <;> rfl) (Nat.le_of_ble_eq_true rfl) (Nat.le_of_ble_eq_true rfl) dX1_init_132 (fun q_99 H hP hD hS => ?_)
  have hP : va_P (dC, dI) vwCl [(nb, .inr (1, [.ref q_1, .ref q_3, .ref q_5, .ref q_7, .ref q_12, .ref q_15, .ref q_18, .ref q_21, .ref q_23, .ref q_25, .int 0])), (q_1, .inl (c_2, 6, .inr (.inr (.inr (.inr f_98))))), (q_3, .inl (c_4, 6, .inr (.inr (.inr (.inr f_91))))), (q_93, .inr (4, [.ref r_96, .ref n_97, .int 0, .int 0, .int 0, .int 0, .int 0, .int 0])), (q_99, .inr (4, [.null, .null, .int 0, .int 0, .int 0, .int 0, .int 0, .int 0]))] H := hP
  have hD : va_D A [(nb, .inr (1, [.ref q_1, .ref q_3, .ref q_5, .ref q_7, .ref q_12, .ref q_15, .ref q_18, .ref q_21, .ref q_23, .ref q_25, .int 0])), (q_1, .inl (c_2, 6, .inr (.inr (.inr (.inr f_98))))), (q_3, .inl (c_4, 6, .inr (.inr (.inr (.inr f_91))))), (q_93, .inr (4, [.ref r_96, .ref n_97, .int 0, .int 0, .int 0, .int 0, .int 0, .int 0])), (q_99, .inr (4, [.null, .null, .int 0, .int 0, .int 0, .int 0, .int 0, .int 0]))] := hD
  refine W.widen (k := 87) (n := 7706) (by omega) (by omega) ?_
  refine lv_dup hx hb dX1_init_135 rfl ?_
  have hPc := hP.sub (ws' := [(q_99, .inr (4, [.null, .null, .int 0, .int 0, .int 0, .int 0, .int 0, .int 0]))]) [4] rfl
  have hKc := hK.sub (tys' := []) [] rfl
  have hDc := hD.sub (ws' := [(q_99, .inr (4, [.null, .null, .int 0, .int 0, .int 0, .int 0, .int 0, .int 0]))]) [4] (by decide) rfl
  have hFc := va_free (wc := [(q_99, .inr (4, [.null, .null, .int 0, .int 0, .int 0, .int 0, .int 0, .int 0]))]) hD hS hA [4] rfl
  refine va_callv (va_runIN (As := []) (rest := [.ref q_99, .int 5, .ref q_3]) ⟨hx, hb, hml, hown, hts⟩ (c_Part l dC dI q_99 H.size) ⟨va_cnB 0 hts mg_X1_init_X4_init_24 rfl rfl rfl hN24 (hts (.initialized RX4) (List.mem_of_getElem? (i := 10) (by decide +kernel))) (by decide +kernel) ⟨Nat.le_of_ble_eq_true rfl, Nat.le_of_ble_eq_true rfl⟩, rfl, (hts (.instanceMethod yX4_init) (List.mem_of_getElem? (i := 38) (by decide +kernel)))⟩ ⟨fun a U g mk q => by obtain ⟨q0, q1, qP, qK, qD, qE0⟩ := q; exact ⟨q0, q1, qP, va_K.moved (u := U) (U := U.calling g mk a) (Vm.Alike.refl U.vm) qK, qD, va_Nw.same rfl (rfl : U.vm = (U.calling g mk a).vm) qE0⟩, fun U hU hW => ⟨rfl, by rw [hU], by rw [hU]; exact hPc, va_K.moved hW.alike hKc, hDc.weaken (fun _ _ _ _ => trivial), va_Nw.warmM hW hN11⟩⟩ rfl rfl hl.1 rfl (lv_room (Nat.le_of_ble_eq_true rfl)) dX1_init_136 ⟨Nat.le_of_ble_eq_true rfl, Nat.le_of_ble_eq_true rfl⟩) hS (fun q _ h => hFc q h) hFc (fun u t H1 locs ht hvm hw hB hz1 hk1 hS => ?_)
  obtain ⟨r_102, n_103, hP1, hK1, hD1⟩ := hB
  rw [ht] at hP1
  obtain ⟨hP, hD⟩ := va_join (wr := [(nb, .inr (1, [.ref q_1, .ref q_3, .ref q_5, .ref q_7, .ref q_12, .ref q_15, .ref q_18, .ref q_21, .ref q_23, .ref q_25, .int 0])), (q_1, .inl (c_2, 6, .inr (.inr (.inr (.inr f_98))))), (q_3, .inl (c_4, 6, .inr (.inr (.inr (.inr f_91))))), (q_93, .inr (4, [.ref r_96, .ref n_97, .int 0, .int 0, .int 0, .int 0, .int 0, .int 0]))]) (w1 := [(q_99, .inr (4, [.ref r_102, .ref n_103, .int 0, .int 0, .int 0, .int 0, .int 0, .int 0]))]) hP hD [4] [0, 1, 2, 3] rfl rfl (by decide) (by decide) hk1 hFc hP1 hD1
  generalize H1 = H at hP hS ⊢
  have hP : va_P (dC, dI) vwCl [(nb, .inr (1, [.ref q_1, .ref q_3, .ref q_5, .ref q_7, .ref q_12, .ref q_15, .ref q_18, .ref q_21, .ref q_23, .ref q_25, .int 0])), (q_1, .inl (c_2, 6, .inr (.inr (.inr (.inr f_98))))), (q_3, .inl (c_4, 6, .inr (.inr (.inr (.inr f_91))))), (q_93, .inr (4, [.ref r_96, .ref n_97, .int 0, .int 0, .int 0, .int 0, .int 0, .int 0])), (q_99, .inr (4, [.ref r_102, .ref n_103, .int 0, .int 0, .int 0, .int 0, .int 0, .int 0]))] H := hP
  have hD : va_D A [(nb, .inr (1, [.ref q_1, .ref q_3, .ref q_5, .ref q_7, .ref q_12, .ref q_15, .ref q_18, .ref q_21, .ref q_23, .ref q_25, .int 0])), (q_1, .inl (c_2, 6, .inr (.inr (.inr (.inr f_98))))), (q_3, .inl (c_4, 6, .inr (.inr (.inr (.inr f_91))))), (q_93, .inr (4, [.ref r_96, .ref n_97, .int 0, .int 0, .int 0, .int 0, .int 0, .int 0])), (q_99, .inr (4, [.ref r_102, .ref n_103, .int 0, .int 0, .int 0, .int 0, .int 0, .int 0]))] := hD
  refine W.widen (k := 92) (n := 8018) (by omega) (by omega) ?_
  refine va_astq (r := (RX4, TX4, 8)) hx hb hK hP hD hS 2 1 4 4 rfl rfl rfl rfl (i := 5) (by unfold vp_in; decide +kernel) dX1_init_139 (fun H locs hP hD hS => ?_)
  generalize hf_f_104 : va_up f_91 _ _ = f_104 at hP hD
  have hP : va_P (dC, dI) vwCl [(nb, .inr (1, [.ref q_1, .ref q_3, .ref q_5, .ref q_7, .ref q_12, .ref q_15, .ref q_18, .ref q_21, .ref q_23, .ref q_25, .int 0])), (q_1, .inl (c_2, 6, .inr (.inr (.inr (.inr f_98))))), (q_3, .inl (c_4, 6, .inr (.inr (.inr (.inr f_104))))), (q_93, .inr (4, [.ref r_96, .ref n_97, .int 0, .int 0, .int 0, .int 0, .int 0, .int 0])), (q_99, .inr (4, [.ref r_102, .ref n_103, .int 0, .int 0, .int 0, .int 0, .int 0, .int 0]))] H := hP
  have hD : va_D A [(nb, .inr (1, [.ref q_1, .ref q_3, .ref q_5, .ref q_7, .ref q_12, .ref q_15, .ref q_18, .ref q_21, .ref q_23, .ref q_25, .int 0])), (q_1, .inl (c_2, 6, .inr (.inr (.inr (.inr f_98))))), (q_3, .inl (c_4, 6, .inr (.inr (.inr (.inr f_104))))), (q_93, .inr (4, [.ref r_96, .ref n_97, .int 0, .int 0, .int 0, .int 0, .int 0, .int 0])), (q_99, .inr (4, [.ref r_102, .ref n_103, .int 0, .int 0, .int 0, .int 0, .int 0, .int 0]))] := hD
  refine lv_iinc (v := 6) (lv' := [(1, .int 6), (0, .ref nb)]) hx hb dX1_init_140 hl (k := 0) rfl (by decide) (by decide) rfl (fun ls hl => ?_)
  refine lv_goto (tgt := 105) hx hb dX1_init_143 (by decide) ?_
  have hP := hP.sub (ws' := [(nb, .inr (1, [.ref q_1, .ref q_3, .ref q_5, .ref q_7, .ref q_12, .ref q_15, .ref q_18, .ref q_21, .ref q_23, .ref q_25, .int 0])), (q_1, .inl (c_2, 6, .inr (.inr (.inr (.inr f_98))))), (q_3, .inl (c_4, 6, .inr (.inr (.inr (.inr f_104)))))]) [0, 1, 2] rfl
  have hD := hD.sub (ws' := [(nb, .inr (1, [.ref q_1, .ref q_3, .ref q_5, .ref q_7, .ref q_12, .ref q_15, .ref q_18, .ref q_21, .ref q_23, .ref q_25, .int 0])), (q_1, .inl (c_2, 6, .inr (.inr (.inr (.inr f_98))))), (q_3, .inl (c_4, 6, .inr (.inr (.inr (.inr f_104)))))]) [0, 1, 2] (by decide) rfl
  refine lv_iload_n hx hb dX1_init_105 rfl (lv_at hl 0 rfl) ?_
  refine lv_aload_n hx hb dX1_init_106 rfl (lv_at hl 1 rfl) ?_
  refine va_get (D := (dC, dI)) (ci := 1) (v := .ref q_1) (C := RX1) (T := TX1) (N := 11) hx hb hts fin_X1_init_X1 hown hK hP 0 rfl rfl 0 (by decide) (hts (.fieldLink RX1 11 "PatternGate$Compiler" "wholes" "[LPatternGate$Part;") (List.mem_of_getElem? (i := 5) (by decide +kernel))) (fun _ h9 => h9) rfl dX1_init_107 ?_
  refine va_alen (v := 6) hx hb hK hP 1 0 rfl rfl rfl dX1_init_110 ?_
  refine lv_icmp_ge (tgt := 146) hx hb dX1_init_111 (by decide) (fun k_105 => ?_) (fun k_105 => absurd (by decide) k_105)
  refine W.widen (k := 100) (n := 9000) (by omega) (by omega) ?_
  exact W.vret hx hb hr (fun t ht hW => ⟨⟨(), rfl, trivial, trivial⟩, hS.F ht⟩) hS.2.2 dX1_init_146
theorem dX9_init_0 : decode cX9_init 0 = .ok (.aload_n 0, 1) := by decide +kernel
theorem dX9_init_1 : decode cX9_init 1 = .ok (.invokespecial 3, 3) := by decide +kernel
theorem dX9_init_4 : decode cX9_init 4 = .ok (.aload_n 0, 1) := by decide +kernel
theorem dX9_init_5 : decode cX9_init 5 = .ok (.sipush 900, 3) := by decide +kernel
theorem dX9_init_8 : decode cX9_init 8 = .ok (.newarray .int, 2) := by decide +kernel
theorem dX9_init_10 : decode cX9_init 10 = .ok (.putfield 9, 3) := by decide +kernel
theorem dX9_init_13 : decode cX9_init 13 = .ok (.aload_n 0, 1) := by decide +kernel
theorem dX9_init_14 : decode cX9_init 14 = .ok (.iconst (-1), 1) := by decide +kernel
theorem dX9_init_15 : decode cX9_init 15 = .ok (.putfield 13, 3) := by decide +kernel
theorem dX9_init_18 : decode cX9_init 18 = .ok (.aload_n 0, 1) := by decide +kernel
theorem dX9_init_19 : decode cX9_init 19 = .ok (.iconst (-1), 1) := by decide +kernel
theorem dX9_init_20 : decode cX9_init 20 = .ok (.putfield 17, 3) := by decide +kernel
theorem dX9_init_23 : decode cX9_init 23 = .ok (.aload_n 0, 1) := by decide +kernel
theorem dX9_init_24 : decode cX9_init 24 = .ok (.new 20, 3) := by decide +kernel
theorem dX9_init_27 : decode cX9_init 27 = .ok (.dup, 1) := by decide +kernel
theorem dX9_init_28 : decode cX9_init 28 = .ok (.iconst 0, 1) := by decide +kernel
theorem dX9_init_29 : decode cX9_init 29 = .ok (.anewarray 22, 3) := by decide +kernel
theorem dX9_init_32 : decode cX9_init 32 = .ok (.iconst 0, 1) := by decide +kernel
theorem dX9_init_33 : decode cX9_init 33 = .ok (.anewarray 24, 3) := by decide +kernel
theorem dX9_init_36 : decode cX9_init 36 = .ok (.aconst_null, 1) := by decide +kernel
theorem dX9_init_37 : decode cX9_init 37 = .ok (.invokespecial 26, 3) := by decide +kernel
theorem dX9_init_40 : decode cX9_init 40 = .ok (.putfield 29, 3) := by decide +kernel
theorem dX9_init_43 : decode cX9_init 43 = .ok (.aload_n 0, 1) := by decide +kernel
theorem dX9_init_44 : decode cX9_init 44 = .ok (.iconst 3, 1) := by decide +kernel
theorem dX9_init_45 : decode cX9_init 45 = .ok (.anewarray 20, 3) := by decide +kernel
theorem dX9_init_48 : decode cX9_init 48 = .ok (.putfield 33, 3) := by decide +kernel
theorem dX9_init_51 : decode cX9_init 51 = .ok (.aload_n 0, 1) := by decide +kernel
theorem dX9_init_52 : decode cX9_init 52 = .ok (.iconst 3, 1) := by decide +kernel
theorem dX9_init_53 : decode cX9_init 53 = .ok (.newarray .int, 2) := by decide +kernel
theorem dX9_init_55 : decode cX9_init 55 = .ok (.putfield 37, 3) := by decide +kernel
theorem dX9_init_58 : decode cX9_init 58 = .ok (.aload_n 0, 1) := by decide +kernel
theorem dX9_init_59 : decode cX9_init 59 = .ok (.new 40, 3) := by decide +kernel
theorem dX9_init_62 : decode cX9_init 62 = .ok (.dup, 1) := by decide +kernel
theorem dX9_init_63 : decode cX9_init 63 = .ok (.invokespecial 42, 3) := by decide +kernel
theorem dX9_init_66 : decode cX9_init 66 = .ok (.putfield 43, 3) := by decide +kernel
theorem dX9_init_69 : decode cX9_init 69 = .ok (.aload_n 0, 1) := by decide +kernel
theorem dX9_init_70 : decode cX9_init 70 = .ok (.new 47, 3) := by decide +kernel
theorem dX9_init_73 : decode cX9_init 73 = .ok (.dup, 1) := by decide +kernel
theorem dX9_init_74 : decode cX9_init 74 = .ok (.invokespecial 49, 3) := by decide +kernel
theorem dX9_init_77 : decode cX9_init 77 = .ok (.putfield 50, 3) := by decide +kernel
theorem dX9_init_80 : decode cX9_init 80 = .ok (.aload_n 0, 1) := by decide +kernel
theorem dX9_init_81 : decode cX9_init 81 = .ok (.new 54, 3) := by decide +kernel
theorem dX9_init_84 : decode cX9_init 84 = .ok (.dup, 1) := by decide +kernel
theorem dX9_init_85 : decode cX9_init 85 = .ok (.invokespecial 56, 3) := by decide +kernel
theorem dX9_init_88 : decode cX9_init 88 = .ok (.putfield 57, 3) := by decide +kernel
theorem dX9_init_91 : decode cX9_init 91 = .ok (.aload_n 0, 1) := by decide +kernel
theorem dX9_init_92 : decode cX9_init 92 = .ok (.bipush 60, 2) := by decide +kernel
theorem dX9_init_94 : decode cX9_init 94 = .ok (.newarray .int, 2) := by decide +kernel
theorem dX9_init_96 : decode cX9_init 96 = .ok (.putfield 61, 3) := by decide +kernel
theorem dX9_init_99 : decode cX9_init 99 = .ok (.aload_n 0, 1) := by decide +kernel
theorem dX9_init_100 : decode cX9_init 100 = .ok (.bipush 60, 2) := by decide +kernel
theorem dX9_init_102 : decode cX9_init 102 = .ok (.newarray .int, 2) := by decide +kernel
theorem dX9_init_104 : decode cX9_init 104 = .ok (.putfield 64, 3) := by decide +kernel
theorem dX9_init_107 : decode cX9_init 107 = .ok (.aload_n 0, 1) := by decide +kernel
theorem dX9_init_108 : decode cX9_init 108 = .ok (.bipush 26, 2) := by decide +kernel
theorem dX9_init_110 : decode cX9_init 110 = .ok (.newarray .int, 2) := by decide +kernel
theorem dX9_init_112 : decode cX9_init 112 = .ok (.putfield 67, 3) := by decide +kernel
theorem dX9_init_115 : decode cX9_init 115 = .ok (.return_, 1) := by decide +kernel
def mwX9_init : List Cond := .code yX9_init cX9_init 1 none :: ([.methodLink RX9 3 objectInit, .instanceMethod objectInit, .code objectInit ⟨#[0xb1]⟩ 1 none, .arrayClass .int, .fieldLink RX9 9 "PatternGate" "tape" "[I", .fieldLink RX9 13 "PatternGate" "faultKind" "I", .fieldLink RX9 17 "PatternGate" "faultPlace" "I", .classLink RX9 20 RX0, .instantiable RX0 3, .initialized RX0, .classLink RX9 22 RX2, .classLink RX9 24 RX5, .code yX0_init cX0_init 4 none, .methodLink RX0 1 objectInit, .fieldLink RX0 7 "PatternGate$Book" "docs" "[LPatternGate$Doc;", .fieldLink RX0 13 "PatternGate$Book" "patterns" "[LPatternGate$Pattern;", .fieldLink RX0 17 "PatternGate$Book" "earlier" "LPatternGate$Book;", .methodLink RX9 26 yX0_init, .instanceMethod yX0_init, .fieldLink RX9 29 "PatternGate" "book" "LPatternGate$Book;", .fieldLink RX9 33 "PatternGate" "markedBooks" "[LPatternGate$Book;", .fieldLink RX9 37 "PatternGate" "markedUndoable" "[I", .classLink RX9 40 RX6, .instantiable RX6 11, .initialized RX6, .code yX6_init cX6_init 1 none, .methodLink RX6 3 objectInit, .fieldLink RX6 11 "PatternGate$Reader" "begins" "[I", .fieldLink RX6 15 "PatternGate$Reader" "ends" "[I", .arrayClass .boolean, .fieldLink RX6 18 "PatternGate$Reader" "isPattern" "[Z", .instanceMethod yX6_init, .fieldLink RX9 43 "PatternGate" "reader" "LPatternGate$Reader;", .classLink RX9 47 RX1, .instantiable RX1 11, .initialized RX1, .code yX1_init cX1_init 2 none, .methodLink RX1 3 objectInit, .classLink RX1 9 RX4, .fieldLink RX1 11 "PatternGate$Compiler" "wholes" "[LPatternGate$Part;", .fieldLink RX1 17 "PatternGate$Compiler" "branches" "[LPatternGate$Part;", .fieldLink RX1 20 "PatternGate$Compiler" "begun" "[Z", .instantiable RX4 8, .initialized RX4, .code yX4_init cX4_init 1 none, .methodLink RX4 3 objectInit, .classLink RX4 9 RX7, .instantiable RX7 2, .initialized RX7, .code yX7_init cX7_init 1 none, .methodLink RX7 5 objectInit, .arrayClass .long, .fieldLink RX7 11 "PatternGate$Rows" "row" "[J", .instanceMethod yX7_init, .fieldLink RX4 12 "PatternGate$Part" "rows" "LPatternGate$Rows;", .classLink RX4 18 RX3, .instantiable RX3 4, .initialized RX3, .code yX3_init cX3_init 2 none, .methodLink RX3 3 objectInit, .methodLink RX3 9 Lib.Math.max.name, .static Lib.Math.max.name, .initialized "java/lang/Math", .code Lib.Math.max.name Lib.Math.max.code 2 (some .int), .fieldLink RX3 15 "PatternGate$Need" "room" "I", .fieldLink RX3 21 "PatternGate$Need" "triples" "[I", .fieldLink RX3 25 "PatternGate$Need" "sizes" "[I", .methodLink RX4 20 yX3_init, .instanceMethod yX3_init, .fieldLink RX4 23 "PatternGate$Part" "need" "LPatternGate$Need;", .instanceMethod yX4_init, .fieldLink RX1 25 "PatternGate$Compiler" "spot" "LPatternGate$Part;", .classLink RX1 29 RX7, .fieldLink RX1 32 "PatternGate$Compiler" "joined" "LPatternGate$Rows;", .classLink RX1 36 RX3, .methodLink RX1 38 yX3_init, .fieldLink RX1 41 "PatternGate$Compiler" "ofRows" "LPatternGate$Need;", .fieldLink RX1 45 "PatternGate$Compiler" "wide" "LPatternGate$Need;", .fieldLink RX1 48 "PatternGate$Compiler" "choice" "[I", .fieldLink RX1 52 "PatternGate$Compiler" "follow" "[I", .fieldLink RX1 55 "PatternGate$Compiler" "takers" "[I", .methodLink RX9 49 yX1_init, .instanceMethod yX1_init, .fieldLink RX9 50 "PatternGate" "compiler" "LPatternGate$Compiler;", .classLink RX9 54 RX8, .instantiable RX8 3, .initialized RX8, .code yX8_init cX8_init 1 none, .methodLink RX8 3 objectInit, .fieldLink RX8 9 "PatternGate$Walk" "lists" "[I", .instanceMethod yX8_init, .fieldLink RX9 57 "PatternGate" "walk" "LPatternGate$Walk;", .fieldLink RX9 61 "PatternGate" "paper" "[I", .fieldLink RX9 64 "PatternGate" "sorted" "[I", .fieldLink RX9 67 "PatternGate" "tally" "[I"] ++ wsX90 ++ wsX00 ++ wsX60 ++ wsX10 ++ wsX40 ++ wsX70 ++ wsX30 ++ wsX80)
theorem fin_X9_init_X0 : ∀ w ∈ wsX00, w ∈ mwX9_init := fun w h => List.mem_cons_of_mem _ (List.mem_append_left _ (List.mem_append_left _ (List.mem_append_left _ (List.mem_append_left _ (List.mem_append_left _ (List.mem_append_left _ (List.mem_append_right _ h)))))))
theorem fin_X9_init_X1 : ∀ w ∈ wsX10, w ∈ mwX9_init := fun w h => List.mem_cons_of_mem _ (List.mem_append_left _ (List.mem_append_left _ (List.mem_append_left _ (List.mem_append_left _ (List.mem_append_right _ h)))))
theorem fin_X9_init_X6 : ∀ w ∈ wsX60, w ∈ mwX9_init := fun w h => List.mem_cons_of_mem _ (List.mem_append_left _ (List.mem_append_left _ (List.mem_append_left _ (List.mem_append_left _ (List.mem_append_left _ (List.mem_append_right _ h))))))
theorem fin_X9_init_X8 : ∀ w ∈ wsX80, w ∈ mwX9_init := fun w h => List.mem_cons_of_mem _ (List.mem_append_right _ h)
theorem fin_X9_init_X9 : ∀ w ∈ wsX90, w ∈ mwX9_init := fun w h => List.mem_cons_of_mem _ (List.mem_append_left _ (List.mem_append_left _ (List.mem_append_left _ (List.mem_append_left _ (List.mem_append_left _ (List.mem_append_left _ (List.mem_append_left _ (List.mem_append_right _ h))))))))
set_option maxRecDepth 20000 in
theorem mg_X9_init_X0_init_26 : GoodIn mwX9_init mwX0_init := goodIn_r _ [13, 14, 2, 3, 15, 16, 17, 112, 113, 114] (by decide +kernel) (by decide +kernel)
set_option maxRecDepth 20000 in
theorem mg_X9_init_X6_init_42 : GoodIn mwX9_init mwX6_init := goodIn_r _ [26, 27, 2, 3, 4, 28, 29, 30, 31, 115, 116, 117, 118, 119, 120, 121, 122, 123, 124, 125] (by decide +kernel) (by decide +kernel)
set_option maxRecDepth 20000 in
theorem mg_X9_init_X1_init_49 : GoodIn mwX9_init mwX1_init := goodIn_r _ [37, 38, 2, 3, 39, 40, 41, 30, 42, 43, 44, 45, 46, 47, 48, 49, 50, 51, 52, 53, 54, 55, 56, 57, 58, 59, 60, 61, 62, 63, 64, 65, 4, 66, 67, 68, 69, 70, 71, 72, 73, 74, 75, 76, 77, 78, 79, 80, 81, 126, 127, 128, 129, 130, 131, 132, 133, 134, 135, 136, 137, 138, 139, 140, 141, 142, 143, 144, 145, 146, 147, 148, 149, 150] (by decide +kernel) (by decide +kernel)
set_option maxRecDepth 20000 in
theorem mg_X9_init_X8_init_56 : GoodIn mwX9_init mwX8_init := goodIn_r _ [88, 89, 2, 3, 4, 90, 151, 152, 153] (by decide +kernel) (by decide +kernel)
set_option maxHeartbeats 4000000 in
set_option maxRecDepth 100000 in
/-- PatternGate() -/
theorem c_Gate (l : Launch) (dC : Nat → ClassId) (dI : Nat → Nat → Nat) (x sz : Nat) : Met l yX9_init mwX9_init ({ frames := 4, cells := 120, slots := 11000, locals := 240 }) (va_Pc [.ref x] (fun U => U.heap.size = sz ∧ va_P (dC, dI) vwCl ([(x, .inr (9, [.int 0, .null, .int 0, .int 0, .int 0, .null, .int 0, .null, .null, .int 0, .null, .null, .null, .null, .null, .null]))]) U.heap ∧ va_K (dC, dI) vwCl ([]) U ∧ va_D (fun _ => True) ([(x, .inr (9, [.int 0, .null, .int 0, .int 0, .int 0, .null, .int 0, .null, .null, .int 0, .null, .null, .null, .null, .null, .null]))]) ∧ va_AO "PatternGate$Doc" U ∧ va_AO "PatternGate$Pattern" U ∧ va_AO "PatternGate$Book" U ∧ va_AO "PatternGate$Part" U ∧ va_Nw (.methodLinkNest RX9 42 yX6_init "PatternGate") U ∧ va_Nw (.methodLinkNest RX9 56 yX8_init "PatternGate") U ∧ va_Nw (.methodLinkNest RX1 24 yX4_init "PatternGate") U ∧ va_Nw (.methodLinkNest RX1 31 yX7_init "PatternGate") U ∧ va_Nw (.methodLinkNest RX4 11 yX7_init "PatternGate") U)) (va_Qv (fun (_ : Unit) => True) (fun _ t => ∃ (q : Nat → Nat) (b d0 p0 : Nat) (cT cD cP cB cU : ClassId) (r : Nat → Nat), va_P (dC, dI) vwCl (gW x q b d0 p0 cT cD cP cB cU r) t.heap ∧ va_K (dC, dI) vwCl (gT cT cD cP cB cU) t ∧ va_D (va_A ([(x, .inr (9, [.int 0, .null, .int 0, .int 0, .int 0, .null, .int 0, .null, .null, .int 0, .null, .null, .null, .null, .null, .null]))]) sz) (gW x q b d0 p0 cT cD cP cB cU r)) (va_A ([(x, .inr (9, [.int 0, .null, .int 0, .int 0, .int 0, .null, .int 0, .null, .null, .int 0, .null, .null, .null, .null, .null, .null]))]) sz)) 120 11000 (va_A ([(x, .inr (9, [.int 0, .null, .int 0, .int 0, .int 0, .null, .int 0, .null, .null, .int 0, .null, .null, .null, .null, .null, .null]))]) sz) := by
  refine Met.ofW (cc := cX9_init) (maxL := 1) (ret := none) (by decide +kernel) rfl ?_
  intro p e s m args below meth c s₁ B hml hv
  obtain ⟨rfl, hsz, hP, hK, hD0, hAO2, hAO5, hAO0, hAO4, hN42, hN56, hN24, hN31, hN11⟩ := hv
  have hx := B.exec
  have hb := B.bytes
  have hr := B.returns
  have hts := atoms_spec (ws := mwX9_init) B.pre
  have hown : s.vm.findClass RX9 = some m.cls := findClass_of_methodNamed B.named
  have hlocks := B.notSynchronized
  have hin : meth.name = "<init>" := (name_of_methodNamed B.named B.method).1
  subst hsz
  have hD := hD0.self (sz := s.heap.size)
  generalize hAe : va_A ([(x, .inr (9, [.int 0, .null, .int 0, .int 0, .int 0, .null, .int 0, .null, .null, .int 0, .null, .null, .null, .null, .null, .null]))]) s.heap.size = A at hD ⊢
  have hA : ∀ q : Nat, s.heap.size ≤ q → A q := fun q h => by rw [← hAe]; exact Or.inr h
  have hP : va_P (dC, dI) vwCl [(x, .inr (9, [.int 0, .null, .int 0, .int 0, .int 0, .null, .int 0, .null, .null, .int 0, .null, .null, .null, .null, .null, .null]))] s.heap := hP
  have hD : va_D A [(x, .inr (9, [.int 0, .null, .int 0, .int 0, .int 0, .null, .int 0, .null, .null, .int 0, .null, .null, .null, .null, .null, .null]))] := hD
  have hK : va_K (dC, dI) vwCl [] s := hK
  generalize hH : s.heap = H at hP ⊢
  have hS : va_S A s.heap H [] := by rw [← hH]; exact va_S.rf
  have hl := lv_entry ([.ref x]) (n := 1) (Nat.le_of_ble_eq_true rfl)
  rw [lg_entry_eq]
  generalize (lg_sl ([.ref x]) ++ List.replicate (1 - (lg_sl ([.ref x])).length) Slot.unset).toArray = ls at hl ⊢
  have hl : lv_has ls 1 [(0, .ref x)] := hl
  refine lv_aload_n hx hb dX9_init_0 rfl (lv_at hl 0 rfl) ?_
  refine W.objInit hx hb hown (hts (.methodLink RX9 3 objectInit) (List.mem_of_getElem? (i := 1) (by decide +kernel))) (hts (.instanceMethod objectInit) (List.mem_of_getElem? (i := 2) (by decide +kernel))) (hts (.code objectInit ⟨#[0xb1]⟩ 1 none) (List.mem_of_getElem? (i := 3) (by decide +kernel))) rfl (by rw [hml]; exact hl.1) rfl dX9_init_1 (Nat.le_of_ble_eq_true rfl) (Nat.le_of_ble_eq_true rfl) ?_
  refine W.eq (g2 := F0 m 4 ls []) rfl ?_
  refine lv_aload_n hx hb dX9_init_4 rfl (lv_at hl 0 rfl) ?_
  refine lv_sipush (v := 900) hx hb dX9_init_5 (by decide) ?_
  refine va_newa (atype := .int) (ty := .int) (n := 900) (N' := 900) (a0 := (900, .inl (fun _ => 0))) hx hb (hts (.arrayClass .int) (List.mem_of_getElem? (i := 4) (by decide +kernel))) rfl hK hP hD hS hA (fun _ => rfl) (by decide) (by decide) (Nat.le_of_ble_eq_true rfl) (Nat.le_of_ble_eq_true rfl) (Nat.le_of_ble_eq_true rfl) dX9_init_8 (fun q_1 c_2 H hK hP hD hS => ?_)
  have hP : va_P (dC, dI) vwCl [(x, .inr (9, [.int 0, .null, .int 0, .int 0, .int 0, .null, .int 0, .null, .null, .int 0, .null, .null, .null, .null, .null, .null])), (q_1, .inl (c_2, 900, .inl (fun _ => 0)))] H := hP
  have hD : va_D A [(x, .inr (9, [.int 0, .null, .int 0, .int 0, .int 0, .null, .int 0, .null, .null, .int 0, .null, .null, .null, .null, .null, .null])), (q_1, .inl (c_2, 900, .inl (fun _ => 0)))] := hD
  have hK : va_K (dC, dI) vwCl [(c_2, .int)] s := hK
  refine W.widen (k := 1) (n := 900) (by omega) (by omega) ?_
  refine va_putF (D := (dC, dI)) (ci := 9) (v := .ref q_1) (ty := .array .int) (C := RX9) (T := TX9) (N := 16) hx hb hts fin_X9_init_X9 tyX9 tyX9_ok nmX9 hown hK hP hD hS 0 rfl rfl 1 (by decide) (hts (.fieldLink RX9 9 "PatternGate" "tape" "[I") (List.mem_of_getElem? (i := 5) (by decide +kernel))) (fun _ h9 => h9) rfl hin rfl (by decide +kernel) rfl rfl (Nat.le_of_ble_eq_true rfl) dX9_init_10 (fun H locs hP hD hS => ?_)
  have hP : va_P (dC, dI) vwCl [(x, .inr (9, [.int 0, .ref q_1, .int 0, .int 0, .int 0, .null, .int 0, .null, .null, .int 0, .null, .null, .null, .null, .null, .null])), (q_1, .inl (c_2, 900, .inl (fun _ => 0)))] H := hP
  have hD : va_D A [(x, .inr (9, [.int 0, .ref q_1, .int 0, .int 0, .int 0, .null, .int 0, .null, .null, .int 0, .null, .null, .null, .null, .null, .null])), (q_1, .inl (c_2, 900, .inl (fun _ => 0)))] := hD
  refine lv_aload_n hx hb dX9_init_13 rfl (lv_at hl 0 rfl) ?_
  refine lv_iconst (v := (-1)) hx hb dX9_init_14 (by decide) ?_
  refine va_put (D := (dC, dI)) (ci := 9) (v := .int (-1)) (ty := .int) (C := RX9) (T := TX9) (N := 16) hx hb hts fin_X9_init_X9 tyX9 tyX9_ok nmX9 hown hK hP hD hS 0 rfl rfl 3 (by decide) (hts (.fieldLink RX9 13 "PatternGate" "faultKind" "I") (List.mem_of_getElem? (i := 6) (by decide +kernel))) (fun _ h9 => h9) rfl (by decide +kernel) rfl rfl (Nat.le_of_ble_eq_true rfl) dX9_init_15 (fun H locs hP hD hS => ?_)
  have hP : va_P (dC, dI) vwCl [(x, .inr (9, [.int 0, .ref q_1, .int 0, .int (-1), .int 0, .null, .int 0, .null, .null, .int 0, .null, .null, .null, .null, .null, .null])), (q_1, .inl (c_2, 900, .inl (fun _ => 0)))] H := hP
  have hD : va_D A [(x, .inr (9, [.int 0, .ref q_1, .int 0, .int (-1), .int 0, .null, .int 0, .null, .null, .int 0, .null, .null, .null, .null, .null, .null])), (q_1, .inl (c_2, 900, .inl (fun _ => 0)))] := hD
  refine lv_aload_n hx hb dX9_init_18 rfl (lv_at hl 0 rfl) ?_
  refine lv_iconst (v := (-1)) hx hb dX9_init_19 (by decide) ?_
  refine va_put (D := (dC, dI)) (ci := 9) (v := .int (-1)) (ty := .int) (C := RX9) (T := TX9) (N := 16) hx hb hts fin_X9_init_X9 tyX9 tyX9_ok nmX9 hown hK hP hD hS 0 rfl rfl 4 (by decide) (hts (.fieldLink RX9 17 "PatternGate" "faultPlace" "I") (List.mem_of_getElem? (i := 7) (by decide +kernel))) (fun _ h9 => h9) rfl (by decide +kernel) rfl rfl (Nat.le_of_ble_eq_true rfl) dX9_init_20 (fun H locs hP hD hS => ?_)
  have hP : va_P (dC, dI) vwCl [(x, .inr (9, [.int 0, .ref q_1, .int 0, .int (-1), .int (-1), .null, .int 0, .null, .null, .int 0, .null, .null, .null, .null, .null, .null])), (q_1, .inl (c_2, 900, .inl (fun _ => 0)))] H := hP
  have hD : va_D A [(x, .inr (9, [.int 0, .ref q_1, .int 0, .int (-1), .int (-1), .null, .int 0, .null, .null, .int 0, .null, .null, .null, .null, .null, .null])), (q_1, .inl (c_2, 900, .inl (fun _ => 0)))] := hD
  refine lv_aload_n hx hb dX9_init_23 rfl (lv_at hl 0 rfl) ?_
  refine va_new (ci := 0) (fs := [.null, .null, .null]) (C := RX0) (T := TX0) (N := 3) hx hb hts fin_X9_init_X0 tyX0 tyX0_ok hown (hts (.classLink RX9 20 RX0) (List.mem_of_getElem? (i := 8) (by decide +kernel))) (hts (.instantiable RX0 3) (List.mem_of_getElem? (i := 9) (by decide +kernel))) (hts (.initialized RX0) (List.mem_of_getElem? (i := 10) (by decide +kernel))) hK hP hD hS hA rfl (fun j hj => by rcases (show j = 0 ∨ j = 1 ∨ j = 2 by omega) with rfl | rfl | rfl <;> rfl) (Nat.le_of_ble_eq_true rfl) (Nat.le_of_ble_eq_true rfl) dX9_init_24 (fun q_3 H hP hD hS => ?_)
  have hP : va_P (dC, dI) vwCl [(x, .inr (9, [.int 0, .ref q_1, .int 0, .int (-1), .int (-1), .null, .int 0, .null, .null, .int 0, .null, .null, .null, .null, .null, .null])), (q_1, .inl (c_2, 900, .inl (fun _ => 0))), (q_3, .inr (0, [.null, .null, .null]))] H := hP
  have hD : va_D A [(x, .inr (9, [.int 0, .ref q_1, .int 0, .int (-1), .int (-1), .null, .int 0, .null, .null, .int 0, .null, .null, .null, .null, .null, .null])), (q_1, .inl (c_2, 900, .inl (fun _ => 0))), (q_3, .inr (0, [.null, .null, .null]))] := hD
  refine W.widen (k := 2) (n := 903) (by omega) (by omega) ?_
  refine lv_dup hx hb dX9_init_27 rfl ?_
  refine lv_iconst (v := 0) hx hb dX9_init_28 (by decide) ?_
  refine va_newq (C := "PatternGate$Doc") (n := 0) (N' := 0) hx hb hown (hts (.classLink RX9 22 RX2) (List.mem_of_getElem? (i := 11) (by decide +kernel))) hAO2 hK hP hD hS hA (by decide) (by decide) (Nat.le_of_ble_eq_true rfl) (Nat.le_of_ble_eq_true rfl) (Nat.le_of_ble_eq_true rfl) dX9_init_29 (fun q_4 c_5 H hK hP hD hS => ?_)
  have hP : va_P (dC, dI) vwCl [(x, .inr (9, [.int 0, .ref q_1, .int 0, .int (-1), .int (-1), .null, .int 0, .null, .null, .int 0, .null, .null, .null, .null, .null, .null])), (q_1, .inl (c_2, 900, .inl (fun _ => 0))), (q_3, .inr (0, [.null, .null, .null])), (q_4, .inl (c_5, 0, .inr (.inr (.inr (.inr (fun _ => none))))))] H := hP
  have hD : va_D A [(x, .inr (9, [.int 0, .ref q_1, .int 0, .int (-1), .int (-1), .null, .int 0, .null, .null, .int 0, .null, .null, .null, .null, .null, .null])), (q_1, .inl (c_2, 900, .inl (fun _ => 0))), (q_3, .inr (0, [.null, .null, .null])), (q_4, .inl (c_5, 0, .inr (.inr (.inr (.inr (fun _ => none))))))] := hD
  have hK : va_K (dC, dI) vwCl [(c_2, .int), (c_5, .object "PatternGate$Doc")] s := hK
  refine W.widen (k := 3) (n := 903) (by omega) (by omega) ?_
  refine lv_iconst (v := 0) hx hb dX9_init_32 (by decide) ?_
  refine va_newq (C := "PatternGate$Pattern") (n := 0) (N' := 0) hx hb hown (hts (.classLink RX9 24 RX5) (List.mem_of_getElem? (i := 12) (by decide +kernel))) hAO5 hK hP hD hS hA (by decide) (by decide) (Nat.le_of_ble_eq_true rfl) (Nat.le_of_ble_eq_true rfl) (Nat.le_of_ble_eq_true rfl) dX9_init_33 (fun q_6 c_7 H hK hP hD hS => ?_)
  have hP : va_P (dC, dI) vwCl [(x, .inr (9, [.int 0, .ref q_1, .int 0, .int (-1), .int (-1), .null, .int 0, .null, .null, .int 0, .null, .null, .null, .null, .null, .null])), (q_1, .inl (c_2, 900, .inl (fun _ => 0))), (q_3, .inr (0, [.null, .null, .null])), (q_4, .inl (c_5, 0, .inr (.inr (.inr (.inr (fun _ => none)))))), (q_6, .inl (c_7, 0, .inr (.inr (.inr (.inr (fun _ => none))))))] H := hP
  have hD : va_D A [(x, .inr (9, [.int 0, .ref q_1, .int 0, .int (-1), .int (-1), .null, .int 0, .null, .null, .int 0, .null, .null, .null, .null, .null, .null])), (q_1, .inl (c_2, 900, .inl (fun _ => 0))), (q_3, .inr (0, [.null, .null, .null])), (q_4, .inl (c_5, 0, .inr (.inr (.inr (.inr (fun _ => none)))))), (q_6, .inl (c_7, 0, .inr (.inr (.inr (.inr (fun _ => none))))))] := hD
  have hK : va_K (dC, dI) vwCl [(c_2, .int), (c_5, .object "PatternGate$Doc"), (c_7, .object "PatternGate$Pattern")] s := hK
  refine W.widen (k := 4) (n := 903) (by omega) (by omega) ?_
  refine lv_null hx hb dX9_init_36 ?_
  have hPc := hP.sub (ws' := [(q_3, .inr (0, [.null, .null, .null]))]) [2] rfl
  have hKc := hK.sub (tys' := []) [] rfl
  have hDc := hD.sub (ws' := [(q_3, .inr (0, [.null, .null, .null]))]) [2] (by decide) rfl
  have hFc := va_free (wc := [(q_3, .inr (0, [.null, .null, .null]))]) hD hS hA [2] rfl
  refine va_callv (va_runI (As := [.ref q_4, .ref q_6, .null]) (rest := [.ref q_3, .ref x]) ⟨hx, hb, hml, hown, hts⟩ (c_Book0 l dC dI q_3 q_4 q_6 H.size) (cwI 3 hts mg_X9_init_X0_init_26 rfl rfl rfl (hts (.initialized RX0) (List.mem_of_getElem? (i := 10) (by decide +kernel))) (hts (.methodLink RX9 26 yX0_init) (List.mem_of_getElem? (i := 18) (by decide +kernel))) (hts (.instanceMethod yX0_init) (List.mem_of_getElem? (i := 19) (by decide +kernel))) rfl (by decide +kernel) ⟨Nat.le_of_ble_eq_true rfl, Nat.le_of_ble_eq_true rfl⟩) ⟨fun a U g mk q => by obtain ⟨q0, q1, qP, qK, qD⟩ := q; exact ⟨q0, q1, qP, va_K.moved (u := U) (U := U.calling g mk a) (Vm.Alike.refl U.vm) qK, qD⟩, fun U hU hW => ⟨rfl, by rw [hU], by rw [hU]; exact hPc, va_K.moved hW.alike hKc, hDc.weaken (fun _ _ _ _ => trivial)⟩⟩ rfl rfl hl.1 rfl (lv_room (Nat.le_of_ble_eq_true rfl)) dX9_init_37 ⟨Nat.le_of_ble_eq_true rfl, Nat.le_of_ble_eq_true rfl⟩) hS (fun q _ h => hFc q h) hFc (fun u t H1 locs ht hvm hw hB hz1 hk1 hS => ?_)
  obtain ⟨hP1, hK1, hD1⟩ := hB
  rw [ht] at hP1
  obtain ⟨hP, hD⟩ := va_join (wr := [(x, .inr (9, [.int 0, .ref q_1, .int 0, .int (-1), .int (-1), .null, .int 0, .null, .null, .int 0, .null, .null, .null, .null, .null, .null])), (q_1, .inl (c_2, 900, .inl (fun _ => 0))), (q_4, .inl (c_5, 0, .inr (.inr (.inr (.inr (fun _ => none)))))), (q_6, .inl (c_7, 0, .inr (.inr (.inr (.inr (fun _ => none))))))]) (w1 := [(q_3, .inr (0, [.ref q_4, .ref q_6, .null]))]) hP hD [2] [0, 1, 3, 4] rfl rfl (by decide) (by decide) hk1 hFc hP1 hD1
  generalize H1 = H at hP hS ⊢
  have hP : va_P (dC, dI) vwCl [(x, .inr (9, [.int 0, .ref q_1, .int 0, .int (-1), .int (-1), .null, .int 0, .null, .null, .int 0, .null, .null, .null, .null, .null, .null])), (q_1, .inl (c_2, 900, .inl (fun _ => 0))), (q_4, .inl (c_5, 0, .inr (.inr (.inr (.inr (fun _ => none)))))), (q_6, .inl (c_7, 0, .inr (.inr (.inr (.inr (fun _ => none)))))), (q_3, .inr (0, [.ref q_4, .ref q_6, .null]))] H := hP
  have hD : va_D A [(x, .inr (9, [.int 0, .ref q_1, .int 0, .int (-1), .int (-1), .null, .int 0, .null, .null, .int 0, .null, .null, .null, .null, .null, .null])), (q_1, .inl (c_2, 900, .inl (fun _ => 0))), (q_4, .inl (c_5, 0, .inr (.inr (.inr (.inr (fun _ => none)))))), (q_6, .inl (c_7, 0, .inr (.inr (.inr (.inr (fun _ => none)))))), (q_3, .inr (0, [.ref q_4, .ref q_6, .null]))] := hD
  refine va_put (D := (dC, dI)) (ci := 9) (v := .ref q_3) (ty := .object "PatternGate$Book") (C := RX9) (T := TX9) (N := 16) hx hb hts fin_X9_init_X9 tyX9 tyX9_ok nmX9 hown hK hP hD hS 0 rfl rfl 5 (by decide) (hts (.fieldLink RX9 29 "PatternGate" "book" "LPatternGate$Book;") (List.mem_of_getElem? (i := 20) (by decide +kernel))) (fun _ h9 => h9) rfl (by decide +kernel) rfl rfl (Nat.le_of_ble_eq_true rfl) dX9_init_40 (fun H locs hP hD hS => ?_)
  have hP : va_P (dC, dI) vwCl [(x, .inr (9, [.int 0, .ref q_1, .int 0, .int (-1), .int (-1), .ref q_3, .int 0, .null, .null, .int 0, .null, .null, .null, .null, .null, .null])), (q_1, .inl (c_2, 900, .inl (fun _ => 0))), (q_4, .inl (c_5, 0, .inr (.inr (.inr (.inr (fun _ => none)))))), (q_6, .inl (c_7, 0, .inr (.inr (.inr (.inr (fun _ => none)))))), (q_3, .inr (0, [.ref q_4, .ref q_6, .null]))] H := hP
  have hD : va_D A [(x, .inr (9, [.int 0, .ref q_1, .int 0, .int (-1), .int (-1), .ref q_3, .int 0, .null, .null, .int 0, .null, .null, .null, .null, .null, .null])), (q_1, .inl (c_2, 900, .inl (fun _ => 0))), (q_4, .inl (c_5, 0, .inr (.inr (.inr (.inr (fun _ => none)))))), (q_6, .inl (c_7, 0, .inr (.inr (.inr (.inr (fun _ => none)))))), (q_3, .inr (0, [.ref q_4, .ref q_6, .null]))] := hD
  refine lv_aload_n hx hb dX9_init_43 rfl (lv_at hl 0 rfl) ?_
  refine lv_iconst (v := 3) hx hb dX9_init_44 (by decide) ?_
  refine va_newq (C := "PatternGate$Book") (n := 3) (N' := 3) hx hb hown (hts (.classLink RX9 20 RX0) (List.mem_of_getElem? (i := 8) (by decide +kernel))) hAO0 hK hP hD hS hA (by decide) (by decide) (Nat.le_of_ble_eq_true rfl) (Nat.le_of_ble_eq_true rfl) (Nat.le_of_ble_eq_true rfl) dX9_init_45 (fun q_10 c_11 H hK hP hD hS => ?_)
  have hP : va_P (dC, dI) vwCl [(x, .inr (9, [.int 0, .ref q_1, .int 0, .int (-1), .int (-1), .ref q_3, .int 0, .null, .null, .int 0, .null, .null, .null, .null, .null, .null])), (q_1, .inl (c_2, 900, .inl (fun _ => 0))), (q_4, .inl (c_5, 0, .inr (.inr (.inr (.inr (fun _ => none)))))), (q_6, .inl (c_7, 0, .inr (.inr (.inr (.inr (fun _ => none)))))), (q_3, .inr (0, [.ref q_4, .ref q_6, .null])), (q_10, .inl (c_11, 3, .inr (.inr (.inr (.inr (fun _ => none))))))] H := hP
  have hD : va_D A [(x, .inr (9, [.int 0, .ref q_1, .int 0, .int (-1), .int (-1), .ref q_3, .int 0, .null, .null, .int 0, .null, .null, .null, .null, .null, .null])), (q_1, .inl (c_2, 900, .inl (fun _ => 0))), (q_4, .inl (c_5, 0, .inr (.inr (.inr (.inr (fun _ => none)))))), (q_6, .inl (c_7, 0, .inr (.inr (.inr (.inr (fun _ => none)))))), (q_3, .inr (0, [.ref q_4, .ref q_6, .null])), (q_10, .inl (c_11, 3, .inr (.inr (.inr (.inr (fun _ => none))))))] := hD
  have hK : va_K (dC, dI) vwCl [(c_2, .int), (c_5, .object "PatternGate$Doc"), (c_7, .object "PatternGate$Pattern"), (c_11, .object "PatternGate$Book")] s := hK
  refine W.widen (k := 5) (n := 906) (by omega) (by omega) ?_
  refine va_putF (D := (dC, dI)) (ci := 9) (v := .ref q_10) (ty := .array (.object "PatternGate$Book")) (C := RX9) (T := TX9) (N := 16) hx hb hts fin_X9_init_X9 tyX9 tyX9_ok nmX9 hown hK hP hD hS 0 rfl rfl 7 (by decide) (hts (.fieldLink RX9 33 "PatternGate" "markedBooks" "[LPatternGate$Book;") (List.mem_of_getElem? (i := 21) (by decide +kernel))) (fun _ h9 => h9) rfl hin rfl (by decide +kernel) rfl rfl (Nat.le_of_ble_eq_true rfl) dX9_init_48 (fun H locs hP hD hS => ?_)
  have hP : va_P (dC, dI) vwCl [(x, .inr (9, [.int 0, .ref q_1, .int 0, .int (-1), .int (-1), .ref q_3, .int 0, .ref q_10, .null, .int 0, .null, .null, .null, .null, .null, .null])), (q_1, .inl (c_2, 900, .inl (fun _ => 0))), (q_4, .inl (c_5, 0, .inr (.inr (.inr (.inr (fun _ => none)))))), (q_6, .inl (c_7, 0, .inr (.inr (.inr (.inr (fun _ => none)))))), (q_3, .inr (0, [.ref q_4, .ref q_6, .null])), (q_10, .inl (c_11, 3, .inr (.inr (.inr (.inr (fun _ => none))))))] H := hP
  have hD : va_D A [(x, .inr (9, [.int 0, .ref q_1, .int 0, .int (-1), .int (-1), .ref q_3, .int 0, .ref q_10, .null, .int 0, .null, .null, .null, .null, .null, .null])), (q_1, .inl (c_2, 900, .inl (fun _ => 0))), (q_4, .inl (c_5, 0, .inr (.inr (.inr (.inr (fun _ => none)))))), (q_6, .inl (c_7, 0, .inr (.inr (.inr (.inr (fun _ => none)))))), (q_3, .inr (0, [.ref q_4, .ref q_6, .null])), (q_10, .inl (c_11, 3, .inr (.inr (.inr (.inr (fun _ => none))))))] := hD
  refine lv_aload_n hx hb dX9_init_51 rfl (lv_at hl 0 rfl) ?_
  refine lv_iconst (v := 3) hx hb dX9_init_52 (by decide) ?_
  refine va_newa (atype := .int) (ty := .int) (n := 3) (N' := 3) (a0 := (3, .inl (fun _ => 0))) hx hb (hts (.arrayClass .int) (List.mem_of_getElem? (i := 4) (by decide +kernel))) rfl hK hP hD hS hA (fun _ => rfl) (by decide) (by decide) (Nat.le_of_ble_eq_true rfl) (Nat.le_of_ble_eq_true rfl) (Nat.le_of_ble_eq_true rfl) dX9_init_53 (fun q_12 c_13 H hK hP hD hS => ?_)
  have hP : va_P (dC, dI) vwCl [(x, .inr (9, [.int 0, .ref q_1, .int 0, .int (-1), .int (-1), .ref q_3, .int 0, .ref q_10, .null, .int 0, .null, .null, .null, .null, .null, .null])), (q_1, .inl (c_2, 900, .inl (fun _ => 0))), (q_4, .inl (c_5, 0, .inr (.inr (.inr (.inr (fun _ => none)))))), (q_6, .inl (c_7, 0, .inr (.inr (.inr (.inr (fun _ => none)))))), (q_3, .inr (0, [.ref q_4, .ref q_6, .null])), (q_10, .inl (c_11, 3, .inr (.inr (.inr (.inr (fun _ => none)))))), (q_12, .inl (c_13, 3, .inl (fun _ => 0)))] H := hP
  have hD : va_D A [(x, .inr (9, [.int 0, .ref q_1, .int 0, .int (-1), .int (-1), .ref q_3, .int 0, .ref q_10, .null, .int 0, .null, .null, .null, .null, .null, .null])), (q_1, .inl (c_2, 900, .inl (fun _ => 0))), (q_4, .inl (c_5, 0, .inr (.inr (.inr (.inr (fun _ => none)))))), (q_6, .inl (c_7, 0, .inr (.inr (.inr (.inr (fun _ => none)))))), (q_3, .inr (0, [.ref q_4, .ref q_6, .null])), (q_10, .inl (c_11, 3, .inr (.inr (.inr (.inr (fun _ => none)))))), (q_12, .inl (c_13, 3, .inl (fun _ => 0)))] := hD
  have hK : va_K (dC, dI) vwCl [(c_2, .int), (c_5, .object "PatternGate$Doc"), (c_7, .object "PatternGate$Pattern"), (c_11, .object "PatternGate$Book"), (c_13, .int)] s := hK
  refine W.widen (k := 6) (n := 909) (by omega) (by omega) ?_
  refine va_putF (D := (dC, dI)) (ci := 9) (v := .ref q_12) (ty := .array .int) (C := RX9) (T := TX9) (N := 16) hx hb hts fin_X9_init_X9 tyX9 tyX9_ok nmX9 hown hK hP hD hS 0 rfl rfl 8 (by decide) (hts (.fieldLink RX9 37 "PatternGate" "markedUndoable" "[I") (List.mem_of_getElem? (i := 22) (by decide +kernel))) (fun _ h9 => h9) rfl hin rfl (by decide +kernel) rfl rfl (Nat.le_of_ble_eq_true rfl) dX9_init_55 (fun H locs hP hD hS => ?_)
  have hP : va_P (dC, dI) vwCl [(x, .inr (9, [.int 0, .ref q_1, .int 0, .int (-1), .int (-1), .ref q_3, .int 0, .ref q_10, .ref q_12, .int 0, .null, .null, .null, .null, .null, .null])), (q_1, .inl (c_2, 900, .inl (fun _ => 0))), (q_4, .inl (c_5, 0, .inr (.inr (.inr (.inr (fun _ => none)))))), (q_6, .inl (c_7, 0, .inr (.inr (.inr (.inr (fun _ => none)))))), (q_3, .inr (0, [.ref q_4, .ref q_6, .null])), (q_10, .inl (c_11, 3, .inr (.inr (.inr (.inr (fun _ => none)))))), (q_12, .inl (c_13, 3, .inl (fun _ => 0)))] H := hP
  have hD : va_D A [(x, .inr (9, [.int 0, .ref q_1, .int 0, .int (-1), .int (-1), .ref q_3, .int 0, .ref q_10, .ref q_12, .int 0, .null, .null, .null, .null, .null, .null])), (q_1, .inl (c_2, 900, .inl (fun _ => 0))), (q_4, .inl (c_5, 0, .inr (.inr (.inr (.inr (fun _ => none)))))), (q_6, .inl (c_7, 0, .inr (.inr (.inr (.inr (fun _ => none)))))), (q_3, .inr (0, [.ref q_4, .ref q_6, .null])), (q_10, .inl (c_11, 3, .inr (.inr (.inr (.inr (fun _ => none)))))), (q_12, .inl (c_13, 3, .inl (fun _ => 0)))] := hD
  refine lv_aload_n hx hb dX9_init_58 rfl (lv_at hl 0 rfl) ?_
  refine va_new (ci := 6) (fs := [.int 0, .int 0, .int 0, .int 0, .int 0, .null, .null, .null, .int 0, .int 0, .int 0]) (C := RX6) (T := TX6) (N := 11) hx hb hts fin_X9_init_X6 tyX6 tyX6_ok hown (hts (.classLink RX9 40 RX6) (List.mem_of_getElem? (i := 23) (by decide +kernel))) (hts (.instantiable RX6 11) (List.mem_of_getElem? (i := 24) (by decide +kernel))) (hts (.initialized RX6) (List.mem_of_getElem? (i := 25) (by decide +kernel))) hK hP hD hS hA rfl (fun j hj => by rcases (show j = 0 ∨ j = 1 ∨ j = 2 ∨ j = 3 ∨ j = 4 ∨ j = 5 ∨ j = 6 ∨ j = 7 ∨ j = 8 ∨ j = 9 ∨ j = 10 by omega) with rfl | rfl | rfl | rfl | rfl | rfl | rfl | rfl | rfl | rfl | rfl <;> rfl) (Nat.le_of_ble_eq_true rfl) (Nat.le_of_ble_eq_true rfl) dX9_init_59 (fun q_14 H hP hD hS => ?_)
  have hP : va_P (dC, dI) vwCl [(x, .inr (9, [.int 0, .ref q_1, .int 0, .int (-1), .int (-1), .ref q_3, .int 0, .ref q_10, .ref q_12, .int 0, .null, .null, .null, .null, .null, .null])), (q_1, .inl (c_2, 900, .inl (fun _ => 0))), (q_4, .inl (c_5, 0, .inr (.inr (.inr (.inr (fun _ => none)))))), (q_6, .inl (c_7, 0, .inr (.inr (.inr (.inr (fun _ => none)))))), (q_3, .inr (0, [.ref q_4, .ref q_6, .null])), (q_10, .inl (c_11, 3, .inr (.inr (.inr (.inr (fun _ => none)))))), (q_12, .inl (c_13, 3, .inl (fun _ => 0))), (q_14, .inr (6, [.int 0, .int 0, .int 0, .int 0, .int 0, .null, .null, .null, .int 0, .int 0, .int 0]))] H := hP
  have hD : va_D A [(x, .inr (9, [.int 0, .ref q_1, .int 0, .int (-1), .int (-1), .ref q_3, .int 0, .ref q_10, .ref q_12, .int 0, .null, .null, .null, .null, .null, .null])), (q_1, .inl (c_2, 900, .inl (fun _ => 0))), (q_4, .inl (c_5, 0, .inr (.inr (.inr (.inr (fun _ => none)))))), (q_6, .inl (c_7, 0, .inr (.inr (.inr (.inr (fun _ => none)))))), (q_3, .inr (0, [.ref q_4, .ref q_6, .null])), (q_10, .inl (c_11, 3, .inr (.inr (.inr (.inr (fun _ => none)))))), (q_12, .inl (c_13, 3, .inl (fun _ => 0))), (q_14, .inr (6, [.int 0, .int 0, .int 0, .int 0, .int 0, .null, .null, .null, .int 0, .int 0, .int 0]))] := hD
  refine W.widen (k := 7) (n := 920) (by omega) (by omega) ?_
  refine lv_dup hx hb dX9_init_62 rfl ?_
  have hPc := hP.sub (ws' := [(q_14, .inr (6, [.int 0, .int 0, .int 0, .int 0, .int 0, .null, .null, .null, .int 0, .int 0, .int 0]))]) [7] rfl
  have hKc := hK.sub (tys' := []) [] rfl
  have hDc := hD.sub (ws' := [(q_14, .inr (6, [.int 0, .int 0, .int 0, .int 0, .int 0, .null, .null, .null, .int 0, .int 0, .int 0]))]) [7] (by decide) rfl
  have hFc := va_free (wc := [(q_14, .inr (6, [.int 0, .int 0, .int 0, .int 0, .int 0, .null, .null, .null, .int 0, .int 0, .int 0]))]) hD hS hA [7] rfl
  refine va_callv (va_runIN (As := []) (rest := [.ref q_14, .ref x]) ⟨hx, hb, hml, hown, hts⟩ (c_Reader l dC dI q_14 H.size) ⟨va_cnB 0 hts mg_X9_init_X6_init_42 rfl rfl rfl hN42 (hts (.initialized RX6) (List.mem_of_getElem? (i := 25) (by decide +kernel))) (by decide +kernel) ⟨Nat.le_of_ble_eq_true rfl, Nat.le_of_ble_eq_true rfl⟩, rfl, (hts (.instanceMethod yX6_init) (List.mem_of_getElem? (i := 32) (by decide +kernel)))⟩ ⟨fun a U g mk q => by obtain ⟨q0, q1, qP, qK, qD⟩ := q; exact ⟨q0, q1, qP, va_K.moved (u := U) (U := U.calling g mk a) (Vm.Alike.refl U.vm) qK, qD⟩, fun U hU hW => ⟨rfl, by rw [hU], by rw [hU]; exact hPc, va_K.moved hW.alike hKc, hDc.weaken (fun _ _ _ _ => trivial)⟩⟩ rfl rfl hl.1 rfl (lv_room (Nat.le_of_ble_eq_true rfl)) dX9_init_63 ⟨Nat.le_of_ble_eq_true rfl, Nat.le_of_ble_eq_true rfl⟩) hS (fun q _ h => hFc q h) hFc (fun u t H1 locs ht hvm hw hB hz1 hk1 hS => ?_)
  obtain ⟨r_17, hP1, hK1, hD1⟩ := hB
  rw [ht] at hP1
  obtain ⟨hP, hD⟩ := va_join (wr := [(x, .inr (9, [.int 0, .ref q_1, .int 0, .int (-1), .int (-1), .ref q_3, .int 0, .ref q_10, .ref q_12, .int 0, .null, .null, .null, .null, .null, .null])), (q_1, .inl (c_2, 900, .inl (fun _ => 0))), (q_4, .inl (c_5, 0, .inr (.inr (.inr (.inr (fun _ => none)))))), (q_6, .inl (c_7, 0, .inr (.inr (.inr (.inr (fun _ => none)))))), (q_3, .inr (0, [.ref q_4, .ref q_6, .null])), (q_10, .inl (c_11, 3, .inr (.inr (.inr (.inr (fun _ => none)))))), (q_12, .inl (c_13, 3, .inl (fun _ => 0)))]) (w1 := [(q_14, .inr (6, rF r_17 0 0 0 0 0 0 0 0))]) hP hD [7] [0, 1, 2, 3, 4, 5, 6] rfl rfl (by decide) (by decide) hk1 hFc hP1 hD1
  generalize H1 = H at hP hS ⊢
  have hP : va_P (dC, dI) vwCl [(x, .inr (9, [.int 0, .ref q_1, .int 0, .int (-1), .int (-1), .ref q_3, .int 0, .ref q_10, .ref q_12, .int 0, .null, .null, .null, .null, .null, .null])), (q_1, .inl (c_2, 900, .inl (fun _ => 0))), (q_4, .inl (c_5, 0, .inr (.inr (.inr (.inr (fun _ => none)))))), (q_6, .inl (c_7, 0, .inr (.inr (.inr (.inr (fun _ => none)))))), (q_3, .inr (0, [.ref q_4, .ref q_6, .null])), (q_10, .inl (c_11, 3, .inr (.inr (.inr (.inr (fun _ => none)))))), (q_12, .inl (c_13, 3, .inl (fun _ => 0))), (q_14, .inr (6, rF r_17 0 0 0 0 0 0 0 0))] H := hP
  have hD : va_D A [(x, .inr (9, [.int 0, .ref q_1, .int 0, .int (-1), .int (-1), .ref q_3, .int 0, .ref q_10, .ref q_12, .int 0, .null, .null, .null, .null, .null, .null])), (q_1, .inl (c_2, 900, .inl (fun _ => 0))), (q_4, .inl (c_5, 0, .inr (.inr (.inr (.inr (fun _ => none)))))), (q_6, .inl (c_7, 0, .inr (.inr (.inr (.inr (fun _ => none)))))), (q_3, .inr (0, [.ref q_4, .ref q_6, .null])), (q_10, .inl (c_11, 3, .inr (.inr (.inr (.inr (fun _ => none)))))), (q_12, .inl (c_13, 3, .inl (fun _ => 0))), (q_14, .inr (6, rF r_17 0 0 0 0 0 0 0 0))] := hD
  refine W.widen (k := 10) (n := 974) (by omega) (by omega) ?_
  refine va_putF (D := (dC, dI)) (ci := 9) (v := .ref q_14) (ty := .object "PatternGate$Reader") (C := RX9) (T := TX9) (N := 16) hx hb hts fin_X9_init_X9 tyX9 tyX9_ok nmX9 hown hK hP hD hS 0 rfl rfl 10 (by decide) (hts (.fieldLink RX9 43 "PatternGate" "reader" "LPatternGate$Reader;") (List.mem_of_getElem? (i := 33) (by decide +kernel))) (fun _ h9 => h9) rfl hin rfl (by decide +kernel) rfl rfl (Nat.le_of_ble_eq_true rfl) dX9_init_66 (fun H locs hP hD hS => ?_)
  have hP : va_P (dC, dI) vwCl [(x, .inr (9, [.int 0, .ref q_1, .int 0, .int (-1), .int (-1), .ref q_3, .int 0, .ref q_10, .ref q_12, .int 0, .ref q_14, .null, .null, .null, .null, .null])), (q_1, .inl (c_2, 900, .inl (fun _ => 0))), (q_4, .inl (c_5, 0, .inr (.inr (.inr (.inr (fun _ => none)))))), (q_6, .inl (c_7, 0, .inr (.inr (.inr (.inr (fun _ => none)))))), (q_3, .inr (0, [.ref q_4, .ref q_6, .null])), (q_10, .inl (c_11, 3, .inr (.inr (.inr (.inr (fun _ => none)))))), (q_12, .inl (c_13, 3, .inl (fun _ => 0))), (q_14, .inr (6, rF r_17 0 0 0 0 0 0 0 0))] H := hP
  have hD : va_D A [(x, .inr (9, [.int 0, .ref q_1, .int 0, .int (-1), .int (-1), .ref q_3, .int 0, .ref q_10, .ref q_12, .int 0, .ref q_14, .null, .null, .null, .null, .null])), (q_1, .inl (c_2, 900, .inl (fun _ => 0))), (q_4, .inl (c_5, 0, .inr (.inr (.inr (.inr (fun _ => none)))))), (q_6, .inl (c_7, 0, .inr (.inr (.inr (.inr (fun _ => none)))))), (q_3, .inr (0, [.ref q_4, .ref q_6, .null])), (q_10, .inl (c_11, 3, .inr (.inr (.inr (.inr (fun _ => none)))))), (q_12, .inl (c_13, 3, .inl (fun _ => 0))), (q_14, .inr (6, rF r_17 0 0 0 0 0 0 0 0))] := hD
  refine lv_aload_n hx hb dX9_init_69 rfl (lv_at hl 0 rfl) ?_
  refine va_new (ci := 1) (fs := [.null, .null, .null, .null, .null, .null, .null, .null, .null, .null, .int 0]) (C := RX1) (T := TX1) (N := 11) hx hb hts fin_X9_init_X1 tyX1 tyX1_ok hown (hts (.classLink RX9 47 RX1) (List.mem_of_getElem? (i := 34) (by decide +kernel))) (hts (.instantiable RX1 11) (List.mem_of_getElem? (i := 35) (by decide +kernel))) (hts (.initialized RX1) (List.mem_of_getElem? (i := 36) (by decide +kernel))) hK hP hD hS hA rfl (fun j hj => by rcases (show j = 0 ∨ j = 1 ∨ j = 2 ∨ j = 3 ∨ j = 4 ∨ j = 5 ∨ j = 6 ∨ j = 7 ∨ j = 8 ∨ j = 9 ∨ j = 10 by omega) with rfl | rfl | rfl | rfl | rfl | rfl | rfl | rfl | rfl | rfl | rfl <;> rfl) (Nat.le_of_ble_eq_true rfl) (Nat.le_of_ble_eq_true rfl) dX9_init_70 (fun q_18 H hP hD hS => ?_)
  have hP : va_P (dC, dI) vwCl [(x, .inr (9, [.int 0, .ref q_1, .int 0, .int (-1), .int (-1), .ref q_3, .int 0, .ref q_10, .ref q_12, .int 0, .ref q_14, .null, .null, .null, .null, .null])), (q_1, .inl (c_2, 900, .inl (fun _ => 0))), (q_4, .inl (c_5, 0, .inr (.inr (.inr (.inr (fun _ => none)))))), (q_6, .inl (c_7, 0, .inr (.inr (.inr (.inr (fun _ => none)))))), (q_3, .inr (0, [.ref q_4, .ref q_6, .null])), (q_10, .inl (c_11, 3, .inr (.inr (.inr (.inr (fun _ => none)))))), (q_12, .inl (c_13, 3, .inl (fun _ => 0))), (q_14, .inr (6, rF r_17 0 0 0 0 0 0 0 0)), (q_18, .inr (1, [.null, .null, .null, .null, .null, .null, .null, .null, .null, .null, .int 0]))] H := hP
  have hD : va_D A [(x, .inr (9, [.int 0, .ref q_1, .int 0, .int (-1), .int (-1), .ref q_3, .int 0, .ref q_10, .ref q_12, .int 0, .ref q_14, .null, .null, .null, .null, .null])), (q_1, .inl (c_2, 900, .inl (fun _ => 0))), (q_4, .inl (c_5, 0, .inr (.inr (.inr (.inr (fun _ => none)))))), (q_6, .inl (c_7, 0, .inr (.inr (.inr (.inr (fun _ => none)))))), (q_3, .inr (0, [.ref q_4, .ref q_6, .null])), (q_10, .inl (c_11, 3, .inr (.inr (.inr (.inr (fun _ => none)))))), (q_12, .inl (c_13, 3, .inl (fun _ => 0))), (q_14, .inr (6, rF r_17 0 0 0 0 0 0 0 0)), (q_18, .inr (1, [.null, .null, .null, .null, .null, .null, .null, .null, .null, .null, .int 0]))] := hD
  refine W.widen (k := 11) (n := 985) (by omega) (by omega) ?_
  refine lv_dup hx hb dX9_init_73 rfl ?_
  have hPc := hP.sub (ws' := [(q_18, .inr (1, [.null, .null, .null, .null, .null, .null, .null, .null, .null, .null, .int 0]))]) [8] rfl
  have hKc := hK.sub (tys' := []) [] rfl
  have hDc := hD.sub (ws' := [(q_18, .inr (1, [.null, .null, .null, .null, .null, .null, .null, .null, .null, .null, .int 0]))]) [8] (by decide) rfl
  have hFc := va_free (wc := [(q_18, .inr (1, [.null, .null, .null, .null, .null, .null, .null, .null, .null, .null, .int 0]))]) hD hS hA [8] rfl
  refine va_callv (va_runI (As := []) (rest := [.ref q_18, .ref x]) ⟨hx, hb, hml, hown, hts⟩ (c_Compiler l dC dI q_18 H.size) (cwI 0 hts mg_X9_init_X1_init_49 rfl rfl rfl (hts (.initialized RX1) (List.mem_of_getElem? (i := 36) (by decide +kernel))) (hts (.methodLink RX9 49 yX1_init) (List.mem_of_getElem? (i := 82) (by decide +kernel))) (hts (.instanceMethod yX1_init) (List.mem_of_getElem? (i := 83) (by decide +kernel))) rfl (by decide +kernel) ⟨Nat.le_of_ble_eq_true rfl, Nat.le_of_ble_eq_true rfl⟩) ⟨fun a U g mk q => by obtain ⟨q0, q1, qP, qK, qD, qE0, qE1, qE2, qE3⟩ := q; exact ⟨q0, q1, qP, va_K.moved (u := U) (U := U.calling g mk a) (Vm.Alike.refl U.vm) qK, qD, va_AO.moved (u := U) (U := U.calling g mk a) (Vm.Alike.refl U.vm) qE0, va_Nw.same rfl (rfl : U.vm = (U.calling g mk a).vm) qE1, va_Nw.same rfl (rfl : U.vm = (U.calling g mk a).vm) qE2, va_Nw.same rfl (rfl : U.vm = (U.calling g mk a).vm) qE3⟩, fun U hU hW => ⟨rfl, by rw [hU], by rw [hU]; exact hPc, va_K.moved hW.alike hKc, hDc.weaken (fun _ _ _ _ => trivial), va_AO.moved hW.alike hAO4, va_Nw.warmM hW hN24, va_Nw.warmM hW hN31, va_Nw.warmM hW hN11⟩⟩ rfl rfl hl.1 rfl (lv_room (Nat.le_of_ble_eq_true rfl)) dX9_init_74 ⟨Nat.le_of_ble_eq_true rfl, Nat.le_of_ble_eq_true rfl⟩) hS (fun q _ h => hFc q h) hFc (fun u t H1 locs ht hvm hw hB hz1 hk1 hS => ?_)
  obtain ⟨hP, hD⟩ := va_join (wr := [(x, .inr (9, [.int 0, .ref q_1, .int 0, .int (-1), .int (-1), .ref q_3, .int 0, .ref q_10, .ref q_12, .int 0, .ref q_14, .null, .null, .null, .null, .null])), (q_1, .inl (c_2, 900, .inl (fun _ => 0))), (q_4, .inl (c_5, 0, .inr (.inr (.inr (.inr (fun _ => none)))))), (q_6, .inl (c_7, 0, .inr (.inr (.inr (.inr (fun _ => none)))))), (q_3, .inr (0, [.ref q_4, .ref q_6, .null])), (q_10, .inl (c_11, 3, .inr (.inr (.inr (.inr (fun _ => none)))))), (q_12, .inl (c_13, 3, .inl (fun _ => 0))), (q_14, .inr (6, rF r_17 0 0 0 0 0 0 0 0))]) (w1 := []) hP hD [8] [0, 1, 2, 3, 4, 5, 6, 7] rfl rfl (by decide) (by decide) hk1 hFc (fun k q h => by simp at h) ⟨fun i j p q h => by simp at h, fun k q h => by simp at h⟩
  generalize H1 = H at hP hS ⊢
  have hP : va_P (dC, dI) vwCl [(x, .inr (9, [.int 0, .ref q_1, .int 0, .int (-1), .int (-1), .ref q_3, .int 0, .ref q_10, .ref q_12, .int 0, .ref q_14, .null, .null, .null, .null, .null])), (q_1, .inl (c_2, 900, .inl (fun _ => 0))), (q_4, .inl (c_5, 0, .inr (.inr (.inr (.inr (fun _ => none)))))), (q_6, .inl (c_7, 0, .inr (.inr (.inr (.inr (fun _ => none)))))), (q_3, .inr (0, [.ref q_4, .ref q_6, .null])), (q_10, .inl (c_11, 3, .inr (.inr (.inr (.inr (fun _ => none)))))), (q_12, .inl (c_13, 3, .inl (fun _ => 0))), (q_14, .inr (6, rF r_17 0 0 0 0 0 0 0 0))] H := hP
  have hD : va_D A [(x, .inr (9, [.int 0, .ref q_1, .int 0, .int (-1), .int (-1), .ref q_3, .int 0, .ref q_10, .ref q_12, .int 0, .ref q_14, .null, .null, .null, .null, .null])), (q_1, .inl (c_2, 900, .inl (fun _ => 0))), (q_4, .inl (c_5, 0, .inr (.inr (.inr (.inr (fun _ => none)))))), (q_6, .inl (c_7, 0, .inr (.inr (.inr (.inr (fun _ => none)))))), (q_3, .inr (0, [.ref q_4, .ref q_6, .null])), (q_10, .inl (c_11, 3, .inr (.inr (.inr (.inr (fun _ => none)))))), (q_12, .inl (c_13, 3, .inl (fun _ => 0))), (q_14, .inr (6, rF r_17 0 0 0 0 0 0 0 0))] := hD
  refine W.widen (k := 111) (n := 9985) (by omega) (by omega) ?_
  refine va_putF (D := (dC, dI)) (ci := 9) (v := .ref q_18) (ty := .object "PatternGate$Compiler") (C := RX9) (T := TX9) (N := 16) hx hb hts fin_X9_init_X9 tyX9 tyX9_ok nmX9 hown hK hP hD hS 0 rfl rfl 11 (by decide) (hts (.fieldLink RX9 50 "PatternGate" "compiler" "LPatternGate$Compiler;") (List.mem_of_getElem? (i := 84) (by decide +kernel))) (fun _ h9 => h9) rfl hin rfl (by decide +kernel) rfl rfl (Nat.le_of_ble_eq_true rfl) dX9_init_77 (fun H locs hP hD hS => ?_)
  have hP : va_P (dC, dI) vwCl [(x, .inr (9, [.int 0, .ref q_1, .int 0, .int (-1), .int (-1), .ref q_3, .int 0, .ref q_10, .ref q_12, .int 0, .ref q_14, .ref q_18, .null, .null, .null, .null])), (q_1, .inl (c_2, 900, .inl (fun _ => 0))), (q_4, .inl (c_5, 0, .inr (.inr (.inr (.inr (fun _ => none)))))), (q_6, .inl (c_7, 0, .inr (.inr (.inr (.inr (fun _ => none)))))), (q_3, .inr (0, [.ref q_4, .ref q_6, .null])), (q_10, .inl (c_11, 3, .inr (.inr (.inr (.inr (fun _ => none)))))), (q_12, .inl (c_13, 3, .inl (fun _ => 0))), (q_14, .inr (6, rF r_17 0 0 0 0 0 0 0 0))] H := hP
  have hD : va_D A [(x, .inr (9, [.int 0, .ref q_1, .int 0, .int (-1), .int (-1), .ref q_3, .int 0, .ref q_10, .ref q_12, .int 0, .ref q_14, .ref q_18, .null, .null, .null, .null])), (q_1, .inl (c_2, 900, .inl (fun _ => 0))), (q_4, .inl (c_5, 0, .inr (.inr (.inr (.inr (fun _ => none)))))), (q_6, .inl (c_7, 0, .inr (.inr (.inr (.inr (fun _ => none)))))), (q_3, .inr (0, [.ref q_4, .ref q_6, .null])), (q_10, .inl (c_11, 3, .inr (.inr (.inr (.inr (fun _ => none)))))), (q_12, .inl (c_13, 3, .inl (fun _ => 0))), (q_14, .inr (6, rF r_17 0 0 0 0 0 0 0 0))] := hD
  refine lv_aload_n hx hb dX9_init_80 rfl (lv_at hl 0 rfl) ?_
  refine va_new (ci := 8) (fs := [.int 0, .int 0, .null]) (C := RX8) (T := TX8) (N := 3) hx hb hts fin_X9_init_X8 tyX8 tyX8_ok hown (hts (.classLink RX9 54 RX8) (List.mem_of_getElem? (i := 85) (by decide +kernel))) (hts (.instantiable RX8 3) (List.mem_of_getElem? (i := 86) (by decide +kernel))) (hts (.initialized RX8) (List.mem_of_getElem? (i := 87) (by decide +kernel))) hK hP hD hS hA rfl (fun j hj => by rcases (show j = 0 ∨ j = 1 ∨ j = 2 by omega) with rfl | rfl | rfl <;> rfl) (Nat.le_of_ble_eq_true rfl) (Nat.le_of_ble_eq_true rfl) dX9_init_81 (fun q_21 H hP hD hS => ?_)
  have hP : va_P (dC, dI) vwCl [(x, .inr (9, [.int 0, .ref q_1, .int 0, .int (-1), .int (-1), .ref q_3, .int 0, .ref q_10, .ref q_12, .int 0, .ref q_14, .ref q_18, .null, .null, .null, .null])), (q_1, .inl (c_2, 900, .inl (fun _ => 0))), (q_4, .inl (c_5, 0, .inr (.inr (.inr (.inr (fun _ => none)))))), (q_6, .inl (c_7, 0, .inr (.inr (.inr (.inr (fun _ => none)))))), (q_3, .inr (0, [.ref q_4, .ref q_6, .null])), (q_10, .inl (c_11, 3, .inr (.inr (.inr (.inr (fun _ => none)))))), (q_12, .inl (c_13, 3, .inl (fun _ => 0))), (q_14, .inr (6, rF r_17 0 0 0 0 0 0 0 0)), (q_21, .inr (8, [.int 0, .int 0, .null]))] H := hP
  have hD : va_D A [(x, .inr (9, [.int 0, .ref q_1, .int 0, .int (-1), .int (-1), .ref q_3, .int 0, .ref q_10, .ref q_12, .int 0, .ref q_14, .ref q_18, .null, .null, .null, .null])), (q_1, .inl (c_2, 900, .inl (fun _ => 0))), (q_4, .inl (c_5, 0, .inr (.inr (.inr (.inr (fun _ => none)))))), (q_6, .inl (c_7, 0, .inr (.inr (.inr (.inr (fun _ => none)))))), (q_3, .inr (0, [.ref q_4, .ref q_6, .null])), (q_10, .inl (c_11, 3, .inr (.inr (.inr (.inr (fun _ => none)))))), (q_12, .inl (c_13, 3, .inl (fun _ => 0))), (q_14, .inr (6, rF r_17 0 0 0 0 0 0 0 0)), (q_21, .inr (8, [.int 0, .int 0, .null]))] := hD
  refine W.widen (k := 112) (n := 9988) (by omega) (by omega) ?_
  refine lv_dup hx hb dX9_init_84 rfl ?_
  have hPc := hP.sub (ws' := [(q_21, .inr (8, [.int 0, .int 0, .null]))]) [8] rfl
  have hKc := hK.sub (tys' := []) [] rfl
  have hDc := hD.sub (ws' := [(q_21, .inr (8, [.int 0, .int 0, .null]))]) [8] (by decide) rfl
  have hFc := va_free (wc := [(q_21, .inr (8, [.int 0, .int 0, .null]))]) hD hS hA [8] rfl
  refine va_callv (va_runIN (As := []) (rest := [.ref q_21, .ref x]) ⟨hx, hb, hml, hown, hts⟩ (c_Walk l dC dI q_21 H.size) ⟨va_cnB 0 hts mg_X9_init_X8_init_56 rfl rfl rfl hN56 (hts (.initialized RX8) (List.mem_of_getElem? (i := 87) (by decide +kernel))) (by decide +kernel) ⟨Nat.le_of_ble_eq_true rfl, Nat.le_of_ble_eq_true rfl⟩, rfl, (hts (.instanceMethod yX8_init) (List.mem_of_getElem? (i := 91) (by decide +kernel)))⟩ ⟨fun a U g mk q => by obtain ⟨q0, q1, qP, qK, qD⟩ := q; exact ⟨q0, q1, qP, va_K.moved (u := U) (U := U.calling g mk a) (Vm.Alike.refl U.vm) qK, qD⟩, fun U hU hW => ⟨rfl, by rw [hU], by rw [hU]; exact hPc, va_K.moved hW.alike hKc, hDc.weaken (fun _ _ _ _ => trivial)⟩⟩ rfl rfl hl.1 rfl (lv_room (Nat.le_of_ble_eq_true rfl)) dX9_init_85 ⟨Nat.le_of_ble_eq_true rfl, Nat.le_of_ble_eq_true rfl⟩) hS (fun q _ h => hFc q h) hFc (fun u t H1 locs ht hvm hw hB hz1 hk1 hS => ?_)
  obtain ⟨hP, hD⟩ := va_join (wr := [(x, .inr (9, [.int 0, .ref q_1, .int 0, .int (-1), .int (-1), .ref q_3, .int 0, .ref q_10, .ref q_12, .int 0, .ref q_14, .ref q_18, .null, .null, .null, .null])), (q_1, .inl (c_2, 900, .inl (fun _ => 0))), (q_4, .inl (c_5, 0, .inr (.inr (.inr (.inr (fun _ => none)))))), (q_6, .inl (c_7, 0, .inr (.inr (.inr (.inr (fun _ => none)))))), (q_3, .inr (0, [.ref q_4, .ref q_6, .null])), (q_10, .inl (c_11, 3, .inr (.inr (.inr (.inr (fun _ => none)))))), (q_12, .inl (c_13, 3, .inl (fun _ => 0))), (q_14, .inr (6, rF r_17 0 0 0 0 0 0 0 0))]) (w1 := []) hP hD [8] [0, 1, 2, 3, 4, 5, 6, 7] rfl rfl (by decide) (by decide) hk1 hFc (fun k q h => by simp at h) ⟨fun i j p q h => by simp at h, fun k q h => by simp at h⟩
  generalize H1 = H at hP hS ⊢
  have hP : va_P (dC, dI) vwCl [(x, .inr (9, [.int 0, .ref q_1, .int 0, .int (-1), .int (-1), .ref q_3, .int 0, .ref q_10, .ref q_12, .int 0, .ref q_14, .ref q_18, .null, .null, .null, .null])), (q_1, .inl (c_2, 900, .inl (fun _ => 0))), (q_4, .inl (c_5, 0, .inr (.inr (.inr (.inr (fun _ => none)))))), (q_6, .inl (c_7, 0, .inr (.inr (.inr (.inr (fun _ => none)))))), (q_3, .inr (0, [.ref q_4, .ref q_6, .null])), (q_10, .inl (c_11, 3, .inr (.inr (.inr (.inr (fun _ => none)))))), (q_12, .inl (c_13, 3, .inl (fun _ => 0))), (q_14, .inr (6, rF r_17 0 0 0 0 0 0 0 0))] H := hP
  have hD : va_D A [(x, .inr (9, [.int 0, .ref q_1, .int 0, .int (-1), .int (-1), .ref q_3, .int 0, .ref q_10, .ref q_12, .int 0, .ref q_14, .ref q_18, .null, .null, .null, .null])), (q_1, .inl (c_2, 900, .inl (fun _ => 0))), (q_4, .inl (c_5, 0, .inr (.inr (.inr (.inr (fun _ => none)))))), (q_6, .inl (c_7, 0, .inr (.inr (.inr (.inr (fun _ => none)))))), (q_3, .inr (0, [.ref q_4, .ref q_6, .null])), (q_10, .inl (c_11, 3, .inr (.inr (.inr (.inr (fun _ => none)))))), (q_12, .inl (c_13, 3, .inl (fun _ => 0))), (q_14, .inr (6, rF r_17 0 0 0 0 0 0 0 0))] := hD
  refine W.widen (k := 113) (n := 10012) (by omega) (by omega) ?_
  refine va_putF (D := (dC, dI)) (ci := 9) (v := .ref q_21) (ty := .object "PatternGate$Walk") (C := RX9) (T := TX9) (N := 16) hx hb hts fin_X9_init_X9 tyX9 tyX9_ok nmX9 hown hK hP hD hS 0 rfl rfl 12 (by decide) (hts (.fieldLink RX9 57 "PatternGate" "walk" "LPatternGate$Walk;") (List.mem_of_getElem? (i := 92) (by decide +kernel))) (fun _ h9 => h9) rfl hin rfl (by decide +kernel) rfl rfl (Nat.le_of_ble_eq_true rfl) dX9_init_88 (fun H locs hP hD hS => ?_)
  have hP : va_P (dC, dI) vwCl [(x, .inr (9, [.int 0, .ref q_1, .int 0, .int (-1), .int (-1), .ref q_3, .int 0, .ref q_10, .ref q_12, .int 0, .ref q_14, .ref q_18, .ref q_21, .null, .null, .null])), (q_1, .inl (c_2, 900, .inl (fun _ => 0))), (q_4, .inl (c_5, 0, .inr (.inr (.inr (.inr (fun _ => none)))))), (q_6, .inl (c_7, 0, .inr (.inr (.inr (.inr (fun _ => none)))))), (q_3, .inr (0, [.ref q_4, .ref q_6, .null])), (q_10, .inl (c_11, 3, .inr (.inr (.inr (.inr (fun _ => none)))))), (q_12, .inl (c_13, 3, .inl (fun _ => 0))), (q_14, .inr (6, rF r_17 0 0 0 0 0 0 0 0))] H := hP
  have hD : va_D A [(x, .inr (9, [.int 0, .ref q_1, .int 0, .int (-1), .int (-1), .ref q_3, .int 0, .ref q_10, .ref q_12, .int 0, .ref q_14, .ref q_18, .ref q_21, .null, .null, .null])), (q_1, .inl (c_2, 900, .inl (fun _ => 0))), (q_4, .inl (c_5, 0, .inr (.inr (.inr (.inr (fun _ => none)))))), (q_6, .inl (c_7, 0, .inr (.inr (.inr (.inr (fun _ => none)))))), (q_3, .inr (0, [.ref q_4, .ref q_6, .null])), (q_10, .inl (c_11, 3, .inr (.inr (.inr (.inr (fun _ => none)))))), (q_12, .inl (c_13, 3, .inl (fun _ => 0))), (q_14, .inr (6, rF r_17 0 0 0 0 0 0 0 0))] := hD
  refine lv_aload_n hx hb dX9_init_91 rfl (lv_at hl 0 rfl) ?_
  refine lv_bipush (v := 60) hx hb dX9_init_92 (by decide) ?_
  refine va_newa (atype := .int) (ty := .int) (n := 60) (N' := 60) (a0 := (60, .inl (fun _ => 0))) hx hb (hts (.arrayClass .int) (List.mem_of_getElem? (i := 4) (by decide +kernel))) rfl hK hP hD hS hA (fun _ => rfl) (by decide) (by decide) (Nat.le_of_ble_eq_true rfl) (Nat.le_of_ble_eq_true rfl) (Nat.le_of_ble_eq_true rfl) dX9_init_94 (fun q_24 c_25 H hK hP hD hS => ?_)
  have hP : va_P (dC, dI) vwCl [(x, .inr (9, [.int 0, .ref q_1, .int 0, .int (-1), .int (-1), .ref q_3, .int 0, .ref q_10, .ref q_12, .int 0, .ref q_14, .ref q_18, .ref q_21, .null, .null, .null])), (q_1, .inl (c_2, 900, .inl (fun _ => 0))), (q_4, .inl (c_5, 0, .inr (.inr (.inr (.inr (fun _ => none)))))), (q_6, .inl (c_7, 0, .inr (.inr (.inr (.inr (fun _ => none)))))), (q_3, .inr (0, [.ref q_4, .ref q_6, .null])), (q_10, .inl (c_11, 3, .inr (.inr (.inr (.inr (fun _ => none)))))), (q_12, .inl (c_13, 3, .inl (fun _ => 0))), (q_14, .inr (6, rF r_17 0 0 0 0 0 0 0 0)), (q_24, .inl (c_25, 60, .inl (fun _ => 0)))] H := hP
  have hD : va_D A [(x, .inr (9, [.int 0, .ref q_1, .int 0, .int (-1), .int (-1), .ref q_3, .int 0, .ref q_10, .ref q_12, .int 0, .ref q_14, .ref q_18, .ref q_21, .null, .null, .null])), (q_1, .inl (c_2, 900, .inl (fun _ => 0))), (q_4, .inl (c_5, 0, .inr (.inr (.inr (.inr (fun _ => none)))))), (q_6, .inl (c_7, 0, .inr (.inr (.inr (.inr (fun _ => none)))))), (q_3, .inr (0, [.ref q_4, .ref q_6, .null])), (q_10, .inl (c_11, 3, .inr (.inr (.inr (.inr (fun _ => none)))))), (q_12, .inl (c_13, 3, .inl (fun _ => 0))), (q_14, .inr (6, rF r_17 0 0 0 0 0 0 0 0)), (q_24, .inl (c_25, 60, .inl (fun _ => 0)))] := hD
  have hK : va_K (dC, dI) vwCl [(c_2, .int), (c_5, .object "PatternGate$Doc"), (c_7, .object "PatternGate$Pattern"), (c_11, .object "PatternGate$Book"), (c_13, .int), (c_25, .int)] s := hK
  refine W.widen (k := 114) (n := 10072) (by omega) (by omega) ?_
  refine va_putF (D := (dC, dI)) (ci := 9) (v := .ref q_24) (ty := .array .int) (C := RX9) (T := TX9) (N := 16) hx hb hts fin_X9_init_X9 tyX9 tyX9_ok nmX9 hown hK hP hD hS 0 rfl rfl 13 (by decide) (hts (.fieldLink RX9 61 "PatternGate" "paper" "[I") (List.mem_of_getElem? (i := 93) (by decide +kernel))) (fun _ h9 => h9) rfl hin rfl (by decide +kernel) rfl rfl (Nat.le_of_ble_eq_true rfl) dX9_init_96 (fun H locs hP hD hS => ?_)
  have hP : va_P (dC, dI) vwCl [(x, .inr (9, [.int 0, .ref q_1, .int 0, .int (-1), .int (-1), .ref q_3, .int 0, .ref q_10, .ref q_12, .int 0, .ref q_14, .ref q_18, .ref q_21, .ref q_24, .null, .null])), (q_1, .inl (c_2, 900, .inl (fun _ => 0))), (q_4, .inl (c_5, 0, .inr (.inr (.inr (.inr (fun _ => none)))))), (q_6, .inl (c_7, 0, .inr (.inr (.inr (.inr (fun _ => none)))))), (q_3, .inr (0, [.ref q_4, .ref q_6, .null])), (q_10, .inl (c_11, 3, .inr (.inr (.inr (.inr (fun _ => none)))))), (q_12, .inl (c_13, 3, .inl (fun _ => 0))), (q_14, .inr (6, rF r_17 0 0 0 0 0 0 0 0)), (q_24, .inl (c_25, 60, .inl (fun _ => 0)))] H := hP
  have hD : va_D A [(x, .inr (9, [.int 0, .ref q_1, .int 0, .int (-1), .int (-1), .ref q_3, .int 0, .ref q_10, .ref q_12, .int 0, .ref q_14, .ref q_18, .ref q_21, .ref q_24, .null, .null])), (q_1, .inl (c_2, 900, .inl (fun _ => 0))), (q_4, .inl (c_5, 0, .inr (.inr (.inr (.inr (fun _ => none)))))), (q_6, .inl (c_7, 0, .inr (.inr (.inr (.inr (fun _ => none)))))), (q_3, .inr (0, [.ref q_4, .ref q_6, .null])), (q_10, .inl (c_11, 3, .inr (.inr (.inr (.inr (fun _ => none)))))), (q_12, .inl (c_13, 3, .inl (fun _ => 0))), (q_14, .inr (6, rF r_17 0 0 0 0 0 0 0 0)), (q_24, .inl (c_25, 60, .inl (fun _ => 0)))] := hD
  refine lv_aload_n hx hb dX9_init_99 rfl (lv_at hl 0 rfl) ?_
  refine lv_bipush (v := 60) hx hb dX9_init_100 (by decide) ?_
  refine va_newa (atype := .int) (ty := .int) (n := 60) (N' := 60) (a0 := (60, .inl (fun _ => 0))) hx hb (hts (.arrayClass .int) (List.mem_of_getElem? (i := 4) (by decide +kernel))) rfl hK hP hD hS hA (fun _ => rfl) (by decide) (by decide) (Nat.le_of_ble_eq_true rfl) (Nat.le_of_ble_eq_true rfl) (Nat.le_of_ble_eq_true rfl) dX9_init_102 (fun q_26 c_27 H hK hP hD hS => ?_)
  have hP : va_P (dC, dI) vwCl [(x, .inr (9, [.int 0, .ref q_1, .int 0, .int (-1), .int (-1), .ref q_3, .int 0, .ref q_10, .ref q_12, .int 0, .ref q_14, .ref q_18, .ref q_21, .ref q_24, .null, .null])), (q_1, .inl (c_2, 900, .inl (fun _ => 0))), (q_4, .inl (c_5, 0, .inr (.inr (.inr (.inr (fun _ => none)))))), (q_6, .inl (c_7, 0, .inr (.inr (.inr (.inr (fun _ => none)))))), (q_3, .inr (0, [.ref q_4, .ref q_6, .null])), (q_10, .inl (c_11, 3, .inr (.inr (.inr (.inr (fun _ => none)))))), (q_12, .inl (c_13, 3, .inl (fun _ => 0))), (q_14, .inr (6, rF r_17 0 0 0 0 0 0 0 0)), (q_24, .inl (c_25, 60, .inl (fun _ => 0))), (q_26, .inl (c_27, 60, .inl (fun _ => 0)))] H := hP
  have hD : va_D A [(x, .inr (9, [.int 0, .ref q_1, .int 0, .int (-1), .int (-1), .ref q_3, .int 0, .ref q_10, .ref q_12, .int 0, .ref q_14, .ref q_18, .ref q_21, .ref q_24, .null, .null])), (q_1, .inl (c_2, 900, .inl (fun _ => 0))), (q_4, .inl (c_5, 0, .inr (.inr (.inr (.inr (fun _ => none)))))), (q_6, .inl (c_7, 0, .inr (.inr (.inr (.inr (fun _ => none)))))), (q_3, .inr (0, [.ref q_4, .ref q_6, .null])), (q_10, .inl (c_11, 3, .inr (.inr (.inr (.inr (fun _ => none)))))), (q_12, .inl (c_13, 3, .inl (fun _ => 0))), (q_14, .inr (6, rF r_17 0 0 0 0 0 0 0 0)), (q_24, .inl (c_25, 60, .inl (fun _ => 0))), (q_26, .inl (c_27, 60, .inl (fun _ => 0)))] := hD
  have hK : va_K (dC, dI) vwCl [(c_2, .int), (c_5, .object "PatternGate$Doc"), (c_7, .object "PatternGate$Pattern"), (c_11, .object "PatternGate$Book"), (c_13, .int), (c_25, .int), (c_27, .int)] s := hK
  refine W.widen (k := 115) (n := 10132) (by omega) (by omega) ?_
  refine va_putF (D := (dC, dI)) (ci := 9) (v := .ref q_26) (ty := .array .int) (C := RX9) (T := TX9) (N := 16) hx hb hts fin_X9_init_X9 tyX9 tyX9_ok nmX9 hown hK hP hD hS 0 rfl rfl 14 (by decide) (hts (.fieldLink RX9 64 "PatternGate" "sorted" "[I") (List.mem_of_getElem? (i := 94) (by decide +kernel))) (fun _ h9 => h9) rfl hin rfl (by decide +kernel) rfl rfl (Nat.le_of_ble_eq_true rfl) dX9_init_104 (fun H locs hP hD hS => ?_)
  have hP : va_P (dC, dI) vwCl [(x, .inr (9, [.int 0, .ref q_1, .int 0, .int (-1), .int (-1), .ref q_3, .int 0, .ref q_10, .ref q_12, .int 0, .ref q_14, .ref q_18, .ref q_21, .ref q_24, .ref q_26, .null])), (q_1, .inl (c_2, 900, .inl (fun _ => 0))), (q_4, .inl (c_5, 0, .inr (.inr (.inr (.inr (fun _ => none)))))), (q_6, .inl (c_7, 0, .inr (.inr (.inr (.inr (fun _ => none)))))), (q_3, .inr (0, [.ref q_4, .ref q_6, .null])), (q_10, .inl (c_11, 3, .inr (.inr (.inr (.inr (fun _ => none)))))), (q_12, .inl (c_13, 3, .inl (fun _ => 0))), (q_14, .inr (6, rF r_17 0 0 0 0 0 0 0 0)), (q_24, .inl (c_25, 60, .inl (fun _ => 0))), (q_26, .inl (c_27, 60, .inl (fun _ => 0)))] H := hP
  have hD : va_D A [(x, .inr (9, [.int 0, .ref q_1, .int 0, .int (-1), .int (-1), .ref q_3, .int 0, .ref q_10, .ref q_12, .int 0, .ref q_14, .ref q_18, .ref q_21, .ref q_24, .ref q_26, .null])), (q_1, .inl (c_2, 900, .inl (fun _ => 0))), (q_4, .inl (c_5, 0, .inr (.inr (.inr (.inr (fun _ => none)))))), (q_6, .inl (c_7, 0, .inr (.inr (.inr (.inr (fun _ => none)))))), (q_3, .inr (0, [.ref q_4, .ref q_6, .null])), (q_10, .inl (c_11, 3, .inr (.inr (.inr (.inr (fun _ => none)))))), (q_12, .inl (c_13, 3, .inl (fun _ => 0))), (q_14, .inr (6, rF r_17 0 0 0 0 0 0 0 0)), (q_24, .inl (c_25, 60, .inl (fun _ => 0))), (q_26, .inl (c_27, 60, .inl (fun _ => 0)))] := hD
  refine lv_aload_n hx hb dX9_init_107 rfl (lv_at hl 0 rfl) ?_
  refine lv_bipush (v := 26) hx hb dX9_init_108 (by decide) ?_
  refine va_newa (atype := .int) (ty := .int) (n := 26) (N' := 26) (a0 := (26, .inl (fun _ => 0))) hx hb (hts (.arrayClass .int) (List.mem_of_getElem? (i := 4) (by decide +kernel))) rfl hK hP hD hS hA (fun _ => rfl) (by decide) (by decide) (Nat.le_of_ble_eq_true rfl) (Nat.le_of_ble_eq_true rfl) (Nat.le_of_ble_eq_true rfl) dX9_init_110 (fun q_28 c_29 H hK hP hD hS => ?_)
  have hP : va_P (dC, dI) vwCl [(x, .inr (9, [.int 0, .ref q_1, .int 0, .int (-1), .int (-1), .ref q_3, .int 0, .ref q_10, .ref q_12, .int 0, .ref q_14, .ref q_18, .ref q_21, .ref q_24, .ref q_26, .null])), (q_1, .inl (c_2, 900, .inl (fun _ => 0))), (q_4, .inl (c_5, 0, .inr (.inr (.inr (.inr (fun _ => none)))))), (q_6, .inl (c_7, 0, .inr (.inr (.inr (.inr (fun _ => none)))))), (q_3, .inr (0, [.ref q_4, .ref q_6, .null])), (q_10, .inl (c_11, 3, .inr (.inr (.inr (.inr (fun _ => none)))))), (q_12, .inl (c_13, 3, .inl (fun _ => 0))), (q_14, .inr (6, rF r_17 0 0 0 0 0 0 0 0)), (q_24, .inl (c_25, 60, .inl (fun _ => 0))), (q_26, .inl (c_27, 60, .inl (fun _ => 0))), (q_28, .inl (c_29, 26, .inl (fun _ => 0)))] H := hP
  have hD : va_D A [(x, .inr (9, [.int 0, .ref q_1, .int 0, .int (-1), .int (-1), .ref q_3, .int 0, .ref q_10, .ref q_12, .int 0, .ref q_14, .ref q_18, .ref q_21, .ref q_24, .ref q_26, .null])), (q_1, .inl (c_2, 900, .inl (fun _ => 0))), (q_4, .inl (c_5, 0, .inr (.inr (.inr (.inr (fun _ => none)))))), (q_6, .inl (c_7, 0, .inr (.inr (.inr (.inr (fun _ => none)))))), (q_3, .inr (0, [.ref q_4, .ref q_6, .null])), (q_10, .inl (c_11, 3, .inr (.inr (.inr (.inr (fun _ => none)))))), (q_12, .inl (c_13, 3, .inl (fun _ => 0))), (q_14, .inr (6, rF r_17 0 0 0 0 0 0 0 0)), (q_24, .inl (c_25, 60, .inl (fun _ => 0))), (q_26, .inl (c_27, 60, .inl (fun _ => 0))), (q_28, .inl (c_29, 26, .inl (fun _ => 0)))] := hD
  have hK : va_K (dC, dI) vwCl [(c_2, .int), (c_5, .object "PatternGate$Doc"), (c_7, .object "PatternGate$Pattern"), (c_11, .object "PatternGate$Book"), (c_13, .int), (c_25, .int), (c_27, .int), (c_29, .int)] s := hK
  refine W.widen (k := 116) (n := 10158) (by omega) (by omega) ?_
  refine va_putF (D := (dC, dI)) (ci := 9) (v := .ref q_28) (ty := .array .int) (C := RX9) (T := TX9) (N := 16) hx hb hts fin_X9_init_X9 tyX9 tyX9_ok nmX9 hown hK hP hD hS 0 rfl rfl 15 (by decide) (hts (.fieldLink RX9 67 "PatternGate" "tally" "[I") (List.mem_of_getElem? (i := 95) (by decide +kernel))) (fun _ h9 => h9) rfl hin rfl (by decide +kernel) rfl rfl (Nat.le_of_ble_eq_true rfl) dX9_init_112 (fun H locs hP hD hS => ?_)
  have hP : va_P (dC, dI) vwCl [(x, .inr (9, [.int 0, .ref q_1, .int 0, .int (-1), .int (-1), .ref q_3, .int 0, .ref q_10, .ref q_12, .int 0, .ref q_14, .ref q_18, .ref q_21, .ref q_24, .ref q_26, .ref q_28])), (q_1, .inl (c_2, 900, .inl (fun _ => 0))), (q_4, .inl (c_5, 0, .inr (.inr (.inr (.inr (fun _ => none)))))), (q_6, .inl (c_7, 0, .inr (.inr (.inr (.inr (fun _ => none)))))), (q_3, .inr (0, [.ref q_4, .ref q_6, .null])), (q_10, .inl (c_11, 3, .inr (.inr (.inr (.inr (fun _ => none)))))), (q_12, .inl (c_13, 3, .inl (fun _ => 0))), (q_14, .inr (6, rF r_17 0 0 0 0 0 0 0 0)), (q_24, .inl (c_25, 60, .inl (fun _ => 0))), (q_26, .inl (c_27, 60, .inl (fun _ => 0))), (q_28, .inl (c_29, 26, .inl (fun _ => 0)))] H := hP
  have hD : va_D A [(x, .inr (9, [.int 0, .ref q_1, .int 0, .int (-1), .int (-1), .ref q_3, .int 0, .ref q_10, .ref q_12, .int 0, .ref q_14, .ref q_18, .ref q_21, .ref q_24, .ref q_26, .ref q_28])), (q_1, .inl (c_2, 900, .inl (fun _ => 0))), (q_4, .inl (c_5, 0, .inr (.inr (.inr (.inr (fun _ => none)))))), (q_6, .inl (c_7, 0, .inr (.inr (.inr (.inr (fun _ => none)))))), (q_3, .inr (0, [.ref q_4, .ref q_6, .null])), (q_10, .inl (c_11, 3, .inr (.inr (.inr (.inr (fun _ => none)))))), (q_12, .inl (c_13, 3, .inl (fun _ => 0))), (q_14, .inr (6, rF r_17 0 0 0 0 0 0 0 0)), (q_24, .inl (c_25, 60, .inl (fun _ => 0))), (q_26, .inl (c_27, 60, .inl (fun _ => 0))), (q_28, .inl (c_29, 26, .inl (fun _ => 0)))] := hD
  refine W.widen (k := 120) (n := 11000) (by omega) (by omega) ?_
  have hP9 := hP.sub (ws' := [(x, .inr (9, [.int 0, .ref q_1, .int 0, .int (-1), .int (-1), .ref q_3, .int 0, .ref q_10, .ref q_12, .int 0, .ref q_14, .ref q_18, .ref q_21, .ref q_24, .ref q_26, .ref q_28])), (q_1, .inl (c_2, 900, .inl (fun _ => 0))), (q_3, .inr (0, [.ref q_4, .ref q_6, .null])), (q_4, .inl (c_5, 0, .inr (.inr (.inr (.inr (fun _ => none)))))), (q_6, .inl (c_7, 0, .inr (.inr (.inr (.inr (fun _ => none)))))), (q_10, .inl (c_11, 3, .inr (.inr (.inr (.inr (fun _ => none)))))), (q_12, .inl (c_13, 3, .inl (fun _ => 0))), (q_14, .inr (6, rF r_17 0 0 0 0 0 0 0 0))]) [0, 1, 4, 2, 3, 5, 6, 7] rfl
  have hD9 := hD.sub (ws' := [(x, .inr (9, [.int 0, .ref q_1, .int 0, .int (-1), .int (-1), .ref q_3, .int 0, .ref q_10, .ref q_12, .int 0, .ref q_14, .ref q_18, .ref q_21, .ref q_24, .ref q_26, .ref q_28])), (q_1, .inl (c_2, 900, .inl (fun _ => 0))), (q_3, .inr (0, [.ref q_4, .ref q_6, .null])), (q_4, .inl (c_5, 0, .inr (.inr (.inr (.inr (fun _ => none)))))), (q_6, .inl (c_7, 0, .inr (.inr (.inr (.inr (fun _ => none)))))), (q_10, .inl (c_11, 3, .inr (.inr (.inr (.inr (fun _ => none)))))), (q_12, .inl (c_13, 3, .inl (fun _ => 0))), (q_14, .inr (6, rF r_17 0 0 0 0 0 0 0 0))]) [0, 1, 4, 2, 3, 5, 6, 7] (by decide) rfl
  have hK9 := hK.sub (tys' := [(c_2, .int), (c_5, .object "PatternGate$Doc"), (c_7, .object "PatternGate$Pattern"), (c_11, .object "PatternGate$Book"), (c_13, .int)]) [0, 1, 2, 3, 4] rfl
  exact W.vret hx hb hr (fun t ht hW => ⟨⟨(), rfl, trivial, fun k => [q_1, q_10, q_12, q_14, q_18, q_21, q_24, q_26, q_28].getD k 0, q_3, q_4, q_6, c_2, c_5, c_7, c_11, c_13, r_17, by rw [ht]; exact hP9, va_K.moved hW.alike hK9, hD9⟩, hS.F ht⟩) hS.2.2 dX9_init_115
end

/-! Arrays of arrays of any number of dimensions, made by one instruction: nothing is said of what they hold, only that what was there before stays. -/
/-- how many cells come -/
def md_K : List Nat → Nat
  | [] => 0
  | n :: r => 1 + n * md_K r
/-- how many slots come -/
def md_S : List Nat → Nat
  | [] => 0
  | n :: r => n + n * md_S r
def md_ns (ns : List Int32) : List Nat := ns.map (fun n => n.toNatClampNeg)
/-- the classes are array classes one over the other, and the lengths may be; dv: what the innermost hold -/
def md_okC (vm : Vm) (e : Env) (dv : Value) : List ClassId → List Int32 → Prop
  | [cA], [n] => ¬ n < 0 ∧ ¬ n.toNatClampNeg > e.platform.arrayLengthLimit ∧ ∃ (k : Class) (comp : ClassId) (ty : FieldType), vm.classes[cA]? = some k ∧ k.kind = .array comp ty ∧ ¬ n.toNatClampNeg * componentBytes ty > e.platform.maxHeapBytes ∧ fits ty (defaultValue ty) = true ∧ (defaultValue ty).isDefault = true ∧ dv = defaultValue ty
  | cA :: cB :: cs, n :: n2 :: r => ¬ n < 0 ∧ ¬ n.toNatClampNeg > e.platform.arrayLengthLimit ∧ (∃ (k : Class) (ty : FieldType), vm.classes[cA]? = some k ∧ k.kind = .array cB ty ∧ ¬ n.toNatClampNeg * componentBytes ty > e.platform.maxHeapBytes ∧ ty.isReference = true) ∧ md_okC vm e dv (cB :: cs) (n2 :: r)
  | _, _ => False
theorem md_nnC {vm : Vm} {e : Env} {dv : Value} : ∀ (ns : List Int32) (cs : List ClassId), md_okC vm e dv cs ns → ∀ x ∈ ns, ¬ x < 0
  | [], cs, h => by cases cs <;> simp [md_okC] at h
  | [n], [], h => by simp [md_okC] at h
  | [n], [cA], h => by
    intro x hx
    rw [List.mem_singleton] at hx
    subst hx
    exact h.1
  | [n], cA :: cB :: cs, h => by simp [md_okC] at h
  | n :: n2 :: r, [], h => by simp [md_okC] at h
  | n :: n2 :: r, [cA], h => by simp [md_okC] at h
  | n :: n2 :: r, cA :: cB :: cs, h => by
    obtain ⟨h1, h2, h3, h7⟩ := h
    intro x hx
    rcases List.mem_cons.mp hx with rfl | hx
    · exact h1
    · exact md_nnC (n2 :: r) (cB :: cs) h7 x hx
/-- what lies from a on: an array of arrays .., one behind the other -/
def mdT (H : Heap) (dv : Value) : Nat → List ClassId → List Nat → Prop
  | a, [c], [n] => H[a]? = some { cls := c, slots := Array.replicate n dv, vm := .none }
  | a, c :: cB :: cs, n :: n2 :: r => (∃ ce : Cell, H[a]? = some ce ∧ ce.cls = c ∧ ce.vm = .none ∧ ce.slots.size = n ∧ ∀ j, j < n → ce.slots[j]? = some (.ref (a + 1 + j * md_K (n2 :: r)))) ∧ ∀ j, j < n → mdT H dv (a + 1 + j * md_K (n2 :: r)) (cB :: cs) (n2 :: r)
  | _, _, _ => False
theorem mdT.kept {H H1 : Heap} {dv : Value} : ∀ (ns : List Nat) (a : Nat) (cs : List ClassId), mdT H dv a cs ns → (∀ q, a ≤ q → q < a + md_K ns → H1[q]? = H[q]?) → mdT H1 dv a cs ns
  | [], a, cs, h, _ => by cases cs <;> simp [mdT] at h
  | [n], a, [], h, _ => by simp [mdT] at h
  | [n], a, [c], h, hq => by
    show H1[a]? = _
    rw [hq a (Nat.le_refl _) (by simp [md_K])]; exact h
  | [n], a, c :: cB :: cs, h, _ => by simp [mdT] at h
  | n :: n2 :: r, a, [], h, _ => by simp [mdT] at h
  | n :: n2 :: r, a, [c], h, _ => by simp [mdT] at h
  | n :: n2 :: r, a, c :: cB :: cs, h, hq => by
    obtain ⟨⟨ce, h1, h2⟩, h3⟩ := h
    have eK : md_K (n :: n2 :: r) = 1 + n * md_K (n2 :: r) := rfl
    refine ⟨⟨ce, ?_, h2⟩, fun j hj => mdT.kept (n2 :: r) _ (cB :: cs) (h3 j hj) (fun q q1 q2 => hq q (by omega) ?_)⟩
    · rw [hq a (Nat.le_refl _) (by rw [eK]; omega)]; exact h1
    · have := Nat.mul_le_mul_right (md_K (n2 :: r)) (show j + 1 ≤ n from hj)
      rw [Nat.succ_mul] at this
      rw [eK]; omega
theorem md_fits {t : FieldType} (h : t.isReference = true) (v : Value) (hv : v = .null ∨ ∃ a, v = .ref a) : fits t v = true := by
  rcases hv with rfl | ⟨a, rfl⟩ <;> cases t <;> simp [FieldType.isReference] at h <;> rfl
section MDA
variable {E : CtlPost} {e : Env} {d : Bool} {acts : List Action} {s : State}
theorem md_new {c comp : ClassId} {k : Class} {type : FieldType} {len : Nat} {init : Value} (hk : s.vm.classes[c]? = some k) (hkind : k.kind = .array comp type)
    (hlimit : ¬ len > e.platform.arrayLengthLimit) (hheap : ¬ len * componentBytes type > e.platform.maxHeapBytes) (hfit : fits type init = true) (hdef : init.isDefault = true) {Q : Addr → Pre}
    (h1 : s.heap.size + 1 ≤ e.platform.maxCells) (h2 : s.slotsUsed + len ≤ e.platform.maxSlots)
    (hq : Q s.heap.size d acts (s.pushCell { cls := c, slots := Array.replicate len init, vm := .none })) :
    wp (Jvm.newArray c len init) Q E e d acts s := by
  have hfits : ∀ i v, (Array.replicate len init)[i]? = some v → s.fitsSlot c .none i v = true := by
    intro i v hv
    simp only [Array.getElem?_replicate] at hv
    split at hv
    · cases hv; simp [State.fitsSlot, State.slotType?, hk, hkind, hfit]
    · cases hv
  have hda : allocActs (Array.replicate len init) s.heap.size acts = acts := by
    have hall : ((Array.replicate len init).all (·.isDefault)) = true := by
      rw [Array.all_replicate]; split <;> simp [hdef]
    unfold allocActs; rw [if_pos hall]
  simp only [Jvm.newArray, Jvm.arrayFits, wp_bind', W.ask, W.ite, hlimit, if_false, wp_pure', W.theClass, hk, hkind, hheap, W.alloc, W.stop, Option.some.injEq, exists_eq_left', Array.size_replicate, hda]
  rw [if_neg (by omega)]
  exact ⟨by omega, h2, hfits, hq⟩
end MDA
section MDX
variable {p : Program} {l : Launch} {e : Env} {R : Room} {s : State} {m : MethodId} {args : Array Value} {below : List Frame} {meth : Method} {c : Code}
/-- what has come -/
def md_G (p : Program) (l : Launch) (e : Env) (R : Room) (s : State) (m : MethodId) (args : Array Value) (below : List Frame) (meth : Method) (c : Code) (T : State) (locs : List Loc) (cells slots K S : Nat) (T' : State) (locs' : List Loc) : Prop :=
  T'.vm = T.vm ∧ T'.heap.size = T.heap.size + K ∧ (∀ a : Nat, a < T.heap.size → T'.heap[a]? = T.heap[a]?) ∧ (∀ q ∈ locs', q ∈ locs ∨ T.heap.size ≤ q.base) ∧ Stand p l e R s m args below meth c T' locs' (cells + K) (slots + S)
theorem md_loop {N : Nat} {f : JFrame} {b : Nat → PUnit → Sem (ForInStep PUnit)} (I : Nat → State → Prop)
    (step : ∀ (i : Nat) (Ti : State), i < N → I i Ti → ∃ T2 : State, I (i + 1) T2 ∧ ∀ (E : CtlPost) (d : Bool) (acts : List Action) (Q : ForInStep PUnit → Pre), (∀ (d' : Bool) (acts' : List Action), Q (ForInStep.yield PUnit.unit) d' acts' (T2.setTop f)) → wp (b i PUnit.unit) Q E e d acts (Ti.setTop f)) :
    ∀ (j i : Nat) (Ti : State), i + j = N → I i Ti → ∃ T' : State, I N T' ∧ ∀ (E : CtlPost) (d : Bool) (acts : List Action) (Q : PUnit → Pre), (∀ (d' : Bool) (acts' : List Action), Q PUnit.unit d' acts' (T'.setTop f)) → wp (forIn (List.range' i j) PUnit.unit b) Q E e d acts (Ti.setTop f)
  | 0, i, Ti, hij, hI => by
    have e9 : i = N := by omega
    subst e9
    refine ⟨Ti, hI, fun E d acts Q hq => ?_⟩
    simp only [List.range'_zero, List.forIn_nil, wp_pure']
    exact hq _ _
  | j + 1, i, Ti, hij, hI => by
    obtain ⟨T2, hI2, h2⟩ := step i Ti (by omega) hI
    obtain ⟨T', hI', h'⟩ := md_loop I step j (i + 1) T2 (by omega) hI2
    refine ⟨T', hI', fun E d acts Q hq => ?_⟩
    simp only [List.range'_succ, List.forIn_cons, wp_bind']
    exact h2 E d acts _ (fun d' acts' => h' E d' acts' Q hq)
set_option maxHeartbeats 4000000 in
theorem md_makeT (f : JFrame) (dv : Value) : ∀ (ns : List Int32) (cs : List ClassId) (T : State) (locs : List Loc) (cells slots : Nat), Stand p l e R s m args below meth c T locs cells slots → md_okC T.vm e dv cs ns → cells + md_K (md_ns ns) ≤ R.cells → slots + md_S (md_ns ns) ≤ R.slots →
    ∃ (T' : State) (locs' : List Loc), (md_G p l e R s m args below meth c T locs cells slots (md_K (md_ns ns)) (md_S (md_ns ns)) T' locs' ∧ mdT T'.heap dv T.heap.size cs (md_ns ns)) ∧ ∀ (E : CtlPost) (d : Bool) (acts : List Action) (Q : Addr → Pre), (∀ (d' : Bool) (acts' : List Action), Q T.heap.size d' acts' (T'.setTop f)) → wp (multianewarray.make (cs.headD 0) ns) Q E e d acts (T.setTop f)
  | [], cs, _, _, _, _, _, h, _, _ => by cases cs <;> simp [md_okC] at h
  | [n], [], _, _, _, _, _, h, _, _ => by simp [md_okC] at h
  | [n], cA :: cB :: cs, _, _, _, _, _, h, _, _ => by simp [md_okC] at h
  | n :: n2 :: r, [], _, _, _, _, _, h, _, _ => by simp [md_okC] at h
  | n :: n2 :: r, [cA], _, _, _, _, _, h, _, _ => by simp [md_okC] at h
  | [n], [cA], T, locs, cells, slots, X, hok, hc, hs => by
    obtain ⟨h1, h2, k, comp, ty, h3, h4, h5, h6, h7, h8⟩ := hok
    subst h8
    have eK : md_K (md_ns [n]) = 1 := by simp [md_ns, md_K]
    have eS : md_S (md_ns [n]) = n.toNatClampNeg := by simp [md_ns, md_S]
    rw [eK] at hc
    rw [eS] at hs
    obtain ⟨r1, r2⟩ := X.roomAbove hc hs
    have hX := X.pushed { cls := cA, slots := Array.replicate n.toNatClampNeg (defaultValue ty), vm := .none }
    refine ⟨T.pushCell { cls := cA, slots := Array.replicate n.toNatClampNeg (defaultValue ty), vm := .none }, locs, ⟨⟨rfl, ?_, fun a ha => State.heap_pushCell_of_lt _ _ ha, fun q h => Or.inl h, ?_⟩, ?_⟩, ?_⟩
    · rw [eK]; simp
    · rw [eK, eS]; simpa using hX
    · exact State.heap_pushCell_size _ _
    · intro E d acts Q hq
      show wp (multianewarray.make cA [n]) Q E e d acts (T.setTop f)
      rw [multianewarray.make]
      have h3' : (T.setTop f).vm.classes[cA]? = some k := h3
      simp only [wp_bind', W.ite, h1, if_false, wp_pure', W.theClass, h3', h4, Option.some.injEq, exists_eq_left']
      exact md_new h3' h4 h2 h5 h6 h7 (by show T.heap.size + 1 ≤ _; omega) (by show T.slotsUsed + _ ≤ _; omega) (hq d acts)
  | n :: n2 :: r, cA :: comp :: cs, T, locs, cells, slots, X, hok, hc, hs => by
    have hnn := md_nnC (n :: n2 :: r) (cA :: comp :: cs) hok
    obtain ⟨h1, h2, ⟨k, ty, h3, h4, h5, h6⟩, h7⟩ := hok
    obtain ⟨N, eN⟩ : ∃ N : Nat, n.toNatClampNeg = N := ⟨_, rfl⟩
    obtain ⟨K', eK'⟩ : ∃ K' : Nat, md_K (md_ns (n2 :: r)) = K' := ⟨_, rfl⟩
    obtain ⟨S', eS'⟩ : ∃ S' : Nat, md_S (md_ns (n2 :: r)) = S' := ⟨_, rfl⟩
    have eK : md_K (md_ns (n :: n2 :: r)) = 1 + N * K' := by rw [← eN, ← eK']; rfl
    have eS : md_S (md_ns (n :: n2 :: r)) = N + N * S' := by rw [← eN, ← eS']; rfl
    rw [eK] at hc
    rw [eS] at hs
    obtain ⟨r1, r2⟩ := X.roomAbove hc hs
    have hfind : ((n2 :: r).find? (· < 0)) = none := by
      rw [List.find?_eq_none]
      intro x hx
      simpa using hnn x (List.mem_cons_of_mem _ hx)
    have hX := X.pushed { cls := cA, slots := Array.replicate N .null, vm := .none }
    have L := md_loop (e := e) (N := N) (f := f) (b := fun i _ => do writeLoc T.heap.size i (.ref (← multianewarray.make comp (n2 :: r))); Pure.pure (ForInStep.yield PUnit.unit)) (fun i Ti => ∃ (li : List Loc) (ce : Cell), Ti.vm = T.vm ∧ Ti.heap.size = T.heap.size + (1 + i * K') ∧ (∀ a : Nat, a < T.heap.size → Ti.heap[a]? = T.heap[a]?) ∧ (∀ q ∈ li, q ∈ locs ∨ T.heap.size ≤ q.base) ∧ Stand p l e R s m args below meth c Ti li (cells + (1 + i * K')) (slots + (N + i * S')) ∧ Ti.heap[T.heap.size]? = some ce ∧ ce.cls = cA ∧ ce.vm = .none ∧ ce.slots.size = N ∧ (∀ j, j < i → ce.slots[j]? = some (.ref (T.heap.size + 1 + j * K'))) ∧ ∀ j, j < i → mdT Ti.heap dv (T.heap.size + 1 + j * K') (comp :: cs) (md_ns (n2 :: r))) ?_ N 0 (T.pushCell { cls := cA, slots := Array.replicate N .null, vm := .none }) (by omega) ?_
    · obtain ⟨T', ⟨li, ce, v1, v2, v3, v4, v5, v6, v7, v8, v9, v10, v11⟩, hw⟩ := L
      refine ⟨T', li, ⟨⟨v1, by rw [eK]; exact v2, v3, v4, by rw [eK, eS]; exact v5⟩, ?_⟩, ?_⟩
      · have e9 : md_ns (n :: n2 :: r) = N :: md_ns (n2 :: r) := by rw [← eN]; rfl
        rw [e9]
        refine ⟨⟨ce, v6, v7, v8, v9, fun j hj => ?_⟩, fun j hj => ?_⟩
        · show ce.slots[j]? = some (.ref (T.heap.size + 1 + j * md_K (md_ns (n2 :: r))))
          rw [eK']; exact v10 j hj
        · show mdT T'.heap dv (T.heap.size + 1 + j * md_K (md_ns (n2 :: r))) (comp :: cs) (md_ns (n2 :: r))
          rw [eK']; exact v11 j hj
      · intro E d acts Q hq
        show wp (multianewarray.make cA (n :: n2 :: r)) Q E e d acts (T.setTop f)
        rw [multianewarray.make]
        have h3' : (T.setTop f).vm.classes[cA]? = some k := h3
        simp only [wp_bind', W.ite, h1, if_false, wp_pure', W.theClass, h3', h4, Option.some.injEq, exists_eq_left']
        rw [eN]
        refine md_new h3' h4 (by rw [← eN]; exact h2) (by rw [← eN]; exact h5) (md_fits h6 _ (Or.inl rfl)) rfl (by show T.heap.size + 1 ≤ _; omega) (by show T.slotsUsed + _ ≤ _; omega) ?_
        simp only [hfind]
        rw [ite_self, wp_bind', Std.Legacy.Range.forIn_eq_forIn_range']
        have hsz : ([:N] : Std.Legacy.Range).size = N := by simp [Std.Legacy.Range.size]
        rw [hsz]
        refine hw E d acts _ (fun d' acts' => ?_)
        simp only [wp_pure']
        exact hq _ _
    · rintro x Ti hlt ⟨li, ce, v1, v2, v3, v4, v5, v6, v7, v8, v9, v10, v11⟩
      have hmK : x * K' + K' ≤ N * K' := by
        have := Nat.mul_le_mul_right K' (show x + 1 ≤ N from hlt)
        rw [Nat.succ_mul] at this; exact this
      have hmS : x * S' + S' ≤ N * S' := by
        have := Nat.mul_le_mul_right S' (show x + 1 ≤ N from hlt)
        rw [Nat.succ_mul] at this; exact this
      obtain ⟨T2, l2, ⟨⟨w1, w2, w3, w4, w5⟩, w6⟩, hw⟩ := md_makeT f dv (n2 :: r) (comp :: cs) Ti li (cells + (1 + x * K')) (slots + (N + x * S')) v5 (by rw [v1]; exact h7) (by rw [eK']; omega) (by rw [eS']; omega)
      rw [eK'] at w2 w5
      rw [eS'] at w5
      have hTi : Ti.heap.size = T.heap.size + 1 + x * K' := by omega
      have hce : T2.heap[T.heap.size]? = some ce := by rw [w3 _ (by omega)]; exact v6
      have hkeep : ∀ (j : Nat), mdT T2.heap dv (T.heap.size + 1 + j * K') (comp :: cs) (md_ns (n2 :: r)) → mdT (T2.setCell T.heap.size (ce.setSlot x (.ref Ti.heap.size))).heap dv (T.heap.size + 1 + j * K') (comp :: cs) (md_ns (n2 :: r)) := fun j hj => mdT.kept _ _ _ hj (fun q q1 _ => State.heap_setCell_other (Nat.ne_of_lt (show T.heap.size < q by omega)))
      refine ⟨T2.setCell T.heap.size (ce.setSlot x (.ref Ti.heap.size)), ⟨l2 ++ [⟨T.heap.size, x⟩], ce.setSlot x (.ref Ti.heap.size), ?_, ?_, ?_, ?_, ?_, State.heap_setCell_self hce, v7, v8, by simp [Cell.setSlot, v9], ?_, ?_⟩, ?_⟩
      · show T2.vm = T.vm
        rw [w1, v1]
      · have e9 : (T2.setCell T.heap.size (ce.setSlot x (.ref Ti.heap.size))).heap.size = T2.heap.size := by simp [State.setCell]
        rw [e9, w2, v2, Nat.succ_mul]; omega
      · intro a ha
        rw [State.heap_setCell_other (Nat.ne_of_gt ha), w3 _ (by omega)]
        exact v3 a ha
      · intro q hq9
        rcases List.mem_append.mp hq9 with h | h
        · rcases w4 q h with h | h
          · exact v4 q h
          · exact Or.inr (by omega)
        · rw [List.mem_singleton] at h
          subst h
          exact Or.inr (Nat.le_refl _)
      · have h9 := w5.stored hce x (.ref Ti.heap.size)
        have e1 : cells + (1 + (x + 1) * K') = cells + (1 + x * K') + K' := by rw [Nat.succ_mul]; omega
        have e2 : slots + (N + (x + 1) * S') = slots + (N + x * S') + S' := by rw [Nat.succ_mul]; omega
        rw [e1, e2]
        exact h9
      · intro j hj
        show (ce.slots.setIfInBounds x (.ref Ti.heap.size))[j]? = _
        rw [Array.getElem?_setIfInBounds]
        by_cases ej : x = j
        · subst ej
          rw [if_pos rfl, if_pos (by omega), hTi]
        · rw [if_neg ej]
          exact v10 j (by omega)
      · intro j hj
        apply hkeep
        by_cases ej : j = x
        · subst ej
          rw [← hTi]; exact w6
        · refine mdT.kept _ _ _ (v11 j (by omega)) (fun q q1 q2 => w3 q ?_)
          have hjx : j * K' + K' ≤ x * K' := by
            have := Nat.mul_le_mul_right K' (show j + 1 ≤ x by omega)
            rw [Nat.succ_mul] at this; exact this
          rw [eK'] at q2
          omega
      · intro E d acts Q hq
        simp only [wp_bind']
        refine hw E d acts _ (fun d' acts' => ?_)
        simp only [wp_bind', W.writeLoc, wp_pure']
        refine ⟨ce, hce, by rw [v8]; simp, by rw [v9]; exact hlt, ?_, hq _ _⟩
        have hk9 : T2.vm.classes[ce.cls]? = some k := by
          rw [w1, v1, v7]; exact h3
        simp [State.fitsSlot, State.slotType?, hk9, h4, v8, md_fits h6 _ (Or.inr ⟨_, rfl⟩)]
    · refine ⟨locs, { cls := cA, slots := Array.replicate N .null, vm := .none }, rfl, by simp, fun a ha => State.heap_pushCell_of_lt _ _ ha, fun q h => Or.inl h, ?_, State.heap_pushCell_size _ _, rfl, rfl, by simp, fun j hj => absurd hj (Nat.not_lt_zero _), fun j hj => absurd hj (Nat.not_lt_zero _)⟩
      simpa using hX
/-- an array class over an array class -/
theorem md_over {args : Array Value} {first s : State} {o : Option Outcome} {idx : List Nat} {t : FieldType} (h : (Cond.arrayOver (.array t)).holds args first o s idx = true) :
    ∃ (comp c : ClassId) (k : Class), s.vm.findClass (FieldType.array t).toString = some comp ∧ s.vm.classes[c]? = some k ∧ k.kind = .array comp (.array t) ∧ s.vm.findClass ("[" ++ (FieldType.array t).toString) = some c := by
  simp only [Cond.holds, Cond.value, beq_iff_eq] at h
  cases hc : s.vm.findClass (FieldType.array t).toString with
  | none => simp [hc] at h
  | some comp =>
    simp only [hc, Option.bind_some, Option.bind_eq_some_iff, Option.map_eq_some_iff] at h
    obtain ⟨c, hi, k, hk, hb⟩ := h
    obtain ⟨hlt, hp, -⟩ := Array.findIdx?_eq_some_iff_getElem.mp hi
    have hkk : s.vm.classes[c] = k := (Array.getElem?_eq_some_iff.mp hk).2
    rw [hkk] at hp
    cases hkind : k.kind with
    | array component ty =>
      rw [hkind] at hb hp
      simp at hb hp
      exact ⟨comp, c, k, rfl, hk, by rw [hkind, hp, hb.1], hb.2⟩
    | _ => rw [hkind] at hb; simp at hb
/-- the words that an array of arrays stands on, at a state -/
def md_A (t : FieldType) (U : State) : Prop := (Cond.arrayOver (.array t)).before #[] U = true
def md_B (t : FieldType) (U : State) : Prop := (Cond.arrayClass t).before #[] U = true
theorem md_baseC {vm : Vm} {U : State} {e : Env} {t : FieldType} (hal : U.vm.Alike vm) (hB : md_B t U) {cA : ClassId} (hcA : U.vm.findClass ("[" ++ t.toString) = some cA) {n : Int32} (h1 : ¬ n < 0) (h2 : ¬ n.toNatClampNeg > e.platform.arrayLengthLimit) (h3 : ¬ n.toNatClampNeg * componentBytes t > e.platform.maxHeapBytes) (h4 : fits t (defaultValue t) = true) (h5 : (defaultValue t).isDefault = true) : md_okC vm e (defaultValue t) [cA] [n] := by
  obtain ⟨c9, k, comp, g1, g2, g3⟩ := Cond.arrayClass_spec hB
  cases hcA.symm.trans g1
  obtain ⟨k1, hk1, he1⟩ := hal.2.2 _ _ g2
  exact ⟨h1, h2, k1, comp, t, hk1, by rw [he1]; exact g3, h3, h4, h5, rfl⟩
theorem md_stepC {vm : Vm} {U : State} {e : Env} {t : FieldType} {dv : Value} (hal : U.vm.Alike vm) (hA : md_A t U) {cA cB : ClassId} {cs : List ClassId} (hcA : U.vm.findClass ("[" ++ (FieldType.array t).toString) = some cA) (hcB : U.vm.findClass (FieldType.array t).toString = some cB) {n n2 : Int32} {r : List Int32} (h1 : ¬ n < 0) (h2 : ¬ n.toNatClampNeg > e.platform.arrayLengthLimit) (h3 : ¬ n.toNatClampNeg * 4 > e.platform.maxHeapBytes) (hr : md_okC vm e dv (cB :: cs) (n2 :: r)) : md_okC vm e dv (cA :: cB :: cs) (n :: n2 :: r) := by
  obtain ⟨comp, c9, k, g1, g2, g3, g4⟩ := md_over hA
  cases hcA.symm.trans g4
  cases hcB.symm.trans g1
  obtain ⟨k1, hk1, he1⟩ := hal.2.2 _ _ g2
  exact ⟨h1, h2, ⟨k1, .array t, hk1, by rw [he1]; exact g3, h3, rfl⟩, hr⟩
end MDX
section MDY
variable {p : Program} {l : Launch} {e : Env} {R : Room} {s : State} {m : MethodId} {args : Array Value} {below : List Frame} {meth : Method} {c : Code} {H : Heap} {locs : List Loc} {cells slots : Nat} {Q : State → Prop}
variable {cc : ByteArray} {pc : Nat} {ls : Array Slot} {rest : List Value} {D : va_G} {cl : List vw_C} {A : Nat → Prop} {tys : List (ClassId × FieldType)} {ws : va_W} {H0 : Heap}
set_option maxHeartbeats 4000000 in
theorem va_mdT2 (hexec : p.tables.exec = Jvm.exec) (hb : c.code = cc) {own nm : String} {index : Nat} (hown : s.vm.findClass own = some m.cls) (hclink : (Cond.classLink own index nm).before args s = true) {n1 n2 : Int32} {dv : Value} {cA : ClassId} {cs : List ClassId} (hcA : s.vm.findClass nm = some cA) (hok : ∀ vm : Vm, l.admits e → s.vm.Alike vm → md_okC vm e dv (cA :: cs) [n1, n2]) {K S : Nat} (hK : md_K (md_ns [n1, n2]) = K) (hS9 : md_S (md_ns [n1, n2]) = S) (hcells : cells + K ≤ R.cells) (hslots : slots + S ≤ R.slots)
    (hP : va_P D cl ws H) (hS : va_S A H0 H locs) (hA : ∀ q, H0.size ≤ q → A q) (hdg : decode cc pc = .ok (.multianewarray index 2, 4))
    (kk : ∀ (H1 : Heap) (locs1 : List Loc), H1.size = H.size + K → mdT H1 dv H.size (cA :: cs) (md_ns [n1, n2]) → va_P D cl ws H1 → va_S A H0 H1 locs1 → W p l e R s m args below meth c H1 locs1 (cells + K) (slots + S) Q (F0 m (pc + 4) ls (.ref H.size :: rest))) : W p l e R s m args below meth c H locs cells slots Q (F0 m pc ls (.int n2 :: .int n1 :: rest)) := by
  subst hK; subst hS9; subst hb
  intro T hT X
  have hpl : e.platform.magicAccessors = ({} : Platform).magicAccessors := by rw [X.admits.platform]
  obtain ⟨c0, hfc0, hcl⟩ := Cond.classLink_spec hown hclink e.platform hpl
  have hc0 : c0 = cA := Option.some.inj (hfc0.symm.trans hcA)
  subst hc0
  obtain ⟨hg₁, hwarm₁, hready₁⟩ := State.classEntry (e := e) X.warmed hcl
  generalize T.vm.noted m.cls index (.cls c0) = vm₁ at hg₁ hwarm₁ hready₁
  have X₁ := X.noted hwarm₁
  obtain ⟨T', locs', ⟨⟨g1, g2, g3, g4, g5⟩, g6⟩, hw⟩ := md_makeT (F0 m pc ls rest) dv [n1, n2] (c0 :: cs) (T.setVm vm₁) locs cells slots X₁ (hok vm₁ X.admits hwarm₁.alike) hcells hslots
  have hTh : (T.setVm vm₁).heap = H := hT
  rw [hTh] at g2 g3 g4 g6 hw
  have hS' : va_S A H0 T'.heap locs' := ⟨by rw [g2]; have := hS.1; omega, fun x h1 h2 => (g3 x (Nat.lt_of_lt_of_le h1 hS.1)).trans (hS.2.1 x h1 h2), fun q hq => by
    rcases g4 q hq with h | h
    · exact hS.2.2 q h
    · exact hA _ (Nat.le_trans hS.1 h)⟩
  obtain ⟨t, a1, b1⟩ := kk T'.heap locs' g2 g6 (hP.kept (fun k x hx => g3 x.1 ((hP k x hx).lt))) hS' T' rfl g5
  refine ⟨t, ?_, b1⟩
  jvm_step X.here [hexec, hdg]
  simp only [multianewarray.sem, wp_bind', W.resolveClassAt_links (State.method?_setTop (F0 m pc ls (.int n2 :: .int n1 :: rest)) X.here.top) hg₁]
  rw [W.popN, if_neg (by decide)]
  refine ⟨F0 m pc ls (.int n2 :: .int n1 :: rest), State.topJava?_setTop' (s := T.setVm vm₁) _ X.here.top, [.int n1, .int n2], rest, rfl, rfl, ?_⟩
  simp only [List.mapM_cons, List.mapM_nil, wp_bind', wp_pure']
  have eS : ((T.setTop (F0 m pc ls (.int n2 :: .int n1 :: rest))).setVm vm₁).setTop (F0 m pc ls rest) = (T.setVm vm₁).setTop (F0 m pc ls rest) := by
    show ((T.setVm vm₁).setTop _).setTop _ = _
    rw [State.setTop_setTop]
  rw [eS]
  refine hw _ _ _ _ (fun d' acts' => ?_)
  simp only [wp_bind', W.mark, W.pushRef, State.topJava?_setTop' _ g5.here.top, Option.some.injEq, exists_eq_left', State.setTop_setTop, State.heap_setTop]
  intro acts
  simp [jvm, g5.here.top]
  exact a1
set_option maxHeartbeats 4000000 in
theorem va_mdT3 (hexec : p.tables.exec = Jvm.exec) (hb : c.code = cc) {own nm : String} {index : Nat} (hown : s.vm.findClass own = some m.cls) (hclink : (Cond.classLink own index nm).before args s = true) {n1 n2 n3 : Int32} {dv : Value} {cA : ClassId} {cs : List ClassId} (hcA : s.vm.findClass nm = some cA) (hok : ∀ vm : Vm, l.admits e → s.vm.Alike vm → md_okC vm e dv (cA :: cs) [n1, n2, n3]) {K S : Nat} (hK : md_K (md_ns [n1, n2, n3]) = K) (hS9 : md_S (md_ns [n1, n2, n3]) = S) (hcells : cells + K ≤ R.cells) (hslots : slots + S ≤ R.slots)
    (hP : va_P D cl ws H) (hS : va_S A H0 H locs) (hA : ∀ q, H0.size ≤ q → A q) (hdg : decode cc pc = .ok (.multianewarray index 3, 4))
    (kk : ∀ (H1 : Heap) (locs1 : List Loc), H1.size = H.size + K → mdT H1 dv H.size (cA :: cs) (md_ns [n1, n2, n3]) → va_P D cl ws H1 → va_S A H0 H1 locs1 → W p l e R s m args below meth c H1 locs1 (cells + K) (slots + S) Q (F0 m (pc + 4) ls (.ref H.size :: rest))) : W p l e R s m args below meth c H locs cells slots Q (F0 m pc ls (.int n3 :: .int n2 :: .int n1 :: rest)) := by
  subst hK; subst hS9; subst hb
  intro T hT X
  have hpl : e.platform.magicAccessors = ({} : Platform).magicAccessors := by rw [X.admits.platform]
  obtain ⟨c0, hfc0, hcl⟩ := Cond.classLink_spec hown hclink e.platform hpl
  have hc0 : c0 = cA := Option.some.inj (hfc0.symm.trans hcA)
  subst hc0
  obtain ⟨hg₁, hwarm₁, hready₁⟩ := State.classEntry (e := e) X.warmed hcl
  generalize T.vm.noted m.cls index (.cls c0) = vm₁ at hg₁ hwarm₁ hready₁
  have X₁ := X.noted hwarm₁
  obtain ⟨T', locs', ⟨⟨g1, g2, g3, g4, g5⟩, g6⟩, hw⟩ := md_makeT (F0 m pc ls rest) dv [n1, n2, n3] (c0 :: cs) (T.setVm vm₁) locs cells slots X₁ (hok vm₁ X.admits hwarm₁.alike) hcells hslots
  have hTh : (T.setVm vm₁).heap = H := hT
  rw [hTh] at g2 g3 g4 g6 hw
  have hS' : va_S A H0 T'.heap locs' := ⟨by rw [g2]; have := hS.1; omega, fun x h1 h2 => (g3 x (Nat.lt_of_lt_of_le h1 hS.1)).trans (hS.2.1 x h1 h2), fun q hq => by
    rcases g4 q hq with h | h
    · exact hS.2.2 q h
    · exact hA _ (Nat.le_trans hS.1 h)⟩
  obtain ⟨t, a1, b1⟩ := kk T'.heap locs' g2 g6 (hP.kept (fun k x hx => g3 x.1 ((hP k x hx).lt))) hS' T' rfl g5
  refine ⟨t, ?_, b1⟩
  jvm_step X.here [hexec, hdg]
  simp only [multianewarray.sem, wp_bind', W.resolveClassAt_links (State.method?_setTop (F0 m pc ls (.int n3 :: .int n2 :: .int n1 :: rest)) X.here.top) hg₁]
  rw [W.popN, if_neg (by decide)]
  refine ⟨F0 m pc ls (.int n3 :: .int n2 :: .int n1 :: rest), State.topJava?_setTop' (s := T.setVm vm₁) _ X.here.top, [.int n1, .int n2, .int n3], rest, rfl, rfl, ?_⟩
  simp only [List.mapM_cons, List.mapM_nil, wp_bind', wp_pure']
  have eS : ((T.setTop (F0 m pc ls (.int n3 :: .int n2 :: .int n1 :: rest))).setVm vm₁).setTop (F0 m pc ls rest) = (T.setVm vm₁).setTop (F0 m pc ls rest) := by
    show ((T.setVm vm₁).setTop _).setTop _ = _
    rw [State.setTop_setTop]
  rw [eS]
  refine hw _ _ _ _ (fun d' acts' => ?_)
  simp only [wp_bind', W.mark, W.pushRef, State.topJava?_setTop' _ g5.here.top, Option.some.injEq, exists_eq_left', State.setTop_setTop, State.heap_setTop]
  intro acts
  simp [jvm, g5.here.top]
  exact a1
end MDY

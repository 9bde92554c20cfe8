/-! THE CLAIM OUT OF ONE WALK OF THE LAW'S BODY. Your part is whole_start (and what it stands on); all else here is the same for every law, but numbers. -/
def R_law : String := "PatternGateLaw"
def lw_P (b : Addr) (xs : List Int32) (args : Array Value) (s : State) : Prop := args = #[.ref b] ∧ s.IntsAt b xs ∧ xs.length ≤ 3072 ∧ (Jvm.Cond.and given_1 narrow_1).before args s = true
def lw_Q (_ : Array Value) (s : State) (o : Outcome) (t : State) : Prop := o = .returned (some (.int 1)) ∧ Framed s o t [] 600000 7302250
def lw_Z (below : List Frame) (a : Array Value) (s : State) : State → Prop := fun t => ∃ o, t.status = .running ∧ Ended t below o ∧ lw_Q a s o t
/-- the law's own end, with 1 on the stack, nothing written that was there before, its room as the claim has it -/
theorem lw_ret {p : Program} {l : Launch} {e : Env} {s : State} {m : MethodId} {below : List Frame} {meth : Method} {c : Code} {b : Nat} (hx : p.tables.exec = Jvm.exec) (hb : c.code = code) (hr : meth.sig.returnType = ret) (hlocks : meth.locks = false) {pc : Nat} {H : Heap} {ls : Array Slot} (hdg : decode code pc = .ok (.ireturn, 1)) : W p l e room_1 s m #[Value.ref b] below meth c H [] 600000 7302250 (lw_Z below #[Value.ref b] s) (F0 m pc ls [.int 1]) := by
  intro T hT X
  obtain ⟨fs, hret, hrun, hended, hW, hframe⟩ := X.leave (v := some (.int 1)) (hlocks := hlocks) (fun h => by rw [hr] at h; cases h)
  have hmeth' : T.vm.method? m = some meth := X.method'
  refine ⟨T.setFrames fs, ?_, .returned (some (.int 1)), hrun, hended, rfl, ⟨_, rfl⟩, hW, hframe⟩
  jvm_step X.here [X.here.top, hx, hb, hdg, hmeth', hr, ret, narrow_b1]
  (try refine ⟨rfl, ?_⟩); (try refine ⟨rfl, ?_⟩)
  first | (intro acts; rw [hret _ acts rfl rfl rfl]) | rw [hret _ _ rfl rfl rfl]
  exact Steps.refl _
/-- what holds at the law's entry: the machine, the code, the tables' words (any of lw_tbl by 'hts w (by decide +kernel)'), the script of L ints xs at the cell b, what the Statement gives of the start (any of its parts by flat_of_before) -/
def lw_At (p : Program) (s : State) (m : MethodId) (meth : Method) (c : Code) (b L : Nat) (xs : Nat → Int32) : Prop :=
  p.tables.exec = Jvm.exec ∧ c.code = code ∧ meth.sig.returnType = ret ∧ c.maxLocals = 4 ∧ s.vm.findClass R_law = some m.cls ∧ (∀ w ∈ lw_tbl, w.before #[Value.ref b] s = true) ∧ va_X b L xs s s.heap ∧ b < s.heap.size ∧ meth.locks = false ∧ (Jvm.Cond.and given_1 narrow_1).before #[Value.ref b] s = true
/-- what holds between two calls of the law: where it does, G -/
def LI (dC : Nat → ClassId) (dI : Nat → Nat → Nat) (s : State) (gt mo : Nat) (H : Heap) (G : Prop) : Prop := ∀ (tp bk mb mu rd cm wk pp so ty li : Nat) (st9 td fk fpl un mk x0 x1 q0 q1 q2 q3 q4 q5 q6 q7 : Int32) (r : Nat → Nat) (ctp cmb cmu cb0 cb1 cb2 cli cpp cso cty : ClassId) (ftp fmu fb0 fb1 fb2 fli fpp fso fty : Nat → Int32) (fmb : Nat → Option Nat) (spn : Int32) (kG : Nat) (cg9 : ClassId) (fG : Nat → Int32) (o3 r3 : Nat) (c3 : ClassId) (f3 : Nat → Int64) (n3 : Int32) (e4 t4 s4 R4 : Nat) (ct4 cs4 : ClassId) (ft4 fs4 : Nat → Int32) (m4 : Int32) (e5 t5 s5 R5 : Nat) (ct5 cs5 : ClassId) (ft5 fs5 : Nat → Int32) (m5 : Int32) (kC : Nat) (cC : ClassId) (fC : Nat → Int32) (kF : Nat) (cF : ClassId) (fF : Nat → Int32) (kT : Nat) (cT : ClassId) (fT : Nat → Int32) (kA kB : Nat) (cA9 cB : ClassId) (ad : Nat → Nat → Nat) (ca : Nat → Nat → ClassId) (vi : Nat → Nat → Int32) (vl : Nat → Nat → Int64) (vf : Nat → Nat → Nat → Int32) (W9 : va_W) (T9 : List (ClassId × FieldType)) (B9 : Nat → Prop) (zad : Nat → Nat) (zkc : Nat → ClassId) (zx0 zx1 zx2 zx3 zx4 zx5 zx6 zx7 zx8 zx9 zx10 zx11 zx12 zx13 zx14 zx15 zx16 zx17 zx18 zx19 zx20 zx21 : Int32) (zf0 zf1 zf2 zf3 zf4 zf5 zf6 zf7 zf8 zf9 zf10 zf11 zf12 zf13 zf14 zf15 zf16 zf17 zf18 zf19 zf20 zf21 : Nat → Int32) (zL : Nat → Nat → Int64) (zN : Nat → Nat → Int32) (zP : Nat → Nat → Nat) (zM : Nat → Nat → Int32) (zO : Nat → Nat → Int32), (0 ≤ spn.toInt) → (spn.toInt ≤ 24) → (0 ≤ n3.toInt) → (n3.toInt ≤ 6) → (1 ≤ R4) → (R4 ≤ 144) → (0 ≤ m4.toInt) → (m4.toInt ≤ R4) → (∀ i, 0 ≤ (fs4 i).toInt ∧ (fs4 i).toInt ≤ 24) → (1 ≤ R5) → (R5 ≤ 144) → (0 ≤ m5.toInt) → (m5.toInt ≤ R5) → (∀ i, 0 ≤ (fs5 i).toInt ∧ (fs5 i).toInt ≤ 24) → (cG vi vf) → (0 ≤ td.toInt ∧ td.toInt ≤ 900) → (0 ≤ mk.toInt ∧ mk.toInt ≤ 3) → (gM fmb B9 mk.toInt) → (gB W9 T9 B9) → (B9 bk) → (zad 0 = mo) → (mI zx1.toInt zx2.toInt zx3.toInt zf0 zP) → (zx2.toInt = mk.toInt) → (zx3.toInt = td.toInt) → (RT ftp zf1) → (va_K (dC, dI) vwCl [(ctp, .int), (cmb, .object "PatternGate$Book"), (cmu, .int), (cb0, .int), (cb1, .int), (cb2, .boolean), (cli, .int), (cpp, .int), (cso, .int), (cty, .int), (cA9, .object "PatternGate$Part"), (cB, .object "PatternGate$Part"), (cg9, .boolean), (c3, .long), (ct4, .int), (cs4, .int), (ct5, .int), (cs5, .int), (cC, .int), (cF, .int), (cT, .int)] s) → (∀ k, k < 13 → va_K (dC, dI) vwCl [(ca k 0, .long), (ca k 1, .int), (ca k 2, .int)] s) → (va_K (dC, dI) vwCl (mT zkc) s) → (va_K (dC, dI) vwCl T9 s) → (va_P (dC, dI) vwCl ([(gt, .inr (9, [.int st9, .ref tp, .int td, .int fk, .int fpl, .ref bk, .int un, .ref mb, .ref mu, .int mk, .ref rd, .ref cm, .ref wk, .ref pp, .ref so, .ref ty])), (tp, .inl (ctp, 900, .inl ftp)), (mb, .inl (cmb, 3, .inr (.inr (.inr (.inr fmb))))), (mu, .inl (cmu, 3, .inl fmu)), (rd, .inr (6, rF r q0 q1 q2 q3 q4 q5 q6 q7)), (r 0, .inl (cb0, 18, .inl fb0)), (r 1, .inl (cb1, 18, .inl fb1)), (r 2, .inl (cb2, 18, .inl fb2)), (wk, .inr (8, [.int x0, .int x1, .ref li])), (li, .inl (cli, 24, .inl fli)), (pp, .inl (cpp, 60, .inl fpp)), (so, .inl (cso, 60, .inl fso)), (ty, .inl (cty, 26, .inl fty)), (cm, .inr (1, [.ref kA, .ref kB, .ref kG, .ref (ad 12 0), .ref o3, .ref e4, .ref e5, .ref kC, .ref kF, .ref kT, .int spn])), (kA, .inl (cA9, 6, .inr (.inr (.inr (.inr (fun i => some (ad i 0))))))), (kB, .inl (cB, 6, .inr (.inr (.inr (.inr (fun i => some (ad (6 + i) 0))))))), (kG, .inl (cg9, 6, .inl fG)), (o3, .inr (7, [.ref r3, .int n3])), (r3, .inl (c3, 6, .inr (.inl f3))), (e4, .inr (3, [.int (nI R4), .ref t4, .ref s4, .int m4])), (t4, .inl (ct4, 24 * R4, .inl ft4)), (s4, .inl (cs4, R4, .inl fs4)), (e5, .inr (3, [.int (nI R5), .ref t5, .ref s5, .int m5])), (t5, .inl (ct5, 24 * R5, .inl ft5)), (s5, .inl (cs5, R5, .inl fs5)), (kC, .inl (cC, 24, .inl fC)), (kF, .inl (cF, 24, .inl fF)), (kT, .inl (cT, 26, .inl fT))] ++ (cPL ad ca vi vl vf (List.range 13) ++ mW zad zkc zx0 zx1 zx2 zx3 zx4 zx5 zx6 zx7 zx8 zx9 zx10 zx11 zx12 zx13 zx14 zx15 zx16 zx17 zx18 zx19 zx20 zx21 zf0 zf1 zf2 zf3 zf4 zf5 zf6 zf7 zf8 zf9 zf10 zf11 zf12 zf13 zf14 zf15 zf16 zf17 zf18 zf19 zf20 zf21 zL zN zP zM zO)) H) → (va_D (fun q : Nat => s.heap.size ≤ q) ([(gt, .inr (9, [.int st9, .ref tp, .int td, .int fk, .int fpl, .ref bk, .int un, .ref mb, .ref mu, .int mk, .ref rd, .ref cm, .ref wk, .ref pp, .ref so, .ref ty])), (tp, .inl (ctp, 900, .inl ftp)), (mb, .inl (cmb, 3, .inr (.inr (.inr (.inr fmb))))), (mu, .inl (cmu, 3, .inl fmu)), (rd, .inr (6, rF r q0 q1 q2 q3 q4 q5 q6 q7)), (r 0, .inl (cb0, 18, .inl fb0)), (r 1, .inl (cb1, 18, .inl fb1)), (r 2, .inl (cb2, 18, .inl fb2)), (wk, .inr (8, [.int x0, .int x1, .ref li])), (li, .inl (cli, 24, .inl fli)), (pp, .inl (cpp, 60, .inl fpp)), (so, .inl (cso, 60, .inl fso)), (ty, .inl (cty, 26, .inl fty)), (cm, .inr (1, [.ref kA, .ref kB, .ref kG, .ref (ad 12 0), .ref o3, .ref e4, .ref e5, .ref kC, .ref kF, .ref kT, .int spn])), (kA, .inl (cA9, 6, .inr (.inr (.inr (.inr (fun i => some (ad i 0))))))), (kB, .inl (cB, 6, .inr (.inr (.inr (.inr (fun i => some (ad (6 + i) 0))))))), (kG, .inl (cg9, 6, .inl fG)), (o3, .inr (7, [.ref r3, .int n3])), (r3, .inl (c3, 6, .inr (.inl f3))), (e4, .inr (3, [.int (nI R4), .ref t4, .ref s4, .int m4])), (t4, .inl (ct4, 24 * R4, .inl ft4)), (s4, .inl (cs4, R4, .inl fs4)), (e5, .inr (3, [.int (nI R5), .ref t5, .ref s5, .int m5])), (t5, .inl (ct5, 24 * R5, .inl ft5)), (s5, .inl (cs5, R5, .inl fs5)), (kC, .inl (cC, 24, .inl fC)), (kF, .inl (cF, 24, .inl fF)), (kT, .inl (cT, 26, .inl fT))] ++ (cPL ad ca vi vl vf (List.range 13) ++ mW zad zkc zx0 zx1 zx2 zx3 zx4 zx5 zx6 zx7 zx8 zx9 zx10 zx11 zx12 zx13 zx14 zx15 zx16 zx17 zx18 zx19 zx20 zx21 zf0 zf1 zf2 zf3 zf4 zf5 zf6 zf7 zf8 zf9 zf10 zf11 zf12 zf13 zf14 zf15 zf16 zf17 zf18 zf19 zf20 zf21 zL zN zP zM zO))) → (va_P (dC, dI) vwCl W9 H) → (∀ q ∈ W9, ∀ x ∈ ([(gt, .inr (9, [.int st9, .ref tp, .int td, .int fk, .int fpl, .ref bk, .int un, .ref mb, .ref mu, .int mk, .ref rd, .ref cm, .ref wk, .ref pp, .ref so, .ref ty])), (tp, .inl (ctp, 900, .inl ftp)), (mb, .inl (cmb, 3, .inr (.inr (.inr (.inr fmb))))), (mu, .inl (cmu, 3, .inl fmu)), (rd, .inr (6, rF r q0 q1 q2 q3 q4 q5 q6 q7)), (r 0, .inl (cb0, 18, .inl fb0)), (r 1, .inl (cb1, 18, .inl fb1)), (r 2, .inl (cb2, 18, .inl fb2)), (wk, .inr (8, [.int x0, .int x1, .ref li])), (li, .inl (cli, 24, .inl fli)), (pp, .inl (cpp, 60, .inl fpp)), (so, .inl (cso, 60, .inl fso)), (ty, .inl (cty, 26, .inl fty)), (cm, .inr (1, [.ref kA, .ref kB, .ref kG, .ref (ad 12 0), .ref o3, .ref e4, .ref e5, .ref kC, .ref kF, .ref kT, .int spn])), (kA, .inl (cA9, 6, .inr (.inr (.inr (.inr (fun i => some (ad i 0))))))), (kB, .inl (cB, 6, .inr (.inr (.inr (.inr (fun i => some (ad (6 + i) 0))))))), (kG, .inl (cg9, 6, .inl fG)), (o3, .inr (7, [.ref r3, .int n3])), (r3, .inl (c3, 6, .inr (.inl f3))), (e4, .inr (3, [.int (nI R4), .ref t4, .ref s4, .int m4])), (t4, .inl (ct4, 24 * R4, .inl ft4)), (s4, .inl (cs4, R4, .inl fs4)), (e5, .inr (3, [.int (nI R5), .ref t5, .ref s5, .int m5])), (t5, .inl (ct5, 24 * R5, .inl ft5)), (s5, .inl (cs5, R5, .inl fs5)), (kC, .inl (cC, 24, .inl fC)), (kF, .inl (cF, 24, .inl fF)), (kT, .inl (cT, 26, .inl fT))] ++ (cPL ad ca vi vl vf (List.range 13) ++ mW zad zkc zx0 zx1 zx2 zx3 zx4 zx5 zx6 zx7 zx8 zx9 zx10 zx11 zx12 zx13 zx14 zx15 zx16 zx17 zx18 zx19 zx20 zx21 zf0 zf1 zf2 zf3 zf4 zf5 zf6 zf7 zf8 zf9 zf10 zf11 zf12 zf13 zf14 zf15 zf16 zf17 zf18 zf19 zf20 zf21 zL zN zP zM zO)), x.1 ≠ q.1) → G
theorem qn_A {D : va_G} {cl : List vw_C} {W9 ws wc : va_W} {H : Heap} (hQ : va_P D cl W9 H) (hQN : ∀ q ∈ W9, ∀ x ∈ ws, x.1 ≠ q.1) (hs : ∀ x ∈ wc, x ∈ ws) : ∀ q ∈ W9, ¬ va_A wc H.size q.1 := fun q hq h => by
  rcases h with ⟨k, e, hk⟩ | h
  · exact hQN q hq _ (hs _ (List.mem_of_getElem? hk)) rfl
  · obtain ⟨k, hk⟩ := List.getElem?_of_mem hq
    have := (hQ k q hk).lt
    omega
theorem qn_P {D : va_G} {cl : List vw_C} {W9 wc : va_W} {H H1 : Heap} (hQ : va_P D cl W9 H) (hN : ∀ q ∈ W9, ¬ va_A wc H.size q.1) (hk : ∀ q : Nat, q < H.size → ¬ va_A wc H.size q → H1[q]? = H[q]?) : va_P D cl W9 H1 := hQ.kept (fun k q hq => hk q.1 ((hQ k q hq).lt) (hN q (List.mem_of_getElem? hq)))
theorem qn_new {W9 wc w1 : va_W} {n : Nat} (hN : ∀ q ∈ W9, ¬ va_A wc n q.1) (hD1 : va_D (va_A wc n) w1) : ∀ q ∈ W9, ∀ x ∈ w1, x.1 ≠ q.1 := fun q hq x hx e => by
  obtain ⟨k, hk⟩ := List.getElem?_of_mem hx
  have := hD1.2 k x hk
  rw [e] at this
  exact hN q hq this
theorem qn_act {D : va_G} {cl : List vw_C} {W9 W2 ws ws' : va_W} {T9 T2 : List (ClassId × FieldType)} {B9 B2 : Nat → Prop} {H : Heap} (hN : gN W9 W2 T9 T2 B9 B2 H.size) (hQN : ∀ q ∈ W9, ∀ x ∈ ws', x.1 ≠ q.1) (hP : va_P D cl ws H) (hm : ws'.map Prod.fst = ws.map Prod.fst) : ∀ q ∈ W2, ∀ x ∈ ws', x.1 ≠ q.1 := fun q hq x hx e => by
  rcases hN.2.2.2.2 q hq with h | h
  · exact hQN q h x hx e
  · have h2 : x.1 ∈ ws.map Prod.fst := by rw [← hm]; exact List.mem_map.mpr ⟨x, hx, rfl⟩
    obtain ⟨y, hy, e2⟩ := List.mem_map.mp h2
    obtain ⟨k, hk⟩ := List.getElem?_of_mem hy
    have := (hP k y hk).lt
    omega
theorem qn_app {W9 a b : va_W} (h1 : ∀ q ∈ W9, ∀ x ∈ a, x.1 ≠ q.1) (h2 : ∀ q ∈ W9, ∀ x ∈ b, x.1 ≠ q.1) : ∀ q ∈ W9, ∀ x ∈ a ++ b, x.1 ≠ q.1 := fun q hq x hx => (List.mem_append.mp hx).elim (h1 q hq x) (h2 q hq x)
theorem qn_sub {W9 a b : va_W} (h1 : ∀ q ∈ W9, ∀ x ∈ a, x.1 ≠ q.1) (hs : ∀ x ∈ b, x ∈ a) : ∀ q ∈ W9, ∀ x ∈ b, x.1 ≠ q.1 := fun q hq x hx => h1 q hq x (hs x hx)
theorem qn_fst {W9 a b : va_W} (h1 : ∀ q ∈ W9, ∀ x ∈ a, x.1 ≠ q.1) (hm : b.map Prod.fst = a.map Prod.fst) : ∀ q ∈ W9, ∀ x ∈ b, x.1 ≠ q.1 := fun q hq x hx e => by
  have h2 : x.1 ∈ a.map Prod.fst := by rw [← hm]; exact List.mem_map.mpr ⟨x, hx, rfl⟩
  obtain ⟨y, hy, e2⟩ := List.mem_map.mp h2
  exact h1 q hq y hy (e2.trans e)
/-- what the tables and the start give for the calls -/
def LX (s : State) : Prop := va_Nw (.castable "[I" "java/lang/Cloneable") s ∧ va_Nw (.castable "[LPatternGate$Doc;" "java/lang/Cloneable") s ∧ va_AO "PatternGate$Doc" s ∧ va_AO "PatternGate$Pattern" s ∧ va_Nw (.methodLinkNest RX6 53 yX9_isSmall "PatternGate") s ∧ va_Nw (.methodLinkNest RX1 160 yX9_isSmall "PatternGate") s ∧ sR (fun q : Nat => s.heap.size ≤ q) s s.heap ∧ sW (fun q : Nat => s.heap.size ≤ q) s s.heap ∧ sR2 (fun q : Nat => s.heap.size ≤ q) s s.heap ∧ sW2 (fun q : Nat => s.heap.size ≤ q) s s.heap ∧ (Cond.arrayOver (.array .int)).before #[] s = true
theorem mem_pl {ws wc t : va_W} (is : List Nat) (hs : is.map (fun i => ws[i]?) = wc.map some) : ∀ x ∈ wc, x ∈ ws ++ t := fun x hx => by
  obtain ⟨k, hk⟩ := List.getElem?_of_mem hx
  have h1 : (wc.map some)[k]? = some (some x) := by rw [List.getElem?_map, hk]; rfl
  rw [← hs, List.getElem?_map] at h1
  cases hi : is[k]? with
  | none => rw [hi] at h1; cases h1
  | some i =>
    rw [hi] at h1
    have h2 : ws[i]? = some x := Option.some.inj h1
    exact List.mem_append_left _ (List.mem_of_getElem? h2)
theorem mem_re {X cx t : va_W} {x : Nat × va_E} (is : List Nat) (hs : is.map (fun i => X[i]?) = cx.map some) (hx : x ∈ cx ++ t) : x ∈ X ++ t := by
  rcases List.mem_append.mp hx with h | h
  · exact mem_pl is hs x h
  · exact List.mem_append_right _ h
theorem rt_tc {f g : Nat → Int32} (h : RT f g) (n : Int) : tc f n = tx g n := by
  funext k
  unfold tc tx
  by_cases c : k < n
  · rw [if_pos c, if_pos c]
    by_cases c2 : 0 ≤ k
    · exact h k c2
    · have h0 := h 0 (by omega)
      have e1 : ∀ u : Nat → Int32, vI u k = vI u 0 := fun u => by unfold vI; rw [show k.toNat = (0 : Int).toNat by omega]
      rw [e1, e1]; exact h0
  · rw [if_neg c, if_neg c]
theorem ld_same {f g : Nat → Int32} {i a b t u : Int} (h : RT f g) (h1 : (0 ≤ i ∧ i ≤ t → Ld (tc f i) (zTop 0 0 0 0) (zOut a)) ∧ ((i < 0 ∨ t < i) → a = -1)) (h2 : (0 ≤ i ∧ i ≤ u → Ld (tx g i) (zTop 0 0 0 0) (zOut b)) ∧ ((i < 0 ∨ u < i) → b = -1)) (e : u = t) : a = b := by
  subst e
  by_cases q : 0 ≤ i ∧ i ≤ u
  · have h3 := h1.1 q
    rw [rt_tc h] at h3
    exact h3.det (h2.1 q)
  · rw [h1.2 (by omega), h2.2 (by omega)]

theorem vI_cg {f g : Nat → Int32} {z : Int} (h : f = g) : vI f z = vI g z := by rw [h]
/-- nothing but one row has changed -/
def rFr (R R' : Nat → Nat → Int32) (b : Nat) : Prop := ∀ a, IR a → a ≠ b → R' a = R a
theorem ly_step {R R' : Nat → Nat → Int32} {a2 : Nat} {k v n : Int} (hu : vI (R' a2) k = v ∧ ∀ z : Int, 0 ≤ z → z ≠ k → vI (R' a2) z = vI (R a2) z) (hI : 1 ≤ k → vI (R a2) 0 = n) (h0 : 0 ≤ k) (hv : k = 0 → v = n) : vI (R' a2) 0 = n := by
  by_cases e : k = 0
  · subst e
    rw [hu.1, hv rfl]
  · rw [hu.2 0 (by omega) (by omega)]
    exact hI (by omega)
/-- the many, up to one -/
def mOK (R : Nat → Nat → Int32) (top b : Int) : Prop := ∀ k : Nat, (k : Int) < top → 0 ≤ vI (R (1100 + k)) 0 ∧ vI (R (1100 + k)) 0 ≤ b
/-- nothing but the many has changed -/
def mFr (R R' : Nat → Nat → Int32) : Prop := ∀ a, IR a → (a < 1100 ∨ 1300 ≤ a) → R' a = R a
theorem mFr.rf {R : Nat → Nat → Int32} : mFr R R := fun _ _ _ => rfl
theorem mFr.row {R R1 R2 : Nat → Nat → Int32} {k : Nat} (h : mFr R R1) (hr : rFr R1 R2 (1100 + k)) (hk : k < 150) : mFr R R2 := fun a ha hb => (hr a ha (by omega)).trans (h a ha hb)
theorem mOK.lay {R R' : Nat → Nat → Int32} {top b : Int} {j k : Nat} (h : mOK R top b) (hr : rFr R R' (1100 + j)) (hs : vI (R' (1100 + j)) 0 = vI (R (1100 + k)) 0) (hk : (k : Int) < top) (ht : top ≤ 150) : mOK R' top b := by
  intro i hi
  by_cases e : i = j
  · subst e
    rw [hs]; exact h k hk
  · rw [hr (1100 + i) (by unfold IR; omega) (by omega)]
    exact h i hi
theorem mOK.push {R R' : Nat → Nat → Int32} {top b top' : Int} {j : Nat} (h : mOK R top b) (hr : rFr R R' (1100 + j)) (h0 : 0 ≤ vI (R' (1100 + j)) 0) (h1 : vI (R' (1100 + j)) 0 ≤ b) (hj : (j : Int) = top) (ht : top' = top + 1) (hm : top < 150) : mOK R' top' b := by
  intro i hi
  by_cases e : i = j
  · subst e
    exact ⟨h0, h1⟩
  · rw [hr (1100 + i) (by unfold IR; omega) (by omega)]
    exact h i (by omega)
theorem mOK.mono {R : Nat → Nat → Int32} {t t' b b' : Int} (h : mOK R t b) (ht : t' ≤ t) (hb : b ≤ b') : mOK R t' b' := fun k hk => by have := h k (by omega); omega
/-- the rows of a need stand in some order -/
def PI (P : Nat → Nat → Nat) : Prop := ∀ n i, i < 12 → P n i < 12 ∧ ∀ j, j < 12 → P n i = P n j → i = j
/-- a need of choices of at most b triples -/
def nOK (R : Nat → Nat → Int32) (P : Nat → Nat → Nat) (nm : Nat → Int32) (n b : Int) : Prop := 0 ≤ vI nm n ∧ vI nm n ≤ 12 ∧ ∀ i : Nat, (i : Int) < vI nm n → 0 ≤ vI (R (300 + (12 * n.toNat + P n.toNat i))) 0 ∧ vI (R (300 + (12 * n.toNat + P n.toNat i))) 0 ≤ b
/-- nothing but the many and one need's rows has changed -/
def nFm (R R' : Nat → Nat → Int32) (n : Int) : Prop := ∀ a, IR a → (a < 1100 ∨ 1300 ≤ a) → (a < 300 + 12 * n.toNat ∨ 312 + 12 * n.toNat ≤ a) → R' a = R a
theorem nFm.rf {R : Nat → Nat → Int32} {n : Int} : nFm R R n := fun _ _ _ _ => rfl
theorem nFm.of {R R' : Nat → Nat → Int32} {n : Int} (h : mFr R R') : nFm R R' n := fun a ha hb _ => h a ha hb
theorem nFm.tr {R R1 R2 : Nat → Nat → Int32} {n : Int} (h : nFm R R1 n) (h2 : nFm R1 R2 n) : nFm R R2 n := fun a ha hb hc => (h2 a ha hb hc).trans (h a ha hb hc)
theorem nFm.row {R R1 R2 : Nat → Nat → Int32} {n : Int} {p : Nat} (h : nFm R R1 n) (hr : rFr R1 R2 (300 + (12 * n.toNat + p))) (hp : p < 12) : nFm R R2 n := fun a ha hb hc => (hr a ha (by omega)).trans (h a ha hb hc)
theorem nOK.mono {R : Nat → Nat → Int32} {P : Nat → Nat → Nat} {nm : Nat → Int32} {n b b' : Int} (h : nOK R P nm n b) (hb : b ≤ b') : nOK R P nm n b' := ⟨h.1, h.2.1, fun i hi => by have := h.2.2 i hi; omega⟩
theorem nOK.fr {R R' : Nat → Nat → Int32} {P : Nat → Nat → Nat} {nm nm' : Nat → Int32} {n t b : Int} (h : nOK R P nm t b) (hP : PI P) (hf : nFm R R' n) (hm : vI nm' t = vI nm t) (h0 : 0 ≤ t) (h1 : t < 60) (h2 : 0 ≤ n) (hne : t ≠ n) : nOK R' P nm' t b := by
  obtain ⟨a1, a2, a3⟩ := h
  refine ⟨by omega, by omega, fun i hi => ?_⟩
  have hp := (hP t.toNat i (by omega)).1
  rw [hf (300 + (12 * t.toNat + P t.toNat i)) (by unfold IR; omega) (by omega) (by omega)]
  exact a3 i (by omega)
theorem nOK.fm {R R' : Nat → Nat → Int32} {P : Nat → Nat → Nat} {nm : Nat → Int32} {t b : Int} (h : nOK R P nm t b) (hP : PI P) (hf : mFr R R') (h0 : 0 ≤ t) (h1 : t < 60) : nOK R' P nm t b := by
  obtain ⟨a1, a2, a3⟩ := h
  refine ⟨a1, a2, fun i hi => ?_⟩
  have hp := (hP t.toNat i (by omega)).1
  rw [hf (300 + (12 * t.toNat + P t.toNat i)) (by unfold IR; omega) (by omega)]
  exact a3 i hi
/-- rows of a need, so many -/
def bcI (R : Nat → Nat → Int32) (P : Nat → Nat → Nat) (n k b : Int) : Prop := ∀ i : Nat, (i : Int) < k → 0 ≤ vI (R (300 + (12 * n.toNat + P n.toNat i))) 0 ∧ vI (R (300 + (12 * n.toNat + P n.toNat i))) 0 ≤ b
theorem bc_step {R R' : Nat → Nat → Int32} {P : Nat → Nat → Nat} {n k k' b : Int} (hP : PI P) (hI : bcI R P n k b) (hr : rFr R R' (300 + (12 * n.toNat + P n.toNat k.toNat))) (h0 : 0 ≤ k) (hk : k < 12) (hn : 0 ≤ n) (hn2 : n < 60) (a0 : 0 ≤ vI (R' (300 + (12 * n.toNat + P n.toNat k.toNat))) 0) (a1 : vI (R' (300 + (12 * n.toNat + P n.toNat k.toNat))) 0 ≤ b) (hk' : k' = k + 1) : bcI R' P n k' b := by
  intro i hi
  by_cases e : (i : Int) = k
  · have : i = k.toNat := by omega
    subst this
    exact ⟨a0, a1⟩
  · have h1 := hP n.toNat i (by omega)
    have h2 := (hP n.toNat k.toNat (by omega)).1
    have h3 : P n.toNat i ≠ P n.toNat k.toNat := fun q => e (by have := h1.2 k.toNat (by omega) q; omega)
    rw [hr (300 + (12 * n.toNat + P n.toNat i)) (by unfold IR; omega) (by omega)]
    exact hI i (by omega)
theorem dX10_lays_0 : decode cX10_lays 0 = .ok (.iconst 0, 1) := by decide +kernel
theorem dX10_lays_1 : decode cX10_lays 1 = .ok (.istore_n 2, 1) := by decide +kernel
theorem dX10_lays_2 : decode cX10_lays 2 = .ok (.iload_n 2, 1) := by decide +kernel
theorem dX10_lays_3 : decode cX10_lays 3 = .ok (.aload_n 0, 1) := by decide +kernel
theorem dX10_lays_4 : decode cX10_lays 4 = .ok (.iconst 0, 1) := by decide +kernel
theorem dX10_lays_5 : decode cX10_lays 5 = .ok (.iaload, 1) := by decide +kernel
theorem dX10_lays_6 : decode cX10_lays 6 = .ok (.if_icmp .gt 15, 3) := by decide +kernel
theorem dX10_lays_9 : decode cX10_lays 9 = .ok (.aload_n 1, 1) := by decide +kernel
theorem dX10_lays_10 : decode cX10_lays 10 = .ok (.iload_n 2, 1) := by decide +kernel
theorem dX10_lays_11 : decode cX10_lays 11 = .ok (.aload_n 0, 1) := by decide +kernel
theorem dX10_lays_12 : decode cX10_lays 12 = .ok (.iload_n 2, 1) := by decide +kernel
theorem dX10_lays_13 : decode cX10_lays 13 = .ok (.iaload, 1) := by decide +kernel
theorem dX10_lays_14 : decode cX10_lays 14 = .ok (.iastore, 1) := by decide +kernel
theorem dX10_lays_15 : decode cX10_lays 15 = .ok (.iinc 2 1, 3) := by decide +kernel
theorem dX10_lays_18 : decode cX10_lays 18 = .ok (.goto (-16), 3) := by decide +kernel
theorem dX10_lays_21 : decode cX10_lays 21 = .ok (.return_, 1) := by decide +kernel
def mwX10_laysm : List Cond := .code yX10_lays cX10_lays 3 none :: ([])
set_option maxHeartbeats 4000000 in
set_option maxRecDepth 100000 in
theorem m_lays (l : Launch) (dC : Nat → ClassId) (dI : Nat → Nat → Nat) (ad : Nat → Nat) (kc : Nat → ClassId) (x0 x1 x2 x3 x4 x5 x6 x7 x8 x9 x10 x11 x12 x13 x14 x15 x16 x17 x18 x19 x20 x21 : Int32) (f0 f1 f2 f3 f4 f5 f6 f7 f8 f9 f10 f11 f12 f13 f14 f15 f16 f17 f18 f19 f20 f21 : Nat → Int32) (fL : Nat → Nat → Int64) (fN : Nat → Nat → Int32) (fP : Nat → Nat → Nat) (fM : Nat → Nat → Int32) (fO : Nat → Nat → Int32) (sz : Nat) (a1 a2 : Nat) (q0 : IR a1) (q1 : IR a2) (q2 : a1 ≠ a2) (q3 : 0 ≤ vI ((rO fN fM fO) a1) 0 ∧ vI ((rO fN fM fO) a1) 0 ≤ 168) : Met l yX10_lays mwX10_laysm ({ frames := 0, cells := 0, slots := 0, locals := 0 }) (va_Pc [.ref (ad a1), .ref (ad a2)] (fun U => U.heap.size = sz ∧ va_P (dC, dI) vwCl (mW ad kc x0 x1 x2 x3 x4 x5 x6 x7 x8 x9 x10 x11 x12 x13 x14 x15 x16 x17 x18 x19 x20 x21 f0 f1 f2 f3 f4 f5 f6 f7 f8 f9 f10 f11 f12 f13 f14 f15 f16 f17 f18 f19 f20 f21 fL fN fP fM fO) U.heap ∧ va_K (dC, dI) vwCl (mT kc) U ∧ va_D (fun _ => True) (mW ad kc x0 x1 x2 x3 x4 x5 x6 x7 x8 x9 x10 x11 x12 x13 x14 x15 x16 x17 x18 x19 x20 x21 f0 f1 f2 f3 f4 f5 f6 f7 f8 f9 f10 f11 f12 f13 f14 f15 f16 f17 f18 f19 f20 f21 fL fN fP fM fO))) (va_Qv (fun (_ : Unit) => True) (fun _ t => ∃ (Nn9 : Nat → Nat → Int32) (M9 : Nat → Nat → Int32) (O9 : Nat → Nat → Int32), (rFr (rO fN fM fO) (rO Nn9 M9 O9) a2) ∧ (vI ((rO Nn9 M9 O9) a2) 0 = vI ((rO fN fM fO) a1) 0) ∧ va_P (dC, dI) vwCl (mW ad kc x0 x1 x2 x3 x4 x5 x6 x7 x8 x9 x10 x11 x12 x13 x14 x15 x16 x17 x18 x19 x20 x21 f0 f1 f2 f3 f4 f5 f6 f7 f8 f9 f10 f11 f12 f13 f14 f15 f16 f17 f18 f19 f20 f21 fL Nn9 fP M9 O9) t.heap ∧ va_K (dC, dI) vwCl (mT kc) t ∧ va_D (va_A (mW ad kc x0 x1 x2 x3 x4 x5 x6 x7 x8 x9 x10 x11 x12 x13 x14 x15 x16 x17 x18 x19 x20 x21 f0 f1 f2 f3 f4 f5 f6 f7 f8 f9 f10 f11 f12 f13 f14 f15 f16 f17 f18 f19 f20 f21 fL fN fP fM fO) sz) (mW ad kc x0 x1 x2 x3 x4 x5 x6 x7 x8 x9 x10 x11 x12 x13 x14 x15 x16 x17 x18 x19 x20 x21 f0 f1 f2 f3 f4 f5 f6 f7 f8 f9 f10 f11 f12 f13 f14 f15 f16 f17 f18 f19 f20 f21 fL Nn9 fP M9 O9)) (va_A (mW ad kc x0 x1 x2 x3 x4 x5 x6 x7 x8 x9 x10 x11 x12 x13 x14 x15 x16 x17 x18 x19 x20 x21 f0 f1 f2 f3 f4 f5 f6 f7 f8 f9 f10 f11 f12 f13 f14 f15 f16 f17 f18 f19 f20 f21 fL fN fP fM fO) sz)) 0 0 (va_A (mW ad kc x0 x1 x2 x3 x4 x5 x6 x7 x8 x9 x10 x11 x12 x13 x14 x15 x16 x17 x18 x19 x20 x21 f0 f1 f2 f3 f4 f5 f6 f7 f8 f9 f10 f11 f12 f13 f14 f15 f16 f17 f18 f19 f20 f21 fL fN fP fM fO) sz) := by
  refine Met.ofW (cc := cX10_lays) (maxL := 3) (ret := none) (by decide +kernel) rfl ?_
  intro p e s m args below meth c s₁ B hml hv
  obtain ⟨rfl, hsz, hP, hK, hD0⟩ := hv
  have hx := B.exec
  have hb := B.bytes
  have hr := B.returns
  have hts := atoms_spec (ws := mwX10_laysm) B.pre
  have hown : s.vm.findClass RX10 = some m.cls := findClass_of_methodNamed B.named
  have hlocks := B.notSynchronized
  subst hsz
  have hD := hD0.self (sz := s.heap.size)
  generalize hAe : va_A (mW ad kc x0 x1 x2 x3 x4 x5 x6 x7 x8 x9 x10 x11 x12 x13 x14 x15 x16 x17 x18 x19 x20 x21 f0 f1 f2 f3 f4 f5 f6 f7 f8 f9 f10 f11 f12 f13 f14 f15 f16 f17 f18 f19 f20 f21 fL fN fP fM fO) s.heap.size = A at hD ⊢
  have hA : ∀ q : Nat, s.heap.size ≤ q → A q := fun q h => by rw [← hAe]; exact Or.inr h
  have hP : va_P (dC, dI) vwCl (mW ad kc x0 x1 x2 x3 x4 x5 x6 x7 x8 x9 x10 x11 x12 x13 x14 x15 x16 x17 x18 x19 x20 x21 f0 f1 f2 f3 f4 f5 f6 f7 f8 f9 f10 f11 f12 f13 f14 f15 f16 f17 f18 f19 f20 f21 fL fN fP fM fO) s.heap := hP
  have hD : va_D A (mW ad kc x0 x1 x2 x3 x4 x5 x6 x7 x8 x9 x10 x11 x12 x13 x14 x15 x16 x17 x18 x19 x20 x21 f0 f1 f2 f3 f4 f5 f6 f7 f8 f9 f10 f11 f12 f13 f14 f15 f16 f17 f18 f19 f20 f21 fL fN fP fM fO) := hD
  have hK : va_K (dC, dI) vwCl (mT kc) s := hK
  generalize hH : s.heap = H at hP ⊢
  have hS : va_S A s.heap H [] := by rw [← hH]; exact va_S.rf
  have hl := lv_entry ([.ref (ad a1), .ref (ad a2)]) (n := 3) (Nat.le_of_ble_eq_true rfl)
  rw [lg_entry_eq]
  generalize (lg_sl ([.ref (ad a1), .ref (ad a2)]) ++ List.replicate (3 - (lg_sl ([.ref (ad a1), .ref (ad a2)])).length) Slot.unset).toArray = ls at hl ⊢
  have hl : lv_has ls 3 [(0, .ref (ad a1)), (1, .ref (ad a2))] := hl
  refine lv_iconst (v := 0) hx hb dX10_lays_0 (by decide) ?_
  refine lv_istore_n (lv' := [(2, .int 0), (0, .ref (ad a1)), (1, .ref (ad a2))]) hx hb dX10_lays_1 rfl hl (by decide) rfl (fun ls hl => ?_)
  have loop2 : ∀ (lm2 : Nat) (kk : Int32) (hn : Nat → Nat → Int32) (hm : Nat → Nat → Int32) (ho : Nat → Nat → Int32), (0 ≤ kk.toInt) → (rFr (rO fN fM fO) (rO hn hm ho) a2) → (1 ≤ kk.toInt → vI ((rO hn hm ho) a2) 0 = vI ((rO fN fM fO) a1) 0) → (kk.toInt ≤ vI ((rO fN fM fO) a1) 0 + 1) → ((vI ((rO fN fM fO) a1) 0 + 1 - kk.toInt).toNat) < lm2 → ∀ (H : Heap) (locs : List Loc) (ls : Array Slot), va_P (dC, dI) vwCl (mW ad kc x0 x1 x2 x3 x4 x5 x6 x7 x8 x9 x10 x11 x12 x13 x14 x15 x16 x17 x18 x19 x20 x21 f0 f1 f2 f3 f4 f5 f6 f7 f8 f9 f10 f11 f12 f13 f14 f15 f16 f17 f18 f19 f20 f21 fL hn fP hm ho) H → va_D A (mW ad kc x0 x1 x2 x3 x4 x5 x6 x7 x8 x9 x10 x11 x12 x13 x14 x15 x16 x17 x18 x19 x20 x21 f0 f1 f2 f3 f4 f5 f6 f7 f8 f9 f10 f11 f12 f13 f14 f15 f16 f17 f18 f19 f20 f21 fL hn fP hm ho) → va_S A s.heap H locs → lv_has ls 3 [(2, .int kk), (0, .ref (ad a1)), (1, .ref (ad a2))] → W p l e (headSpec mwX10_laysm ({ frames := 0, cells := 0, slots := 0, locals := 0 })).room s m ([.ref (ad a1), .ref (ad a2)]).toArray below meth c H locs 0 0 (MQ below (va_Qv (fun (_ : Unit) => True) (fun _ t => ∃ (Nn9 : Nat → Nat → Int32) (M9 : Nat → Nat → Int32) (O9 : Nat → Nat → Int32), (rFr (rO fN fM fO) (rO Nn9 M9 O9) a2) ∧ (vI ((rO Nn9 M9 O9) a2) 0 = vI ((rO fN fM fO) a1) 0) ∧ va_P (dC, dI) vwCl (mW ad kc x0 x1 x2 x3 x4 x5 x6 x7 x8 x9 x10 x11 x12 x13 x14 x15 x16 x17 x18 x19 x20 x21 f0 f1 f2 f3 f4 f5 f6 f7 f8 f9 f10 f11 f12 f13 f14 f15 f16 f17 f18 f19 f20 f21 fL Nn9 fP M9 O9) t.heap ∧ va_K (dC, dI) vwCl (mT kc) t ∧ va_D A (mW ad kc x0 x1 x2 x3 x4 x5 x6 x7 x8 x9 x10 x11 x12 x13 x14 x15 x16 x17 x18 x19 x20 x21 f0 f1 f2 f3 f4 f5 f6 f7 f8 f9 f10 f11 f12 f13 f14 f15 f16 f17 f18 f19 f20 f21 fL Nn9 fP M9 O9)) A) ([.ref (ad a1), .ref (ad a2)]).toArray s 0 0 A) (F0 m 2 ls []) := by
    intro lm2
    induction lm2 with
    | zero => intro kk hn hm ho v2_0 v2_1 v2_2 v2_3 hm2; exact absurd hm2 (Nat.not_lt_zero _)
    | succ lm2 ih2 =>
      intro kk hn hm ho v2_0 v2_1 v2_2 v2_3 hm2 H locs ls hP hD hS hl
      have rg_kk := i_rng kk
      refine lv_iload_n hx hb dX10_lays_2 rfl (lv_at hl 0 rfl) ?_
      refine lv_aload_n hx hb dX10_lays_3 rfl (lv_at hl 1 rfl) ?_
      refine lv_iconst (v := 0) hx hb dX10_lays_4 (by decide) ?_
      refine va_iald hx hb hK hP (rPos (a1)) (rTy (a1)) (mW_R (by first | assumption | (unfold IR; omega))) (mT_R _) (i := 0) (by unfold vp_in; decide +kernel) dX10_lays_5 ?_
      refine lv_topi (fun y_1 ey_1 => ?_)
      have rg_y_1 := i_rng y_1
      have vy_1 := vI_lda (f := (rO hn hm ho) a1) (i := 0) (a := 0) ey_1 (by first | omega | decide)
      have wy_1 := vI_cg (z := 0) (v2_1 a1 q0 q2)
      refine lv_icmp_gt (tgt := 21) hx hb dX10_lays_6 (by decide) (fun k_2 => ?_) (fun k_2 => ?_)
      · have tk_2 := c_gt (a := kk.toInt) (b := y_1.toInt) rfl rfl k_2
        exact W.vret hx hb hr (fun t ht hW => ⟨⟨(), rfl, trivial, hn, hm, ho, (by first | omega | assumption | rfl | decide), (v2_2 (by omega)), by rw [ht]; exact hP, va_K.moved hW.alike hK, hD⟩, hS.F ht⟩) hS.2.2 dX10_lays_21
      · have tk_2 := c_ngt (a := kk.toInt) (b := y_1.toInt) rfl rfl k_2
        refine lv_aload_n hx hb dX10_lays_9 rfl (lv_at hl 2 rfl) ?_
        refine lv_iload_n hx hb dX10_lays_10 rfl (lv_at hl 0 rfl) ?_
        refine lv_aload_n hx hb dX10_lays_11 rfl (lv_at hl 1 rfl) ?_
        refine lv_iload_n hx hb dX10_lays_12 rfl (lv_at hl 0 rfl) ?_
        refine va_iald hx hb hK hP (rPos (a1)) (rTy (a1)) (mW_R (by first | assumption | (unfold IR; omega))) (mT_R _) (i := kk) (vp_of (a := kk.toInt) rfl (by omega) (by omega)) dX10_lays_13 ?_
        refine lv_topi (fun y_3 ey_3 => ?_)
        have rg_y_3 := i_rng y_3
        have vy_3 := vI_lda (f := (rO hn hm ho) a1) (i := kk) (a := kk.toInt) ey_3 (by first | omega | decide)
        have wy_3 := vI_cg (z := kk.toInt) (v2_1 a1 q0 q2)
        refine va_iast hx hb hK hP hD hS (rPos (a2)) (rTy (a2)) (mW_R (by first | assumption | (unfold IR; omega))) (mT_R _) (i := kk) (vp_of (a := kk.toInt) rfl (by omega) (by omega)) dX10_lays_14 (fun H locs hP hD hS => ?_)
        obtain ⟨n_4, m_5, o_6, hP, hD, wu_7⟩ := mW_Rx (by first | assumption | (unfold IR; omega)) hP hD
        have u_7 := rU_v (x := kk.toInt) (y := y_3.toInt) wu_7 (by first | assumption | (unfold IR; omega)) (by first | omega | decide) (by omega) rfl
        have hP : va_P (dC, dI) vwCl (mW ad kc x0 x1 x2 x3 x4 x5 x6 x7 x8 x9 x10 x11 x12 x13 x14 x15 x16 x17 x18 x19 x20 x21 f0 f1 f2 f3 f4 f5 f6 f7 f8 f9 f10 f11 f12 f13 f14 f15 f16 f17 f18 f19 f20 f21 fL n_4 fP m_5 o_6) H := hP
        have hD : va_D A (mW ad kc x0 x1 x2 x3 x4 x5 x6 x7 x8 x9 x10 x11 x12 x13 x14 x15 x16 x17 x18 x19 x20 x21 f0 f1 f2 f3 f4 f5 f6 f7 f8 f9 f10 f11 f12 f13 f14 f15 f16 f17 f18 f19 f20 f21 fL n_4 fP m_5 o_6) := hD
        obtain ⟨y_8, ey_8⟩ : ∃ y : Int32, y = kk + 1 := ⟨_, rfl⟩
        first | have ty_8 := i_add (a := kk.toInt) (b := 1) rfl (by decide) ey_8 (by omega) (by omega) | skip
        refine lv_iinc (v := y_8) (lv' := [(2, .int y_8), (0, .ref (ad a1)), (1, .ref (ad a2))]) hx hb dX10_lays_15 hl (k := 0) rfl (by rw [ey_8]; rfl) (by decide) rfl (fun ls hl => ?_)
        refine lv_goto (tgt := 2) hx hb dX10_lays_18 (by decide) ?_
        exact ih2 y_8 n_4 m_5 o_6 (by first | omega | assumption | decide) (fun c h1 h2 => (u_7.2 c h1 h2).trans (v2_1 c h1 h2)) (fun _ => ly_step u_7.1 v2_2 (by omega) (fun h9 => by rw [vy_3, wy_3, h9])) (by first | omega | assumption | decide) (by omega) _ _ ls hP hD hS (lv_sub hl [0, 1, 2] rfl)
  have lit_8 : (0 : Int32).toInt = 0 := by decide
  exact loop2 _ 0 fN fM fO (by first | omega | assumption | decide) (fun _ _ _ => rfl) (fun h9 => by omega) (by first | omega | assumption | decide) (Nat.lt_succ_self _) _ _ ls hP hD hS (lv_sub hl [0, 1, 2] rfl)
theorem dX10_hasAll_0 : decode cX10_hasAll 0 = .ok (.iconst 1, 1) := by decide +kernel
theorem dX10_hasAll_1 : decode cX10_hasAll 1 = .ok (.istore_n 2, 1) := by decide +kernel
theorem dX10_hasAll_2 : decode cX10_hasAll 2 = .ok (.iconst 1, 1) := by decide +kernel
theorem dX10_hasAll_3 : decode cX10_hasAll 3 = .ok (.istore_n 3, 1) := by decide +kernel
theorem dX10_hasAll_4 : decode cX10_hasAll 4 = .ok (.iload_n 3, 1) := by decide +kernel
theorem dX10_hasAll_5 : decode cX10_hasAll 5 = .ok (.aload_n 1, 1) := by decide +kernel
theorem dX10_hasAll_6 : decode cX10_hasAll 6 = .ok (.iconst 0, 1) := by decide +kernel
theorem dX10_hasAll_7 : decode cX10_hasAll 7 = .ok (.iaload, 1) := by decide +kernel
theorem dX10_hasAll_8 : decode cX10_hasAll 8 = .ok (.if_icmp .gt 49, 3) := by decide +kernel
theorem dX10_hasAll_11 : decode cX10_hasAll 11 = .ok (.iload_n 2, 1) := by decide +kernel
theorem dX10_hasAll_12 : decode cX10_hasAll 12 = .ok (.aload_n 0, 1) := by decide +kernel
theorem dX10_hasAll_13 : decode cX10_hasAll 13 = .ok (.iconst 0, 1) := by decide +kernel
theorem dX10_hasAll_14 : decode cX10_hasAll 14 = .ok (.iaload, 1) := by decide +kernel
theorem dX10_hasAll_15 : decode cX10_hasAll 15 = .ok (.if_icmp .gt 18, 3) := by decide +kernel
theorem dX10_hasAll_18 : decode cX10_hasAll 18 = .ok (.aload_n 0, 1) := by decide +kernel
theorem dX10_hasAll_19 : decode cX10_hasAll 19 = .ok (.iload_n 2, 1) := by decide +kernel
theorem dX10_hasAll_20 : decode cX10_hasAll 20 = .ok (.iaload, 1) := by decide +kernel
theorem dX10_hasAll_21 : decode cX10_hasAll 21 = .ok (.aload_n 1, 1) := by decide +kernel
theorem dX10_hasAll_22 : decode cX10_hasAll 22 = .ok (.iload_n 3, 1) := by decide +kernel
theorem dX10_hasAll_23 : decode cX10_hasAll 23 = .ok (.iaload, 1) := by decide +kernel
theorem dX10_hasAll_24 : decode cX10_hasAll 24 = .ok (.if_icmp .ge 9, 3) := by decide +kernel
theorem dX10_hasAll_27 : decode cX10_hasAll 27 = .ok (.iinc 2 1, 3) := by decide +kernel
theorem dX10_hasAll_30 : decode cX10_hasAll 30 = .ok (.goto (-19), 3) := by decide +kernel
theorem dX10_hasAll_33 : decode cX10_hasAll 33 = .ok (.iload_n 2, 1) := by decide +kernel
theorem dX10_hasAll_34 : decode cX10_hasAll 34 = .ok (.aload_n 0, 1) := by decide +kernel
theorem dX10_hasAll_35 : decode cX10_hasAll 35 = .ok (.iconst 0, 1) := by decide +kernel
theorem dX10_hasAll_36 : decode cX10_hasAll 36 = .ok (.iaload, 1) := by decide +kernel
theorem dX10_hasAll_37 : decode cX10_hasAll 37 = .ok (.if_icmp .gt 12, 3) := by decide +kernel
theorem dX10_hasAll_40 : decode cX10_hasAll 40 = .ok (.aload_n 0, 1) := by decide +kernel
theorem dX10_hasAll_41 : decode cX10_hasAll 41 = .ok (.iload_n 2, 1) := by decide +kernel
theorem dX10_hasAll_42 : decode cX10_hasAll 42 = .ok (.iaload, 1) := by decide +kernel
theorem dX10_hasAll_43 : decode cX10_hasAll 43 = .ok (.aload_n 1, 1) := by decide +kernel
theorem dX10_hasAll_44 : decode cX10_hasAll 44 = .ok (.iload_n 3, 1) := by decide +kernel
theorem dX10_hasAll_45 : decode cX10_hasAll 45 = .ok (.iaload, 1) := by decide +kernel
theorem dX10_hasAll_46 : decode cX10_hasAll 46 = .ok (.if_icmp .eq 5, 3) := by decide +kernel
theorem dX10_hasAll_49 : decode cX10_hasAll 49 = .ok (.iconst 0, 1) := by decide +kernel
theorem dX10_hasAll_50 : decode cX10_hasAll 50 = .ok (.ireturn, 1) := by decide +kernel
theorem dX10_hasAll_51 : decode cX10_hasAll 51 = .ok (.iinc 3 1, 3) := by decide +kernel
theorem dX10_hasAll_54 : decode cX10_hasAll 54 = .ok (.goto (-50), 3) := by decide +kernel
theorem dX10_hasAll_57 : decode cX10_hasAll 57 = .ok (.iconst 1, 1) := by decide +kernel
theorem dX10_hasAll_58 : decode cX10_hasAll 58 = .ok (.ireturn, 1) := by decide +kernel
def mwX10_hasAllm : List Cond := .code yX10_hasAll cX10_hasAll 4 (some .boolean) :: ([])
set_option maxHeartbeats 4000000 in
set_option maxRecDepth 100000 in
theorem m_hasAll (l : Launch) (dC : Nat → ClassId) (dI : Nat → Nat → Nat) (ad : Nat → Nat) (kc : Nat → ClassId) (x0 x1 x2 x3 x4 x5 x6 x7 x8 x9 x10 x11 x12 x13 x14 x15 x16 x17 x18 x19 x20 x21 : Int32) (f0 f1 f2 f3 f4 f5 f6 f7 f8 f9 f10 f11 f12 f13 f14 f15 f16 f17 f18 f19 f20 f21 : Nat → Int32) (fL : Nat → Nat → Int64) (fN : Nat → Nat → Int32) (fP : Nat → Nat → Nat) (fM : Nat → Nat → Int32) (fO : Nat → Nat → Int32) (sz : Nat) (a1 a2 : Nat) (q0 : IR a1) (q1 : IR a2) (q2 : 0 ≤ vI ((rO fN fM fO) a1) 0 ∧ vI ((rO fN fM fO) a1) 0 ≤ 168) (q3 : 0 ≤ vI ((rO fN fM fO) a2) 0 ∧ vI ((rO fN fM fO) a2) 0 ≤ 168) : Met l yX10_hasAll mwX10_hasAllm ({ frames := 0, cells := 0, slots := 0, locals := 0 }) (va_Pc [.ref (ad a1), .ref (ad a2)] (fun U => U.heap.size = sz ∧ va_P (dC, dI) vwCl (mW ad kc x0 x1 x2 x3 x4 x5 x6 x7 x8 x9 x10 x11 x12 x13 x14 x15 x16 x17 x18 x19 x20 x21 f0 f1 f2 f3 f4 f5 f6 f7 f8 f9 f10 f11 f12 f13 f14 f15 f16 f17 f18 f19 f20 f21 fL fN fP fM fO) U.heap ∧ va_K (dC, dI) vwCl (mT kc) U ∧ va_D (fun _ => True) (mW ad kc x0 x1 x2 x3 x4 x5 x6 x7 x8 x9 x10 x11 x12 x13 x14 x15 x16 x17 x18 x19 x20 x21 f0 f1 f2 f3 f4 f5 f6 f7 f8 f9 f10 f11 f12 f13 f14 f15 f16 f17 f18 f19 f20 f21 fL fN fP fM fO))) (va_Qi (fun (o9 u9 : Int32) => o9 = u9) (fun (o9 : Int32) t => (o9.toInt = 0 ∨ o9.toInt = 1) ∧ va_P (dC, dI) vwCl (mW ad kc x0 x1 x2 x3 x4 x5 x6 x7 x8 x9 x10 x11 x12 x13 x14 x15 x16 x17 x18 x19 x20 x21 f0 f1 f2 f3 f4 f5 f6 f7 f8 f9 f10 f11 f12 f13 f14 f15 f16 f17 f18 f19 f20 f21 fL fN fP fM fO) t.heap ∧ va_K (dC, dI) vwCl (mT kc) t ∧ va_D (va_A (mW ad kc x0 x1 x2 x3 x4 x5 x6 x7 x8 x9 x10 x11 x12 x13 x14 x15 x16 x17 x18 x19 x20 x21 f0 f1 f2 f3 f4 f5 f6 f7 f8 f9 f10 f11 f12 f13 f14 f15 f16 f17 f18 f19 f20 f21 fL fN fP fM fO) sz) (mW ad kc x0 x1 x2 x3 x4 x5 x6 x7 x8 x9 x10 x11 x12 x13 x14 x15 x16 x17 x18 x19 x20 x21 f0 f1 f2 f3 f4 f5 f6 f7 f8 f9 f10 f11 f12 f13 f14 f15 f16 f17 f18 f19 f20 f21 fL fN fP fM fO)) (va_A (mW ad kc x0 x1 x2 x3 x4 x5 x6 x7 x8 x9 x10 x11 x12 x13 x14 x15 x16 x17 x18 x19 x20 x21 f0 f1 f2 f3 f4 f5 f6 f7 f8 f9 f10 f11 f12 f13 f14 f15 f16 f17 f18 f19 f20 f21 fL fN fP fM fO) sz)) 0 0 (va_A (mW ad kc x0 x1 x2 x3 x4 x5 x6 x7 x8 x9 x10 x11 x12 x13 x14 x15 x16 x17 x18 x19 x20 x21 f0 f1 f2 f3 f4 f5 f6 f7 f8 f9 f10 f11 f12 f13 f14 f15 f16 f17 f18 f19 f20 f21 fL fN fP fM fO) sz) := by
  refine Met.ofW (cc := cX10_hasAll) (maxL := 4) (ret := (some .boolean)) (by decide +kernel) rfl ?_
  intro p e s m args below meth c s₁ B hml hv
  obtain ⟨rfl, hsz, hP, hK, hD0⟩ := hv
  have hx := B.exec
  have hb := B.bytes
  have hr := B.returns
  have hts := atoms_spec (ws := mwX10_hasAllm) B.pre
  have hown : s.vm.findClass RX10 = some m.cls := findClass_of_methodNamed B.named
  have hlocks := B.notSynchronized
  subst hsz
  have hD := hD0.self (sz := s.heap.size)
  generalize hAe : va_A (mW ad kc x0 x1 x2 x3 x4 x5 x6 x7 x8 x9 x10 x11 x12 x13 x14 x15 x16 x17 x18 x19 x20 x21 f0 f1 f2 f3 f4 f5 f6 f7 f8 f9 f10 f11 f12 f13 f14 f15 f16 f17 f18 f19 f20 f21 fL fN fP fM fO) s.heap.size = A at hD ⊢
  have hA : ∀ q : Nat, s.heap.size ≤ q → A q := fun q h => by rw [← hAe]; exact Or.inr h
  have hP : va_P (dC, dI) vwCl (mW ad kc x0 x1 x2 x3 x4 x5 x6 x7 x8 x9 x10 x11 x12 x13 x14 x15 x16 x17 x18 x19 x20 x21 f0 f1 f2 f3 f4 f5 f6 f7 f8 f9 f10 f11 f12 f13 f14 f15 f16 f17 f18 f19 f20 f21 fL fN fP fM fO) s.heap := hP
  have hD : va_D A (mW ad kc x0 x1 x2 x3 x4 x5 x6 x7 x8 x9 x10 x11 x12 x13 x14 x15 x16 x17 x18 x19 x20 x21 f0 f1 f2 f3 f4 f5 f6 f7 f8 f9 f10 f11 f12 f13 f14 f15 f16 f17 f18 f19 f20 f21 fL fN fP fM fO) := hD
  have hK : va_K (dC, dI) vwCl (mT kc) s := hK
  generalize hH : s.heap = H at hP ⊢
  have hS : va_S A s.heap H [] := by rw [← hH]; exact va_S.rf
  have hl := lv_entry ([.ref (ad a1), .ref (ad a2)]) (n := 4) (Nat.le_of_ble_eq_true rfl)
  rw [lg_entry_eq]
  generalize (lg_sl ([.ref (ad a1), .ref (ad a2)]) ++ List.replicate (4 - (lg_sl ([.ref (ad a1), .ref (ad a2)])).length) Slot.unset).toArray = ls at hl ⊢
  have hl : lv_has ls 4 [(0, .ref (ad a1)), (1, .ref (ad a2))] := hl
  refine lv_iconst (v := 1) hx hb dX10_hasAll_0 (by decide) ?_
  refine lv_istore_n (lv' := [(2, .int 1), (0, .ref (ad a1)), (1, .ref (ad a2))]) hx hb dX10_hasAll_1 rfl hl (by decide) rfl (fun ls hl => ?_)
  refine lv_iconst (v := 1) hx hb dX10_hasAll_2 (by decide) ?_
  refine lv_istore_n (lv' := [(3, .int 1), (2, .int 1), (0, .ref (ad a1)), (1, .ref (ad a2))]) hx hb dX10_hasAll_3 rfl hl (by decide) rfl (fun ls hl => ?_)
  have loop4 : ∀ (lm4 : Nat) (kk ii : Int32), (1 ≤ kk.toInt) → (kk.toInt ≤ vI ((rO fN fM fO) a1) 0 + 1) → (1 ≤ ii.toInt) → (ii.toInt ≤ vI ((rO fN fM fO) a2) 0 + 1) → ((vI ((rO fN fM fO) a2) 0 + 1 - ii.toInt).toNat) < lm4 → ∀ (H : Heap) (locs : List Loc) (ls : Array Slot), va_P (dC, dI) vwCl (mW ad kc x0 x1 x2 x3 x4 x5 x6 x7 x8 x9 x10 x11 x12 x13 x14 x15 x16 x17 x18 x19 x20 x21 f0 f1 f2 f3 f4 f5 f6 f7 f8 f9 f10 f11 f12 f13 f14 f15 f16 f17 f18 f19 f20 f21 fL fN fP fM fO) H → va_D A (mW ad kc x0 x1 x2 x3 x4 x5 x6 x7 x8 x9 x10 x11 x12 x13 x14 x15 x16 x17 x18 x19 x20 x21 f0 f1 f2 f3 f4 f5 f6 f7 f8 f9 f10 f11 f12 f13 f14 f15 f16 f17 f18 f19 f20 f21 fL fN fP fM fO) → va_S A s.heap H locs → lv_has ls 4 [(3, .int ii), (2, .int kk), (0, .ref (ad a1)), (1, .ref (ad a2))] → W p l e (headSpec mwX10_hasAllm ({ frames := 0, cells := 0, slots := 0, locals := 0 })).room s m ([.ref (ad a1), .ref (ad a2)]).toArray below meth c H locs 0 0 (MQ below (va_Qi (fun (o9 u9 : Int32) => o9 = u9) (fun (o9 : Int32) t => (o9.toInt = 0 ∨ o9.toInt = 1) ∧ va_P (dC, dI) vwCl (mW ad kc x0 x1 x2 x3 x4 x5 x6 x7 x8 x9 x10 x11 x12 x13 x14 x15 x16 x17 x18 x19 x20 x21 f0 f1 f2 f3 f4 f5 f6 f7 f8 f9 f10 f11 f12 f13 f14 f15 f16 f17 f18 f19 f20 f21 fL fN fP fM fO) t.heap ∧ va_K (dC, dI) vwCl (mT kc) t ∧ va_D A (mW ad kc x0 x1 x2 x3 x4 x5 x6 x7 x8 x9 x10 x11 x12 x13 x14 x15 x16 x17 x18 x19 x20 x21 f0 f1 f2 f3 f4 f5 f6 f7 f8 f9 f10 f11 f12 f13 f14 f15 f16 f17 f18 f19 f20 f21 fL fN fP fM fO)) A) ([.ref (ad a1), .ref (ad a2)]).toArray s 0 0 A) (F0 m 4 ls []) := by
    intro lm4
    induction lm4 with
    | zero => intro kk ii v4_0 v4_1 v4_2 v4_3 hm4; exact absurd hm4 (Nat.not_lt_zero _)
    | succ lm4 ih4 =>
      intro kk ii v4_0 v4_1 v4_2 v4_3 hm4 H locs ls hP hD hS hl
      have rg_kk := i_rng kk
      have rg_ii := i_rng ii
      refine lv_iload_n hx hb dX10_hasAll_4 rfl (lv_at hl 0 rfl) ?_
      refine lv_aload_n hx hb dX10_hasAll_5 rfl (lv_at hl 3 rfl) ?_
      refine lv_iconst (v := 0) hx hb dX10_hasAll_6 (by decide) ?_
      refine va_iald hx hb hK hP (rPos (a2)) (rTy (a2)) (mW_R (by first | assumption | (unfold IR; omega))) (mT_R _) (i := 0) (by unfold vp_in; decide +kernel) dX10_hasAll_7 ?_
      refine lv_topi (fun y_1 ey_1 => ?_)
      have rg_y_1 := i_rng y_1
      have vy_1 := vI_lda (f := (rO fN fM fO) a2) (i := 0) (a := 0) ey_1 (by first | omega | decide)
      refine lv_icmp_gt (tgt := 57) hx hb dX10_hasAll_8 (by decide) (fun k_2 => ?_) (fun k_2 => ?_)
      · have tk_2 := c_gt (a := ii.toInt) (b := y_1.toInt) rfl rfl k_2
        refine lv_iconst (v := 1) hx hb dX10_hasAll_57 (by decide) ?_
        have lit_2 : (1 : Int32).toInt = 1 := by decide
        exact W.zret hx hb hr (z_nar (by first | assumption | decide | exact z_of (by omega))) (fun t ht hW => ⟨⟨_, _, rfl, rfl, (by first | omega | assumption | rfl | decide), by rw [ht]; exact hP, va_K.moved hW.alike hK, hD⟩, hS.F ht⟩) hS.2.2 dX10_hasAll_58
      · have tk_2 := c_ngt (a := ii.toInt) (b := y_1.toInt) rfl rfl k_2
        have loop11 : ∀ (lm11 : Nat) (ku : Int32), (1 ≤ ku.toInt) → (ku.toInt ≤ vI ((rO fN fM fO) a1) 0 + 1) → ((vI ((rO fN fM fO) a1) 0 + 1 - ku.toInt).toNat) < lm11 → ∀ (H : Heap) (locs : List Loc) (ls : Array Slot), va_P (dC, dI) vwCl (mW ad kc x0 x1 x2 x3 x4 x5 x6 x7 x8 x9 x10 x11 x12 x13 x14 x15 x16 x17 x18 x19 x20 x21 f0 f1 f2 f3 f4 f5 f6 f7 f8 f9 f10 f11 f12 f13 f14 f15 f16 f17 f18 f19 f20 f21 fL fN fP fM fO) H → va_D A (mW ad kc x0 x1 x2 x3 x4 x5 x6 x7 x8 x9 x10 x11 x12 x13 x14 x15 x16 x17 x18 x19 x20 x21 f0 f1 f2 f3 f4 f5 f6 f7 f8 f9 f10 f11 f12 f13 f14 f15 f16 f17 f18 f19 f20 f21 fL fN fP fM fO) → va_S A s.heap H locs → lv_has ls 4 [(3, .int ii), (2, .int ku), (0, .ref (ad a1)), (1, .ref (ad a2))] → W p l e (headSpec mwX10_hasAllm ({ frames := 0, cells := 0, slots := 0, locals := 0 })).room s m ([.ref (ad a1), .ref (ad a2)]).toArray below meth c H locs 0 0 (MQ below (va_Qi (fun (o9 u9 : Int32) => o9 = u9) (fun (o9 : Int32) t => (o9.toInt = 0 ∨ o9.toInt = 1) ∧ va_P (dC, dI) vwCl (mW ad kc x0 x1 x2 x3 x4 x5 x6 x7 x8 x9 x10 x11 x12 x13 x14 x15 x16 x17 x18 x19 x20 x21 f0 f1 f2 f3 f4 f5 f6 f7 f8 f9 f10 f11 f12 f13 f14 f15 f16 f17 f18 f19 f20 f21 fL fN fP fM fO) t.heap ∧ va_K (dC, dI) vwCl (mT kc) t ∧ va_D A (mW ad kc x0 x1 x2 x3 x4 x5 x6 x7 x8 x9 x10 x11 x12 x13 x14 x15 x16 x17 x18 x19 x20 x21 f0 f1 f2 f3 f4 f5 f6 f7 f8 f9 f10 f11 f12 f13 f14 f15 f16 f17 f18 f19 f20 f21 fL fN fP fM fO)) A) ([.ref (ad a1), .ref (ad a2)]).toArray s 0 0 A) (F0 m 11 ls []) := by
          intro lm11
          induction lm11 with
          | zero => intro ku v11_0 v11_1 hm11; exact absurd hm11 (Nat.not_lt_zero _)
          | succ lm11 ih11 =>
            intro ku v11_0 v11_1 hm11 H locs ls hP hD hS hl
            have rg_ku := i_rng ku
            refine lv_iload_n hx hb dX10_hasAll_11 rfl (lv_at hl 1 rfl) ?_
            refine lv_aload_n hx hb dX10_hasAll_12 rfl (lv_at hl 2 rfl) ?_
            refine lv_iconst (v := 0) hx hb dX10_hasAll_13 (by decide) ?_
            refine va_iald hx hb hK hP (rPos (a1)) (rTy (a1)) (mW_R (by first | assumption | (unfold IR; omega))) (mT_R _) (i := 0) (by unfold vp_in; decide +kernel) dX10_hasAll_14 ?_
            refine lv_topi (fun y_4 ey_4 => ?_)
            have rg_y_4 := i_rng y_4
            have vy_4 := vI_lda (f := (rO fN fM fO) a1) (i := 0) (a := 0) ey_4 (by first | omega | decide)
            refine lv_icmp_gt (tgt := 33) hx hb dX10_hasAll_15 (by decide) (fun k_5 => ?_) (fun k_5 => ?_)
            · have tk_5 := c_gt (a := ku.toInt) (b := y_4.toInt) rfl rfl k_5
              refine lv_iload_n hx hb dX10_hasAll_33 rfl (lv_at hl 1 rfl) ?_
              refine lv_aload_n hx hb dX10_hasAll_34 rfl (lv_at hl 2 rfl) ?_
              refine lv_iconst (v := 0) hx hb dX10_hasAll_35 (by decide) ?_
              refine va_iald hx hb hK hP (rPos (a1)) (rTy (a1)) (mW_R (by first | assumption | (unfold IR; omega))) (mT_R _) (i := 0) (by unfold vp_in; decide +kernel) dX10_hasAll_36 ?_
              refine lv_topi (fun y_6 ey_6 => ?_)
              have rg_y_6 := i_rng y_6
              have vy_6 := vI_lda (f := (rO fN fM fO) a1) (i := 0) (a := 0) ey_6 (by first | omega | decide)
              refine lv_icmp_gt (tgt := 49) hx hb dX10_hasAll_37 (by decide) (fun k_7 => ?_) (fun k_7 => ?_)
              · have tk_7 := c_gt (a := ku.toInt) (b := y_6.toInt) rfl rfl k_7
                refine lv_iconst (v := 0) hx hb dX10_hasAll_49 (by decide) ?_
                have lit_7 : (0 : Int32).toInt = 0 := by decide
                exact W.zret hx hb hr (z_nar (by first | assumption | decide | exact z_of (by omega))) (fun t ht hW => ⟨⟨_, _, rfl, rfl, (by first | omega | assumption | rfl | decide), by rw [ht]; exact hP, va_K.moved hW.alike hK, hD⟩, hS.F ht⟩) hS.2.2 dX10_hasAll_50
              · have tk_7 := c_ngt (a := ku.toInt) (b := y_6.toInt) rfl rfl k_7
                refine lv_aload_n hx hb dX10_hasAll_40 rfl (lv_at hl 2 rfl) ?_
                refine lv_iload_n hx hb dX10_hasAll_41 rfl (lv_at hl 1 rfl) ?_
                refine va_iald hx hb hK hP (rPos (a1)) (rTy (a1)) (mW_R (by first | assumption | (unfold IR; omega))) (mT_R _) (i := ku) (vp_of (a := ku.toInt) rfl (by omega) (by omega)) dX10_hasAll_42 ?_
                refine lv_topi (fun y_9 ey_9 => ?_)
                have rg_y_9 := i_rng y_9
                have vy_9 := vI_lda (f := (rO fN fM fO) a1) (i := ku) (a := ku.toInt) ey_9 (by first | omega | decide)
                refine lv_aload_n hx hb dX10_hasAll_43 rfl (lv_at hl 3 rfl) ?_
                refine lv_iload_n hx hb dX10_hasAll_44 rfl (lv_at hl 0 rfl) ?_
                refine va_iald hx hb hK hP (rPos (a2)) (rTy (a2)) (mW_R (by first | assumption | (unfold IR; omega))) (mT_R _) (i := ii) (vp_of (a := ii.toInt) rfl (by omega) (by omega)) dX10_hasAll_45 ?_
                refine lv_topi (fun y_10 ey_10 => ?_)
                have rg_y_10 := i_rng y_10
                have vy_10 := vI_lda (f := (rO fN fM fO) a2) (i := ii) (a := ii.toInt) ey_10 (by first | omega | decide)
                refine lv_icmp_eq (tgt := 51) hx hb dX10_hasAll_46 (by decide) (fun k_11 => ?_) (fun k_11 => ?_)
                · have tk_11 := c_eq (a := y_9.toInt) (b := y_10.toInt) rfl rfl k_11
                  obtain ⟨y_12, ey_12⟩ : ∃ y : Int32, y = ii + 1 := ⟨_, rfl⟩
                  first | have ty_12 := i_add (a := ii.toInt) (b := 1) rfl (by decide) ey_12 (by omega) (by omega) | skip
                  refine lv_iinc (v := y_12) (lv' := [(3, .int y_12), (2, .int ku), (0, .ref (ad a1)), (1, .ref (ad a2))]) hx hb dX10_hasAll_51 hl (k := 0) rfl (by rw [ey_12]; rfl) (by decide) rfl (fun ls hl => ?_)
                  refine lv_goto (tgt := 4) hx hb dX10_hasAll_54 (by decide) ?_
                  exact ih4 ku y_12 (by first | omega | assumption | decide) (by first | omega | assumption | decide) (by first | omega | assumption | decide) (by first | omega | assumption | decide) (by omega) _ _ ls hP hD hS (lv_sub hl [0, 1, 2, 3] rfl)
                · have tk_11 := c_ne (a := y_9.toInt) (b := y_10.toInt) rfl rfl k_11
                  refine lv_iconst (v := 0) hx hb dX10_hasAll_49 (by decide) ?_
                  have lit_12 : (0 : Int32).toInt = 0 := by decide
                  exact W.zret hx hb hr (z_nar (by first | assumption | decide | exact z_of (by omega))) (fun t ht hW => ⟨⟨_, _, rfl, rfl, (by first | omega | assumption | rfl | decide), by rw [ht]; exact hP, va_K.moved hW.alike hK, hD⟩, hS.F ht⟩) hS.2.2 dX10_hasAll_50
            · have tk_5 := c_ngt (a := ku.toInt) (b := y_4.toInt) rfl rfl k_5
              refine lv_aload_n hx hb dX10_hasAll_18 rfl (lv_at hl 2 rfl) ?_
              refine lv_iload_n hx hb dX10_hasAll_19 rfl (lv_at hl 1 rfl) ?_
              refine va_iald hx hb hK hP (rPos (a1)) (rTy (a1)) (mW_R (by first | assumption | (unfold IR; omega))) (mT_R _) (i := ku) (vp_of (a := ku.toInt) rfl (by omega) (by omega)) dX10_hasAll_20 ?_
              refine lv_topi (fun y_14 ey_14 => ?_)
              have rg_y_14 := i_rng y_14
              have vy_14 := vI_lda (f := (rO fN fM fO) a1) (i := ku) (a := ku.toInt) ey_14 (by first | omega | decide)
              refine lv_aload_n hx hb dX10_hasAll_21 rfl (lv_at hl 3 rfl) ?_
              refine lv_iload_n hx hb dX10_hasAll_22 rfl (lv_at hl 0 rfl) ?_
              refine va_iald hx hb hK hP (rPos (a2)) (rTy (a2)) (mW_R (by first | assumption | (unfold IR; omega))) (mT_R _) (i := ii) (vp_of (a := ii.toInt) rfl (by omega) (by omega)) dX10_hasAll_23 ?_
              refine lv_topi (fun y_15 ey_15 => ?_)
              have rg_y_15 := i_rng y_15
              have vy_15 := vI_lda (f := (rO fN fM fO) a2) (i := ii) (a := ii.toInt) ey_15 (by first | omega | decide)
              refine lv_icmp_ge (tgt := 33) hx hb dX10_hasAll_24 (by decide) (fun k_16 => ?_) (fun k_16 => ?_)
              · have tk_16 := c_ge (a := y_14.toInt) (b := y_15.toInt) rfl rfl k_16
                refine lv_iload_n hx hb dX10_hasAll_33 rfl (lv_at hl 1 rfl) ?_
                refine lv_aload_n hx hb dX10_hasAll_34 rfl (lv_at hl 2 rfl) ?_
                refine lv_iconst (v := 0) hx hb dX10_hasAll_35 (by decide) ?_
                refine va_iald hx hb hK hP (rPos (a1)) (rTy (a1)) (mW_R (by first | assumption | (unfold IR; omega))) (mT_R _) (i := 0) (by unfold vp_in; decide +kernel) dX10_hasAll_36 ?_
                refine lv_topi (fun y_17 ey_17 => ?_)
                have rg_y_17 := i_rng y_17
                have vy_17 := vI_lda (f := (rO fN fM fO) a1) (i := 0) (a := 0) ey_17 (by first | omega | decide)
                refine lv_icmp_gt (tgt := 49) hx hb dX10_hasAll_37 (by decide) (fun k_18 => ?_) (fun k_18 => ?_)
                · have tk_18 := c_gt (a := ku.toInt) (b := y_17.toInt) rfl rfl k_18
                  refine lv_iconst (v := 0) hx hb dX10_hasAll_49 (by decide) ?_
                  have lit_18 : (0 : Int32).toInt = 0 := by decide
                  exact W.zret hx hb hr (z_nar (by first | assumption | decide | exact z_of (by omega))) (fun t ht hW => ⟨⟨_, _, rfl, rfl, (by first | omega | assumption | rfl | decide), by rw [ht]; exact hP, va_K.moved hW.alike hK, hD⟩, hS.F ht⟩) hS.2.2 dX10_hasAll_50
                · have tk_18 := c_ngt (a := ku.toInt) (b := y_17.toInt) rfl rfl k_18
                  refine lv_aload_n hx hb dX10_hasAll_40 rfl (lv_at hl 2 rfl) ?_
                  refine lv_iload_n hx hb dX10_hasAll_41 rfl (lv_at hl 1 rfl) ?_
                  refine va_iald hx hb hK hP (rPos (a1)) (rTy (a1)) (mW_R (by first | assumption | (unfold IR; omega))) (mT_R _) (i := ku) (vp_of (a := ku.toInt) rfl (by omega) (by omega)) dX10_hasAll_42 ?_
                  refine lv_topi (fun y_20 ey_20 => ?_)
                  have rg_y_20 := i_rng y_20
                  have vy_20 := vI_lda (f := (rO fN fM fO) a1) (i := ku) (a := ku.toInt) ey_20 (by first | omega | decide)
                  refine lv_aload_n hx hb dX10_hasAll_43 rfl (lv_at hl 3 rfl) ?_
                  refine lv_iload_n hx hb dX10_hasAll_44 rfl (lv_at hl 0 rfl) ?_
                  refine va_iald hx hb hK hP (rPos (a2)) (rTy (a2)) (mW_R (by first | assumption | (unfold IR; omega))) (mT_R _) (i := ii) (vp_of (a := ii.toInt) rfl (by omega) (by omega)) dX10_hasAll_45 ?_
                  refine lv_topi (fun y_21 ey_21 => ?_)
                  have rg_y_21 := i_rng y_21
                  have vy_21 := vI_lda (f := (rO fN fM fO) a2) (i := ii) (a := ii.toInt) ey_21 (by first | omega | decide)
                  refine lv_icmp_eq (tgt := 51) hx hb dX10_hasAll_46 (by decide) (fun k_22 => ?_) (fun k_22 => ?_)
                  · have tk_22 := c_eq (a := y_20.toInt) (b := y_21.toInt) rfl rfl k_22
                    obtain ⟨y_23, ey_23⟩ : ∃ y : Int32, y = ii + 1 := ⟨_, rfl⟩
                    first | have ty_23 := i_add (a := ii.toInt) (b := 1) rfl (by decide) ey_23 (by omega) (by omega) | skip
                    refine lv_iinc (v := y_23) (lv' := [(3, .int y_23), (2, .int ku), (0, .ref (ad a1)), (1, .ref (ad a2))]) hx hb dX10_hasAll_51 hl (k := 0) rfl (by rw [ey_23]; rfl) (by decide) rfl (fun ls hl => ?_)
                    refine lv_goto (tgt := 4) hx hb dX10_hasAll_54 (by decide) ?_
                    exact ih4 ku y_23 (by first | omega | assumption | decide) (by first | omega | assumption | decide) (by first | omega | assumption | decide) (by first | omega | assumption | decide) (by omega) _ _ ls hP hD hS (lv_sub hl [0, 1, 2, 3] rfl)
                  · have tk_22 := c_ne (a := y_20.toInt) (b := y_21.toInt) rfl rfl k_22
                    refine lv_iconst (v := 0) hx hb dX10_hasAll_49 (by decide) ?_
                    have lit_23 : (0 : Int32).toInt = 0 := by decide
                    exact W.zret hx hb hr (z_nar (by first | assumption | decide | exact z_of (by omega))) (fun t ht hW => ⟨⟨_, _, rfl, rfl, (by first | omega | assumption | rfl | decide), by rw [ht]; exact hP, va_K.moved hW.alike hK, hD⟩, hS.F ht⟩) hS.2.2 dX10_hasAll_50
              · have tk_16 := c_nge (a := y_14.toInt) (b := y_15.toInt) rfl rfl k_16
                obtain ⟨y_25, ey_25⟩ : ∃ y : Int32, y = ku + 1 := ⟨_, rfl⟩
                first | have ty_25 := i_add (a := ku.toInt) (b := 1) rfl (by decide) ey_25 (by omega) (by omega) | skip
                refine lv_iinc (v := y_25) (lv' := [(2, .int y_25), (3, .int ii), (0, .ref (ad a1)), (1, .ref (ad a2))]) hx hb dX10_hasAll_27 hl (k := 1) rfl (by rw [ey_25]; rfl) (by decide) rfl (fun ls hl => ?_)
                refine lv_goto (tgt := 11) hx hb dX10_hasAll_30 (by decide) ?_
                exact ih11 y_25 (by first | omega | assumption | decide) (by first | omega | assumption | decide) (by omega) _ _ ls hP hD hS (lv_sub hl [1, 0, 2, 3] rfl)
        exact loop11 _ kk (by first | omega | assumption | decide) (by first | omega | assumption | decide) (Nat.lt_succ_self _) _ _ ls hP hD hS (lv_sub hl [0, 1, 2, 3] rfl)
  have lit_25 : (1 : Int32).toInt = 1 := by decide
  have lit_26 : (1 : Int32).toInt = 1 := by decide
  exact loop4 _ 1 1 (by first | omega | assumption | decide) (by first | omega | assumption | decide) (by first | omega | assumption | decide) (by first | omega | assumption | decide) (Nat.lt_succ_self _) _ _ ls hP hD hS (lv_sub hl [0, 1, 2, 3] rfl)
theorem dX10_isAhead_0 : decode cX10_isAhead 0 = .ok (.iconst 1, 1) := by decide +kernel
theorem dX10_isAhead_1 : decode cX10_isAhead 1 = .ok (.istore_n 2, 1) := by decide +kernel
theorem dX10_isAhead_2 : decode cX10_isAhead 2 = .ok (.iload_n 2, 1) := by decide +kernel
theorem dX10_isAhead_3 : decode cX10_isAhead 3 = .ok (.aload_n 0, 1) := by decide +kernel
theorem dX10_isAhead_4 : decode cX10_isAhead 4 = .ok (.iconst 0, 1) := by decide +kernel
theorem dX10_isAhead_5 : decode cX10_isAhead 5 = .ok (.iaload, 1) := by decide +kernel
theorem dX10_isAhead_6 : decode cX10_isAhead 6 = .ok (.if_icmp .gt 25, 3) := by decide +kernel
theorem dX10_isAhead_9 : decode cX10_isAhead 9 = .ok (.iload_n 2, 1) := by decide +kernel
theorem dX10_isAhead_10 : decode cX10_isAhead 10 = .ok (.aload_n 1, 1) := by decide +kernel
theorem dX10_isAhead_11 : decode cX10_isAhead 11 = .ok (.iconst 0, 1) := by decide +kernel
theorem dX10_isAhead_12 : decode cX10_isAhead 12 = .ok (.iaload, 1) := by decide +kernel
theorem dX10_isAhead_13 : decode cX10_isAhead 13 = .ok (.if_icmp .gt 18, 3) := by decide +kernel
theorem dX10_isAhead_16 : decode cX10_isAhead 16 = .ok (.aload_n 0, 1) := by decide +kernel
theorem dX10_isAhead_17 : decode cX10_isAhead 17 = .ok (.iload_n 2, 1) := by decide +kernel
theorem dX10_isAhead_18 : decode cX10_isAhead 18 = .ok (.iaload, 1) := by decide +kernel
theorem dX10_isAhead_19 : decode cX10_isAhead 19 = .ok (.aload_n 1, 1) := by decide +kernel
theorem dX10_isAhead_20 : decode cX10_isAhead 20 = .ok (.iload_n 2, 1) := by decide +kernel
theorem dX10_isAhead_21 : decode cX10_isAhead 21 = .ok (.iaload, 1) := by decide +kernel
theorem dX10_isAhead_22 : decode cX10_isAhead 22 = .ok (.if_icmp .ne 9, 3) := by decide +kernel
theorem dX10_isAhead_25 : decode cX10_isAhead 25 = .ok (.iinc 2 1, 3) := by decide +kernel
theorem dX10_isAhead_28 : decode cX10_isAhead 28 = .ok (.goto (-26), 3) := by decide +kernel
theorem dX10_isAhead_31 : decode cX10_isAhead 31 = .ok (.iload_n 2, 1) := by decide +kernel
theorem dX10_isAhead_32 : decode cX10_isAhead 32 = .ok (.aload_n 0, 1) := by decide +kernel
theorem dX10_isAhead_33 : decode cX10_isAhead 33 = .ok (.iconst 0, 1) := by decide +kernel
theorem dX10_isAhead_34 : decode cX10_isAhead 34 = .ok (.iaload, 1) := by decide +kernel
theorem dX10_isAhead_35 : decode cX10_isAhead 35 = .ok (.if_icmp .le 18, 3) := by decide +kernel
theorem dX10_isAhead_38 : decode cX10_isAhead 38 = .ok (.iload_n 2, 1) := by decide +kernel
theorem dX10_isAhead_39 : decode cX10_isAhead 39 = .ok (.aload_n 1, 1) := by decide +kernel
theorem dX10_isAhead_40 : decode cX10_isAhead 40 = .ok (.iconst 0, 1) := by decide +kernel
theorem dX10_isAhead_41 : decode cX10_isAhead 41 = .ok (.iaload, 1) := by decide +kernel
theorem dX10_isAhead_42 : decode cX10_isAhead 42 = .ok (.if_icmp .gt 7, 3) := by decide +kernel
theorem dX10_isAhead_45 : decode cX10_isAhead 45 = .ok (.iconst 1, 1) := by decide +kernel
theorem dX10_isAhead_46 : decode cX10_isAhead 46 = .ok (.goto 28, 3) := by decide +kernel
theorem dX10_isAhead_49 : decode cX10_isAhead 49 = .ok (.iconst 0, 1) := by decide +kernel
theorem dX10_isAhead_50 : decode cX10_isAhead 50 = .ok (.goto 24, 3) := by decide +kernel
theorem dX10_isAhead_53 : decode cX10_isAhead 53 = .ok (.iload_n 2, 1) := by decide +kernel
theorem dX10_isAhead_54 : decode cX10_isAhead 54 = .ok (.aload_n 1, 1) := by decide +kernel
theorem dX10_isAhead_55 : decode cX10_isAhead 55 = .ok (.iconst 0, 1) := by decide +kernel
theorem dX10_isAhead_56 : decode cX10_isAhead 56 = .ok (.iaload, 1) := by decide +kernel
theorem dX10_isAhead_57 : decode cX10_isAhead 57 = .ok (.if_icmp .gt 16, 3) := by decide +kernel
theorem dX10_isAhead_60 : decode cX10_isAhead 60 = .ok (.aload_n 0, 1) := by decide +kernel
theorem dX10_isAhead_61 : decode cX10_isAhead 61 = .ok (.iload_n 2, 1) := by decide +kernel
theorem dX10_isAhead_62 : decode cX10_isAhead 62 = .ok (.iaload, 1) := by decide +kernel
theorem dX10_isAhead_63 : decode cX10_isAhead 63 = .ok (.aload_n 1, 1) := by decide +kernel
theorem dX10_isAhead_64 : decode cX10_isAhead 64 = .ok (.iload_n 2, 1) := by decide +kernel
theorem dX10_isAhead_65 : decode cX10_isAhead 65 = .ok (.iaload, 1) := by decide +kernel
theorem dX10_isAhead_66 : decode cX10_isAhead 66 = .ok (.if_icmp .ge 7, 3) := by decide +kernel
theorem dX10_isAhead_69 : decode cX10_isAhead 69 = .ok (.iconst 1, 1) := by decide +kernel
theorem dX10_isAhead_70 : decode cX10_isAhead 70 = .ok (.goto 4, 3) := by decide +kernel
theorem dX10_isAhead_73 : decode cX10_isAhead 73 = .ok (.iconst 0, 1) := by decide +kernel
theorem dX10_isAhead_74 : decode cX10_isAhead 74 = .ok (.ireturn, 1) := by decide +kernel
def mwX10_isAheadm : List Cond := .code yX10_isAhead cX10_isAhead 3 (some .boolean) :: ([])
set_option maxHeartbeats 4000000 in
set_option maxRecDepth 100000 in
theorem m_isAhead (l : Launch) (dC : Nat → ClassId) (dI : Nat → Nat → Nat) (ad : Nat → Nat) (kc : Nat → ClassId) (x0 x1 x2 x3 x4 x5 x6 x7 x8 x9 x10 x11 x12 x13 x14 x15 x16 x17 x18 x19 x20 x21 : Int32) (f0 f1 f2 f3 f4 f5 f6 f7 f8 f9 f10 f11 f12 f13 f14 f15 f16 f17 f18 f19 f20 f21 : Nat → Int32) (fL : Nat → Nat → Int64) (fN : Nat → Nat → Int32) (fP : Nat → Nat → Nat) (fM : Nat → Nat → Int32) (fO : Nat → Nat → Int32) (sz : Nat) (a1 a2 : Nat) (q0 : IR a1) (q1 : IR a2) (q2 : 0 ≤ vI ((rO fN fM fO) a1) 0 ∧ vI ((rO fN fM fO) a1) 0 ≤ 168) (q3 : 0 ≤ vI ((rO fN fM fO) a2) 0 ∧ vI ((rO fN fM fO) a2) 0 ≤ 168) : Met l yX10_isAhead mwX10_isAheadm ({ frames := 0, cells := 0, slots := 0, locals := 0 }) (va_Pc [.ref (ad a1), .ref (ad a2)] (fun U => U.heap.size = sz ∧ va_P (dC, dI) vwCl (mW ad kc x0 x1 x2 x3 x4 x5 x6 x7 x8 x9 x10 x11 x12 x13 x14 x15 x16 x17 x18 x19 x20 x21 f0 f1 f2 f3 f4 f5 f6 f7 f8 f9 f10 f11 f12 f13 f14 f15 f16 f17 f18 f19 f20 f21 fL fN fP fM fO) U.heap ∧ va_K (dC, dI) vwCl (mT kc) U ∧ va_D (fun _ => True) (mW ad kc x0 x1 x2 x3 x4 x5 x6 x7 x8 x9 x10 x11 x12 x13 x14 x15 x16 x17 x18 x19 x20 x21 f0 f1 f2 f3 f4 f5 f6 f7 f8 f9 f10 f11 f12 f13 f14 f15 f16 f17 f18 f19 f20 f21 fL fN fP fM fO))) (va_Qi (fun (o9 u9 : Int32) => o9 = u9) (fun (o9 : Int32) t => (o9.toInt = 0 ∨ o9.toInt = 1) ∧ va_P (dC, dI) vwCl (mW ad kc x0 x1 x2 x3 x4 x5 x6 x7 x8 x9 x10 x11 x12 x13 x14 x15 x16 x17 x18 x19 x20 x21 f0 f1 f2 f3 f4 f5 f6 f7 f8 f9 f10 f11 f12 f13 f14 f15 f16 f17 f18 f19 f20 f21 fL fN fP fM fO) t.heap ∧ va_K (dC, dI) vwCl (mT kc) t ∧ va_D (va_A (mW ad kc x0 x1 x2 x3 x4 x5 x6 x7 x8 x9 x10 x11 x12 x13 x14 x15 x16 x17 x18 x19 x20 x21 f0 f1 f2 f3 f4 f5 f6 f7 f8 f9 f10 f11 f12 f13 f14 f15 f16 f17 f18 f19 f20 f21 fL fN fP fM fO) sz) (mW ad kc x0 x1 x2 x3 x4 x5 x6 x7 x8 x9 x10 x11 x12 x13 x14 x15 x16 x17 x18 x19 x20 x21 f0 f1 f2 f3 f4 f5 f6 f7 f8 f9 f10 f11 f12 f13 f14 f15 f16 f17 f18 f19 f20 f21 fL fN fP fM fO)) (va_A (mW ad kc x0 x1 x2 x3 x4 x5 x6 x7 x8 x9 x10 x11 x12 x13 x14 x15 x16 x17 x18 x19 x20 x21 f0 f1 f2 f3 f4 f5 f6 f7 f8 f9 f10 f11 f12 f13 f14 f15 f16 f17 f18 f19 f20 f21 fL fN fP fM fO) sz)) 0 0 (va_A (mW ad kc x0 x1 x2 x3 x4 x5 x6 x7 x8 x9 x10 x11 x12 x13 x14 x15 x16 x17 x18 x19 x20 x21 f0 f1 f2 f3 f4 f5 f6 f7 f8 f9 f10 f11 f12 f13 f14 f15 f16 f17 f18 f19 f20 f21 fL fN fP fM fO) sz) := by
  refine Met.ofW (cc := cX10_isAhead) (maxL := 3) (ret := (some .boolean)) (by decide +kernel) rfl ?_
  intro p e s m args below meth c s₁ B hml hv
  obtain ⟨rfl, hsz, hP, hK, hD0⟩ := hv
  have hx := B.exec
  have hb := B.bytes
  have hr := B.returns
  have hts := atoms_spec (ws := mwX10_isAheadm) B.pre
  have hown : s.vm.findClass RX10 = some m.cls := findClass_of_methodNamed B.named
  have hlocks := B.notSynchronized
  subst hsz
  have hD := hD0.self (sz := s.heap.size)
  generalize hAe : va_A (mW ad kc x0 x1 x2 x3 x4 x5 x6 x7 x8 x9 x10 x11 x12 x13 x14 x15 x16 x17 x18 x19 x20 x21 f0 f1 f2 f3 f4 f5 f6 f7 f8 f9 f10 f11 f12 f13 f14 f15 f16 f17 f18 f19 f20 f21 fL fN fP fM fO) s.heap.size = A at hD ⊢
  have hA : ∀ q : Nat, s.heap.size ≤ q → A q := fun q h => by rw [← hAe]; exact Or.inr h
  have hP : va_P (dC, dI) vwCl (mW ad kc x0 x1 x2 x3 x4 x5 x6 x7 x8 x9 x10 x11 x12 x13 x14 x15 x16 x17 x18 x19 x20 x21 f0 f1 f2 f3 f4 f5 f6 f7 f8 f9 f10 f11 f12 f13 f14 f15 f16 f17 f18 f19 f20 f21 fL fN fP fM fO) s.heap := hP
  have hD : va_D A (mW ad kc x0 x1 x2 x3 x4 x5 x6 x7 x8 x9 x10 x11 x12 x13 x14 x15 x16 x17 x18 x19 x20 x21 f0 f1 f2 f3 f4 f5 f6 f7 f8 f9 f10 f11 f12 f13 f14 f15 f16 f17 f18 f19 f20 f21 fL fN fP fM fO) := hD
  have hK : va_K (dC, dI) vwCl (mT kc) s := hK
  generalize hH : s.heap = H at hP ⊢
  have hS : va_S A s.heap H [] := by rw [← hH]; exact va_S.rf
  have hl := lv_entry ([.ref (ad a1), .ref (ad a2)]) (n := 3) (Nat.le_of_ble_eq_true rfl)
  rw [lg_entry_eq]
  generalize (lg_sl ([.ref (ad a1), .ref (ad a2)]) ++ List.replicate (3 - (lg_sl ([.ref (ad a1), .ref (ad a2)])).length) Slot.unset).toArray = ls at hl ⊢
  have hl : lv_has ls 3 [(0, .ref (ad a1)), (1, .ref (ad a2))] := hl
  refine lv_iconst (v := 1) hx hb dX10_isAhead_0 (by decide) ?_
  refine lv_istore_n (lv' := [(2, .int 1), (0, .ref (ad a1)), (1, .ref (ad a2))]) hx hb dX10_isAhead_1 rfl hl (by decide) rfl (fun ls hl => ?_)
  have loop2 : ∀ (lm2 : Nat) (kk : Int32), (1 ≤ kk.toInt) → (kk.toInt ≤ vI ((rO fN fM fO) a1) 0 + 1) → (kk.toInt ≤ vI ((rO fN fM fO) a2) 0 + 1) → ((vI ((rO fN fM fO) a2) 0 + 1 - kk.toInt).toNat) < lm2 → ∀ (H : Heap) (locs : List Loc) (ls : Array Slot), va_P (dC, dI) vwCl (mW ad kc x0 x1 x2 x3 x4 x5 x6 x7 x8 x9 x10 x11 x12 x13 x14 x15 x16 x17 x18 x19 x20 x21 f0 f1 f2 f3 f4 f5 f6 f7 f8 f9 f10 f11 f12 f13 f14 f15 f16 f17 f18 f19 f20 f21 fL fN fP fM fO) H → va_D A (mW ad kc x0 x1 x2 x3 x4 x5 x6 x7 x8 x9 x10 x11 x12 x13 x14 x15 x16 x17 x18 x19 x20 x21 f0 f1 f2 f3 f4 f5 f6 f7 f8 f9 f10 f11 f12 f13 f14 f15 f16 f17 f18 f19 f20 f21 fL fN fP fM fO) → va_S A s.heap H locs → lv_has ls 3 [(2, .int kk), (0, .ref (ad a1)), (1, .ref (ad a2))] → W p l e (headSpec mwX10_isAheadm ({ frames := 0, cells := 0, slots := 0, locals := 0 })).room s m ([.ref (ad a1), .ref (ad a2)]).toArray below meth c H locs 0 0 (MQ below (va_Qi (fun (o9 u9 : Int32) => o9 = u9) (fun (o9 : Int32) t => (o9.toInt = 0 ∨ o9.toInt = 1) ∧ va_P (dC, dI) vwCl (mW ad kc x0 x1 x2 x3 x4 x5 x6 x7 x8 x9 x10 x11 x12 x13 x14 x15 x16 x17 x18 x19 x20 x21 f0 f1 f2 f3 f4 f5 f6 f7 f8 f9 f10 f11 f12 f13 f14 f15 f16 f17 f18 f19 f20 f21 fL fN fP fM fO) t.heap ∧ va_K (dC, dI) vwCl (mT kc) t ∧ va_D A (mW ad kc x0 x1 x2 x3 x4 x5 x6 x7 x8 x9 x10 x11 x12 x13 x14 x15 x16 x17 x18 x19 x20 x21 f0 f1 f2 f3 f4 f5 f6 f7 f8 f9 f10 f11 f12 f13 f14 f15 f16 f17 f18 f19 f20 f21 fL fN fP fM fO)) A) ([.ref (ad a1), .ref (ad a2)]).toArray s 0 0 A) (F0 m 2 ls []) := by
    intro lm2
    induction lm2 with
    | zero => intro kk v2_0 v2_1 v2_2 hm2; exact absurd hm2 (Nat.not_lt_zero _)
    | succ lm2 ih2 =>
      intro kk v2_0 v2_1 v2_2 hm2 H locs ls hP hD hS hl
      have rg_kk := i_rng kk
      refine lv_iload_n hx hb dX10_isAhead_2 rfl (lv_at hl 0 rfl) ?_
      refine lv_aload_n hx hb dX10_isAhead_3 rfl (lv_at hl 1 rfl) ?_
      refine lv_iconst (v := 0) hx hb dX10_isAhead_4 (by decide) ?_
      refine va_iald hx hb hK hP (rPos (a1)) (rTy (a1)) (mW_R (by first | assumption | (unfold IR; omega))) (mT_R _) (i := 0) (by unfold vp_in; decide +kernel) dX10_isAhead_5 ?_
      refine lv_topi (fun y_1 ey_1 => ?_)
      have rg_y_1 := i_rng y_1
      have vy_1 := vI_lda (f := (rO fN fM fO) a1) (i := 0) (a := 0) ey_1 (by first | omega | decide)
      refine lv_icmp_gt (tgt := 31) hx hb dX10_isAhead_6 (by decide) (fun k_2 => ?_) (fun k_2 => ?_)
      · have tk_2 := c_gt (a := kk.toInt) (b := y_1.toInt) rfl rfl k_2
        refine lv_iload_n hx hb dX10_isAhead_31 rfl (lv_at hl 0 rfl) ?_
        refine lv_aload_n hx hb dX10_isAhead_32 rfl (lv_at hl 1 rfl) ?_
        refine lv_iconst (v := 0) hx hb dX10_isAhead_33 (by decide) ?_
        refine va_iald hx hb hK hP (rPos (a1)) (rTy (a1)) (mW_R (by first | assumption | (unfold IR; omega))) (mT_R _) (i := 0) (by unfold vp_in; decide +kernel) dX10_isAhead_34 ?_
        refine lv_topi (fun y_3 ey_3 => ?_)
        have rg_y_3 := i_rng y_3
        have vy_3 := vI_lda (f := (rO fN fM fO) a1) (i := 0) (a := 0) ey_3 (by first | omega | decide)
        refine lv_icmp_le (tgt := 53) hx hb dX10_isAhead_35 (by decide) (fun k_4 => ?_) (fun k_4 => ?_)
        · have tk_4 := c_le (a := kk.toInt) (b := y_3.toInt) rfl rfl k_4
          refine lv_iload_n hx hb dX10_isAhead_53 rfl (lv_at hl 0 rfl) ?_
          refine lv_aload_n hx hb dX10_isAhead_54 rfl (lv_at hl 2 rfl) ?_
          refine lv_iconst (v := 0) hx hb dX10_isAhead_55 (by decide) ?_
          refine va_iald hx hb hK hP (rPos (a2)) (rTy (a2)) (mW_R (by first | assumption | (unfold IR; omega))) (mT_R _) (i := 0) (by unfold vp_in; decide +kernel) dX10_isAhead_56 ?_
          refine lv_topi (fun y_5 ey_5 => ?_)
          have rg_y_5 := i_rng y_5
          have vy_5 := vI_lda (f := (rO fN fM fO) a2) (i := 0) (a := 0) ey_5 (by first | omega | decide)
          refine lv_icmp_gt (tgt := 73) hx hb dX10_isAhead_57 (by decide) (fun k_6 => ?_) (fun k_6 => ?_)
          · have tk_6 := c_gt (a := kk.toInt) (b := y_5.toInt) rfl rfl k_6
            refine lv_iconst (v := 0) hx hb dX10_isAhead_73 (by decide) ?_
            have lit_6 : (0 : Int32).toInt = 0 := by decide
            exact W.zret hx hb hr (z_nar (by first | assumption | decide | exact z_of (by omega))) (fun t ht hW => ⟨⟨_, _, rfl, rfl, (by first | omega | assumption | rfl | decide), by rw [ht]; exact hP, va_K.moved hW.alike hK, hD⟩, hS.F ht⟩) hS.2.2 dX10_isAhead_74
          · have tk_6 := c_ngt (a := kk.toInt) (b := y_5.toInt) rfl rfl k_6
            refine lv_aload_n hx hb dX10_isAhead_60 rfl (lv_at hl 1 rfl) ?_
            refine lv_iload_n hx hb dX10_isAhead_61 rfl (lv_at hl 0 rfl) ?_
            refine va_iald hx hb hK hP (rPos (a1)) (rTy (a1)) (mW_R (by first | assumption | (unfold IR; omega))) (mT_R _) (i := kk) (vp_of (a := kk.toInt) rfl (by omega) (by omega)) dX10_isAhead_62 ?_
            refine lv_topi (fun y_8 ey_8 => ?_)
            have rg_y_8 := i_rng y_8
            have vy_8 := vI_lda (f := (rO fN fM fO) a1) (i := kk) (a := kk.toInt) ey_8 (by first | omega | decide)
            refine lv_aload_n hx hb dX10_isAhead_63 rfl (lv_at hl 2 rfl) ?_
            refine lv_iload_n hx hb dX10_isAhead_64 rfl (lv_at hl 0 rfl) ?_
            refine va_iald hx hb hK hP (rPos (a2)) (rTy (a2)) (mW_R (by first | assumption | (unfold IR; omega))) (mT_R _) (i := kk) (vp_of (a := kk.toInt) rfl (by omega) (by omega)) dX10_isAhead_65 ?_
            refine lv_topi (fun y_9 ey_9 => ?_)
            have rg_y_9 := i_rng y_9
            have vy_9 := vI_lda (f := (rO fN fM fO) a2) (i := kk) (a := kk.toInt) ey_9 (by first | omega | decide)
            refine lv_icmp_ge (tgt := 73) hx hb dX10_isAhead_66 (by decide) (fun k_10 => ?_) (fun k_10 => ?_)
            · have tk_10 := c_ge (a := y_8.toInt) (b := y_9.toInt) rfl rfl k_10
              refine lv_iconst (v := 0) hx hb dX10_isAhead_73 (by decide) ?_
              have lit_10 : (0 : Int32).toInt = 0 := by decide
              exact W.zret hx hb hr (z_nar (by first | assumption | decide | exact z_of (by omega))) (fun t ht hW => ⟨⟨_, _, rfl, rfl, (by first | omega | assumption | rfl | decide), by rw [ht]; exact hP, va_K.moved hW.alike hK, hD⟩, hS.F ht⟩) hS.2.2 dX10_isAhead_74
            · have tk_10 := c_nge (a := y_8.toInt) (b := y_9.toInt) rfl rfl k_10
              refine lv_iconst (v := 1) hx hb dX10_isAhead_69 (by decide) ?_
              refine lv_goto (tgt := 74) hx hb dX10_isAhead_70 (by decide) ?_
              have lit_11 : (1 : Int32).toInt = 1 := by decide
              exact W.zret hx hb hr (z_nar (by first | assumption | decide | exact z_of (by omega))) (fun t ht hW => ⟨⟨_, _, rfl, rfl, (by first | omega | assumption | rfl | decide), by rw [ht]; exact hP, va_K.moved hW.alike hK, hD⟩, hS.F ht⟩) hS.2.2 dX10_isAhead_74
        · have tk_4 := c_nle (a := kk.toInt) (b := y_3.toInt) rfl rfl k_4
          refine lv_iload_n hx hb dX10_isAhead_38 rfl (lv_at hl 0 rfl) ?_
          refine lv_aload_n hx hb dX10_isAhead_39 rfl (lv_at hl 2 rfl) ?_
          refine lv_iconst (v := 0) hx hb dX10_isAhead_40 (by decide) ?_
          refine va_iald hx hb hK hP (rPos (a2)) (rTy (a2)) (mW_R (by first | assumption | (unfold IR; omega))) (mT_R _) (i := 0) (by unfold vp_in; decide +kernel) dX10_isAhead_41 ?_
          refine lv_topi (fun y_13 ey_13 => ?_)
          have rg_y_13 := i_rng y_13
          have vy_13 := vI_lda (f := (rO fN fM fO) a2) (i := 0) (a := 0) ey_13 (by first | omega | decide)
          refine lv_icmp_gt (tgt := 49) hx hb dX10_isAhead_42 (by decide) (fun k_14 => ?_) (fun k_14 => ?_)
          · have tk_14 := c_gt (a := kk.toInt) (b := y_13.toInt) rfl rfl k_14
            refine lv_iconst (v := 0) hx hb dX10_isAhead_49 (by decide) ?_
            refine lv_goto (tgt := 74) hx hb dX10_isAhead_50 (by decide) ?_
            have lit_14 : (0 : Int32).toInt = 0 := by decide
            exact W.zret hx hb hr (z_nar (by first | assumption | decide | exact z_of (by omega))) (fun t ht hW => ⟨⟨_, _, rfl, rfl, (by first | omega | assumption | rfl | decide), by rw [ht]; exact hP, va_K.moved hW.alike hK, hD⟩, hS.F ht⟩) hS.2.2 dX10_isAhead_74
          · have tk_14 := c_ngt (a := kk.toInt) (b := y_13.toInt) rfl rfl k_14
            refine lv_iconst (v := 1) hx hb dX10_isAhead_45 (by decide) ?_
            refine lv_goto (tgt := 74) hx hb dX10_isAhead_46 (by decide) ?_
            have lit_15 : (1 : Int32).toInt = 1 := by decide
            exact W.zret hx hb hr (z_nar (by first | assumption | decide | exact z_of (by omega))) (fun t ht hW => ⟨⟨_, _, rfl, rfl, (by first | omega | assumption | rfl | decide), by rw [ht]; exact hP, va_K.moved hW.alike hK, hD⟩, hS.F ht⟩) hS.2.2 dX10_isAhead_74
      · have tk_2 := c_ngt (a := kk.toInt) (b := y_1.toInt) rfl rfl k_2
        refine lv_iload_n hx hb dX10_isAhead_9 rfl (lv_at hl 0 rfl) ?_
        refine lv_aload_n hx hb dX10_isAhead_10 rfl (lv_at hl 2 rfl) ?_
        refine lv_iconst (v := 0) hx hb dX10_isAhead_11 (by decide) ?_
        refine va_iald hx hb hK hP (rPos (a2)) (rTy (a2)) (mW_R (by first | assumption | (unfold IR; omega))) (mT_R _) (i := 0) (by unfold vp_in; decide +kernel) dX10_isAhead_12 ?_
        refine lv_topi (fun y_17 ey_17 => ?_)
        have rg_y_17 := i_rng y_17
        have vy_17 := vI_lda (f := (rO fN fM fO) a2) (i := 0) (a := 0) ey_17 (by first | omega | decide)
        refine lv_icmp_gt (tgt := 31) hx hb dX10_isAhead_13 (by decide) (fun k_18 => ?_) (fun k_18 => ?_)
        · have tk_18 := c_gt (a := kk.toInt) (b := y_17.toInt) rfl rfl k_18
          refine lv_iload_n hx hb dX10_isAhead_31 rfl (lv_at hl 0 rfl) ?_
          refine lv_aload_n hx hb dX10_isAhead_32 rfl (lv_at hl 1 rfl) ?_
          refine lv_iconst (v := 0) hx hb dX10_isAhead_33 (by decide) ?_
          refine va_iald hx hb hK hP (rPos (a1)) (rTy (a1)) (mW_R (by first | assumption | (unfold IR; omega))) (mT_R _) (i := 0) (by unfold vp_in; decide +kernel) dX10_isAhead_34 ?_
          refine lv_topi (fun y_19 ey_19 => ?_)
          have rg_y_19 := i_rng y_19
          have vy_19 := vI_lda (f := (rO fN fM fO) a1) (i := 0) (a := 0) ey_19 (by first | omega | decide)
          refine lv_icmp_le (tgt := 53) hx hb dX10_isAhead_35 (by decide) (fun k_20 => ?_) (fun k_20 => ?_)
          · have tk_20 := c_le (a := kk.toInt) (b := y_19.toInt) rfl rfl k_20
            refine lv_iload_n hx hb dX10_isAhead_53 rfl (lv_at hl 0 rfl) ?_
            refine lv_aload_n hx hb dX10_isAhead_54 rfl (lv_at hl 2 rfl) ?_
            refine lv_iconst (v := 0) hx hb dX10_isAhead_55 (by decide) ?_
            refine va_iald hx hb hK hP (rPos (a2)) (rTy (a2)) (mW_R (by first | assumption | (unfold IR; omega))) (mT_R _) (i := 0) (by unfold vp_in; decide +kernel) dX10_isAhead_56 ?_
            refine lv_topi (fun y_21 ey_21 => ?_)
            have rg_y_21 := i_rng y_21
            have vy_21 := vI_lda (f := (rO fN fM fO) a2) (i := 0) (a := 0) ey_21 (by first | omega | decide)
            refine lv_icmp_gt (tgt := 73) hx hb dX10_isAhead_57 (by decide) (fun k_22 => ?_) (fun k_22 => ?_)
            · have tk_22 := c_gt (a := kk.toInt) (b := y_21.toInt) rfl rfl k_22
              refine lv_iconst (v := 0) hx hb dX10_isAhead_73 (by decide) ?_
              have lit_22 : (0 : Int32).toInt = 0 := by decide
              exact W.zret hx hb hr (z_nar (by first | assumption | decide | exact z_of (by omega))) (fun t ht hW => ⟨⟨_, _, rfl, rfl, (by first | omega | assumption | rfl | decide), by rw [ht]; exact hP, va_K.moved hW.alike hK, hD⟩, hS.F ht⟩) hS.2.2 dX10_isAhead_74
            · have tk_22 := c_ngt (a := kk.toInt) (b := y_21.toInt) rfl rfl k_22
              refine lv_aload_n hx hb dX10_isAhead_60 rfl (lv_at hl 1 rfl) ?_
              refine lv_iload_n hx hb dX10_isAhead_61 rfl (lv_at hl 0 rfl) ?_
              refine va_iald hx hb hK hP (rPos (a1)) (rTy (a1)) (mW_R (by first | assumption | (unfold IR; omega))) (mT_R _) (i := kk) (vp_of (a := kk.toInt) rfl (by omega) (by omega)) dX10_isAhead_62 ?_
              refine lv_topi (fun y_24 ey_24 => ?_)
              have rg_y_24 := i_rng y_24
              have vy_24 := vI_lda (f := (rO fN fM fO) a1) (i := kk) (a := kk.toInt) ey_24 (by first | omega | decide)
              refine lv_aload_n hx hb dX10_isAhead_63 rfl (lv_at hl 2 rfl) ?_
              refine lv_iload_n hx hb dX10_isAhead_64 rfl (lv_at hl 0 rfl) ?_
              refine va_iald hx hb hK hP (rPos (a2)) (rTy (a2)) (mW_R (by first | assumption | (unfold IR; omega))) (mT_R _) (i := kk) (vp_of (a := kk.toInt) rfl (by omega) (by omega)) dX10_isAhead_65 ?_
              refine lv_topi (fun y_25 ey_25 => ?_)
              have rg_y_25 := i_rng y_25
              have vy_25 := vI_lda (f := (rO fN fM fO) a2) (i := kk) (a := kk.toInt) ey_25 (by first | omega | decide)
              refine lv_icmp_ge (tgt := 73) hx hb dX10_isAhead_66 (by decide) (fun k_26 => ?_) (fun k_26 => ?_)
              · have tk_26 := c_ge (a := y_24.toInt) (b := y_25.toInt) rfl rfl k_26
                refine lv_iconst (v := 0) hx hb dX10_isAhead_73 (by decide) ?_
                have lit_26 : (0 : Int32).toInt = 0 := by decide
                exact W.zret hx hb hr (z_nar (by first | assumption | decide | exact z_of (by omega))) (fun t ht hW => ⟨⟨_, _, rfl, rfl, (by first | omega | assumption | rfl | decide), by rw [ht]; exact hP, va_K.moved hW.alike hK, hD⟩, hS.F ht⟩) hS.2.2 dX10_isAhead_74
              · have tk_26 := c_nge (a := y_24.toInt) (b := y_25.toInt) rfl rfl k_26
                refine lv_iconst (v := 1) hx hb dX10_isAhead_69 (by decide) ?_
                refine lv_goto (tgt := 74) hx hb dX10_isAhead_70 (by decide) ?_
                have lit_27 : (1 : Int32).toInt = 1 := by decide
                exact W.zret hx hb hr (z_nar (by first | assumption | decide | exact z_of (by omega))) (fun t ht hW => ⟨⟨_, _, rfl, rfl, (by first | omega | assumption | rfl | decide), by rw [ht]; exact hP, va_K.moved hW.alike hK, hD⟩, hS.F ht⟩) hS.2.2 dX10_isAhead_74
          · have tk_20 := c_nle (a := kk.toInt) (b := y_19.toInt) rfl rfl k_20
            refine lv_iload_n hx hb dX10_isAhead_38 rfl (lv_at hl 0 rfl) ?_
            refine lv_aload_n hx hb dX10_isAhead_39 rfl (lv_at hl 2 rfl) ?_
            refine lv_iconst (v := 0) hx hb dX10_isAhead_40 (by decide) ?_
            refine va_iald hx hb hK hP (rPos (a2)) (rTy (a2)) (mW_R (by first | assumption | (unfold IR; omega))) (mT_R _) (i := 0) (by unfold vp_in; decide +kernel) dX10_isAhead_41 ?_
            refine lv_topi (fun y_29 ey_29 => ?_)
            have rg_y_29 := i_rng y_29
            have vy_29 := vI_lda (f := (rO fN fM fO) a2) (i := 0) (a := 0) ey_29 (by first | omega | decide)
            refine lv_icmp_gt (tgt := 49) hx hb dX10_isAhead_42 (by decide) (fun k_30 => ?_) (fun k_30 => ?_)
            · have tk_30 := c_gt (a := kk.toInt) (b := y_29.toInt) rfl rfl k_30
              refine lv_iconst (v := 0) hx hb dX10_isAhead_49 (by decide) ?_
              refine lv_goto (tgt := 74) hx hb dX10_isAhead_50 (by decide) ?_
              have lit_30 : (0 : Int32).toInt = 0 := by decide
              exact W.zret hx hb hr (z_nar (by first | assumption | decide | exact z_of (by omega))) (fun t ht hW => ⟨⟨_, _, rfl, rfl, (by first | omega | assumption | rfl | decide), by rw [ht]; exact hP, va_K.moved hW.alike hK, hD⟩, hS.F ht⟩) hS.2.2 dX10_isAhead_74
            · have tk_30 := c_ngt (a := kk.toInt) (b := y_29.toInt) rfl rfl k_30
              refine lv_iconst (v := 1) hx hb dX10_isAhead_45 (by decide) ?_
              refine lv_goto (tgt := 74) hx hb dX10_isAhead_46 (by decide) ?_
              have lit_31 : (1 : Int32).toInt = 1 := by decide
              exact W.zret hx hb hr (z_nar (by first | assumption | decide | exact z_of (by omega))) (fun t ht hW => ⟨⟨_, _, rfl, rfl, (by first | omega | assumption | rfl | decide), by rw [ht]; exact hP, va_K.moved hW.alike hK, hD⟩, hS.F ht⟩) hS.2.2 dX10_isAhead_74
        · have tk_18 := c_ngt (a := kk.toInt) (b := y_17.toInt) rfl rfl k_18
          refine lv_aload_n hx hb dX10_isAhead_16 rfl (lv_at hl 1 rfl) ?_
          refine lv_iload_n hx hb dX10_isAhead_17 rfl (lv_at hl 0 rfl) ?_
          refine va_iald hx hb hK hP (rPos (a1)) (rTy (a1)) (mW_R (by first | assumption | (unfold IR; omega))) (mT_R _) (i := kk) (vp_of (a := kk.toInt) rfl (by omega) (by omega)) dX10_isAhead_18 ?_
          refine lv_topi (fun y_33 ey_33 => ?_)
          have rg_y_33 := i_rng y_33
          have vy_33 := vI_lda (f := (rO fN fM fO) a1) (i := kk) (a := kk.toInt) ey_33 (by first | omega | decide)
          refine lv_aload_n hx hb dX10_isAhead_19 rfl (lv_at hl 2 rfl) ?_
          refine lv_iload_n hx hb dX10_isAhead_20 rfl (lv_at hl 0 rfl) ?_
          refine va_iald hx hb hK hP (rPos (a2)) (rTy (a2)) (mW_R (by first | assumption | (unfold IR; omega))) (mT_R _) (i := kk) (vp_of (a := kk.toInt) rfl (by omega) (by omega)) dX10_isAhead_21 ?_
          refine lv_topi (fun y_34 ey_34 => ?_)
          have rg_y_34 := i_rng y_34
          have vy_34 := vI_lda (f := (rO fN fM fO) a2) (i := kk) (a := kk.toInt) ey_34 (by first | omega | decide)
          refine lv_icmp_ne (tgt := 31) hx hb dX10_isAhead_22 (by decide) (fun k_35 => ?_) (fun k_35 => ?_)
          · have tk_35 := c_ne (a := y_33.toInt) (b := y_34.toInt) rfl rfl k_35
            refine lv_iload_n hx hb dX10_isAhead_31 rfl (lv_at hl 0 rfl) ?_
            refine lv_aload_n hx hb dX10_isAhead_32 rfl (lv_at hl 1 rfl) ?_
            refine lv_iconst (v := 0) hx hb dX10_isAhead_33 (by decide) ?_
            refine va_iald hx hb hK hP (rPos (a1)) (rTy (a1)) (mW_R (by first | assumption | (unfold IR; omega))) (mT_R _) (i := 0) (by unfold vp_in; decide +kernel) dX10_isAhead_34 ?_
            refine lv_topi (fun y_36 ey_36 => ?_)
            have rg_y_36 := i_rng y_36
            have vy_36 := vI_lda (f := (rO fN fM fO) a1) (i := 0) (a := 0) ey_36 (by first | omega | decide)
            refine lv_icmp_le (tgt := 53) hx hb dX10_isAhead_35 (by decide) (fun k_37 => ?_) (fun k_37 => ?_)
            · have tk_37 := c_le (a := kk.toInt) (b := y_36.toInt) rfl rfl k_37
              refine lv_iload_n hx hb dX10_isAhead_53 rfl (lv_at hl 0 rfl) ?_
              refine lv_aload_n hx hb dX10_isAhead_54 rfl (lv_at hl 2 rfl) ?_
              refine lv_iconst (v := 0) hx hb dX10_isAhead_55 (by decide) ?_
              refine va_iald hx hb hK hP (rPos (a2)) (rTy (a2)) (mW_R (by first | assumption | (unfold IR; omega))) (mT_R _) (i := 0) (by unfold vp_in; decide +kernel) dX10_isAhead_56 ?_
              refine lv_topi (fun y_38 ey_38 => ?_)
              have rg_y_38 := i_rng y_38
              have vy_38 := vI_lda (f := (rO fN fM fO) a2) (i := 0) (a := 0) ey_38 (by first | omega | decide)
              refine lv_icmp_gt (tgt := 73) hx hb dX10_isAhead_57 (by decide) (fun k_39 => ?_) (fun k_39 => ?_)
              · have tk_39 := c_gt (a := kk.toInt) (b := y_38.toInt) rfl rfl k_39
                refine lv_iconst (v := 0) hx hb dX10_isAhead_73 (by decide) ?_
                have lit_39 : (0 : Int32).toInt = 0 := by decide
                exact W.zret hx hb hr (z_nar (by first | assumption | decide | exact z_of (by omega))) (fun t ht hW => ⟨⟨_, _, rfl, rfl, (by first | omega | assumption | rfl | decide), by rw [ht]; exact hP, va_K.moved hW.alike hK, hD⟩, hS.F ht⟩) hS.2.2 dX10_isAhead_74
              · have tk_39 := c_ngt (a := kk.toInt) (b := y_38.toInt) rfl rfl k_39
                refine lv_aload_n hx hb dX10_isAhead_60 rfl (lv_at hl 1 rfl) ?_
                refine lv_iload_n hx hb dX10_isAhead_61 rfl (lv_at hl 0 rfl) ?_
                refine va_iald hx hb hK hP (rPos (a1)) (rTy (a1)) (mW_R (by first | assumption | (unfold IR; omega))) (mT_R _) (i := kk) (vp_of (a := kk.toInt) rfl (by omega) (by omega)) dX10_isAhead_62 ?_
                refine lv_topi (fun y_41 ey_41 => ?_)
                have rg_y_41 := i_rng y_41
                have vy_41 := vI_lda (f := (rO fN fM fO) a1) (i := kk) (a := kk.toInt) ey_41 (by first | omega | decide)
                refine lv_aload_n hx hb dX10_isAhead_63 rfl (lv_at hl 2 rfl) ?_
                refine lv_iload_n hx hb dX10_isAhead_64 rfl (lv_at hl 0 rfl) ?_
                refine va_iald hx hb hK hP (rPos (a2)) (rTy (a2)) (mW_R (by first | assumption | (unfold IR; omega))) (mT_R _) (i := kk) (vp_of (a := kk.toInt) rfl (by omega) (by omega)) dX10_isAhead_65 ?_
                refine lv_topi (fun y_42 ey_42 => ?_)
                have rg_y_42 := i_rng y_42
                have vy_42 := vI_lda (f := (rO fN fM fO) a2) (i := kk) (a := kk.toInt) ey_42 (by first | omega | decide)
                refine lv_icmp_ge (tgt := 73) hx hb dX10_isAhead_66 (by decide) (fun k_43 => ?_) (fun k_43 => ?_)
                · have tk_43 := c_ge (a := y_41.toInt) (b := y_42.toInt) rfl rfl k_43
                  refine lv_iconst (v := 0) hx hb dX10_isAhead_73 (by decide) ?_
                  have lit_43 : (0 : Int32).toInt = 0 := by decide
                  exact W.zret hx hb hr (z_nar (by first | assumption | decide | exact z_of (by omega))) (fun t ht hW => ⟨⟨_, _, rfl, rfl, (by first | omega | assumption | rfl | decide), by rw [ht]; exact hP, va_K.moved hW.alike hK, hD⟩, hS.F ht⟩) hS.2.2 dX10_isAhead_74
                · have tk_43 := c_nge (a := y_41.toInt) (b := y_42.toInt) rfl rfl k_43
                  refine lv_iconst (v := 1) hx hb dX10_isAhead_69 (by decide) ?_
                  refine lv_goto (tgt := 74) hx hb dX10_isAhead_70 (by decide) ?_
                  have lit_44 : (1 : Int32).toInt = 1 := by decide
                  exact W.zret hx hb hr (z_nar (by first | assumption | decide | exact z_of (by omega))) (fun t ht hW => ⟨⟨_, _, rfl, rfl, (by first | omega | assumption | rfl | decide), by rw [ht]; exact hP, va_K.moved hW.alike hK, hD⟩, hS.F ht⟩) hS.2.2 dX10_isAhead_74
            · have tk_37 := c_nle (a := kk.toInt) (b := y_36.toInt) rfl rfl k_37
              refine lv_iload_n hx hb dX10_isAhead_38 rfl (lv_at hl 0 rfl) ?_
              refine lv_aload_n hx hb dX10_isAhead_39 rfl (lv_at hl 2 rfl) ?_
              refine lv_iconst (v := 0) hx hb dX10_isAhead_40 (by decide) ?_
              refine va_iald hx hb hK hP (rPos (a2)) (rTy (a2)) (mW_R (by first | assumption | (unfold IR; omega))) (mT_R _) (i := 0) (by unfold vp_in; decide +kernel) dX10_isAhead_41 ?_
              refine lv_topi (fun y_46 ey_46 => ?_)
              have rg_y_46 := i_rng y_46
              have vy_46 := vI_lda (f := (rO fN fM fO) a2) (i := 0) (a := 0) ey_46 (by first | omega | decide)
              refine lv_icmp_gt (tgt := 49) hx hb dX10_isAhead_42 (by decide) (fun k_47 => ?_) (fun k_47 => ?_)
              · have tk_47 := c_gt (a := kk.toInt) (b := y_46.toInt) rfl rfl k_47
                refine lv_iconst (v := 0) hx hb dX10_isAhead_49 (by decide) ?_
                refine lv_goto (tgt := 74) hx hb dX10_isAhead_50 (by decide) ?_
                have lit_47 : (0 : Int32).toInt = 0 := by decide
                exact W.zret hx hb hr (z_nar (by first | assumption | decide | exact z_of (by omega))) (fun t ht hW => ⟨⟨_, _, rfl, rfl, (by first | omega | assumption | rfl | decide), by rw [ht]; exact hP, va_K.moved hW.alike hK, hD⟩, hS.F ht⟩) hS.2.2 dX10_isAhead_74
              · have tk_47 := c_ngt (a := kk.toInt) (b := y_46.toInt) rfl rfl k_47
                refine lv_iconst (v := 1) hx hb dX10_isAhead_45 (by decide) ?_
                refine lv_goto (tgt := 74) hx hb dX10_isAhead_46 (by decide) ?_
                have lit_48 : (1 : Int32).toInt = 1 := by decide
                exact W.zret hx hb hr (z_nar (by first | assumption | decide | exact z_of (by omega))) (fun t ht hW => ⟨⟨_, _, rfl, rfl, (by first | omega | assumption | rfl | decide), by rw [ht]; exact hP, va_K.moved hW.alike hK, hD⟩, hS.F ht⟩) hS.2.2 dX10_isAhead_74
          · have tk_35 := c_eq (a := y_33.toInt) (b := y_34.toInt) rfl rfl k_35
            obtain ⟨y_50, ey_50⟩ : ∃ y : Int32, y = kk + 1 := ⟨_, rfl⟩
            first | have ty_50 := i_add (a := kk.toInt) (b := 1) rfl (by decide) ey_50 (by omega) (by omega) | skip
            refine lv_iinc (v := y_50) (lv' := [(2, .int y_50), (0, .ref (ad a1)), (1, .ref (ad a2))]) hx hb dX10_isAhead_25 hl (k := 0) rfl (by rw [ey_50]; rfl) (by decide) rfl (fun ls hl => ?_)
            refine lv_goto (tgt := 2) hx hb dX10_isAhead_28 (by decide) ?_
            exact ih2 y_50 (by first | omega | assumption | decide) (by first | omega | assumption | decide) (by first | omega | assumption | decide) (by omega) _ _ ls hP hD hS (lv_sub hl [0, 1, 2] rfl)
  have lit_50 : (1 : Int32).toInt = 1 := by decide
  exact loop2 _ 1 (by first | omega | assumption | decide) (by first | omega | assumption | decide) (by first | omega | assumption | decide) (Nat.lt_succ_self _) _ _ ls hP hD hS (lv_sub hl [0, 1, 2] rfl)
theorem dX10_isAhead__0 : decode cX10_isAhead_ 0 = .ok (.iconst 0, 1) := by decide +kernel
theorem dX10_isAhead__1 : decode cX10_isAhead_ 1 = .ok (.istore 4, 2) := by decide +kernel
theorem dX10_isAhead__3 : decode cX10_isAhead_ 3 = .ok (.iload 4, 2) := by decide +kernel
theorem dX10_isAhead__5 : decode cX10_isAhead_ 5 = .ok (.lload_n 0, 1) := by decide +kernel
theorem dX10_isAhead__6 : decode cX10_isAhead_ 6 = .ok (.invokestatic 256, 3) := by decide +kernel
theorem dX10_isAhead__9 : decode cX10_isAhead_ 9 = .ok (.if_icmp .ge 33, 3) := by decide +kernel
theorem dX10_isAhead__12 : decode cX10_isAhead_ 12 = .ok (.iload 4, 2) := by decide +kernel
theorem dX10_isAhead__14 : decode cX10_isAhead_ 14 = .ok (.lload_n 2, 1) := by decide +kernel
theorem dX10_isAhead__15 : decode cX10_isAhead_ 15 = .ok (.invokestatic 256, 3) := by decide +kernel
theorem dX10_isAhead__18 : decode cX10_isAhead_ 18 = .ok (.if_icmp .ge 24, 3) := by decide +kernel
theorem dX10_isAhead__21 : decode cX10_isAhead_ 21 = .ok (.lload_n 0, 1) := by decide +kernel
theorem dX10_isAhead__22 : decode cX10_isAhead_ 22 = .ok (.iload 4, 2) := by decide +kernel
theorem dX10_isAhead__24 : decode cX10_isAhead_ 24 = .ok (.invokestatic 260, 3) := by decide +kernel
theorem dX10_isAhead__27 : decode cX10_isAhead_ 27 = .ok (.lload_n 2, 1) := by decide +kernel
theorem dX10_isAhead__28 : decode cX10_isAhead_ 28 = .ok (.iload 4, 2) := by decide +kernel
theorem dX10_isAhead__30 : decode cX10_isAhead_ 30 = .ok (.invokestatic 260, 3) := by decide +kernel
theorem dX10_isAhead__33 : decode cX10_isAhead_ 33 = .ok (.if_icmp .ne 9, 3) := by decide +kernel
theorem dX10_isAhead__36 : decode cX10_isAhead_ 36 = .ok (.iinc 4 1, 3) := by decide +kernel
theorem dX10_isAhead__39 : decode cX10_isAhead_ 39 = .ok (.goto (-36), 3) := by decide +kernel
theorem dX10_isAhead__42 : decode cX10_isAhead_ 42 = .ok (.iload 4, 2) := by decide +kernel
theorem dX10_isAhead__44 : decode cX10_isAhead_ 44 = .ok (.lload_n 0, 1) := by decide +kernel
theorem dX10_isAhead__45 : decode cX10_isAhead_ 45 = .ok (.invokestatic 256, 3) := by decide +kernel
theorem dX10_isAhead__48 : decode cX10_isAhead_ 48 = .ok (.if_icmp .ne 20, 3) := by decide +kernel
theorem dX10_isAhead__51 : decode cX10_isAhead_ 51 = .ok (.iload 4, 2) := by decide +kernel
theorem dX10_isAhead__53 : decode cX10_isAhead_ 53 = .ok (.lload_n 2, 1) := by decide +kernel
theorem dX10_isAhead__54 : decode cX10_isAhead_ 54 = .ok (.invokestatic 256, 3) := by decide +kernel
theorem dX10_isAhead__57 : decode cX10_isAhead_ 57 = .ok (.if_icmp .ge 7, 3) := by decide +kernel
theorem dX10_isAhead__60 : decode cX10_isAhead_ 60 = .ok (.iconst 1, 1) := by decide +kernel
theorem dX10_isAhead__61 : decode cX10_isAhead_ 61 = .ok (.goto 36, 3) := by decide +kernel
theorem dX10_isAhead__64 : decode cX10_isAhead_ 64 = .ok (.iconst 0, 1) := by decide +kernel
theorem dX10_isAhead__65 : decode cX10_isAhead_ 65 = .ok (.goto 32, 3) := by decide +kernel
theorem dX10_isAhead__68 : decode cX10_isAhead_ 68 = .ok (.iload 4, 2) := by decide +kernel
theorem dX10_isAhead__70 : decode cX10_isAhead_ 70 = .ok (.lload_n 2, 1) := by decide +kernel
theorem dX10_isAhead__71 : decode cX10_isAhead_ 71 = .ok (.invokestatic 256, 3) := by decide +kernel
theorem dX10_isAhead__74 : decode cX10_isAhead_ 74 = .ok (.if_icmp .ge 22, 3) := by decide +kernel
theorem dX10_isAhead__77 : decode cX10_isAhead_ 77 = .ok (.lload_n 0, 1) := by decide +kernel
theorem dX10_isAhead__78 : decode cX10_isAhead_ 78 = .ok (.iload 4, 2) := by decide +kernel
theorem dX10_isAhead__80 : decode cX10_isAhead_ 80 = .ok (.invokestatic 260, 3) := by decide +kernel
theorem dX10_isAhead__83 : decode cX10_isAhead_ 83 = .ok (.lload_n 2, 1) := by decide +kernel
theorem dX10_isAhead__84 : decode cX10_isAhead_ 84 = .ok (.iload 4, 2) := by decide +kernel
theorem dX10_isAhead__86 : decode cX10_isAhead_ 86 = .ok (.invokestatic 260, 3) := by decide +kernel
theorem dX10_isAhead__89 : decode cX10_isAhead_ 89 = .ok (.if_icmp .ge 7, 3) := by decide +kernel
theorem dX10_isAhead__92 : decode cX10_isAhead_ 92 = .ok (.iconst 1, 1) := by decide +kernel
theorem dX10_isAhead__93 : decode cX10_isAhead_ 93 = .ok (.goto 4, 3) := by decide +kernel
theorem dX10_isAhead__96 : decode cX10_isAhead_ 96 = .ok (.iconst 0, 1) := by decide +kernel
theorem dX10_isAhead__97 : decode cX10_isAhead_ 97 = .ok (.ireturn, 1) := by decide +kernel
def mwX10_isAhead_m : List Cond := .code yX10_isAhead_ cX10_isAhead_ 5 (some .boolean) :: ([.code yX10_longOf cX10_longOf 2 (some .int), .methodLink RX10 256 yX10_longOf, .static yX10_longOf, .initialized RX10, .code yX10_letterIn cX10_letterIn 3 (some .int), .constantLong RX10 252 (31), .methodLink RX10 260 yX10_letterIn, .static yX10_letterIn])
set_option maxRecDepth 20000 in
theorem mg_X10_isAhead_m_X10_longOf_256 : GoodIn mwX10_isAhead_m (va_wsS RX10 256 yX10_longOf mwX10_longOfm) := goodIn_r _ [2, 3, 4, 1] (by decide +kernel) (by decide +kernel)
set_option maxRecDepth 20000 in
theorem mg_X10_isAhead_m_X10_letterIn_260 : GoodIn mwX10_isAhead_m (va_wsS RX10 260 yX10_letterIn mwX10_letterInm) := goodIn_r _ [7, 8, 4, 5, 6] (by decide +kernel) (by decide +kernel)
set_option maxHeartbeats 4000000 in
set_option maxRecDepth 100000 in
theorem m_isAheadL (l : Launch) (dC : Nat → ClassId) (dI : Nat → Nat → Nat) (ad : Nat → Nat) (kc : Nat → ClassId) (x0 x1 x2 x3 x4 x5 x6 x7 x8 x9 x10 x11 x12 x13 x14 x15 x16 x17 x18 x19 x20 x21 : Int32) (f0 f1 f2 f3 f4 f5 f6 f7 f8 f9 f10 f11 f12 f13 f14 f15 f16 f17 f18 f19 f20 f21 : Nat → Int32) (fL : Nat → Nat → Int64) (fN : Nat → Nat → Int32) (fP : Nat → Nat → Nat) (fM : Nat → Nat → Int32) (fO : Nat → Nat → Int32) (sz : Nat) (i1 i2 : Int64) (na : Nat) (nb : Nat) (q0 : rLen i1 na) (q1 : rLen i2 nb) (q2 : na ≤ 8) (q3 : nb ≤ 8) : Met l yX10_isAhead_ mwX10_isAhead_m ({ frames := 1, cells := 0, slots := 0, locals := 60 }) (va_Pc [.long i1, .long i2] (fun U => U.heap.size = sz ∧ va_P (dC, dI) vwCl (mW ad kc x0 x1 x2 x3 x4 x5 x6 x7 x8 x9 x10 x11 x12 x13 x14 x15 x16 x17 x18 x19 x20 x21 f0 f1 f2 f3 f4 f5 f6 f7 f8 f9 f10 f11 f12 f13 f14 f15 f16 f17 f18 f19 f20 f21 fL fN fP fM fO) U.heap ∧ va_K (dC, dI) vwCl (mT kc) U ∧ va_D (fun _ => True) (mW ad kc x0 x1 x2 x3 x4 x5 x6 x7 x8 x9 x10 x11 x12 x13 x14 x15 x16 x17 x18 x19 x20 x21 f0 f1 f2 f3 f4 f5 f6 f7 f8 f9 f10 f11 f12 f13 f14 f15 f16 f17 f18 f19 f20 f21 fL fN fP fM fO))) (va_Qi (fun (o9 u9 : Int32) => o9 = u9) (fun (o9 : Int32) t => (o9.toInt = 0 ∨ o9.toInt = 1) ∧ va_P (dC, dI) vwCl (mW ad kc x0 x1 x2 x3 x4 x5 x6 x7 x8 x9 x10 x11 x12 x13 x14 x15 x16 x17 x18 x19 x20 x21 f0 f1 f2 f3 f4 f5 f6 f7 f8 f9 f10 f11 f12 f13 f14 f15 f16 f17 f18 f19 f20 f21 fL fN fP fM fO) t.heap ∧ va_K (dC, dI) vwCl (mT kc) t ∧ va_D (va_A (mW ad kc x0 x1 x2 x3 x4 x5 x6 x7 x8 x9 x10 x11 x12 x13 x14 x15 x16 x17 x18 x19 x20 x21 f0 f1 f2 f3 f4 f5 f6 f7 f8 f9 f10 f11 f12 f13 f14 f15 f16 f17 f18 f19 f20 f21 fL fN fP fM fO) sz) (mW ad kc x0 x1 x2 x3 x4 x5 x6 x7 x8 x9 x10 x11 x12 x13 x14 x15 x16 x17 x18 x19 x20 x21 f0 f1 f2 f3 f4 f5 f6 f7 f8 f9 f10 f11 f12 f13 f14 f15 f16 f17 f18 f19 f20 f21 fL fN fP fM fO)) (va_A (mW ad kc x0 x1 x2 x3 x4 x5 x6 x7 x8 x9 x10 x11 x12 x13 x14 x15 x16 x17 x18 x19 x20 x21 f0 f1 f2 f3 f4 f5 f6 f7 f8 f9 f10 f11 f12 f13 f14 f15 f16 f17 f18 f19 f20 f21 fL fN fP fM fO) sz)) 0 0 (va_A (mW ad kc x0 x1 x2 x3 x4 x5 x6 x7 x8 x9 x10 x11 x12 x13 x14 x15 x16 x17 x18 x19 x20 x21 f0 f1 f2 f3 f4 f5 f6 f7 f8 f9 f10 f11 f12 f13 f14 f15 f16 f17 f18 f19 f20 f21 fL fN fP fM fO) sz) := by
  refine Met.ofW (cc := cX10_isAhead_) (maxL := 5) (ret := (some .boolean)) (by decide +kernel) rfl ?_
  intro p e s m args below meth c s₁ B hml hv
  obtain ⟨rfl, hsz, hP, hK, hD0⟩ := hv
  have hx := B.exec
  have hb := B.bytes
  have hr := B.returns
  have hts := atoms_spec (ws := mwX10_isAhead_m) B.pre
  have hown : s.vm.findClass RX10 = some m.cls := findClass_of_methodNamed B.named
  have hlocks := B.notSynchronized
  subst hsz
  have hD := hD0.self (sz := s.heap.size)
  generalize hAe : va_A (mW ad kc x0 x1 x2 x3 x4 x5 x6 x7 x8 x9 x10 x11 x12 x13 x14 x15 x16 x17 x18 x19 x20 x21 f0 f1 f2 f3 f4 f5 f6 f7 f8 f9 f10 f11 f12 f13 f14 f15 f16 f17 f18 f19 f20 f21 fL fN fP fM fO) s.heap.size = A at hD ⊢
  have hA : ∀ q : Nat, s.heap.size ≤ q → A q := fun q h => by rw [← hAe]; exact Or.inr h
  have hP : va_P (dC, dI) vwCl (mW ad kc x0 x1 x2 x3 x4 x5 x6 x7 x8 x9 x10 x11 x12 x13 x14 x15 x16 x17 x18 x19 x20 x21 f0 f1 f2 f3 f4 f5 f6 f7 f8 f9 f10 f11 f12 f13 f14 f15 f16 f17 f18 f19 f20 f21 fL fN fP fM fO) s.heap := hP
  have hD : va_D A (mW ad kc x0 x1 x2 x3 x4 x5 x6 x7 x8 x9 x10 x11 x12 x13 x14 x15 x16 x17 x18 x19 x20 x21 f0 f1 f2 f3 f4 f5 f6 f7 f8 f9 f10 f11 f12 f13 f14 f15 f16 f17 f18 f19 f20 f21 fL fN fP fM fO) := hD
  have hK : va_K (dC, dI) vwCl (mT kc) s := hK
  generalize hH : s.heap = H at hP ⊢
  have hS : va_S A s.heap H [] := by rw [← hH]; exact va_S.rf
  have hl := lv_entry ([.long i1, .long i2]) (n := 5) (Nat.le_of_ble_eq_true rfl)
  rw [lg_entry_eq]
  generalize (lg_sl ([.long i1, .long i2]) ++ List.replicate (5 - (lg_sl ([.long i1, .long i2])).length) Slot.unset).toArray = ls at hl ⊢
  have hl : lv_has ls 5 [(0, .long i1), (2, .long i2)] := hl
  refine lv_iconst (v := 0) hx hb dX10_isAhead__0 (by decide) ?_
  refine lv_istore (lv' := [(4, .int 0), (0, .long i1), (2, .long i2)]) hx hb dX10_isAhead__1 hl (by decide) rfl (fun ls hl => ?_)
  have loop3 : ∀ (lm3 : Nat) (kk : Int32), (0 ≤ kk.toInt) → (kk.toInt ≤ na) → (((na : Int) - kk.toInt).toNat) < lm3 → ∀ (H : Heap) (locs : List Loc) (ls : Array Slot), va_P (dC, dI) vwCl (mW ad kc x0 x1 x2 x3 x4 x5 x6 x7 x8 x9 x10 x11 x12 x13 x14 x15 x16 x17 x18 x19 x20 x21 f0 f1 f2 f3 f4 f5 f6 f7 f8 f9 f10 f11 f12 f13 f14 f15 f16 f17 f18 f19 f20 f21 fL fN fP fM fO) H → va_D A (mW ad kc x0 x1 x2 x3 x4 x5 x6 x7 x8 x9 x10 x11 x12 x13 x14 x15 x16 x17 x18 x19 x20 x21 f0 f1 f2 f3 f4 f5 f6 f7 f8 f9 f10 f11 f12 f13 f14 f15 f16 f17 f18 f19 f20 f21 fL fN fP fM fO) → va_S A s.heap H locs → lv_has ls 5 [(4, .int kk), (0, .long i1), (2, .long i2)] → W p l e (headSpec mwX10_isAhead_m ({ frames := 1, cells := 0, slots := 0, locals := 60 })).room s m ([.long i1, .long i2]).toArray below meth c H locs 0 0 (MQ below (va_Qi (fun (o9 u9 : Int32) => o9 = u9) (fun (o9 : Int32) t => (o9.toInt = 0 ∨ o9.toInt = 1) ∧ va_P (dC, dI) vwCl (mW ad kc x0 x1 x2 x3 x4 x5 x6 x7 x8 x9 x10 x11 x12 x13 x14 x15 x16 x17 x18 x19 x20 x21 f0 f1 f2 f3 f4 f5 f6 f7 f8 f9 f10 f11 f12 f13 f14 f15 f16 f17 f18 f19 f20 f21 fL fN fP fM fO) t.heap ∧ va_K (dC, dI) vwCl (mT kc) t ∧ va_D A (mW ad kc x0 x1 x2 x3 x4 x5 x6 x7 x8 x9 x10 x11 x12 x13 x14 x15 x16 x17 x18 x19 x20 x21 f0 f1 f2 f3 f4 f5 f6 f7 f8 f9 f10 f11 f12 f13 f14 f15 f16 f17 f18 f19 f20 f21 fL fN fP fM fO)) A) ([.long i1, .long i2]).toArray s 0 0 A) (F0 m 3 ls []) := by
    intro lm3
    induction lm3 with
    | zero => intro kk v3_0 v3_1 hm3; exact absurd hm3 (Nat.not_lt_zero _)
    | succ lm3 ih3 =>
      intro kk v3_0 v3_1 hm3 H locs ls hP hD hS hl
      have rg_kk := i_rng kk
      refine lv_iload hx hb dX10_isAhead__3 (lv_at hl 0 rfl) ?_
      refine lv_lload_n hx hb dX10_isAhead__5 rfl (lv_at hl 1 rfl) ?_
      refine vp_callSi (W.runS (As := [.long i1]) (rest := [.int kk]) ⟨hx, hb, hml, hown, hts⟩ (m_longOf l dC dI  i1 ) (va_cwS 1 hts mg_X10_isAhead_m_X10_longOf_256 rfl rfl rfl (by decide +kernel) ⟨Nat.le_of_ble_eq_true rfl, Nat.le_of_ble_eq_true rfl⟩) ⟨fun a U g mk q => ⟨q.1, trivial⟩, fun U hU hW => ⟨rfl, trivial⟩⟩ rfl rfl hl.1 rfl (lv_room (Nat.le_of_ble_eq_true rfl)) dX10_isAhead__6 ⟨Nat.le_of_ble_eq_true rfl, Nat.le_of_ble_eq_true rfl⟩) (fun r_1 hr_1 => ?_)
      have rg_r_1 := i_rng r_1
      have hqr_1 := hr_1 na (by omega) q0
      refine lv_icmp_ge (tgt := 42) hx hb dX10_isAhead__9 (by decide) (fun k_2 => ?_) (fun k_2 => ?_)
      · have tk_2 := c_ge (a := kk.toInt) (b := r_1.toInt) rfl rfl k_2
        refine lv_iload hx hb dX10_isAhead__42 (lv_at hl 0 rfl) ?_
        refine lv_lload_n hx hb dX10_isAhead__44 rfl (lv_at hl 1 rfl) ?_
        refine vp_callSi (W.runS (As := [.long i1]) (rest := [.int kk]) ⟨hx, hb, hml, hown, hts⟩ (m_longOf l dC dI  i1 ) (va_cwS 1 hts mg_X10_isAhead_m_X10_longOf_256 rfl rfl rfl (by decide +kernel) ⟨Nat.le_of_ble_eq_true rfl, Nat.le_of_ble_eq_true rfl⟩) ⟨fun a U g mk q => ⟨q.1, trivial⟩, fun U hU hW => ⟨rfl, trivial⟩⟩ rfl rfl hl.1 rfl (lv_room (Nat.le_of_ble_eq_true rfl)) dX10_isAhead__45 ⟨Nat.le_of_ble_eq_true rfl, Nat.le_of_ble_eq_true rfl⟩) (fun r_3 hr_3 => ?_)
        have rg_r_3 := i_rng r_3
        have hqr_3 := hr_3 na (by omega) q0
        refine lv_icmp_ne (tgt := 68) hx hb dX10_isAhead__48 (by decide) (fun k_4 => ?_) (fun k_4 => ?_)
        · have tk_4 := c_ne (a := kk.toInt) (b := r_3.toInt) rfl rfl k_4
          refine lv_iload hx hb dX10_isAhead__68 (lv_at hl 0 rfl) ?_
          refine lv_lload_n hx hb dX10_isAhead__70 rfl (lv_at hl 2 rfl) ?_
          refine vp_callSi (W.runS (As := [.long i2]) (rest := [.int kk]) ⟨hx, hb, hml, hown, hts⟩ (m_longOf l dC dI  i2 ) (va_cwS 1 hts mg_X10_isAhead_m_X10_longOf_256 rfl rfl rfl (by decide +kernel) ⟨Nat.le_of_ble_eq_true rfl, Nat.le_of_ble_eq_true rfl⟩) ⟨fun a U g mk q => ⟨q.1, trivial⟩, fun U hU hW => ⟨rfl, trivial⟩⟩ rfl rfl hl.1 rfl (lv_room (Nat.le_of_ble_eq_true rfl)) dX10_isAhead__71 ⟨Nat.le_of_ble_eq_true rfl, Nat.le_of_ble_eq_true rfl⟩) (fun r_5 hr_5 => ?_)
          have rg_r_5 := i_rng r_5
          have hqr_5 := hr_5 nb (by omega) q1
          refine lv_icmp_ge (tgt := 96) hx hb dX10_isAhead__74 (by decide) (fun k_6 => ?_) (fun k_6 => ?_)
          · have tk_6 := c_ge (a := kk.toInt) (b := r_5.toInt) rfl rfl k_6
            refine lv_iconst (v := 0) hx hb dX10_isAhead__96 (by decide) ?_
            have lit_6 : (0 : Int32).toInt = 0 := by decide
            exact W.zret hx hb hr (z_nar (by first | assumption | decide | exact z_of (by omega))) (fun t ht hW => ⟨⟨_, _, rfl, rfl, (by first | omega | assumption | rfl | decide), by rw [ht]; exact hP, va_K.moved hW.alike hK, hD⟩, hS.F ht⟩) hS.2.2 dX10_isAhead__97
          · have tk_6 := c_nge (a := kk.toInt) (b := r_5.toInt) rfl rfl k_6
            refine lv_lload_n hx hb dX10_isAhead__77 rfl (lv_at hl 1 rfl) ?_
            refine lv_iload hx hb dX10_isAhead__78 (lv_at hl 0 rfl) ?_
            refine vp_callSi (W.runS (As := [.long i1, .int kk]) (rest := []) ⟨hx, hb, hml, hown, hts⟩ (m_letterIn l dC dI  kk i1 ) (va_cwS 2 hts mg_X10_isAhead_m_X10_letterIn_260 rfl rfl rfl (by decide +kernel) ⟨Nat.le_of_ble_eq_true rfl, Nat.le_of_ble_eq_true rfl⟩) ⟨fun a U g mk q => ⟨q.1, trivial⟩, fun U hU hW => ⟨rfl, trivial⟩⟩ rfl rfl hl.1 rfl (lv_room (Nat.le_of_ble_eq_true rfl)) dX10_isAhead__80 ⟨Nat.le_of_ble_eq_true rfl, Nat.le_of_ble_eq_true rfl⟩) (fun r_8 hr_8 => ?_)
            have rg_r_8 := i_rng r_8
            refine lv_lload_n hx hb dX10_isAhead__83 rfl (lv_at hl 2 rfl) ?_
            refine lv_iload hx hb dX10_isAhead__84 (lv_at hl 0 rfl) ?_
            refine vp_callSi (W.runS (As := [.long i2, .int kk]) (rest := [.int r_8]) ⟨hx, hb, hml, hown, hts⟩ (m_letterIn l dC dI  kk i2 ) (va_cwS 2 hts mg_X10_isAhead_m_X10_letterIn_260 rfl rfl rfl (by decide +kernel) ⟨Nat.le_of_ble_eq_true rfl, Nat.le_of_ble_eq_true rfl⟩) ⟨fun a U g mk q => ⟨q.1, trivial⟩, fun U hU hW => ⟨rfl, trivial⟩⟩ rfl rfl hl.1 rfl (lv_room (Nat.le_of_ble_eq_true rfl)) dX10_isAhead__86 ⟨Nat.le_of_ble_eq_true rfl, Nat.le_of_ble_eq_true rfl⟩) (fun r_9 hr_9 => ?_)
            have rg_r_9 := i_rng r_9
            refine lv_icmp_ge (tgt := 96) hx hb dX10_isAhead__89 (by decide) (fun k_10 => ?_) (fun k_10 => ?_)
            · have tk_10 := c_ge (a := r_8.toInt) (b := r_9.toInt) rfl rfl k_10
              refine lv_iconst (v := 0) hx hb dX10_isAhead__96 (by decide) ?_
              have lit_10 : (0 : Int32).toInt = 0 := by decide
              exact W.zret hx hb hr (z_nar (by first | assumption | decide | exact z_of (by omega))) (fun t ht hW => ⟨⟨_, _, rfl, rfl, (by first | omega | assumption | rfl | decide), by rw [ht]; exact hP, va_K.moved hW.alike hK, hD⟩, hS.F ht⟩) hS.2.2 dX10_isAhead__97
            · have tk_10 := c_nge (a := r_8.toInt) (b := r_9.toInt) rfl rfl k_10
              refine lv_iconst (v := 1) hx hb dX10_isAhead__92 (by decide) ?_
              refine lv_goto (tgt := 97) hx hb dX10_isAhead__93 (by decide) ?_
              have lit_11 : (1 : Int32).toInt = 1 := by decide
              exact W.zret hx hb hr (z_nar (by first | assumption | decide | exact z_of (by omega))) (fun t ht hW => ⟨⟨_, _, rfl, rfl, (by first | omega | assumption | rfl | decide), by rw [ht]; exact hP, va_K.moved hW.alike hK, hD⟩, hS.F ht⟩) hS.2.2 dX10_isAhead__97
        · have tk_4 := c_eq (a := kk.toInt) (b := r_3.toInt) rfl rfl k_4
          refine lv_iload hx hb dX10_isAhead__51 (lv_at hl 0 rfl) ?_
          refine lv_lload_n hx hb dX10_isAhead__53 rfl (lv_at hl 2 rfl) ?_
          refine vp_callSi (W.runS (As := [.long i2]) (rest := [.int kk]) ⟨hx, hb, hml, hown, hts⟩ (m_longOf l dC dI  i2 ) (va_cwS 1 hts mg_X10_isAhead_m_X10_longOf_256 rfl rfl rfl (by decide +kernel) ⟨Nat.le_of_ble_eq_true rfl, Nat.le_of_ble_eq_true rfl⟩) ⟨fun a U g mk q => ⟨q.1, trivial⟩, fun U hU hW => ⟨rfl, trivial⟩⟩ rfl rfl hl.1 rfl (lv_room (Nat.le_of_ble_eq_true rfl)) dX10_isAhead__54 ⟨Nat.le_of_ble_eq_true rfl, Nat.le_of_ble_eq_true rfl⟩) (fun r_13 hr_13 => ?_)
          have rg_r_13 := i_rng r_13
          have hqr_13 := hr_13 nb (by omega) q1
          refine lv_icmp_ge (tgt := 64) hx hb dX10_isAhead__57 (by decide) (fun k_14 => ?_) (fun k_14 => ?_)
          · have tk_14 := c_ge (a := kk.toInt) (b := r_13.toInt) rfl rfl k_14
            refine lv_iconst (v := 0) hx hb dX10_isAhead__64 (by decide) ?_
            refine lv_goto (tgt := 97) hx hb dX10_isAhead__65 (by decide) ?_
            have lit_14 : (0 : Int32).toInt = 0 := by decide
            exact W.zret hx hb hr (z_nar (by first | assumption | decide | exact z_of (by omega))) (fun t ht hW => ⟨⟨_, _, rfl, rfl, (by first | omega | assumption | rfl | decide), by rw [ht]; exact hP, va_K.moved hW.alike hK, hD⟩, hS.F ht⟩) hS.2.2 dX10_isAhead__97
          · have tk_14 := c_nge (a := kk.toInt) (b := r_13.toInt) rfl rfl k_14
            refine lv_iconst (v := 1) hx hb dX10_isAhead__60 (by decide) ?_
            refine lv_goto (tgt := 97) hx hb dX10_isAhead__61 (by decide) ?_
            have lit_15 : (1 : Int32).toInt = 1 := by decide
            exact W.zret hx hb hr (z_nar (by first | assumption | decide | exact z_of (by omega))) (fun t ht hW => ⟨⟨_, _, rfl, rfl, (by first | omega | assumption | rfl | decide), by rw [ht]; exact hP, va_K.moved hW.alike hK, hD⟩, hS.F ht⟩) hS.2.2 dX10_isAhead__97
      · have tk_2 := c_nge (a := kk.toInt) (b := r_1.toInt) rfl rfl k_2
        refine lv_iload hx hb dX10_isAhead__12 (lv_at hl 0 rfl) ?_
        refine lv_lload_n hx hb dX10_isAhead__14 rfl (lv_at hl 2 rfl) ?_
        refine vp_callSi (W.runS (As := [.long i2]) (rest := [.int kk]) ⟨hx, hb, hml, hown, hts⟩ (m_longOf l dC dI  i2 ) (va_cwS 1 hts mg_X10_isAhead_m_X10_longOf_256 rfl rfl rfl (by decide +kernel) ⟨Nat.le_of_ble_eq_true rfl, Nat.le_of_ble_eq_true rfl⟩) ⟨fun a U g mk q => ⟨q.1, trivial⟩, fun U hU hW => ⟨rfl, trivial⟩⟩ rfl rfl hl.1 rfl (lv_room (Nat.le_of_ble_eq_true rfl)) dX10_isAhead__15 ⟨Nat.le_of_ble_eq_true rfl, Nat.le_of_ble_eq_true rfl⟩) (fun r_17 hr_17 => ?_)
        have rg_r_17 := i_rng r_17
        have hqr_17 := hr_17 nb (by omega) q1
        refine lv_icmp_ge (tgt := 42) hx hb dX10_isAhead__18 (by decide) (fun k_18 => ?_) (fun k_18 => ?_)
        · have tk_18 := c_ge (a := kk.toInt) (b := r_17.toInt) rfl rfl k_18
          refine lv_iload hx hb dX10_isAhead__42 (lv_at hl 0 rfl) ?_
          refine lv_lload_n hx hb dX10_isAhead__44 rfl (lv_at hl 1 rfl) ?_
          refine vp_callSi (W.runS (As := [.long i1]) (rest := [.int kk]) ⟨hx, hb, hml, hown, hts⟩ (m_longOf l dC dI  i1 ) (va_cwS 1 hts mg_X10_isAhead_m_X10_longOf_256 rfl rfl rfl (by decide +kernel) ⟨Nat.le_of_ble_eq_true rfl, Nat.le_of_ble_eq_true rfl⟩) ⟨fun a U g mk q => ⟨q.1, trivial⟩, fun U hU hW => ⟨rfl, trivial⟩⟩ rfl rfl hl.1 rfl (lv_room (Nat.le_of_ble_eq_true rfl)) dX10_isAhead__45 ⟨Nat.le_of_ble_eq_true rfl, Nat.le_of_ble_eq_true rfl⟩) (fun r_19 hr_19 => ?_)
          have rg_r_19 := i_rng r_19
          have hqr_19 := hr_19 na (by omega) q0
          refine lv_icmp_ne (tgt := 68) hx hb dX10_isAhead__48 (by decide) (fun k_20 => ?_) (fun k_20 => ?_)
          · have tk_20 := c_ne (a := kk.toInt) (b := r_19.toInt) rfl rfl k_20
            refine lv_iload hx hb dX10_isAhead__68 (lv_at hl 0 rfl) ?_
            refine lv_lload_n hx hb dX10_isAhead__70 rfl (lv_at hl 2 rfl) ?_
            refine vp_callSi (W.runS (As := [.long i2]) (rest := [.int kk]) ⟨hx, hb, hml, hown, hts⟩ (m_longOf l dC dI  i2 ) (va_cwS 1 hts mg_X10_isAhead_m_X10_longOf_256 rfl rfl rfl (by decide +kernel) ⟨Nat.le_of_ble_eq_true rfl, Nat.le_of_ble_eq_true rfl⟩) ⟨fun a U g mk q => ⟨q.1, trivial⟩, fun U hU hW => ⟨rfl, trivial⟩⟩ rfl rfl hl.1 rfl (lv_room (Nat.le_of_ble_eq_true rfl)) dX10_isAhead__71 ⟨Nat.le_of_ble_eq_true rfl, Nat.le_of_ble_eq_true rfl⟩) (fun r_21 hr_21 => ?_)
            have rg_r_21 := i_rng r_21
            have hqr_21 := hr_21 nb (by omega) q1
            refine lv_icmp_ge (tgt := 96) hx hb dX10_isAhead__74 (by decide) (fun k_22 => ?_) (fun k_22 => ?_)
            · have tk_22 := c_ge (a := kk.toInt) (b := r_21.toInt) rfl rfl k_22
              refine lv_iconst (v := 0) hx hb dX10_isAhead__96 (by decide) ?_
              have lit_22 : (0 : Int32).toInt = 0 := by decide
              exact W.zret hx hb hr (z_nar (by first | assumption | decide | exact z_of (by omega))) (fun t ht hW => ⟨⟨_, _, rfl, rfl, (by first | omega | assumption | rfl | decide), by rw [ht]; exact hP, va_K.moved hW.alike hK, hD⟩, hS.F ht⟩) hS.2.2 dX10_isAhead__97
            · have tk_22 := c_nge (a := kk.toInt) (b := r_21.toInt) rfl rfl k_22
              refine lv_lload_n hx hb dX10_isAhead__77 rfl (lv_at hl 1 rfl) ?_
              refine lv_iload hx hb dX10_isAhead__78 (lv_at hl 0 rfl) ?_
              refine vp_callSi (W.runS (As := [.long i1, .int kk]) (rest := []) ⟨hx, hb, hml, hown, hts⟩ (m_letterIn l dC dI  kk i1 ) (va_cwS 2 hts mg_X10_isAhead_m_X10_letterIn_260 rfl rfl rfl (by decide +kernel) ⟨Nat.le_of_ble_eq_true rfl, Nat.le_of_ble_eq_true rfl⟩) ⟨fun a U g mk q => ⟨q.1, trivial⟩, fun U hU hW => ⟨rfl, trivial⟩⟩ rfl rfl hl.1 rfl (lv_room (Nat.le_of_ble_eq_true rfl)) dX10_isAhead__80 ⟨Nat.le_of_ble_eq_true rfl, Nat.le_of_ble_eq_true rfl⟩) (fun r_24 hr_24 => ?_)
              have rg_r_24 := i_rng r_24
              refine lv_lload_n hx hb dX10_isAhead__83 rfl (lv_at hl 2 rfl) ?_
              refine lv_iload hx hb dX10_isAhead__84 (lv_at hl 0 rfl) ?_
              refine vp_callSi (W.runS (As := [.long i2, .int kk]) (rest := [.int r_24]) ⟨hx, hb, hml, hown, hts⟩ (m_letterIn l dC dI  kk i2 ) (va_cwS 2 hts mg_X10_isAhead_m_X10_letterIn_260 rfl rfl rfl (by decide +kernel) ⟨Nat.le_of_ble_eq_true rfl, Nat.le_of_ble_eq_true rfl⟩) ⟨fun a U g mk q => ⟨q.1, trivial⟩, fun U hU hW => ⟨rfl, trivial⟩⟩ rfl rfl hl.1 rfl (lv_room (Nat.le_of_ble_eq_true rfl)) dX10_isAhead__86 ⟨Nat.le_of_ble_eq_true rfl, Nat.le_of_ble_eq_true rfl⟩) (fun r_25 hr_25 => ?_)
              have rg_r_25 := i_rng r_25
              refine lv_icmp_ge (tgt := 96) hx hb dX10_isAhead__89 (by decide) (fun k_26 => ?_) (fun k_26 => ?_)
              · have tk_26 := c_ge (a := r_24.toInt) (b := r_25.toInt) rfl rfl k_26
                refine lv_iconst (v := 0) hx hb dX10_isAhead__96 (by decide) ?_
                have lit_26 : (0 : Int32).toInt = 0 := by decide
                exact W.zret hx hb hr (z_nar (by first | assumption | decide | exact z_of (by omega))) (fun t ht hW => ⟨⟨_, _, rfl, rfl, (by first | omega | assumption | rfl | decide), by rw [ht]; exact hP, va_K.moved hW.alike hK, hD⟩, hS.F ht⟩) hS.2.2 dX10_isAhead__97
              · have tk_26 := c_nge (a := r_24.toInt) (b := r_25.toInt) rfl rfl k_26
                refine lv_iconst (v := 1) hx hb dX10_isAhead__92 (by decide) ?_
                refine lv_goto (tgt := 97) hx hb dX10_isAhead__93 (by decide) ?_
                have lit_27 : (1 : Int32).toInt = 1 := by decide
                exact W.zret hx hb hr (z_nar (by first | assumption | decide | exact z_of (by omega))) (fun t ht hW => ⟨⟨_, _, rfl, rfl, (by first | omega | assumption | rfl | decide), by rw [ht]; exact hP, va_K.moved hW.alike hK, hD⟩, hS.F ht⟩) hS.2.2 dX10_isAhead__97
          · have tk_20 := c_eq (a := kk.toInt) (b := r_19.toInt) rfl rfl k_20
            refine lv_iload hx hb dX10_isAhead__51 (lv_at hl 0 rfl) ?_
            refine lv_lload_n hx hb dX10_isAhead__53 rfl (lv_at hl 2 rfl) ?_
            refine vp_callSi (W.runS (As := [.long i2]) (rest := [.int kk]) ⟨hx, hb, hml, hown, hts⟩ (m_longOf l dC dI  i2 ) (va_cwS 1 hts mg_X10_isAhead_m_X10_longOf_256 rfl rfl rfl (by decide +kernel) ⟨Nat.le_of_ble_eq_true rfl, Nat.le_of_ble_eq_true rfl⟩) ⟨fun a U g mk q => ⟨q.1, trivial⟩, fun U hU hW => ⟨rfl, trivial⟩⟩ rfl rfl hl.1 rfl (lv_room (Nat.le_of_ble_eq_true rfl)) dX10_isAhead__54 ⟨Nat.le_of_ble_eq_true rfl, Nat.le_of_ble_eq_true rfl⟩) (fun r_29 hr_29 => ?_)
            have rg_r_29 := i_rng r_29
            have hqr_29 := hr_29 nb (by omega) q1
            refine lv_icmp_ge (tgt := 64) hx hb dX10_isAhead__57 (by decide) (fun k_30 => ?_) (fun k_30 => ?_)
            · have tk_30 := c_ge (a := kk.toInt) (b := r_29.toInt) rfl rfl k_30
              refine lv_iconst (v := 0) hx hb dX10_isAhead__64 (by decide) ?_
              refine lv_goto (tgt := 97) hx hb dX10_isAhead__65 (by decide) ?_
              have lit_30 : (0 : Int32).toInt = 0 := by decide
              exact W.zret hx hb hr (z_nar (by first | assumption | decide | exact z_of (by omega))) (fun t ht hW => ⟨⟨_, _, rfl, rfl, (by first | omega | assumption | rfl | decide), by rw [ht]; exact hP, va_K.moved hW.alike hK, hD⟩, hS.F ht⟩) hS.2.2 dX10_isAhead__97
            · have tk_30 := c_nge (a := kk.toInt) (b := r_29.toInt) rfl rfl k_30
              refine lv_iconst (v := 1) hx hb dX10_isAhead__60 (by decide) ?_
              refine lv_goto (tgt := 97) hx hb dX10_isAhead__61 (by decide) ?_
              have lit_31 : (1 : Int32).toInt = 1 := by decide
              exact W.zret hx hb hr (z_nar (by first | assumption | decide | exact z_of (by omega))) (fun t ht hW => ⟨⟨_, _, rfl, rfl, (by first | omega | assumption | rfl | decide), by rw [ht]; exact hP, va_K.moved hW.alike hK, hD⟩, hS.F ht⟩) hS.2.2 dX10_isAhead__97
        · have tk_18 := c_nge (a := kk.toInt) (b := r_17.toInt) rfl rfl k_18
          refine lv_lload_n hx hb dX10_isAhead__21 rfl (lv_at hl 1 rfl) ?_
          refine lv_iload hx hb dX10_isAhead__22 (lv_at hl 0 rfl) ?_
          refine vp_callSi (W.runS (As := [.long i1, .int kk]) (rest := []) ⟨hx, hb, hml, hown, hts⟩ (m_letterIn l dC dI  kk i1 ) (va_cwS 2 hts mg_X10_isAhead_m_X10_letterIn_260 rfl rfl rfl (by decide +kernel) ⟨Nat.le_of_ble_eq_true rfl, Nat.le_of_ble_eq_true rfl⟩) ⟨fun a U g mk q => ⟨q.1, trivial⟩, fun U hU hW => ⟨rfl, trivial⟩⟩ rfl rfl hl.1 rfl (lv_room (Nat.le_of_ble_eq_true rfl)) dX10_isAhead__24 ⟨Nat.le_of_ble_eq_true rfl, Nat.le_of_ble_eq_true rfl⟩) (fun r_33 hr_33 => ?_)
          have rg_r_33 := i_rng r_33
          refine lv_lload_n hx hb dX10_isAhead__27 rfl (lv_at hl 2 rfl) ?_
          refine lv_iload hx hb dX10_isAhead__28 (lv_at hl 0 rfl) ?_
          refine vp_callSi (W.runS (As := [.long i2, .int kk]) (rest := [.int r_33]) ⟨hx, hb, hml, hown, hts⟩ (m_letterIn l dC dI  kk i2 ) (va_cwS 2 hts mg_X10_isAhead_m_X10_letterIn_260 rfl rfl rfl (by decide +kernel) ⟨Nat.le_of_ble_eq_true rfl, Nat.le_of_ble_eq_true rfl⟩) ⟨fun a U g mk q => ⟨q.1, trivial⟩, fun U hU hW => ⟨rfl, trivial⟩⟩ rfl rfl hl.1 rfl (lv_room (Nat.le_of_ble_eq_true rfl)) dX10_isAhead__30 ⟨Nat.le_of_ble_eq_true rfl, Nat.le_of_ble_eq_true rfl⟩) (fun r_34 hr_34 => ?_)
          have rg_r_34 := i_rng r_34
          refine lv_icmp_ne (tgt := 42) hx hb dX10_isAhead__33 (by decide) (fun k_35 => ?_) (fun k_35 => ?_)
          · have tk_35 := c_ne (a := r_33.toInt) (b := r_34.toInt) rfl rfl k_35
            refine lv_iload hx hb dX10_isAhead__42 (lv_at hl 0 rfl) ?_
            refine lv_lload_n hx hb dX10_isAhead__44 rfl (lv_at hl 1 rfl) ?_
            refine vp_callSi (W.runS (As := [.long i1]) (rest := [.int kk]) ⟨hx, hb, hml, hown, hts⟩ (m_longOf l dC dI  i1 ) (va_cwS 1 hts mg_X10_isAhead_m_X10_longOf_256 rfl rfl rfl (by decide +kernel) ⟨Nat.le_of_ble_eq_true rfl, Nat.le_of_ble_eq_true rfl⟩) ⟨fun a U g mk q => ⟨q.1, trivial⟩, fun U hU hW => ⟨rfl, trivial⟩⟩ rfl rfl hl.1 rfl (lv_room (Nat.le_of_ble_eq_true rfl)) dX10_isAhead__45 ⟨Nat.le_of_ble_eq_true rfl, Nat.le_of_ble_eq_true rfl⟩) (fun r_36 hr_36 => ?_)
            have rg_r_36 := i_rng r_36
            have hqr_36 := hr_36 na (by omega) q0
            refine lv_icmp_ne (tgt := 68) hx hb dX10_isAhead__48 (by decide) (fun k_37 => ?_) (fun k_37 => ?_)
            · have tk_37 := c_ne (a := kk.toInt) (b := r_36.toInt) rfl rfl k_37
              refine lv_iload hx hb dX10_isAhead__68 (lv_at hl 0 rfl) ?_
              refine lv_lload_n hx hb dX10_isAhead__70 rfl (lv_at hl 2 rfl) ?_
              refine vp_callSi (W.runS (As := [.long i2]) (rest := [.int kk]) ⟨hx, hb, hml, hown, hts⟩ (m_longOf l dC dI  i2 ) (va_cwS 1 hts mg_X10_isAhead_m_X10_longOf_256 rfl rfl rfl (by decide +kernel) ⟨Nat.le_of_ble_eq_true rfl, Nat.le_of_ble_eq_true rfl⟩) ⟨fun a U g mk q => ⟨q.1, trivial⟩, fun U hU hW => ⟨rfl, trivial⟩⟩ rfl rfl hl.1 rfl (lv_room (Nat.le_of_ble_eq_true rfl)) dX10_isAhead__71 ⟨Nat.le_of_ble_eq_true rfl, Nat.le_of_ble_eq_true rfl⟩) (fun r_38 hr_38 => ?_)
              have rg_r_38 := i_rng r_38
              have hqr_38 := hr_38 nb (by omega) q1
              refine lv_icmp_ge (tgt := 96) hx hb dX10_isAhead__74 (by decide) (fun k_39 => ?_) (fun k_39 => ?_)
              · have tk_39 := c_ge (a := kk.toInt) (b := r_38.toInt) rfl rfl k_39
                refine lv_iconst (v := 0) hx hb dX10_isAhead__96 (by decide) ?_
                have lit_39 : (0 : Int32).toInt = 0 := by decide
                exact W.zret hx hb hr (z_nar (by first | assumption | decide | exact z_of (by omega))) (fun t ht hW => ⟨⟨_, _, rfl, rfl, (by first | omega | assumption | rfl | decide), by rw [ht]; exact hP, va_K.moved hW.alike hK, hD⟩, hS.F ht⟩) hS.2.2 dX10_isAhead__97
              · have tk_39 := c_nge (a := kk.toInt) (b := r_38.toInt) rfl rfl k_39
                refine lv_lload_n hx hb dX10_isAhead__77 rfl (lv_at hl 1 rfl) ?_
                refine lv_iload hx hb dX10_isAhead__78 (lv_at hl 0 rfl) ?_
                refine vp_callSi (W.runS (As := [.long i1, .int kk]) (rest := []) ⟨hx, hb, hml, hown, hts⟩ (m_letterIn l dC dI  kk i1 ) (va_cwS 2 hts mg_X10_isAhead_m_X10_letterIn_260 rfl rfl rfl (by decide +kernel) ⟨Nat.le_of_ble_eq_true rfl, Nat.le_of_ble_eq_true rfl⟩) ⟨fun a U g mk q => ⟨q.1, trivial⟩, fun U hU hW => ⟨rfl, trivial⟩⟩ rfl rfl hl.1 rfl (lv_room (Nat.le_of_ble_eq_true rfl)) dX10_isAhead__80 ⟨Nat.le_of_ble_eq_true rfl, Nat.le_of_ble_eq_true rfl⟩) (fun r_41 hr_41 => ?_)
                have rg_r_41 := i_rng r_41
                refine lv_lload_n hx hb dX10_isAhead__83 rfl (lv_at hl 2 rfl) ?_
                refine lv_iload hx hb dX10_isAhead__84 (lv_at hl 0 rfl) ?_
                refine vp_callSi (W.runS (As := [.long i2, .int kk]) (rest := [.int r_41]) ⟨hx, hb, hml, hown, hts⟩ (m_letterIn l dC dI  kk i2 ) (va_cwS 2 hts mg_X10_isAhead_m_X10_letterIn_260 rfl rfl rfl (by decide +kernel) ⟨Nat.le_of_ble_eq_true rfl, Nat.le_of_ble_eq_true rfl⟩) ⟨fun a U g mk q => ⟨q.1, trivial⟩, fun U hU hW => ⟨rfl, trivial⟩⟩ rfl rfl hl.1 rfl (lv_room (Nat.le_of_ble_eq_true rfl)) dX10_isAhead__86 ⟨Nat.le_of_ble_eq_true rfl, Nat.le_of_ble_eq_true rfl⟩) (fun r_42 hr_42 => ?_)
                have rg_r_42 := i_rng r_42
                refine lv_icmp_ge (tgt := 96) hx hb dX10_isAhead__89 (by decide) (fun k_43 => ?_) (fun k_43 => ?_)
                · have tk_43 := c_ge (a := r_41.toInt) (b := r_42.toInt) rfl rfl k_43
                  refine lv_iconst (v := 0) hx hb dX10_isAhead__96 (by decide) ?_
                  have lit_43 : (0 : Int32).toInt = 0 := by decide
                  exact W.zret hx hb hr (z_nar (by first | assumption | decide | exact z_of (by omega))) (fun t ht hW => ⟨⟨_, _, rfl, rfl, (by first | omega | assumption | rfl | decide), by rw [ht]; exact hP, va_K.moved hW.alike hK, hD⟩, hS.F ht⟩) hS.2.2 dX10_isAhead__97
                · have tk_43 := c_nge (a := r_41.toInt) (b := r_42.toInt) rfl rfl k_43
                  refine lv_iconst (v := 1) hx hb dX10_isAhead__92 (by decide) ?_
                  refine lv_goto (tgt := 97) hx hb dX10_isAhead__93 (by decide) ?_
                  have lit_44 : (1 : Int32).toInt = 1 := by decide
                  exact W.zret hx hb hr (z_nar (by first | assumption | decide | exact z_of (by omega))) (fun t ht hW => ⟨⟨_, _, rfl, rfl, (by first | omega | assumption | rfl | decide), by rw [ht]; exact hP, va_K.moved hW.alike hK, hD⟩, hS.F ht⟩) hS.2.2 dX10_isAhead__97
            · have tk_37 := c_eq (a := kk.toInt) (b := r_36.toInt) rfl rfl k_37
              refine lv_iload hx hb dX10_isAhead__51 (lv_at hl 0 rfl) ?_
              refine lv_lload_n hx hb dX10_isAhead__53 rfl (lv_at hl 2 rfl) ?_
              refine vp_callSi (W.runS (As := [.long i2]) (rest := [.int kk]) ⟨hx, hb, hml, hown, hts⟩ (m_longOf l dC dI  i2 ) (va_cwS 1 hts mg_X10_isAhead_m_X10_longOf_256 rfl rfl rfl (by decide +kernel) ⟨Nat.le_of_ble_eq_true rfl, Nat.le_of_ble_eq_true rfl⟩) ⟨fun a U g mk q => ⟨q.1, trivial⟩, fun U hU hW => ⟨rfl, trivial⟩⟩ rfl rfl hl.1 rfl (lv_room (Nat.le_of_ble_eq_true rfl)) dX10_isAhead__54 ⟨Nat.le_of_ble_eq_true rfl, Nat.le_of_ble_eq_true rfl⟩) (fun r_46 hr_46 => ?_)
              have rg_r_46 := i_rng r_46
              have hqr_46 := hr_46 nb (by omega) q1
              refine lv_icmp_ge (tgt := 64) hx hb dX10_isAhead__57 (by decide) (fun k_47 => ?_) (fun k_47 => ?_)
              · have tk_47 := c_ge (a := kk.toInt) (b := r_46.toInt) rfl rfl k_47
                refine lv_iconst (v := 0) hx hb dX10_isAhead__64 (by decide) ?_
                refine lv_goto (tgt := 97) hx hb dX10_isAhead__65 (by decide) ?_
                have lit_47 : (0 : Int32).toInt = 0 := by decide
                exact W.zret hx hb hr (z_nar (by first | assumption | decide | exact z_of (by omega))) (fun t ht hW => ⟨⟨_, _, rfl, rfl, (by first | omega | assumption | rfl | decide), by rw [ht]; exact hP, va_K.moved hW.alike hK, hD⟩, hS.F ht⟩) hS.2.2 dX10_isAhead__97
              · have tk_47 := c_nge (a := kk.toInt) (b := r_46.toInt) rfl rfl k_47
                refine lv_iconst (v := 1) hx hb dX10_isAhead__60 (by decide) ?_
                refine lv_goto (tgt := 97) hx hb dX10_isAhead__61 (by decide) ?_
                have lit_48 : (1 : Int32).toInt = 1 := by decide
                exact W.zret hx hb hr (z_nar (by first | assumption | decide | exact z_of (by omega))) (fun t ht hW => ⟨⟨_, _, rfl, rfl, (by first | omega | assumption | rfl | decide), by rw [ht]; exact hP, va_K.moved hW.alike hK, hD⟩, hS.F ht⟩) hS.2.2 dX10_isAhead__97
          · have tk_35 := c_eq (a := r_33.toInt) (b := r_34.toInt) rfl rfl k_35
            obtain ⟨y_50, ey_50⟩ : ∃ y : Int32, y = kk + 1 := ⟨_, rfl⟩
            first | have ty_50 := i_add (a := kk.toInt) (b := 1) rfl (by decide) ey_50 (by omega) (by omega) | skip
            refine lv_iinc (v := y_50) (lv' := [(4, .int y_50), (0, .long i1), (2, .long i2)]) hx hb dX10_isAhead__36 hl (k := 0) rfl (by rw [ey_50]; rfl) (by decide) rfl (fun ls hl => ?_)
            refine lv_goto (tgt := 3) hx hb dX10_isAhead__39 (by decide) ?_
            exact ih3 y_50 (by first | omega | assumption | decide) (by first | omega | assumption | decide) (by omega) _ _ ls hP hD hS (lv_sub hl [0, 1, 2] rfl)
  have lit_50 : (0 : Int32).toInt = 0 := by decide
  exact loop3 _ 0 (by first | omega | assumption | decide) (by first | omega | assumption | decide) (Nat.lt_succ_self _) _ _ ls hP hD hS (lv_sub hl [0, 1, 2] rfl)
theorem dX10_joins__0 : decode cX10_joins_ 0 = .ok (.iconst 1, 1) := by decide +kernel
theorem dX10_joins__1 : decode cX10_joins_ 1 = .ok (.istore_n 3, 1) := by decide +kernel
theorem dX10_joins__2 : decode cX10_joins_ 2 = .ok (.iconst 1, 1) := by decide +kernel
theorem dX10_joins__3 : decode cX10_joins_ 3 = .ok (.istore 4, 2) := by decide +kernel
theorem dX10_joins__5 : decode cX10_joins_ 5 = .ok (.iconst 0, 1) := by decide +kernel
theorem dX10_joins__6 : decode cX10_joins_ 6 = .ok (.istore 5, 2) := by decide +kernel
theorem dX10_joins__8 : decode cX10_joins_ 8 = .ok (.iload_n 3, 1) := by decide +kernel
theorem dX10_joins__9 : decode cX10_joins_ 9 = .ok (.aload_n 0, 1) := by decide +kernel
theorem dX10_joins__10 : decode cX10_joins_ 10 = .ok (.iconst 0, 1) := by decide +kernel
theorem dX10_joins__11 : decode cX10_joins_ 11 = .ok (.iaload, 1) := by decide +kernel
theorem dX10_joins__12 : decode cX10_joins_ 12 = .ok (.if_icmp .le 11, 3) := by decide +kernel
theorem dX10_joins__15 : decode cX10_joins_ 15 = .ok (.iload 4, 2) := by decide +kernel
theorem dX10_joins__17 : decode cX10_joins_ 17 = .ok (.aload_n 1, 1) := by decide +kernel
theorem dX10_joins__18 : decode cX10_joins_ 18 = .ok (.iconst 0, 1) := by decide +kernel
theorem dX10_joins__19 : decode cX10_joins_ 19 = .ok (.iaload, 1) := by decide +kernel
theorem dX10_joins__20 : decode cX10_joins_ 20 = .ok (.if_icmp .gt 102, 3) := by decide +kernel
theorem dX10_joins__23 : decode cX10_joins_ 23 = .ok (.iload 4, 2) := by decide +kernel
theorem dX10_joins__25 : decode cX10_joins_ 25 = .ok (.aload_n 1, 1) := by decide +kernel
theorem dX10_joins__26 : decode cX10_joins_ 26 = .ok (.iconst 0, 1) := by decide +kernel
theorem dX10_joins__27 : decode cX10_joins_ 27 = .ok (.iaload, 1) := by decide +kernel
theorem dX10_joins__28 : decode cX10_joins_ 28 = .ok (.if_icmp .gt 20, 3) := by decide +kernel
theorem dX10_joins__31 : decode cX10_joins_ 31 = .ok (.iload_n 3, 1) := by decide +kernel
theorem dX10_joins__32 : decode cX10_joins_ 32 = .ok (.aload_n 0, 1) := by decide +kernel
theorem dX10_joins__33 : decode cX10_joins_ 33 = .ok (.iconst 0, 1) := by decide +kernel
theorem dX10_joins__34 : decode cX10_joins_ 34 = .ok (.iaload, 1) := by decide +kernel
theorem dX10_joins__35 : decode cX10_joins_ 35 = .ok (.if_icmp .gt 19, 3) := by decide +kernel
theorem dX10_joins__38 : decode cX10_joins_ 38 = .ok (.aload_n 0, 1) := by decide +kernel
theorem dX10_joins__39 : decode cX10_joins_ 39 = .ok (.iload_n 3, 1) := by decide +kernel
theorem dX10_joins__40 : decode cX10_joins_ 40 = .ok (.iaload, 1) := by decide +kernel
theorem dX10_joins__41 : decode cX10_joins_ 41 = .ok (.aload_n 1, 1) := by decide +kernel
theorem dX10_joins__42 : decode cX10_joins_ 42 = .ok (.iload 4, 2) := by decide +kernel
theorem dX10_joins__44 : decode cX10_joins_ 44 = .ok (.iaload, 1) := by decide +kernel
theorem dX10_joins__45 : decode cX10_joins_ 45 = .ok (.if_icmp .gt 9, 3) := by decide +kernel
theorem dX10_joins__48 : decode cX10_joins_ 48 = .ok (.aload_n 0, 1) := by decide +kernel
theorem dX10_joins__49 : decode cX10_joins_ 49 = .ok (.iload_n 3, 1) := by decide +kernel
theorem dX10_joins__50 : decode cX10_joins_ 50 = .ok (.iaload, 1) := by decide +kernel
theorem dX10_joins__51 : decode cX10_joins_ 51 = .ok (.goto 7, 3) := by decide +kernel
theorem dX10_joins__54 : decode cX10_joins_ 54 = .ok (.aload_n 1, 1) := by decide +kernel
theorem dX10_joins__55 : decode cX10_joins_ 55 = .ok (.iload 4, 2) := by decide +kernel
theorem dX10_joins__57 : decode cX10_joins_ 57 = .ok (.iaload, 1) := by decide +kernel
theorem dX10_joins__58 : decode cX10_joins_ 58 = .ok (.istore 6, 2) := by decide +kernel
theorem dX10_joins__60 : decode cX10_joins_ 60 = .ok (.iload_n 3, 1) := by decide +kernel
theorem dX10_joins__61 : decode cX10_joins_ 61 = .ok (.iload_n 3, 1) := by decide +kernel
theorem dX10_joins__62 : decode cX10_joins_ 62 = .ok (.aload_n 0, 1) := by decide +kernel
theorem dX10_joins__63 : decode cX10_joins_ 63 = .ok (.iconst 0, 1) := by decide +kernel
theorem dX10_joins__64 : decode cX10_joins_ 64 = .ok (.iaload, 1) := by decide +kernel
theorem dX10_joins__65 : decode cX10_joins_ 65 = .ok (.if_icmp .gt 15, 3) := by decide +kernel
theorem dX10_joins__68 : decode cX10_joins_ 68 = .ok (.aload_n 0, 1) := by decide +kernel
theorem dX10_joins__69 : decode cX10_joins_ 69 = .ok (.iload_n 3, 1) := by decide +kernel
theorem dX10_joins__70 : decode cX10_joins_ 70 = .ok (.iaload, 1) := by decide +kernel
theorem dX10_joins__71 : decode cX10_joins_ 71 = .ok (.iload 6, 2) := by decide +kernel
theorem dX10_joins__73 : decode cX10_joins_ 73 = .ok (.if_icmp .ne 7, 3) := by decide +kernel
theorem dX10_joins__76 : decode cX10_joins_ 76 = .ok (.iconst 1, 1) := by decide +kernel
theorem dX10_joins__77 : decode cX10_joins_ 77 = .ok (.goto 4, 3) := by decide +kernel
theorem dX10_joins__80 : decode cX10_joins_ 80 = .ok (.iconst 0, 1) := by decide +kernel
theorem dX10_joins__81 : decode cX10_joins_ 81 = .ok (.iadd, 1) := by decide +kernel
theorem dX10_joins__82 : decode cX10_joins_ 82 = .ok (.istore_n 3, 1) := by decide +kernel
theorem dX10_joins__83 : decode cX10_joins_ 83 = .ok (.iload 4, 2) := by decide +kernel
theorem dX10_joins__85 : decode cX10_joins_ 85 = .ok (.iload 4, 2) := by decide +kernel
theorem dX10_joins__87 : decode cX10_joins_ 87 = .ok (.aload_n 1, 1) := by decide +kernel
theorem dX10_joins__88 : decode cX10_joins_ 88 = .ok (.iconst 0, 1) := by decide +kernel
theorem dX10_joins__89 : decode cX10_joins_ 89 = .ok (.iaload, 1) := by decide +kernel
theorem dX10_joins__90 : decode cX10_joins_ 90 = .ok (.if_icmp .gt 16, 3) := by decide +kernel
theorem dX10_joins__93 : decode cX10_joins_ 93 = .ok (.aload_n 1, 1) := by decide +kernel
theorem dX10_joins__94 : decode cX10_joins_ 94 = .ok (.iload 4, 2) := by decide +kernel
theorem dX10_joins__96 : decode cX10_joins_ 96 = .ok (.iaload, 1) := by decide +kernel
theorem dX10_joins__97 : decode cX10_joins_ 97 = .ok (.iload 6, 2) := by decide +kernel
theorem dX10_joins__99 : decode cX10_joins_ 99 = .ok (.if_icmp .ne 7, 3) := by decide +kernel
theorem dX10_joins__102 : decode cX10_joins_ 102 = .ok (.iconst 1, 1) := by decide +kernel
theorem dX10_joins__103 : decode cX10_joins_ 103 = .ok (.goto 4, 3) := by decide +kernel
theorem dX10_joins__106 : decode cX10_joins_ 106 = .ok (.iconst 0, 1) := by decide +kernel
theorem dX10_joins__107 : decode cX10_joins_ 107 = .ok (.iadd, 1) := by decide +kernel
theorem dX10_joins__108 : decode cX10_joins_ 108 = .ok (.istore 4, 2) := by decide +kernel
theorem dX10_joins__110 : decode cX10_joins_ 110 = .ok (.iinc 5 1, 3) := by decide +kernel
theorem dX10_joins__113 : decode cX10_joins_ 113 = .ok (.aload_n 2, 1) := by decide +kernel
theorem dX10_joins__114 : decode cX10_joins_ 114 = .ok (.iload 5, 2) := by decide +kernel
theorem dX10_joins__116 : decode cX10_joins_ 116 = .ok (.iload 6, 2) := by decide +kernel
theorem dX10_joins__118 : decode cX10_joins_ 118 = .ok (.iastore, 1) := by decide +kernel
theorem dX10_joins__119 : decode cX10_joins_ 119 = .ok (.goto (-111), 3) := by decide +kernel
theorem dX10_joins__122 : decode cX10_joins_ 122 = .ok (.aload_n 2, 1) := by decide +kernel
theorem dX10_joins__123 : decode cX10_joins_ 123 = .ok (.iconst 0, 1) := by decide +kernel
theorem dX10_joins__124 : decode cX10_joins_ 124 = .ok (.iload 5, 2) := by decide +kernel
theorem dX10_joins__126 : decode cX10_joins_ 126 = .ok (.iastore, 1) := by decide +kernel
theorem dX10_joins__127 : decode cX10_joins_ 127 = .ok (.return_, 1) := by decide +kernel
def mwX10_joins_m : List Cond := .code yX10_joins_ cX10_joins_ 7 none :: ([])
set_option maxHeartbeats 4000000 in
set_option maxRecDepth 100000 in
theorem m_joinsR (l : Launch) (dC : Nat → ClassId) (dI : Nat → Nat → Nat) (ad : Nat → Nat) (kc : Nat → ClassId) (x0 x1 x2 x3 x4 x5 x6 x7 x8 x9 x10 x11 x12 x13 x14 x15 x16 x17 x18 x19 x20 x21 : Int32) (f0 f1 f2 f3 f4 f5 f6 f7 f8 f9 f10 f11 f12 f13 f14 f15 f16 f17 f18 f19 f20 f21 : Nat → Int32) (fL : Nat → Nat → Int64) (fN : Nat → Nat → Int32) (fP : Nat → Nat → Nat) (fM : Nat → Nat → Int32) (fO : Nat → Nat → Int32) (sz : Nat) (a1 a2 a3 : Nat) (q0 : IR a1) (q1 : IR a2) (q2 : IR a3) (q3 : a1 ≠ a3) (q4 : a2 ≠ a3) (q5 : 0 ≤ vI ((rO fN fM fO) a1) 0 ∧ 0 ≤ vI ((rO fN fM fO) a2) 0 ∧ vI ((rO fN fM fO) a1) 0 + vI ((rO fN fM fO) a2) 0 ≤ 168) : Met l yX10_joins_ mwX10_joins_m ({ frames := 0, cells := 0, slots := 0, locals := 0 }) (va_Pc [.ref (ad a1), .ref (ad a2), .ref (ad a3)] (fun U => U.heap.size = sz ∧ va_P (dC, dI) vwCl (mW ad kc x0 x1 x2 x3 x4 x5 x6 x7 x8 x9 x10 x11 x12 x13 x14 x15 x16 x17 x18 x19 x20 x21 f0 f1 f2 f3 f4 f5 f6 f7 f8 f9 f10 f11 f12 f13 f14 f15 f16 f17 f18 f19 f20 f21 fL fN fP fM fO) U.heap ∧ va_K (dC, dI) vwCl (mT kc) U ∧ va_D (fun _ => True) (mW ad kc x0 x1 x2 x3 x4 x5 x6 x7 x8 x9 x10 x11 x12 x13 x14 x15 x16 x17 x18 x19 x20 x21 f0 f1 f2 f3 f4 f5 f6 f7 f8 f9 f10 f11 f12 f13 f14 f15 f16 f17 f18 f19 f20 f21 fL fN fP fM fO))) (va_Qv (fun (_ : Unit) => True) (fun _ t => ∃ (Nn9 : Nat → Nat → Int32) (M9 : Nat → Nat → Int32) (O9 : Nat → Nat → Int32), (rFr (rO fN fM fO) (rO Nn9 M9 O9) a3) ∧ (0 ≤ vI ((rO Nn9 M9 O9) a3) 0 ∧ vI ((rO Nn9 M9 O9) a3) 0 ≤ vI ((rO fN fM fO) a1) 0 + vI ((rO fN fM fO) a2) 0) ∧ va_P (dC, dI) vwCl (mW ad kc x0 x1 x2 x3 x4 x5 x6 x7 x8 x9 x10 x11 x12 x13 x14 x15 x16 x17 x18 x19 x20 x21 f0 f1 f2 f3 f4 f5 f6 f7 f8 f9 f10 f11 f12 f13 f14 f15 f16 f17 f18 f19 f20 f21 fL Nn9 fP M9 O9) t.heap ∧ va_K (dC, dI) vwCl (mT kc) t ∧ va_D (va_A (mW ad kc x0 x1 x2 x3 x4 x5 x6 x7 x8 x9 x10 x11 x12 x13 x14 x15 x16 x17 x18 x19 x20 x21 f0 f1 f2 f3 f4 f5 f6 f7 f8 f9 f10 f11 f12 f13 f14 f15 f16 f17 f18 f19 f20 f21 fL fN fP fM fO) sz) (mW ad kc x0 x1 x2 x3 x4 x5 x6 x7 x8 x9 x10 x11 x12 x13 x14 x15 x16 x17 x18 x19 x20 x21 f0 f1 f2 f3 f4 f5 f6 f7 f8 f9 f10 f11 f12 f13 f14 f15 f16 f17 f18 f19 f20 f21 fL Nn9 fP M9 O9)) (va_A (mW ad kc x0 x1 x2 x3 x4 x5 x6 x7 x8 x9 x10 x11 x12 x13 x14 x15 x16 x17 x18 x19 x20 x21 f0 f1 f2 f3 f4 f5 f6 f7 f8 f9 f10 f11 f12 f13 f14 f15 f16 f17 f18 f19 f20 f21 fL fN fP fM fO) sz)) 0 0 (va_A (mW ad kc x0 x1 x2 x3 x4 x5 x6 x7 x8 x9 x10 x11 x12 x13 x14 x15 x16 x17 x18 x19 x20 x21 f0 f1 f2 f3 f4 f5 f6 f7 f8 f9 f10 f11 f12 f13 f14 f15 f16 f17 f18 f19 f20 f21 fL fN fP fM fO) sz) := by
  refine Met.ofW (cc := cX10_joins_) (maxL := 7) (ret := none) (by decide +kernel) rfl ?_
  intro p e s m args below meth c s₁ B hml hv
  obtain ⟨rfl, hsz, hP, hK, hD0⟩ := hv
  have hx := B.exec
  have hb := B.bytes
  have hr := B.returns
  have hts := atoms_spec (ws := mwX10_joins_m) B.pre
  have hown : s.vm.findClass RX10 = some m.cls := findClass_of_methodNamed B.named
  have hlocks := B.notSynchronized
  subst hsz
  have hD := hD0.self (sz := s.heap.size)
  generalize hAe : va_A (mW ad kc x0 x1 x2 x3 x4 x5 x6 x7 x8 x9 x10 x11 x12 x13 x14 x15 x16 x17 x18 x19 x20 x21 f0 f1 f2 f3 f4 f5 f6 f7 f8 f9 f10 f11 f12 f13 f14 f15 f16 f17 f18 f19 f20 f21 fL fN fP fM fO) s.heap.size = A at hD ⊢
  have hA : ∀ q : Nat, s.heap.size ≤ q → A q := fun q h => by rw [← hAe]; exact Or.inr h
  have hP : va_P (dC, dI) vwCl (mW ad kc x0 x1 x2 x3 x4 x5 x6 x7 x8 x9 x10 x11 x12 x13 x14 x15 x16 x17 x18 x19 x20 x21 f0 f1 f2 f3 f4 f5 f6 f7 f8 f9 f10 f11 f12 f13 f14 f15 f16 f17 f18 f19 f20 f21 fL fN fP fM fO) s.heap := hP
  have hD : va_D A (mW ad kc x0 x1 x2 x3 x4 x5 x6 x7 x8 x9 x10 x11 x12 x13 x14 x15 x16 x17 x18 x19 x20 x21 f0 f1 f2 f3 f4 f5 f6 f7 f8 f9 f10 f11 f12 f13 f14 f15 f16 f17 f18 f19 f20 f21 fL fN fP fM fO) := hD
  have hK : va_K (dC, dI) vwCl (mT kc) s := hK
  generalize hH : s.heap = H at hP ⊢
  have hS : va_S A s.heap H [] := by rw [← hH]; exact va_S.rf
  have hl := lv_entry ([.ref (ad a1), .ref (ad a2), .ref (ad a3)]) (n := 7) (Nat.le_of_ble_eq_true rfl)
  rw [lg_entry_eq]
  generalize (lg_sl ([.ref (ad a1), .ref (ad a2), .ref (ad a3)]) ++ List.replicate (7 - (lg_sl ([.ref (ad a1), .ref (ad a2), .ref (ad a3)])).length) Slot.unset).toArray = ls at hl ⊢
  have hl : lv_has ls 7 [(0, .ref (ad a1)), (1, .ref (ad a2)), (2, .ref (ad a3))] := hl
  refine lv_iconst (v := 1) hx hb dX10_joins__0 (by decide) ?_
  refine lv_istore_n (lv' := [(3, .int 1), (0, .ref (ad a1)), (1, .ref (ad a2)), (2, .ref (ad a3))]) hx hb dX10_joins__1 rfl hl (by decide) rfl (fun ls hl => ?_)
  refine lv_iconst (v := 1) hx hb dX10_joins__2 (by decide) ?_
  refine lv_istore (lv' := [(4, .int 1), (3, .int 1), (0, .ref (ad a1)), (1, .ref (ad a2)), (2, .ref (ad a3))]) hx hb dX10_joins__3 hl (by decide) rfl (fun ls hl => ?_)
  refine lv_iconst (v := 0) hx hb dX10_joins__5 (by decide) ?_
  refine lv_istore (lv' := [(5, .int 0), (4, .int 1), (3, .int 1), (0, .ref (ad a1)), (1, .ref (ad a2)), (2, .ref (ad a3))]) hx hb dX10_joins__6 hl (by decide) rfl (fun ls hl => ?_)
  have loop8 : ∀ (lm8 : Nat) (ii kk nn : Int32) (hn : Nat → Nat → Int32) (hm : Nat → Nat → Int32) (ho : Nat → Nat → Int32), (1 ≤ ii.toInt) → (ii.toInt ≤ vI ((rO fN fM fO) a1) 0 + 1) → (1 ≤ kk.toInt) → (kk.toInt ≤ vI ((rO fN fM fO) a2) 0 + 1) → (0 ≤ nn.toInt) → (nn.toInt ≤ ii.toInt + kk.toInt - 2) → (rFr (rO fN fM fO) (rO hn hm ho) a3) → ((vI ((rO fN fM fO) a1) 0 + vI ((rO fN fM fO) a2) 0 + 2 - ii.toInt - kk.toInt).toNat) < lm8 → ∀ (H : Heap) (locs : List Loc) (ls : Array Slot), va_P (dC, dI) vwCl (mW ad kc x0 x1 x2 x3 x4 x5 x6 x7 x8 x9 x10 x11 x12 x13 x14 x15 x16 x17 x18 x19 x20 x21 f0 f1 f2 f3 f4 f5 f6 f7 f8 f9 f10 f11 f12 f13 f14 f15 f16 f17 f18 f19 f20 f21 fL hn fP hm ho) H → va_D A (mW ad kc x0 x1 x2 x3 x4 x5 x6 x7 x8 x9 x10 x11 x12 x13 x14 x15 x16 x17 x18 x19 x20 x21 f0 f1 f2 f3 f4 f5 f6 f7 f8 f9 f10 f11 f12 f13 f14 f15 f16 f17 f18 f19 f20 f21 fL hn fP hm ho) → va_S A s.heap H locs → lv_has ls 7 [(5, .int nn), (4, .int kk), (3, .int ii), (0, .ref (ad a1)), (1, .ref (ad a2)), (2, .ref (ad a3))] → W p l e (headSpec mwX10_joins_m ({ frames := 0, cells := 0, slots := 0, locals := 0 })).room s m ([.ref (ad a1), .ref (ad a2), .ref (ad a3)]).toArray below meth c H locs 0 0 (MQ below (va_Qv (fun (_ : Unit) => True) (fun _ t => ∃ (Nn9 : Nat → Nat → Int32) (M9 : Nat → Nat → Int32) (O9 : Nat → Nat → Int32), (rFr (rO fN fM fO) (rO Nn9 M9 O9) a3) ∧ (0 ≤ vI ((rO Nn9 M9 O9) a3) 0 ∧ vI ((rO Nn9 M9 O9) a3) 0 ≤ vI ((rO fN fM fO) a1) 0 + vI ((rO fN fM fO) a2) 0) ∧ va_P (dC, dI) vwCl (mW ad kc x0 x1 x2 x3 x4 x5 x6 x7 x8 x9 x10 x11 x12 x13 x14 x15 x16 x17 x18 x19 x20 x21 f0 f1 f2 f3 f4 f5 f6 f7 f8 f9 f10 f11 f12 f13 f14 f15 f16 f17 f18 f19 f20 f21 fL Nn9 fP M9 O9) t.heap ∧ va_K (dC, dI) vwCl (mT kc) t ∧ va_D A (mW ad kc x0 x1 x2 x3 x4 x5 x6 x7 x8 x9 x10 x11 x12 x13 x14 x15 x16 x17 x18 x19 x20 x21 f0 f1 f2 f3 f4 f5 f6 f7 f8 f9 f10 f11 f12 f13 f14 f15 f16 f17 f18 f19 f20 f21 fL Nn9 fP M9 O9)) A) ([.ref (ad a1), .ref (ad a2), .ref (ad a3)]).toArray s 0 0 A) (F0 m 8 ls []) := by
    intro lm8
    induction lm8 with
    | zero => intro ii kk nn hn hm ho v8_0 v8_1 v8_2 v8_3 v8_4 v8_5 v8_6 hm8; exact absurd hm8 (Nat.not_lt_zero _)
    | succ lm8 ih8 =>
      intro ii kk nn hn hm ho v8_0 v8_1 v8_2 v8_3 v8_4 v8_5 v8_6 hm8 H locs ls hP hD hS hl
      have rg_ii := i_rng ii
      have rg_kk := i_rng kk
      have rg_nn := i_rng nn
      refine lv_iload_n hx hb dX10_joins__8 rfl (lv_at hl 2 rfl) ?_
      refine lv_aload_n hx hb dX10_joins__9 rfl (lv_at hl 3 rfl) ?_
      refine lv_iconst (v := 0) hx hb dX10_joins__10 (by decide) ?_
      refine va_iald hx hb hK hP (rPos (a1)) (rTy (a1)) (mW_R (by first | assumption | (unfold IR; omega))) (mT_R _) (i := 0) (by unfold vp_in; decide +kernel) dX10_joins__11 ?_
      refine lv_topi (fun y_1 ey_1 => ?_)
      have rg_y_1 := i_rng y_1
      have vy_1 := vI_lda (f := (rO hn hm ho) a1) (i := 0) (a := 0) ey_1 (by first | omega | decide)
      have wy_1 := vI_cg (z := 0) (v8_6 a1 q0 q3)
      refine lv_icmp_le (tgt := 23) hx hb dX10_joins__12 (by decide) (fun k_2 => ?_) (fun k_2 => ?_)
      · have tk_2 := c_le (a := ii.toInt) (b := y_1.toInt) rfl rfl k_2
        refine lv_iload hx hb dX10_joins__23 (lv_at hl 1 rfl) ?_
        refine lv_aload_n hx hb dX10_joins__25 rfl (lv_at hl 4 rfl) ?_
        refine lv_iconst (v := 0) hx hb dX10_joins__26 (by decide) ?_
        refine va_iald hx hb hK hP (rPos (a2)) (rTy (a2)) (mW_R (by first | assumption | (unfold IR; omega))) (mT_R _) (i := 0) (by unfold vp_in; decide +kernel) dX10_joins__27 ?_
        refine lv_topi (fun y_3 ey_3 => ?_)
        have rg_y_3 := i_rng y_3
        have vy_3 := vI_lda (f := (rO hn hm ho) a2) (i := 0) (a := 0) ey_3 (by first | omega | decide)
        have wy_3 := vI_cg (z := 0) (v8_6 a2 q1 q4)
        refine lv_icmp_gt (tgt := 48) hx hb dX10_joins__28 (by decide) (fun k_4 => ?_) (fun k_4 => ?_)
        · have tk_4 := c_gt (a := kk.toInt) (b := y_3.toInt) rfl rfl k_4
          refine lv_aload_n hx hb dX10_joins__48 rfl (lv_at hl 3 rfl) ?_
          refine lv_iload_n hx hb dX10_joins__49 rfl (lv_at hl 2 rfl) ?_
          refine va_iald hx hb hK hP (rPos (a1)) (rTy (a1)) (mW_R (by first | assumption | (unfold IR; omega))) (mT_R _) (i := ii) (vp_of (a := ii.toInt) rfl (by omega) (by omega)) dX10_joins__50 ?_
          refine lv_topi (fun y_5 ey_5 => ?_)
          have rg_y_5 := i_rng y_5
          have vy_5 := vI_lda (f := (rO hn hm ho) a1) (i := ii) (a := ii.toInt) ey_5 (by first | omega | decide)
          have wy_5 := vI_cg (z := ii.toInt) (v8_6 a1 q0 q3)
          refine lv_goto (tgt := 58) hx hb dX10_joins__51 (by decide) ?_
          refine lv_istore (lv' := [(6, .int y_5), (5, .int nn), (4, .int kk), (3, .int ii), (0, .ref (ad a1)), (1, .ref (ad a2)), (2, .ref (ad a3))]) hx hb dX10_joins__58 hl (by decide) rfl (fun ls hl => ?_)
          refine lv_iload_n hx hb dX10_joins__60 rfl (lv_at hl 3 rfl) ?_
          refine lv_iload_n hx hb dX10_joins__61 rfl (lv_at hl 3 rfl) ?_
          refine lv_aload_n hx hb dX10_joins__62 rfl (lv_at hl 4 rfl) ?_
          refine lv_iconst (v := 0) hx hb dX10_joins__63 (by decide) ?_
          refine va_iald hx hb hK hP (rPos (a1)) (rTy (a1)) (mW_R (by first | assumption | (unfold IR; omega))) (mT_R _) (i := 0) (by unfold vp_in; decide +kernel) dX10_joins__64 ?_
          refine lv_topi (fun y_6 ey_6 => ?_)
          have rg_y_6 := i_rng y_6
          have vy_6 := vI_lda (f := (rO hn hm ho) a1) (i := 0) (a := 0) ey_6 (by first | omega | decide)
          have wy_6 := vI_cg (z := 0) (v8_6 a1 q0 q3)
          refine lv_icmp_gt (tgt := 80) hx hb dX10_joins__65 (by decide) (fun k_7 => ?_) (fun k_7 => ?_)
          · have tk_7 := c_gt (a := ii.toInt) (b := y_6.toInt) rfl rfl k_7
            refine lv_iconst (v := 0) hx hb dX10_joins__80 (by decide) ?_
            refine lv_iadd hx hb dX10_joins__81 ?_
            refine lv_topi (fun y_8 ey_8 => ?_)
            first | have ty_8 := i_add (a := ii.toInt) (b := 0) rfl (by decide) ey_8 (by omega) (by omega) | skip
            refine lv_istore_n (lv' := [(3, .int y_8), (6, .int y_5), (5, .int nn), (4, .int kk), (0, .ref (ad a1)), (1, .ref (ad a2)), (2, .ref (ad a3))]) hx hb dX10_joins__82 rfl hl (by decide) rfl (fun ls hl => ?_)
            refine lv_iload hx hb dX10_joins__83 (lv_at hl 3 rfl) ?_
            refine lv_iload hx hb dX10_joins__85 (lv_at hl 3 rfl) ?_
            refine lv_aload_n hx hb dX10_joins__87 rfl (lv_at hl 5 rfl) ?_
            refine lv_iconst (v := 0) hx hb dX10_joins__88 (by decide) ?_
            refine va_iald hx hb hK hP (rPos (a2)) (rTy (a2)) (mW_R (by first | assumption | (unfold IR; omega))) (mT_R _) (i := 0) (by unfold vp_in; decide +kernel) dX10_joins__89 ?_
            refine lv_topi (fun y_9 ey_9 => ?_)
            have rg_y_9 := i_rng y_9
            have vy_9 := vI_lda (f := (rO hn hm ho) a2) (i := 0) (a := 0) ey_9 (by first | omega | decide)
            have wy_9 := vI_cg (z := 0) (v8_6 a2 q1 q4)
            refine lv_icmp_gt (tgt := 106) hx hb dX10_joins__90 (by decide) (fun k_10 => ?_) (fun k_10 => ?_)
            · have tk_10 := c_gt (a := kk.toInt) (b := y_9.toInt) rfl rfl k_10
              refine lv_iconst (v := 0) hx hb dX10_joins__106 (by decide) ?_
              refine lv_iadd hx hb dX10_joins__107 ?_
              refine lv_topi (fun y_11 ey_11 => ?_)
              first | have ty_11 := i_add (a := kk.toInt) (b := 0) rfl (by decide) ey_11 (by omega) (by omega) | skip
              refine lv_istore (lv' := [(4, .int y_11), (3, .int y_8), (6, .int y_5), (5, .int nn), (0, .ref (ad a1)), (1, .ref (ad a2)), (2, .ref (ad a3))]) hx hb dX10_joins__108 hl (by decide) rfl (fun ls hl => ?_)
              obtain ⟨y_12, ey_12⟩ : ∃ y : Int32, y = nn + 1 := ⟨_, rfl⟩
              first | have ty_12 := i_add (a := nn.toInt) (b := 1) rfl (by decide) ey_12 (by omega) (by omega) | skip
              refine lv_iinc (v := y_12) (lv' := [(5, .int y_12), (4, .int y_11), (3, .int y_8), (6, .int y_5), (0, .ref (ad a1)), (1, .ref (ad a2)), (2, .ref (ad a3))]) hx hb dX10_joins__110 hl (k := 3) rfl (by rw [ey_12]; rfl) (by decide) rfl (fun ls hl => ?_)
              refine lv_aload_n hx hb dX10_joins__113 rfl (lv_at hl 6 rfl) ?_
              refine lv_iload hx hb dX10_joins__114 (lv_at hl 0 rfl) ?_
              refine lv_iload hx hb dX10_joins__116 (lv_at hl 3 rfl) ?_
              refine va_iast hx hb hK hP hD hS (rPos (a3)) (rTy (a3)) (mW_R (by first | assumption | (unfold IR; omega))) (mT_R _) (i := y_12) (vp_of (a := y_12.toInt) rfl (by omega) (by omega)) dX10_joins__118 (fun H locs hP hD hS => ?_)
              obtain ⟨n_13, m_14, o_15, hP, hD, wu_16⟩ := mW_Rx (by first | assumption | (unfold IR; omega)) hP hD
              have u_16 := rU_v (x := (nn.toInt + 1)) (y := y_5.toInt) wu_16 (by first | assumption | (unfold IR; omega)) (by first | omega | decide) (by omega) rfl
              have hP : va_P (dC, dI) vwCl (mW ad kc x0 x1 x2 x3 x4 x5 x6 x7 x8 x9 x10 x11 x12 x13 x14 x15 x16 x17 x18 x19 x20 x21 f0 f1 f2 f3 f4 f5 f6 f7 f8 f9 f10 f11 f12 f13 f14 f15 f16 f17 f18 f19 f20 f21 fL n_13 fP m_14 o_15) H := hP
              have hD : va_D A (mW ad kc x0 x1 x2 x3 x4 x5 x6 x7 x8 x9 x10 x11 x12 x13 x14 x15 x16 x17 x18 x19 x20 x21 f0 f1 f2 f3 f4 f5 f6 f7 f8 f9 f10 f11 f12 f13 f14 f15 f16 f17 f18 f19 f20 f21 fL n_13 fP m_14 o_15) := hD
              refine lv_goto (tgt := 8) hx hb dX10_joins__119 (by decide) ?_
              exact ih8 y_8 y_11 y_12 n_13 m_14 o_15 (by first | omega | assumption | decide) (by first | omega | assumption | decide) (by first | omega | assumption | decide) (by first | omega | assumption | decide) (by first | omega | assumption | decide) (by first | omega | assumption | decide) (fun c h1 h2 => (u_16.2 c h1 h2).trans (v8_6 c h1 h2)) (by omega) _ _ ls hP hD hS (lv_sub hl [0, 1, 2, 4, 5, 6] rfl)
            · have tk_10 := c_ngt (a := kk.toInt) (b := y_9.toInt) rfl rfl k_10
              refine lv_aload_n hx hb dX10_joins__93 rfl (lv_at hl 5 rfl) ?_
              refine lv_iload hx hb dX10_joins__94 (lv_at hl 3 rfl) ?_
              refine va_iald hx hb hK hP (rPos (a2)) (rTy (a2)) (mW_R (by first | assumption | (unfold IR; omega))) (mT_R _) (i := kk) (vp_of (a := kk.toInt) rfl (by omega) (by omega)) dX10_joins__96 ?_
              refine lv_topi (fun y_17 ey_17 => ?_)
              have rg_y_17 := i_rng y_17
              have vy_17 := vI_lda (f := (rO hn hm ho) a2) (i := kk) (a := kk.toInt) ey_17 (by first | omega | decide)
              have wy_17 := vI_cg (z := kk.toInt) (v8_6 a2 q1 q4)
              refine lv_iload hx hb dX10_joins__97 (lv_at hl 1 rfl) ?_
              refine lv_icmp_ne (tgt := 106) hx hb dX10_joins__99 (by decide) (fun k_18 => ?_) (fun k_18 => ?_)
              · have tk_18 := c_ne (a := y_17.toInt) (b := y_5.toInt) rfl rfl k_18
                refine lv_iconst (v := 0) hx hb dX10_joins__106 (by decide) ?_
                refine lv_iadd hx hb dX10_joins__107 ?_
                refine lv_topi (fun y_19 ey_19 => ?_)
                first | have ty_19 := i_add (a := kk.toInt) (b := 0) rfl (by decide) ey_19 (by omega) (by omega) | skip
                refine lv_istore (lv' := [(4, .int y_19), (3, .int y_8), (6, .int y_5), (5, .int nn), (0, .ref (ad a1)), (1, .ref (ad a2)), (2, .ref (ad a3))]) hx hb dX10_joins__108 hl (by decide) rfl (fun ls hl => ?_)
                obtain ⟨y_20, ey_20⟩ : ∃ y : Int32, y = nn + 1 := ⟨_, rfl⟩
                first | have ty_20 := i_add (a := nn.toInt) (b := 1) rfl (by decide) ey_20 (by omega) (by omega) | skip
                refine lv_iinc (v := y_20) (lv' := [(5, .int y_20), (4, .int y_19), (3, .int y_8), (6, .int y_5), (0, .ref (ad a1)), (1, .ref (ad a2)), (2, .ref (ad a3))]) hx hb dX10_joins__110 hl (k := 3) rfl (by rw [ey_20]; rfl) (by decide) rfl (fun ls hl => ?_)
                refine lv_aload_n hx hb dX10_joins__113 rfl (lv_at hl 6 rfl) ?_
                refine lv_iload hx hb dX10_joins__114 (lv_at hl 0 rfl) ?_
                refine lv_iload hx hb dX10_joins__116 (lv_at hl 3 rfl) ?_
                refine va_iast hx hb hK hP hD hS (rPos (a3)) (rTy (a3)) (mW_R (by first | assumption | (unfold IR; omega))) (mT_R _) (i := y_20) (vp_of (a := y_20.toInt) rfl (by omega) (by omega)) dX10_joins__118 (fun H locs hP hD hS => ?_)
                obtain ⟨n_21, m_22, o_23, hP, hD, wu_24⟩ := mW_Rx (by first | assumption | (unfold IR; omega)) hP hD
                have u_24 := rU_v (x := (nn.toInt + 1)) (y := y_5.toInt) wu_24 (by first | assumption | (unfold IR; omega)) (by first | omega | decide) (by omega) rfl
                have hP : va_P (dC, dI) vwCl (mW ad kc x0 x1 x2 x3 x4 x5 x6 x7 x8 x9 x10 x11 x12 x13 x14 x15 x16 x17 x18 x19 x20 x21 f0 f1 f2 f3 f4 f5 f6 f7 f8 f9 f10 f11 f12 f13 f14 f15 f16 f17 f18 f19 f20 f21 fL n_21 fP m_22 o_23) H := hP
                have hD : va_D A (mW ad kc x0 x1 x2 x3 x4 x5 x6 x7 x8 x9 x10 x11 x12 x13 x14 x15 x16 x17 x18 x19 x20 x21 f0 f1 f2 f3 f4 f5 f6 f7 f8 f9 f10 f11 f12 f13 f14 f15 f16 f17 f18 f19 f20 f21 fL n_21 fP m_22 o_23) := hD
                refine lv_goto (tgt := 8) hx hb dX10_joins__119 (by decide) ?_
                exact ih8 y_8 y_19 y_20 n_21 m_22 o_23 (by first | omega | assumption | decide) (by first | omega | assumption | decide) (by first | omega | assumption | decide) (by first | omega | assumption | decide) (by first | omega | assumption | decide) (by first | omega | assumption | decide) (fun c h1 h2 => (u_24.2 c h1 h2).trans (v8_6 c h1 h2)) (by omega) _ _ ls hP hD hS (lv_sub hl [0, 1, 2, 4, 5, 6] rfl)
              · have tk_18 := c_eq (a := y_17.toInt) (b := y_5.toInt) rfl rfl k_18
                refine lv_iconst (v := 1) hx hb dX10_joins__102 (by decide) ?_
                refine lv_goto (tgt := 107) hx hb dX10_joins__103 (by decide) ?_
                refine lv_iadd hx hb dX10_joins__107 ?_
                refine lv_topi (fun y_25 ey_25 => ?_)
                first | have ty_25 := i_add (a := kk.toInt) (b := 1) rfl (by decide) ey_25 (by omega) (by omega) | skip
                refine lv_istore (lv' := [(4, .int y_25), (3, .int y_8), (6, .int y_5), (5, .int nn), (0, .ref (ad a1)), (1, .ref (ad a2)), (2, .ref (ad a3))]) hx hb dX10_joins__108 hl (by decide) rfl (fun ls hl => ?_)
                obtain ⟨y_26, ey_26⟩ : ∃ y : Int32, y = nn + 1 := ⟨_, rfl⟩
                first | have ty_26 := i_add (a := nn.toInt) (b := 1) rfl (by decide) ey_26 (by omega) (by omega) | skip
                refine lv_iinc (v := y_26) (lv' := [(5, .int y_26), (4, .int y_25), (3, .int y_8), (6, .int y_5), (0, .ref (ad a1)), (1, .ref (ad a2)), (2, .ref (ad a3))]) hx hb dX10_joins__110 hl (k := 3) rfl (by rw [ey_26]; rfl) (by decide) rfl (fun ls hl => ?_)
                refine lv_aload_n hx hb dX10_joins__113 rfl (lv_at hl 6 rfl) ?_
                refine lv_iload hx hb dX10_joins__114 (lv_at hl 0 rfl) ?_
                refine lv_iload hx hb dX10_joins__116 (lv_at hl 3 rfl) ?_
                refine va_iast hx hb hK hP hD hS (rPos (a3)) (rTy (a3)) (mW_R (by first | assumption | (unfold IR; omega))) (mT_R _) (i := y_26) (vp_of (a := y_26.toInt) rfl (by omega) (by omega)) dX10_joins__118 (fun H locs hP hD hS => ?_)
                obtain ⟨n_27, m_28, o_29, hP, hD, wu_30⟩ := mW_Rx (by first | assumption | (unfold IR; omega)) hP hD
                have u_30 := rU_v (x := (nn.toInt + 1)) (y := y_5.toInt) wu_30 (by first | assumption | (unfold IR; omega)) (by first | omega | decide) (by omega) rfl
                have hP : va_P (dC, dI) vwCl (mW ad kc x0 x1 x2 x3 x4 x5 x6 x7 x8 x9 x10 x11 x12 x13 x14 x15 x16 x17 x18 x19 x20 x21 f0 f1 f2 f3 f4 f5 f6 f7 f8 f9 f10 f11 f12 f13 f14 f15 f16 f17 f18 f19 f20 f21 fL n_27 fP m_28 o_29) H := hP
                have hD : va_D A (mW ad kc x0 x1 x2 x3 x4 x5 x6 x7 x8 x9 x10 x11 x12 x13 x14 x15 x16 x17 x18 x19 x20 x21 f0 f1 f2 f3 f4 f5 f6 f7 f8 f9 f10 f11 f12 f13 f14 f15 f16 f17 f18 f19 f20 f21 fL n_27 fP m_28 o_29) := hD
                refine lv_goto (tgt := 8) hx hb dX10_joins__119 (by decide) ?_
                exact ih8 y_8 y_25 y_26 n_27 m_28 o_29 (by first | omega | assumption | decide) (by first | omega | assumption | decide) (by first | omega | assumption | decide) (by first | omega | assumption | decide) (by first | omega | assumption | decide) (by first | omega | assumption | decide) (fun c h1 h2 => (u_30.2 c h1 h2).trans (v8_6 c h1 h2)) (by omega) _ _ ls hP hD hS (lv_sub hl [0, 1, 2, 4, 5, 6] rfl)
          · have tk_7 := c_ngt (a := ii.toInt) (b := y_6.toInt) rfl rfl k_7
            refine lv_aload_n hx hb dX10_joins__68 rfl (lv_at hl 4 rfl) ?_
            refine lv_iload_n hx hb dX10_joins__69 rfl (lv_at hl 3 rfl) ?_
            refine va_iald hx hb hK hP (rPos (a1)) (rTy (a1)) (mW_R (by first | assumption | (unfold IR; omega))) (mT_R _) (i := ii) (vp_of (a := ii.toInt) rfl (by omega) (by omega)) dX10_joins__70 ?_
            refine lv_topi (fun y_31 ey_31 => ?_)
            have rg_y_31 := i_rng y_31
            have vy_31 := vI_lda (f := (rO hn hm ho) a1) (i := ii) (a := ii.toInt) ey_31 (by first | omega | decide)
            have wy_31 := vI_cg (z := ii.toInt) (v8_6 a1 q0 q3)
            refine lv_iload hx hb dX10_joins__71 (lv_at hl 0 rfl) ?_
            refine lv_icmp_ne (tgt := 80) hx hb dX10_joins__73 (by decide) (fun k_32 => ?_) (fun k_32 => ?_)
            · have tk_32 := c_ne (a := y_31.toInt) (b := y_5.toInt) rfl rfl k_32
              refine lv_iconst (v := 0) hx hb dX10_joins__80 (by decide) ?_
              refine lv_iadd hx hb dX10_joins__81 ?_
              refine lv_topi (fun y_33 ey_33 => ?_)
              first | have ty_33 := i_add (a := ii.toInt) (b := 0) rfl (by decide) ey_33 (by omega) (by omega) | skip
              refine lv_istore_n (lv' := [(3, .int y_33), (6, .int y_5), (5, .int nn), (4, .int kk), (0, .ref (ad a1)), (1, .ref (ad a2)), (2, .ref (ad a3))]) hx hb dX10_joins__82 rfl hl (by decide) rfl (fun ls hl => ?_)
              refine lv_iload hx hb dX10_joins__83 (lv_at hl 3 rfl) ?_
              refine lv_iload hx hb dX10_joins__85 (lv_at hl 3 rfl) ?_
              refine lv_aload_n hx hb dX10_joins__87 rfl (lv_at hl 5 rfl) ?_
              refine lv_iconst (v := 0) hx hb dX10_joins__88 (by decide) ?_
              refine va_iald hx hb hK hP (rPos (a2)) (rTy (a2)) (mW_R (by first | assumption | (unfold IR; omega))) (mT_R _) (i := 0) (by unfold vp_in; decide +kernel) dX10_joins__89 ?_
              refine lv_topi (fun y_34 ey_34 => ?_)
              have rg_y_34 := i_rng y_34
              have vy_34 := vI_lda (f := (rO hn hm ho) a2) (i := 0) (a := 0) ey_34 (by first | omega | decide)
              have wy_34 := vI_cg (z := 0) (v8_6 a2 q1 q4)
              refine lv_icmp_gt (tgt := 106) hx hb dX10_joins__90 (by decide) (fun k_35 => ?_) (fun k_35 => ?_)
              · have tk_35 := c_gt (a := kk.toInt) (b := y_34.toInt) rfl rfl k_35
                refine lv_iconst (v := 0) hx hb dX10_joins__106 (by decide) ?_
                refine lv_iadd hx hb dX10_joins__107 ?_
                refine lv_topi (fun y_36 ey_36 => ?_)
                first | have ty_36 := i_add (a := kk.toInt) (b := 0) rfl (by decide) ey_36 (by omega) (by omega) | skip
                refine lv_istore (lv' := [(4, .int y_36), (3, .int y_33), (6, .int y_5), (5, .int nn), (0, .ref (ad a1)), (1, .ref (ad a2)), (2, .ref (ad a3))]) hx hb dX10_joins__108 hl (by decide) rfl (fun ls hl => ?_)
                obtain ⟨y_37, ey_37⟩ : ∃ y : Int32, y = nn + 1 := ⟨_, rfl⟩
                first | have ty_37 := i_add (a := nn.toInt) (b := 1) rfl (by decide) ey_37 (by omega) (by omega) | skip
                refine lv_iinc (v := y_37) (lv' := [(5, .int y_37), (4, .int y_36), (3, .int y_33), (6, .int y_5), (0, .ref (ad a1)), (1, .ref (ad a2)), (2, .ref (ad a3))]) hx hb dX10_joins__110 hl (k := 3) rfl (by rw [ey_37]; rfl) (by decide) rfl (fun ls hl => ?_)
                refine lv_aload_n hx hb dX10_joins__113 rfl (lv_at hl 6 rfl) ?_
                refine lv_iload hx hb dX10_joins__114 (lv_at hl 0 rfl) ?_
                refine lv_iload hx hb dX10_joins__116 (lv_at hl 3 rfl) ?_
                refine va_iast hx hb hK hP hD hS (rPos (a3)) (rTy (a3)) (mW_R (by first | assumption | (unfold IR; omega))) (mT_R _) (i := y_37) (vp_of (a := y_37.toInt) rfl (by omega) (by omega)) dX10_joins__118 (fun H locs hP hD hS => ?_)
                obtain ⟨n_38, m_39, o_40, hP, hD, wu_41⟩ := mW_Rx (by first | assumption | (unfold IR; omega)) hP hD
                have u_41 := rU_v (x := (nn.toInt + 1)) (y := y_5.toInt) wu_41 (by first | assumption | (unfold IR; omega)) (by first | omega | decide) (by omega) rfl
                have hP : va_P (dC, dI) vwCl (mW ad kc x0 x1 x2 x3 x4 x5 x6 x7 x8 x9 x10 x11 x12 x13 x14 x15 x16 x17 x18 x19 x20 x21 f0 f1 f2 f3 f4 f5 f6 f7 f8 f9 f10 f11 f12 f13 f14 f15 f16 f17 f18 f19 f20 f21 fL n_38 fP m_39 o_40) H := hP
                have hD : va_D A (mW ad kc x0 x1 x2 x3 x4 x5 x6 x7 x8 x9 x10 x11 x12 x13 x14 x15 x16 x17 x18 x19 x20 x21 f0 f1 f2 f3 f4 f5 f6 f7 f8 f9 f10 f11 f12 f13 f14 f15 f16 f17 f18 f19 f20 f21 fL n_38 fP m_39 o_40) := hD
                refine lv_goto (tgt := 8) hx hb dX10_joins__119 (by decide) ?_
                exact ih8 y_33 y_36 y_37 n_38 m_39 o_40 (by first | omega | assumption | decide) (by first | omega | assumption | decide) (by first | omega | assumption | decide) (by first | omega | assumption | decide) (by first | omega | assumption | decide) (by first | omega | assumption | decide) (fun c h1 h2 => (u_41.2 c h1 h2).trans (v8_6 c h1 h2)) (by omega) _ _ ls hP hD hS (lv_sub hl [0, 1, 2, 4, 5, 6] rfl)
              · have tk_35 := c_ngt (a := kk.toInt) (b := y_34.toInt) rfl rfl k_35
                refine lv_aload_n hx hb dX10_joins__93 rfl (lv_at hl 5 rfl) ?_
                refine lv_iload hx hb dX10_joins__94 (lv_at hl 3 rfl) ?_
                refine va_iald hx hb hK hP (rPos (a2)) (rTy (a2)) (mW_R (by first | assumption | (unfold IR; omega))) (mT_R _) (i := kk) (vp_of (a := kk.toInt) rfl (by omega) (by omega)) dX10_joins__96 ?_
                refine lv_topi (fun y_42 ey_42 => ?_)
                have rg_y_42 := i_rng y_42
                have vy_42 := vI_lda (f := (rO hn hm ho) a2) (i := kk) (a := kk.toInt) ey_42 (by first | omega | decide)
                have wy_42 := vI_cg (z := kk.toInt) (v8_6 a2 q1 q4)
                refine lv_iload hx hb dX10_joins__97 (lv_at hl 1 rfl) ?_
                refine lv_icmp_ne (tgt := 106) hx hb dX10_joins__99 (by decide) (fun k_43 => ?_) (fun k_43 => ?_)
                · have tk_43 := c_ne (a := y_42.toInt) (b := y_5.toInt) rfl rfl k_43
                  refine lv_iconst (v := 0) hx hb dX10_joins__106 (by decide) ?_
                  refine lv_iadd hx hb dX10_joins__107 ?_
                  refine lv_topi (fun y_44 ey_44 => ?_)
                  first | have ty_44 := i_add (a := kk.toInt) (b := 0) rfl (by decide) ey_44 (by omega) (by omega) | skip
                  refine lv_istore (lv' := [(4, .int y_44), (3, .int y_33), (6, .int y_5), (5, .int nn), (0, .ref (ad a1)), (1, .ref (ad a2)), (2, .ref (ad a3))]) hx hb dX10_joins__108 hl (by decide) rfl (fun ls hl => ?_)
                  obtain ⟨y_45, ey_45⟩ : ∃ y : Int32, y = nn + 1 := ⟨_, rfl⟩
                  first | have ty_45 := i_add (a := nn.toInt) (b := 1) rfl (by decide) ey_45 (by omega) (by omega) | skip
                  refine lv_iinc (v := y_45) (lv' := [(5, .int y_45), (4, .int y_44), (3, .int y_33), (6, .int y_5), (0, .ref (ad a1)), (1, .ref (ad a2)), (2, .ref (ad a3))]) hx hb dX10_joins__110 hl (k := 3) rfl (by rw [ey_45]; rfl) (by decide) rfl (fun ls hl => ?_)
                  refine lv_aload_n hx hb dX10_joins__113 rfl (lv_at hl 6 rfl) ?_
                  refine lv_iload hx hb dX10_joins__114 (lv_at hl 0 rfl) ?_
                  refine lv_iload hx hb dX10_joins__116 (lv_at hl 3 rfl) ?_
                  refine va_iast hx hb hK hP hD hS (rPos (a3)) (rTy (a3)) (mW_R (by first | assumption | (unfold IR; omega))) (mT_R _) (i := y_45) (vp_of (a := y_45.toInt) rfl (by omega) (by omega)) dX10_joins__118 (fun H locs hP hD hS => ?_)
                  obtain ⟨n_46, m_47, o_48, hP, hD, wu_49⟩ := mW_Rx (by first | assumption | (unfold IR; omega)) hP hD
                  have u_49 := rU_v (x := (nn.toInt + 1)) (y := y_5.toInt) wu_49 (by first | assumption | (unfold IR; omega)) (by first | omega | decide) (by omega) rfl
                  have hP : va_P (dC, dI) vwCl (mW ad kc x0 x1 x2 x3 x4 x5 x6 x7 x8 x9 x10 x11 x12 x13 x14 x15 x16 x17 x18 x19 x20 x21 f0 f1 f2 f3 f4 f5 f6 f7 f8 f9 f10 f11 f12 f13 f14 f15 f16 f17 f18 f19 f20 f21 fL n_46 fP m_47 o_48) H := hP
                  have hD : va_D A (mW ad kc x0 x1 x2 x3 x4 x5 x6 x7 x8 x9 x10 x11 x12 x13 x14 x15 x16 x17 x18 x19 x20 x21 f0 f1 f2 f3 f4 f5 f6 f7 f8 f9 f10 f11 f12 f13 f14 f15 f16 f17 f18 f19 f20 f21 fL n_46 fP m_47 o_48) := hD
                  refine lv_goto (tgt := 8) hx hb dX10_joins__119 (by decide) ?_
                  exact ih8 y_33 y_44 y_45 n_46 m_47 o_48 (by first | omega | assumption | decide) (by first | omega | assumption | decide) (by first | omega | assumption | decide) (by first | omega | assumption | decide) (by first | omega | assumption | decide) (by first | omega | assumption | decide) (fun c h1 h2 => (u_49.2 c h1 h2).trans (v8_6 c h1 h2)) (by omega) _ _ ls hP hD hS (lv_sub hl [0, 1, 2, 4, 5, 6] rfl)
                · have tk_43 := c_eq (a := y_42.toInt) (b := y_5.toInt) rfl rfl k_43
                  refine lv_iconst (v := 1) hx hb dX10_joins__102 (by decide) ?_
                  refine lv_goto (tgt := 107) hx hb dX10_joins__103 (by decide) ?_
                  refine lv_iadd hx hb dX10_joins__107 ?_
                  refine lv_topi (fun y_50 ey_50 => ?_)
                  first | have ty_50 := i_add (a := kk.toInt) (b := 1) rfl (by decide) ey_50 (by omega) (by omega) | skip
                  refine lv_istore (lv' := [(4, .int y_50), (3, .int y_33), (6, .int y_5), (5, .int nn), (0, .ref (ad a1)), (1, .ref (ad a2)), (2, .ref (ad a3))]) hx hb dX10_joins__108 hl (by decide) rfl (fun ls hl => ?_)
                  obtain ⟨y_51, ey_51⟩ : ∃ y : Int32, y = nn + 1 := ⟨_, rfl⟩
                  first | have ty_51 := i_add (a := nn.toInt) (b := 1) rfl (by decide) ey_51 (by omega) (by omega) | skip
                  refine lv_iinc (v := y_51) (lv' := [(5, .int y_51), (4, .int y_50), (3, .int y_33), (6, .int y_5), (0, .ref (ad a1)), (1, .ref (ad a2)), (2, .ref (ad a3))]) hx hb dX10_joins__110 hl (k := 3) rfl (by rw [ey_51]; rfl) (by decide) rfl (fun ls hl => ?_)
                  refine lv_aload_n hx hb dX10_joins__113 rfl (lv_at hl 6 rfl) ?_
                  refine lv_iload hx hb dX10_joins__114 (lv_at hl 0 rfl) ?_
                  refine lv_iload hx hb dX10_joins__116 (lv_at hl 3 rfl) ?_
                  refine va_iast hx hb hK hP hD hS (rPos (a3)) (rTy (a3)) (mW_R (by first | assumption | (unfold IR; omega))) (mT_R _) (i := y_51) (vp_of (a := y_51.toInt) rfl (by omega) (by omega)) dX10_joins__118 (fun H locs hP hD hS => ?_)
                  obtain ⟨n_52, m_53, o_54, hP, hD, wu_55⟩ := mW_Rx (by first | assumption | (unfold IR; omega)) hP hD
                  have u_55 := rU_v (x := (nn.toInt + 1)) (y := y_5.toInt) wu_55 (by first | assumption | (unfold IR; omega)) (by first | omega | decide) (by omega) rfl
                  have hP : va_P (dC, dI) vwCl (mW ad kc x0 x1 x2 x3 x4 x5 x6 x7 x8 x9 x10 x11 x12 x13 x14 x15 x16 x17 x18 x19 x20 x21 f0 f1 f2 f3 f4 f5 f6 f7 f8 f9 f10 f11 f12 f13 f14 f15 f16 f17 f18 f19 f20 f21 fL n_52 fP m_53 o_54) H := hP
                  have hD : va_D A (mW ad kc x0 x1 x2 x3 x4 x5 x6 x7 x8 x9 x10 x11 x12 x13 x14 x15 x16 x17 x18 x19 x20 x21 f0 f1 f2 f3 f4 f5 f6 f7 f8 f9 f10 f11 f12 f13 f14 f15 f16 f17 f18 f19 f20 f21 fL n_52 fP m_53 o_54) := hD
                  refine lv_goto (tgt := 8) hx hb dX10_joins__119 (by decide) ?_
                  exact ih8 y_33 y_50 y_51 n_52 m_53 o_54 (by first | omega | assumption | decide) (by first | omega | assumption | decide) (by first | omega | assumption | decide) (by first | omega | assumption | decide) (by first | omega | assumption | decide) (by first | omega | assumption | decide) (fun c h1 h2 => (u_55.2 c h1 h2).trans (v8_6 c h1 h2)) (by omega) _ _ ls hP hD hS (lv_sub hl [0, 1, 2, 4, 5, 6] rfl)
            · have tk_32 := c_eq (a := y_31.toInt) (b := y_5.toInt) rfl rfl k_32
              refine lv_iconst (v := 1) hx hb dX10_joins__76 (by decide) ?_
              refine lv_goto (tgt := 81) hx hb dX10_joins__77 (by decide) ?_
              refine lv_iadd hx hb dX10_joins__81 ?_
              refine lv_topi (fun y_56 ey_56 => ?_)
              first | have ty_56 := i_add (a := ii.toInt) (b := 1) rfl (by decide) ey_56 (by omega) (by omega) | skip
              refine lv_istore_n (lv' := [(3, .int y_56), (6, .int y_5), (5, .int nn), (4, .int kk), (0, .ref (ad a1)), (1, .ref (ad a2)), (2, .ref (ad a3))]) hx hb dX10_joins__82 rfl hl (by decide) rfl (fun ls hl => ?_)
              refine lv_iload hx hb dX10_joins__83 (lv_at hl 3 rfl) ?_
              refine lv_iload hx hb dX10_joins__85 (lv_at hl 3 rfl) ?_
              refine lv_aload_n hx hb dX10_joins__87 rfl (lv_at hl 5 rfl) ?_
              refine lv_iconst (v := 0) hx hb dX10_joins__88 (by decide) ?_
              refine va_iald hx hb hK hP (rPos (a2)) (rTy (a2)) (mW_R (by first | assumption | (unfold IR; omega))) (mT_R _) (i := 0) (by unfold vp_in; decide +kernel) dX10_joins__89 ?_
              refine lv_topi (fun y_57 ey_57 => ?_)
              have rg_y_57 := i_rng y_57
              have vy_57 := vI_lda (f := (rO hn hm ho) a2) (i := 0) (a := 0) ey_57 (by first | omega | decide)
              have wy_57 := vI_cg (z := 0) (v8_6 a2 q1 q4)
              refine lv_icmp_gt (tgt := 106) hx hb dX10_joins__90 (by decide) (fun k_58 => ?_) (fun k_58 => ?_)
              · have tk_58 := c_gt (a := kk.toInt) (b := y_57.toInt) rfl rfl k_58
                refine lv_iconst (v := 0) hx hb dX10_joins__106 (by decide) ?_
                refine lv_iadd hx hb dX10_joins__107 ?_
                refine lv_topi (fun y_59 ey_59 => ?_)
                first | have ty_59 := i_add (a := kk.toInt) (b := 0) rfl (by decide) ey_59 (by omega) (by omega) | skip
                refine lv_istore (lv' := [(4, .int y_59), (3, .int y_56), (6, .int y_5), (5, .int nn), (0, .ref (ad a1)), (1, .ref (ad a2)), (2, .ref (ad a3))]) hx hb dX10_joins__108 hl (by decide) rfl (fun ls hl => ?_)
                obtain ⟨y_60, ey_60⟩ : ∃ y : Int32, y = nn + 1 := ⟨_, rfl⟩
                first | have ty_60 := i_add (a := nn.toInt) (b := 1) rfl (by decide) ey_60 (by omega) (by omega) | skip
                refine lv_iinc (v := y_60) (lv' := [(5, .int y_60), (4, .int y_59), (3, .int y_56), (6, .int y_5), (0, .ref (ad a1)), (1, .ref (ad a2)), (2, .ref (ad a3))]) hx hb dX10_joins__110 hl (k := 3) rfl (by rw [ey_60]; rfl) (by decide) rfl (fun ls hl => ?_)
                refine lv_aload_n hx hb dX10_joins__113 rfl (lv_at hl 6 rfl) ?_
                refine lv_iload hx hb dX10_joins__114 (lv_at hl 0 rfl) ?_
                refine lv_iload hx hb dX10_joins__116 (lv_at hl 3 rfl) ?_
                refine va_iast hx hb hK hP hD hS (rPos (a3)) (rTy (a3)) (mW_R (by first | assumption | (unfold IR; omega))) (mT_R _) (i := y_60) (vp_of (a := y_60.toInt) rfl (by omega) (by omega)) dX10_joins__118 (fun H locs hP hD hS => ?_)
                obtain ⟨n_61, m_62, o_63, hP, hD, wu_64⟩ := mW_Rx (by first | assumption | (unfold IR; omega)) hP hD
                have u_64 := rU_v (x := (nn.toInt + 1)) (y := y_5.toInt) wu_64 (by first | assumption | (unfold IR; omega)) (by first | omega | decide) (by omega) rfl
                have hP : va_P (dC, dI) vwCl (mW ad kc x0 x1 x2 x3 x4 x5 x6 x7 x8 x9 x10 x11 x12 x13 x14 x15 x16 x17 x18 x19 x20 x21 f0 f1 f2 f3 f4 f5 f6 f7 f8 f9 f10 f11 f12 f13 f14 f15 f16 f17 f18 f19 f20 f21 fL n_61 fP m_62 o_63) H := hP
                have hD : va_D A (mW ad kc x0 x1 x2 x3 x4 x5 x6 x7 x8 x9 x10 x11 x12 x13 x14 x15 x16 x17 x18 x19 x20 x21 f0 f1 f2 f3 f4 f5 f6 f7 f8 f9 f10 f11 f12 f13 f14 f15 f16 f17 f18 f19 f20 f21 fL n_61 fP m_62 o_63) := hD
                refine lv_goto (tgt := 8) hx hb dX10_joins__119 (by decide) ?_
                exact ih8 y_56 y_59 y_60 n_61 m_62 o_63 (by first | omega | assumption | decide) (by first | omega | assumption | decide) (by first | omega | assumption | decide) (by first | omega | assumption | decide) (by first | omega | assumption | decide) (by first | omega | assumption | decide) (fun c h1 h2 => (u_64.2 c h1 h2).trans (v8_6 c h1 h2)) (by omega) _ _ ls hP hD hS (lv_sub hl [0, 1, 2, 4, 5, 6] rfl)
              · have tk_58 := c_ngt (a := kk.toInt) (b := y_57.toInt) rfl rfl k_58
                refine lv_aload_n hx hb dX10_joins__93 rfl (lv_at hl 5 rfl) ?_
                refine lv_iload hx hb dX10_joins__94 (lv_at hl 3 rfl) ?_
                refine va_iald hx hb hK hP (rPos (a2)) (rTy (a2)) (mW_R (by first | assumption | (unfold IR; omega))) (mT_R _) (i := kk) (vp_of (a := kk.toInt) rfl (by omega) (by omega)) dX10_joins__96 ?_
                refine lv_topi (fun y_65 ey_65 => ?_)
                have rg_y_65 := i_rng y_65
                have vy_65 := vI_lda (f := (rO hn hm ho) a2) (i := kk) (a := kk.toInt) ey_65 (by first | omega | decide)
                have wy_65 := vI_cg (z := kk.toInt) (v8_6 a2 q1 q4)
                refine lv_iload hx hb dX10_joins__97 (lv_at hl 1 rfl) ?_
                refine lv_icmp_ne (tgt := 106) hx hb dX10_joins__99 (by decide) (fun k_66 => ?_) (fun k_66 => ?_)
                · have tk_66 := c_ne (a := y_65.toInt) (b := y_5.toInt) rfl rfl k_66
                  refine lv_iconst (v := 0) hx hb dX10_joins__106 (by decide) ?_
                  refine lv_iadd hx hb dX10_joins__107 ?_
                  refine lv_topi (fun y_67 ey_67 => ?_)
                  first | have ty_67 := i_add (a := kk.toInt) (b := 0) rfl (by decide) ey_67 (by omega) (by omega) | skip
                  refine lv_istore (lv' := [(4, .int y_67), (3, .int y_56), (6, .int y_5), (5, .int nn), (0, .ref (ad a1)), (1, .ref (ad a2)), (2, .ref (ad a3))]) hx hb dX10_joins__108 hl (by decide) rfl (fun ls hl => ?_)
                  obtain ⟨y_68, ey_68⟩ : ∃ y : Int32, y = nn + 1 := ⟨_, rfl⟩
                  first | have ty_68 := i_add (a := nn.toInt) (b := 1) rfl (by decide) ey_68 (by omega) (by omega) | skip
                  refine lv_iinc (v := y_68) (lv' := [(5, .int y_68), (4, .int y_67), (3, .int y_56), (6, .int y_5), (0, .ref (ad a1)), (1, .ref (ad a2)), (2, .ref (ad a3))]) hx hb dX10_joins__110 hl (k := 3) rfl (by rw [ey_68]; rfl) (by decide) rfl (fun ls hl => ?_)
                  refine lv_aload_n hx hb dX10_joins__113 rfl (lv_at hl 6 rfl) ?_
                  refine lv_iload hx hb dX10_joins__114 (lv_at hl 0 rfl) ?_
                  refine lv_iload hx hb dX10_joins__116 (lv_at hl 3 rfl) ?_
                  refine va_iast hx hb hK hP hD hS (rPos (a3)) (rTy (a3)) (mW_R (by first | assumption | (unfold IR; omega))) (mT_R _) (i := y_68) (vp_of (a := y_68.toInt) rfl (by omega) (by omega)) dX10_joins__118 (fun H locs hP hD hS => ?_)
                  obtain ⟨n_69, m_70, o_71, hP, hD, wu_72⟩ := mW_Rx (by first | assumption | (unfold IR; omega)) hP hD
                  have u_72 := rU_v (x := (nn.toInt + 1)) (y := y_5.toInt) wu_72 (by first | assumption | (unfold IR; omega)) (by first | omega | decide) (by omega) rfl
                  have hP : va_P (dC, dI) vwCl (mW ad kc x0 x1 x2 x3 x4 x5 x6 x7 x8 x9 x10 x11 x12 x13 x14 x15 x16 x17 x18 x19 x20 x21 f0 f1 f2 f3 f4 f5 f6 f7 f8 f9 f10 f11 f12 f13 f14 f15 f16 f17 f18 f19 f20 f21 fL n_69 fP m_70 o_71) H := hP
                  have hD : va_D A (mW ad kc x0 x1 x2 x3 x4 x5 x6 x7 x8 x9 x10 x11 x12 x13 x14 x15 x16 x17 x18 x19 x20 x21 f0 f1 f2 f3 f4 f5 f6 f7 f8 f9 f10 f11 f12 f13 f14 f15 f16 f17 f18 f19 f20 f21 fL n_69 fP m_70 o_71) := hD
                  refine lv_goto (tgt := 8) hx hb dX10_joins__119 (by decide) ?_
                  exact ih8 y_56 y_67 y_68 n_69 m_70 o_71 (by first | omega | assumption | decide) (by first | omega | assumption | decide) (by first | omega | assumption | decide) (by first | omega | assumption | decide) (by first | omega | assumption | decide) (by first | omega | assumption | decide) (fun c h1 h2 => (u_72.2 c h1 h2).trans (v8_6 c h1 h2)) (by omega) _ _ ls hP hD hS (lv_sub hl [0, 1, 2, 4, 5, 6] rfl)
                · have tk_66 := c_eq (a := y_65.toInt) (b := y_5.toInt) rfl rfl k_66
                  refine lv_iconst (v := 1) hx hb dX10_joins__102 (by decide) ?_
                  refine lv_goto (tgt := 107) hx hb dX10_joins__103 (by decide) ?_
                  refine lv_iadd hx hb dX10_joins__107 ?_
                  refine lv_topi (fun y_73 ey_73 => ?_)
                  first | have ty_73 := i_add (a := kk.toInt) (b := 1) rfl (by decide) ey_73 (by omega) (by omega) | skip
                  refine lv_istore (lv' := [(4, .int y_73), (3, .int y_56), (6, .int y_5), (5, .int nn), (0, .ref (ad a1)), (1, .ref (ad a2)), (2, .ref (ad a3))]) hx hb dX10_joins__108 hl (by decide) rfl (fun ls hl => ?_)
                  obtain ⟨y_74, ey_74⟩ : ∃ y : Int32, y = nn + 1 := ⟨_, rfl⟩
                  first | have ty_74 := i_add (a := nn.toInt) (b := 1) rfl (by decide) ey_74 (by omega) (by omega) | skip
                  refine lv_iinc (v := y_74) (lv' := [(5, .int y_74), (4, .int y_73), (3, .int y_56), (6, .int y_5), (0, .ref (ad a1)), (1, .ref (ad a2)), (2, .ref (ad a3))]) hx hb dX10_joins__110 hl (k := 3) rfl (by rw [ey_74]; rfl) (by decide) rfl (fun ls hl => ?_)
                  refine lv_aload_n hx hb dX10_joins__113 rfl (lv_at hl 6 rfl) ?_
                  refine lv_iload hx hb dX10_joins__114 (lv_at hl 0 rfl) ?_
                  refine lv_iload hx hb dX10_joins__116 (lv_at hl 3 rfl) ?_
                  refine va_iast hx hb hK hP hD hS (rPos (a3)) (rTy (a3)) (mW_R (by first | assumption | (unfold IR; omega))) (mT_R _) (i := y_74) (vp_of (a := y_74.toInt) rfl (by omega) (by omega)) dX10_joins__118 (fun H locs hP hD hS => ?_)
                  obtain ⟨n_75, m_76, o_77, hP, hD, wu_78⟩ := mW_Rx (by first | assumption | (unfold IR; omega)) hP hD
                  have u_78 := rU_v (x := (nn.toInt + 1)) (y := y_5.toInt) wu_78 (by first | assumption | (unfold IR; omega)) (by first | omega | decide) (by omega) rfl
                  have hP : va_P (dC, dI) vwCl (mW ad kc x0 x1 x2 x3 x4 x5 x6 x7 x8 x9 x10 x11 x12 x13 x14 x15 x16 x17 x18 x19 x20 x21 f0 f1 f2 f3 f4 f5 f6 f7 f8 f9 f10 f11 f12 f13 f14 f15 f16 f17 f18 f19 f20 f21 fL n_75 fP m_76 o_77) H := hP
                  have hD : va_D A (mW ad kc x0 x1 x2 x3 x4 x5 x6 x7 x8 x9 x10 x11 x12 x13 x14 x15 x16 x17 x18 x19 x20 x21 f0 f1 f2 f3 f4 f5 f6 f7 f8 f9 f10 f11 f12 f13 f14 f15 f16 f17 f18 f19 f20 f21 fL n_75 fP m_76 o_77) := hD
                  refine lv_goto (tgt := 8) hx hb dX10_joins__119 (by decide) ?_
                  exact ih8 y_56 y_73 y_74 n_75 m_76 o_77 (by first | omega | assumption | decide) (by first | omega | assumption | decide) (by first | omega | assumption | decide) (by first | omega | assumption | decide) (by first | omega | assumption | decide) (by first | omega | assumption | decide) (fun c h1 h2 => (u_78.2 c h1 h2).trans (v8_6 c h1 h2)) (by omega) _ _ ls hP hD hS (lv_sub hl [0, 1, 2, 4, 5, 6] rfl)
        · have tk_4 := c_ngt (a := kk.toInt) (b := y_3.toInt) rfl rfl k_4
          refine lv_iload_n hx hb dX10_joins__31 rfl (lv_at hl 2 rfl) ?_
          refine lv_aload_n hx hb dX10_joins__32 rfl (lv_at hl 3 rfl) ?_
          refine lv_iconst (v := 0) hx hb dX10_joins__33 (by decide) ?_
          refine va_iald hx hb hK hP (rPos (a1)) (rTy (a1)) (mW_R (by first | assumption | (unfold IR; omega))) (mT_R _) (i := 0) (by unfold vp_in; decide +kernel) dX10_joins__34 ?_
          refine lv_topi (fun y_79 ey_79 => ?_)
          have rg_y_79 := i_rng y_79
          have vy_79 := vI_lda (f := (rO hn hm ho) a1) (i := 0) (a := 0) ey_79 (by first | omega | decide)
          have wy_79 := vI_cg (z := 0) (v8_6 a1 q0 q3)
          refine lv_icmp_gt (tgt := 54) hx hb dX10_joins__35 (by decide) (fun k_80 => ?_) (fun k_80 => ?_)
          · have tk_80 := c_gt (a := ii.toInt) (b := y_79.toInt) rfl rfl k_80
            refine lv_aload_n hx hb dX10_joins__54 rfl (lv_at hl 4 rfl) ?_
            refine lv_iload hx hb dX10_joins__55 (lv_at hl 1 rfl) ?_
            refine va_iald hx hb hK hP (rPos (a2)) (rTy (a2)) (mW_R (by first | assumption | (unfold IR; omega))) (mT_R _) (i := kk) (vp_of (a := kk.toInt) rfl (by omega) (by omega)) dX10_joins__57 ?_
            refine lv_topi (fun y_81 ey_81 => ?_)
            have rg_y_81 := i_rng y_81
            have vy_81 := vI_lda (f := (rO hn hm ho) a2) (i := kk) (a := kk.toInt) ey_81 (by first | omega | decide)
            have wy_81 := vI_cg (z := kk.toInt) (v8_6 a2 q1 q4)
            refine lv_istore (lv' := [(6, .int y_81), (5, .int nn), (4, .int kk), (3, .int ii), (0, .ref (ad a1)), (1, .ref (ad a2)), (2, .ref (ad a3))]) hx hb dX10_joins__58 hl (by decide) rfl (fun ls hl => ?_)
            refine lv_iload_n hx hb dX10_joins__60 rfl (lv_at hl 3 rfl) ?_
            refine lv_iload_n hx hb dX10_joins__61 rfl (lv_at hl 3 rfl) ?_
            refine lv_aload_n hx hb dX10_joins__62 rfl (lv_at hl 4 rfl) ?_
            refine lv_iconst (v := 0) hx hb dX10_joins__63 (by decide) ?_
            refine va_iald hx hb hK hP (rPos (a1)) (rTy (a1)) (mW_R (by first | assumption | (unfold IR; omega))) (mT_R _) (i := 0) (by unfold vp_in; decide +kernel) dX10_joins__64 ?_
            refine lv_topi (fun y_82 ey_82 => ?_)
            have rg_y_82 := i_rng y_82
            have vy_82 := vI_lda (f := (rO hn hm ho) a1) (i := 0) (a := 0) ey_82 (by first | omega | decide)
            have wy_82 := vI_cg (z := 0) (v8_6 a1 q0 q3)
            refine lv_icmp_gt (tgt := 80) hx hb dX10_joins__65 (by decide) (fun k_83 => ?_) (fun k_83 => ?_)
            · have tk_83 := c_gt (a := ii.toInt) (b := y_82.toInt) rfl rfl k_83
              refine lv_iconst (v := 0) hx hb dX10_joins__80 (by decide) ?_
              refine lv_iadd hx hb dX10_joins__81 ?_
              refine lv_topi (fun y_84 ey_84 => ?_)
              first | have ty_84 := i_add (a := ii.toInt) (b := 0) rfl (by decide) ey_84 (by omega) (by omega) | skip
              refine lv_istore_n (lv' := [(3, .int y_84), (6, .int y_81), (5, .int nn), (4, .int kk), (0, .ref (ad a1)), (1, .ref (ad a2)), (2, .ref (ad a3))]) hx hb dX10_joins__82 rfl hl (by decide) rfl (fun ls hl => ?_)
              refine lv_iload hx hb dX10_joins__83 (lv_at hl 3 rfl) ?_
              refine lv_iload hx hb dX10_joins__85 (lv_at hl 3 rfl) ?_
              refine lv_aload_n hx hb dX10_joins__87 rfl (lv_at hl 5 rfl) ?_
              refine lv_iconst (v := 0) hx hb dX10_joins__88 (by decide) ?_
              refine va_iald hx hb hK hP (rPos (a2)) (rTy (a2)) (mW_R (by first | assumption | (unfold IR; omega))) (mT_R _) (i := 0) (by unfold vp_in; decide +kernel) dX10_joins__89 ?_
              refine lv_topi (fun y_85 ey_85 => ?_)
              have rg_y_85 := i_rng y_85
              have vy_85 := vI_lda (f := (rO hn hm ho) a2) (i := 0) (a := 0) ey_85 (by first | omega | decide)
              have wy_85 := vI_cg (z := 0) (v8_6 a2 q1 q4)
              refine lv_icmp_gt (tgt := 106) hx hb dX10_joins__90 (by decide) (fun k_86 => ?_) (fun k_86 => ?_)
              · have tk_86 := c_gt (a := kk.toInt) (b := y_85.toInt) rfl rfl k_86
                refine lv_iconst (v := 0) hx hb dX10_joins__106 (by decide) ?_
                refine lv_iadd hx hb dX10_joins__107 ?_
                refine lv_topi (fun y_87 ey_87 => ?_)
                first | have ty_87 := i_add (a := kk.toInt) (b := 0) rfl (by decide) ey_87 (by omega) (by omega) | skip
                refine lv_istore (lv' := [(4, .int y_87), (3, .int y_84), (6, .int y_81), (5, .int nn), (0, .ref (ad a1)), (1, .ref (ad a2)), (2, .ref (ad a3))]) hx hb dX10_joins__108 hl (by decide) rfl (fun ls hl => ?_)
                obtain ⟨y_88, ey_88⟩ : ∃ y : Int32, y = nn + 1 := ⟨_, rfl⟩
                first | have ty_88 := i_add (a := nn.toInt) (b := 1) rfl (by decide) ey_88 (by omega) (by omega) | skip
                refine lv_iinc (v := y_88) (lv' := [(5, .int y_88), (4, .int y_87), (3, .int y_84), (6, .int y_81), (0, .ref (ad a1)), (1, .ref (ad a2)), (2, .ref (ad a3))]) hx hb dX10_joins__110 hl (k := 3) rfl (by rw [ey_88]; rfl) (by decide) rfl (fun ls hl => ?_)
                refine lv_aload_n hx hb dX10_joins__113 rfl (lv_at hl 6 rfl) ?_
                refine lv_iload hx hb dX10_joins__114 (lv_at hl 0 rfl) ?_
                refine lv_iload hx hb dX10_joins__116 (lv_at hl 3 rfl) ?_
                refine va_iast hx hb hK hP hD hS (rPos (a3)) (rTy (a3)) (mW_R (by first | assumption | (unfold IR; omega))) (mT_R _) (i := y_88) (vp_of (a := y_88.toInt) rfl (by omega) (by omega)) dX10_joins__118 (fun H locs hP hD hS => ?_)
                obtain ⟨n_89, m_90, o_91, hP, hD, wu_92⟩ := mW_Rx (by first | assumption | (unfold IR; omega)) hP hD
                have u_92 := rU_v (x := (nn.toInt + 1)) (y := y_81.toInt) wu_92 (by first | assumption | (unfold IR; omega)) (by first | omega | decide) (by omega) rfl
                have hP : va_P (dC, dI) vwCl (mW ad kc x0 x1 x2 x3 x4 x5 x6 x7 x8 x9 x10 x11 x12 x13 x14 x15 x16 x17 x18 x19 x20 x21 f0 f1 f2 f3 f4 f5 f6 f7 f8 f9 f10 f11 f12 f13 f14 f15 f16 f17 f18 f19 f20 f21 fL n_89 fP m_90 o_91) H := hP
                have hD : va_D A (mW ad kc x0 x1 x2 x3 x4 x5 x6 x7 x8 x9 x10 x11 x12 x13 x14 x15 x16 x17 x18 x19 x20 x21 f0 f1 f2 f3 f4 f5 f6 f7 f8 f9 f10 f11 f12 f13 f14 f15 f16 f17 f18 f19 f20 f21 fL n_89 fP m_90 o_91) := hD
                refine lv_goto (tgt := 8) hx hb dX10_joins__119 (by decide) ?_
                exact ih8 y_84 y_87 y_88 n_89 m_90 o_91 (by first | omega | assumption | decide) (by first | omega | assumption | decide) (by first | omega | assumption | decide) (by first | omega | assumption | decide) (by first | omega | assumption | decide) (by first | omega | assumption | decide) (fun c h1 h2 => (u_92.2 c h1 h2).trans (v8_6 c h1 h2)) (by omega) _ _ ls hP hD hS (lv_sub hl [0, 1, 2, 4, 5, 6] rfl)
              · have tk_86 := c_ngt (a := kk.toInt) (b := y_85.toInt) rfl rfl k_86
                refine lv_aload_n hx hb dX10_joins__93 rfl (lv_at hl 5 rfl) ?_
                refine lv_iload hx hb dX10_joins__94 (lv_at hl 3 rfl) ?_
                refine va_iald hx hb hK hP (rPos (a2)) (rTy (a2)) (mW_R (by first | assumption | (unfold IR; omega))) (mT_R _) (i := kk) (vp_of (a := kk.toInt) rfl (by omega) (by omega)) dX10_joins__96 ?_
                refine lv_topi (fun y_93 ey_93 => ?_)
                have rg_y_93 := i_rng y_93
                have vy_93 := vI_lda (f := (rO hn hm ho) a2) (i := kk) (a := kk.toInt) ey_93 (by first | omega | decide)
                have wy_93 := vI_cg (z := kk.toInt) (v8_6 a2 q1 q4)
                refine lv_iload hx hb dX10_joins__97 (lv_at hl 1 rfl) ?_
                refine lv_icmp_ne (tgt := 106) hx hb dX10_joins__99 (by decide) (fun k_94 => ?_) (fun k_94 => ?_)
                · have tk_94 := c_ne (a := y_93.toInt) (b := y_81.toInt) rfl rfl k_94
                  refine lv_iconst (v := 0) hx hb dX10_joins__106 (by decide) ?_
                  refine lv_iadd hx hb dX10_joins__107 ?_
                  refine lv_topi (fun y_95 ey_95 => ?_)
                  first | have ty_95 := i_add (a := kk.toInt) (b := 0) rfl (by decide) ey_95 (by omega) (by omega) | skip
                  refine lv_istore (lv' := [(4, .int y_95), (3, .int y_84), (6, .int y_81), (5, .int nn), (0, .ref (ad a1)), (1, .ref (ad a2)), (2, .ref (ad a3))]) hx hb dX10_joins__108 hl (by decide) rfl (fun ls hl => ?_)
                  obtain ⟨y_96, ey_96⟩ : ∃ y : Int32, y = nn + 1 := ⟨_, rfl⟩
                  first | have ty_96 := i_add (a := nn.toInt) (b := 1) rfl (by decide) ey_96 (by omega) (by omega) | skip
                  refine lv_iinc (v := y_96) (lv' := [(5, .int y_96), (4, .int y_95), (3, .int y_84), (6, .int y_81), (0, .ref (ad a1)), (1, .ref (ad a2)), (2, .ref (ad a3))]) hx hb dX10_joins__110 hl (k := 3) rfl (by rw [ey_96]; rfl) (by decide) rfl (fun ls hl => ?_)
                  refine lv_aload_n hx hb dX10_joins__113 rfl (lv_at hl 6 rfl) ?_
                  refine lv_iload hx hb dX10_joins__114 (lv_at hl 0 rfl) ?_
                  refine lv_iload hx hb dX10_joins__116 (lv_at hl 3 rfl) ?_
                  refine va_iast hx hb hK hP hD hS (rPos (a3)) (rTy (a3)) (mW_R (by first | assumption | (unfold IR; omega))) (mT_R _) (i := y_96) (vp_of (a := y_96.toInt) rfl (by omega) (by omega)) dX10_joins__118 (fun H locs hP hD hS => ?_)
                  obtain ⟨n_97, m_98, o_99, hP, hD, wu_100⟩ := mW_Rx (by first | assumption | (unfold IR; omega)) hP hD
                  have u_100 := rU_v (x := (nn.toInt + 1)) (y := y_81.toInt) wu_100 (by first | assumption | (unfold IR; omega)) (by first | omega | decide) (by omega) rfl
                  have hP : va_P (dC, dI) vwCl (mW ad kc x0 x1 x2 x3 x4 x5 x6 x7 x8 x9 x10 x11 x12 x13 x14 x15 x16 x17 x18 x19 x20 x21 f0 f1 f2 f3 f4 f5 f6 f7 f8 f9 f10 f11 f12 f13 f14 f15 f16 f17 f18 f19 f20 f21 fL n_97 fP m_98 o_99) H := hP
                  have hD : va_D A (mW ad kc x0 x1 x2 x3 x4 x5 x6 x7 x8 x9 x10 x11 x12 x13 x14 x15 x16 x17 x18 x19 x20 x21 f0 f1 f2 f3 f4 f5 f6 f7 f8 f9 f10 f11 f12 f13 f14 f15 f16 f17 f18 f19 f20 f21 fL n_97 fP m_98 o_99) := hD
                  refine lv_goto (tgt := 8) hx hb dX10_joins__119 (by decide) ?_
                  exact ih8 y_84 y_95 y_96 n_97 m_98 o_99 (by first | omega | assumption | decide) (by first | omega | assumption | decide) (by first | omega | assumption | decide) (by first | omega | assumption | decide) (by first | omega | assumption | decide) (by first | omega | assumption | decide) (fun c h1 h2 => (u_100.2 c h1 h2).trans (v8_6 c h1 h2)) (by omega) _ _ ls hP hD hS (lv_sub hl [0, 1, 2, 4, 5, 6] rfl)
                · have tk_94 := c_eq (a := y_93.toInt) (b := y_81.toInt) rfl rfl k_94
                  refine lv_iconst (v := 1) hx hb dX10_joins__102 (by decide) ?_
                  refine lv_goto (tgt := 107) hx hb dX10_joins__103 (by decide) ?_
                  refine lv_iadd hx hb dX10_joins__107 ?_
                  refine lv_topi (fun y_101 ey_101 => ?_)
                  first | have ty_101 := i_add (a := kk.toInt) (b := 1) rfl (by decide) ey_101 (by omega) (by omega) | skip
                  refine lv_istore (lv' := [(4, .int y_101), (3, .int y_84), (6, .int y_81), (5, .int nn), (0, .ref (ad a1)), (1, .ref (ad a2)), (2, .ref (ad a3))]) hx hb dX10_joins__108 hl (by decide) rfl (fun ls hl => ?_)
                  obtain ⟨y_102, ey_102⟩ : ∃ y : Int32, y = nn + 1 := ⟨_, rfl⟩
                  first | have ty_102 := i_add (a := nn.toInt) (b := 1) rfl (by decide) ey_102 (by omega) (by omega) | skip
                  refine lv_iinc (v := y_102) (lv' := [(5, .int y_102), (4, .int y_101), (3, .int y_84), (6, .int y_81), (0, .ref (ad a1)), (1, .ref (ad a2)), (2, .ref (ad a3))]) hx hb dX10_joins__110 hl (k := 3) rfl (by rw [ey_102]; rfl) (by decide) rfl (fun ls hl => ?_)
                  refine lv_aload_n hx hb dX10_joins__113 rfl (lv_at hl 6 rfl) ?_
                  refine lv_iload hx hb dX10_joins__114 (lv_at hl 0 rfl) ?_
                  refine lv_iload hx hb dX10_joins__116 (lv_at hl 3 rfl) ?_
                  refine va_iast hx hb hK hP hD hS (rPos (a3)) (rTy (a3)) (mW_R (by first | assumption | (unfold IR; omega))) (mT_R _) (i := y_102) (vp_of (a := y_102.toInt) rfl (by omega) (by omega)) dX10_joins__118 (fun H locs hP hD hS => ?_)
                  obtain ⟨n_103, m_104, o_105, hP, hD, wu_106⟩ := mW_Rx (by first | assumption | (unfold IR; omega)) hP hD
                  have u_106 := rU_v (x := (nn.toInt + 1)) (y := y_81.toInt) wu_106 (by first | assumption | (unfold IR; omega)) (by first | omega | decide) (by omega) rfl
                  have hP : va_P (dC, dI) vwCl (mW ad kc x0 x1 x2 x3 x4 x5 x6 x7 x8 x9 x10 x11 x12 x13 x14 x15 x16 x17 x18 x19 x20 x21 f0 f1 f2 f3 f4 f5 f6 f7 f8 f9 f10 f11 f12 f13 f14 f15 f16 f17 f18 f19 f20 f21 fL n_103 fP m_104 o_105) H := hP
                  have hD : va_D A (mW ad kc x0 x1 x2 x3 x4 x5 x6 x7 x8 x9 x10 x11 x12 x13 x14 x15 x16 x17 x18 x19 x20 x21 f0 f1 f2 f3 f4 f5 f6 f7 f8 f9 f10 f11 f12 f13 f14 f15 f16 f17 f18 f19 f20 f21 fL n_103 fP m_104 o_105) := hD
                  refine lv_goto (tgt := 8) hx hb dX10_joins__119 (by decide) ?_
                  exact ih8 y_84 y_101 y_102 n_103 m_104 o_105 (by first | omega | assumption | decide) (by first | omega | assumption | decide) (by first | omega | assumption | decide) (by first | omega | assumption | decide) (by first | omega | assumption | decide) (by first | omega | assumption | decide) (fun c h1 h2 => (u_106.2 c h1 h2).trans (v8_6 c h1 h2)) (by omega) _ _ ls hP hD hS (lv_sub hl [0, 1, 2, 4, 5, 6] rfl)
            · have tk_83 := c_ngt (a := ii.toInt) (b := y_82.toInt) rfl rfl k_83
              refine lv_aload_n hx hb dX10_joins__68 rfl (lv_at hl 4 rfl) ?_
              refine lv_iload_n hx hb dX10_joins__69 rfl (lv_at hl 3 rfl) ?_
              refine va_iald hx hb hK hP (rPos (a1)) (rTy (a1)) (mW_R (by first | assumption | (unfold IR; omega))) (mT_R _) (i := ii) (vp_of (a := ii.toInt) rfl (by omega) (by omega)) dX10_joins__70 ?_
              refine lv_topi (fun y_107 ey_107 => ?_)
              have rg_y_107 := i_rng y_107
              have vy_107 := vI_lda (f := (rO hn hm ho) a1) (i := ii) (a := ii.toInt) ey_107 (by first | omega | decide)
              have wy_107 := vI_cg (z := ii.toInt) (v8_6 a1 q0 q3)
              refine lv_iload hx hb dX10_joins__71 (lv_at hl 0 rfl) ?_
              refine lv_icmp_ne (tgt := 80) hx hb dX10_joins__73 (by decide) (fun k_108 => ?_) (fun k_108 => ?_)
              · have tk_108 := c_ne (a := y_107.toInt) (b := y_81.toInt) rfl rfl k_108
                refine lv_iconst (v := 0) hx hb dX10_joins__80 (by decide) ?_
                refine lv_iadd hx hb dX10_joins__81 ?_
                refine lv_topi (fun y_109 ey_109 => ?_)
                first | have ty_109 := i_add (a := ii.toInt) (b := 0) rfl (by decide) ey_109 (by omega) (by omega) | skip
                refine lv_istore_n (lv' := [(3, .int y_109), (6, .int y_81), (5, .int nn), (4, .int kk), (0, .ref (ad a1)), (1, .ref (ad a2)), (2, .ref (ad a3))]) hx hb dX10_joins__82 rfl hl (by decide) rfl (fun ls hl => ?_)
                refine lv_iload hx hb dX10_joins__83 (lv_at hl 3 rfl) ?_
                refine lv_iload hx hb dX10_joins__85 (lv_at hl 3 rfl) ?_
                refine lv_aload_n hx hb dX10_joins__87 rfl (lv_at hl 5 rfl) ?_
                refine lv_iconst (v := 0) hx hb dX10_joins__88 (by decide) ?_
                refine va_iald hx hb hK hP (rPos (a2)) (rTy (a2)) (mW_R (by first | assumption | (unfold IR; omega))) (mT_R _) (i := 0) (by unfold vp_in; decide +kernel) dX10_joins__89 ?_
                refine lv_topi (fun y_110 ey_110 => ?_)
                have rg_y_110 := i_rng y_110
                have vy_110 := vI_lda (f := (rO hn hm ho) a2) (i := 0) (a := 0) ey_110 (by first | omega | decide)
                have wy_110 := vI_cg (z := 0) (v8_6 a2 q1 q4)
                refine lv_icmp_gt (tgt := 106) hx hb dX10_joins__90 (by decide) (fun k_111 => ?_) (fun k_111 => ?_)
                · have tk_111 := c_gt (a := kk.toInt) (b := y_110.toInt) rfl rfl k_111
                  refine lv_iconst (v := 0) hx hb dX10_joins__106 (by decide) ?_
                  refine lv_iadd hx hb dX10_joins__107 ?_
                  refine lv_topi (fun y_112 ey_112 => ?_)
                  first | have ty_112 := i_add (a := kk.toInt) (b := 0) rfl (by decide) ey_112 (by omega) (by omega) | skip
                  refine lv_istore (lv' := [(4, .int y_112), (3, .int y_109), (6, .int y_81), (5, .int nn), (0, .ref (ad a1)), (1, .ref (ad a2)), (2, .ref (ad a3))]) hx hb dX10_joins__108 hl (by decide) rfl (fun ls hl => ?_)
                  obtain ⟨y_113, ey_113⟩ : ∃ y : Int32, y = nn + 1 := ⟨_, rfl⟩
                  first | have ty_113 := i_add (a := nn.toInt) (b := 1) rfl (by decide) ey_113 (by omega) (by omega) | skip
                  refine lv_iinc (v := y_113) (lv' := [(5, .int y_113), (4, .int y_112), (3, .int y_109), (6, .int y_81), (0, .ref (ad a1)), (1, .ref (ad a2)), (2, .ref (ad a3))]) hx hb dX10_joins__110 hl (k := 3) rfl (by rw [ey_113]; rfl) (by decide) rfl (fun ls hl => ?_)
                  refine lv_aload_n hx hb dX10_joins__113 rfl (lv_at hl 6 rfl) ?_
                  refine lv_iload hx hb dX10_joins__114 (lv_at hl 0 rfl) ?_
                  refine lv_iload hx hb dX10_joins__116 (lv_at hl 3 rfl) ?_
                  refine va_iast hx hb hK hP hD hS (rPos (a3)) (rTy (a3)) (mW_R (by first | assumption | (unfold IR; omega))) (mT_R _) (i := y_113) (vp_of (a := y_113.toInt) rfl (by omega) (by omega)) dX10_joins__118 (fun H locs hP hD hS => ?_)
                  obtain ⟨n_114, m_115, o_116, hP, hD, wu_117⟩ := mW_Rx (by first | assumption | (unfold IR; omega)) hP hD
                  have u_117 := rU_v (x := (nn.toInt + 1)) (y := y_81.toInt) wu_117 (by first | assumption | (unfold IR; omega)) (by first | omega | decide) (by omega) rfl
                  have hP : va_P (dC, dI) vwCl (mW ad kc x0 x1 x2 x3 x4 x5 x6 x7 x8 x9 x10 x11 x12 x13 x14 x15 x16 x17 x18 x19 x20 x21 f0 f1 f2 f3 f4 f5 f6 f7 f8 f9 f10 f11 f12 f13 f14 f15 f16 f17 f18 f19 f20 f21 fL n_114 fP m_115 o_116) H := hP
                  have hD : va_D A (mW ad kc x0 x1 x2 x3 x4 x5 x6 x7 x8 x9 x10 x11 x12 x13 x14 x15 x16 x17 x18 x19 x20 x21 f0 f1 f2 f3 f4 f5 f6 f7 f8 f9 f10 f11 f12 f13 f14 f15 f16 f17 f18 f19 f20 f21 fL n_114 fP m_115 o_116) := hD
                  refine lv_goto (tgt := 8) hx hb dX10_joins__119 (by decide) ?_
                  exact ih8 y_109 y_112 y_113 n_114 m_115 o_116 (by first | omega | assumption | decide) (by first | omega | assumption | decide) (by first | omega | assumption | decide) (by first | omega | assumption | decide) (by first | omega | assumption | decide) (by first | omega | assumption | decide) (fun c h1 h2 => (u_117.2 c h1 h2).trans (v8_6 c h1 h2)) (by omega) _ _ ls hP hD hS (lv_sub hl [0, 1, 2, 4, 5, 6] rfl)
                · have tk_111 := c_ngt (a := kk.toInt) (b := y_110.toInt) rfl rfl k_111
                  refine lv_aload_n hx hb dX10_joins__93 rfl (lv_at hl 5 rfl) ?_
                  refine lv_iload hx hb dX10_joins__94 (lv_at hl 3 rfl) ?_
                  refine va_iald hx hb hK hP (rPos (a2)) (rTy (a2)) (mW_R (by first | assumption | (unfold IR; omega))) (mT_R _) (i := kk) (vp_of (a := kk.toInt) rfl (by omega) (by omega)) dX10_joins__96 ?_
                  refine lv_topi (fun y_118 ey_118 => ?_)
                  have rg_y_118 := i_rng y_118
                  have vy_118 := vI_lda (f := (rO hn hm ho) a2) (i := kk) (a := kk.toInt) ey_118 (by first | omega | decide)
                  have wy_118 := vI_cg (z := kk.toInt) (v8_6 a2 q1 q4)
                  refine lv_iload hx hb dX10_joins__97 (lv_at hl 1 rfl) ?_
                  refine lv_icmp_ne (tgt := 106) hx hb dX10_joins__99 (by decide) (fun k_119 => ?_) (fun k_119 => ?_)
                  · have tk_119 := c_ne (a := y_118.toInt) (b := y_81.toInt) rfl rfl k_119
                    refine lv_iconst (v := 0) hx hb dX10_joins__106 (by decide) ?_
                    refine lv_iadd hx hb dX10_joins__107 ?_
                    refine lv_topi (fun y_120 ey_120 => ?_)
                    first | have ty_120 := i_add (a := kk.toInt) (b := 0) rfl (by decide) ey_120 (by omega) (by omega) | skip
                    refine lv_istore (lv' := [(4, .int y_120), (3, .int y_109), (6, .int y_81), (5, .int nn), (0, .ref (ad a1)), (1, .ref (ad a2)), (2, .ref (ad a3))]) hx hb dX10_joins__108 hl (by decide) rfl (fun ls hl => ?_)
                    obtain ⟨y_121, ey_121⟩ : ∃ y : Int32, y = nn + 1 := ⟨_, rfl⟩
                    first | have ty_121 := i_add (a := nn.toInt) (b := 1) rfl (by decide) ey_121 (by omega) (by omega) | skip
                    refine lv_iinc (v := y_121) (lv' := [(5, .int y_121), (4, .int y_120), (3, .int y_109), (6, .int y_81), (0, .ref (ad a1)), (1, .ref (ad a2)), (2, .ref (ad a3))]) hx hb dX10_joins__110 hl (k := 3) rfl (by rw [ey_121]; rfl) (by decide) rfl (fun ls hl => ?_)
                    refine lv_aload_n hx hb dX10_joins__113 rfl (lv_at hl 6 rfl) ?_
                    refine lv_iload hx hb dX10_joins__114 (lv_at hl 0 rfl) ?_
                    refine lv_iload hx hb dX10_joins__116 (lv_at hl 3 rfl) ?_
                    refine va_iast hx hb hK hP hD hS (rPos (a3)) (rTy (a3)) (mW_R (by first | assumption | (unfold IR; omega))) (mT_R _) (i := y_121) (vp_of (a := y_121.toInt) rfl (by omega) (by omega)) dX10_joins__118 (fun H locs hP hD hS => ?_)
                    obtain ⟨n_122, m_123, o_124, hP, hD, wu_125⟩ := mW_Rx (by first | assumption | (unfold IR; omega)) hP hD
                    have u_125 := rU_v (x := (nn.toInt + 1)) (y := y_81.toInt) wu_125 (by first | assumption | (unfold IR; omega)) (by first | omega | decide) (by omega) rfl
                    have hP : va_P (dC, dI) vwCl (mW ad kc x0 x1 x2 x3 x4 x5 x6 x7 x8 x9 x10 x11 x12 x13 x14 x15 x16 x17 x18 x19 x20 x21 f0 f1 f2 f3 f4 f5 f6 f7 f8 f9 f10 f11 f12 f13 f14 f15 f16 f17 f18 f19 f20 f21 fL n_122 fP m_123 o_124) H := hP
                    have hD : va_D A (mW ad kc x0 x1 x2 x3 x4 x5 x6 x7 x8 x9 x10 x11 x12 x13 x14 x15 x16 x17 x18 x19 x20 x21 f0 f1 f2 f3 f4 f5 f6 f7 f8 f9 f10 f11 f12 f13 f14 f15 f16 f17 f18 f19 f20 f21 fL n_122 fP m_123 o_124) := hD
                    refine lv_goto (tgt := 8) hx hb dX10_joins__119 (by decide) ?_
                    exact ih8 y_109 y_120 y_121 n_122 m_123 o_124 (by first | omega | assumption | decide) (by first | omega | assumption | decide) (by first | omega | assumption | decide) (by first | omega | assumption | decide) (by first | omega | assumption | decide) (by first | omega | assumption | decide) (fun c h1 h2 => (u_125.2 c h1 h2).trans (v8_6 c h1 h2)) (by omega) _ _ ls hP hD hS (lv_sub hl [0, 1, 2, 4, 5, 6] rfl)
                  · have tk_119 := c_eq (a := y_118.toInt) (b := y_81.toInt) rfl rfl k_119
                    refine lv_iconst (v := 1) hx hb dX10_joins__102 (by decide) ?_
                    refine lv_goto (tgt := 107) hx hb dX10_joins__103 (by decide) ?_
                    refine lv_iadd hx hb dX10_joins__107 ?_
                    refine lv_topi (fun y_126 ey_126 => ?_)
                    first | have ty_126 := i_add (a := kk.toInt) (b := 1) rfl (by decide) ey_126 (by omega) (by omega) | skip
                    refine lv_istore (lv' := [(4, .int y_126), (3, .int y_109), (6, .int y_81), (5, .int nn), (0, .ref (ad a1)), (1, .ref (ad a2)), (2, .ref (ad a3))]) hx hb dX10_joins__108 hl (by decide) rfl (fun ls hl => ?_)
                    obtain ⟨y_127, ey_127⟩ : ∃ y : Int32, y = nn + 1 := ⟨_, rfl⟩
                    first | have ty_127 := i_add (a := nn.toInt) (b := 1) rfl (by decide) ey_127 (by omega) (by omega) | skip
                    refine lv_iinc (v := y_127) (lv' := [(5, .int y_127), (4, .int y_126), (3, .int y_109), (6, .int y_81), (0, .ref (ad a1)), (1, .ref (ad a2)), (2, .ref (ad a3))]) hx hb dX10_joins__110 hl (k := 3) rfl (by rw [ey_127]; rfl) (by decide) rfl (fun ls hl => ?_)
                    refine lv_aload_n hx hb dX10_joins__113 rfl (lv_at hl 6 rfl) ?_
                    refine lv_iload hx hb dX10_joins__114 (lv_at hl 0 rfl) ?_
                    refine lv_iload hx hb dX10_joins__116 (lv_at hl 3 rfl) ?_
                    refine va_iast hx hb hK hP hD hS (rPos (a3)) (rTy (a3)) (mW_R (by first | assumption | (unfold IR; omega))) (mT_R _) (i := y_127) (vp_of (a := y_127.toInt) rfl (by omega) (by omega)) dX10_joins__118 (fun H locs hP hD hS => ?_)
                    obtain ⟨n_128, m_129, o_130, hP, hD, wu_131⟩ := mW_Rx (by first | assumption | (unfold IR; omega)) hP hD
                    have u_131 := rU_v (x := (nn.toInt + 1)) (y := y_81.toInt) wu_131 (by first | assumption | (unfold IR; omega)) (by first | omega | decide) (by omega) rfl
                    have hP : va_P (dC, dI) vwCl (mW ad kc x0 x1 x2 x3 x4 x5 x6 x7 x8 x9 x10 x11 x12 x13 x14 x15 x16 x17 x18 x19 x20 x21 f0 f1 f2 f3 f4 f5 f6 f7 f8 f9 f10 f11 f12 f13 f14 f15 f16 f17 f18 f19 f20 f21 fL n_128 fP m_129 o_130) H := hP
                    have hD : va_D A (mW ad kc x0 x1 x2 x3 x4 x5 x6 x7 x8 x9 x10 x11 x12 x13 x14 x15 x16 x17 x18 x19 x20 x21 f0 f1 f2 f3 f4 f5 f6 f7 f8 f9 f10 f11 f12 f13 f14 f15 f16 f17 f18 f19 f20 f21 fL n_128 fP m_129 o_130) := hD
                    refine lv_goto (tgt := 8) hx hb dX10_joins__119 (by decide) ?_
                    exact ih8 y_109 y_126 y_127 n_128 m_129 o_130 (by first | omega | assumption | decide) (by first | omega | assumption | decide) (by first | omega | assumption | decide) (by first | omega | assumption | decide) (by first | omega | assumption | decide) (by first | omega | assumption | decide) (fun c h1 h2 => (u_131.2 c h1 h2).trans (v8_6 c h1 h2)) (by omega) _ _ ls hP hD hS (lv_sub hl [0, 1, 2, 4, 5, 6] rfl)
              · have tk_108 := c_eq (a := y_107.toInt) (b := y_81.toInt) rfl rfl k_108
                refine lv_iconst (v := 1) hx hb dX10_joins__76 (by decide) ?_
                refine lv_goto (tgt := 81) hx hb dX10_joins__77 (by decide) ?_
                refine lv_iadd hx hb dX10_joins__81 ?_
                refine lv_topi (fun y_132 ey_132 => ?_)
                first | have ty_132 := i_add (a := ii.toInt) (b := 1) rfl (by decide) ey_132 (by omega) (by omega) | skip
                refine lv_istore_n (lv' := [(3, .int y_132), (6, .int y_81), (5, .int nn), (4, .int kk), (0, .ref (ad a1)), (1, .ref (ad a2)), (2, .ref (ad a3))]) hx hb dX10_joins__82 rfl hl (by decide) rfl (fun ls hl => ?_)
                refine lv_iload hx hb dX10_joins__83 (lv_at hl 3 rfl) ?_
                refine lv_iload hx hb dX10_joins__85 (lv_at hl 3 rfl) ?_
                refine lv_aload_n hx hb dX10_joins__87 rfl (lv_at hl 5 rfl) ?_
                refine lv_iconst (v := 0) hx hb dX10_joins__88 (by decide) ?_
                refine va_iald hx hb hK hP (rPos (a2)) (rTy (a2)) (mW_R (by first | assumption | (unfold IR; omega))) (mT_R _) (i := 0) (by unfold vp_in; decide +kernel) dX10_joins__89 ?_
                refine lv_topi (fun y_133 ey_133 => ?_)
                have rg_y_133 := i_rng y_133
                have vy_133 := vI_lda (f := (rO hn hm ho) a2) (i := 0) (a := 0) ey_133 (by first | omega | decide)
                have wy_133 := vI_cg (z := 0) (v8_6 a2 q1 q4)
                refine lv_icmp_gt (tgt := 106) hx hb dX10_joins__90 (by decide) (fun k_134 => ?_) (fun k_134 => ?_)
                · have tk_134 := c_gt (a := kk.toInt) (b := y_133.toInt) rfl rfl k_134
                  refine lv_iconst (v := 0) hx hb dX10_joins__106 (by decide) ?_
                  refine lv_iadd hx hb dX10_joins__107 ?_
                  refine lv_topi (fun y_135 ey_135 => ?_)
                  first | have ty_135 := i_add (a := kk.toInt) (b := 0) rfl (by decide) ey_135 (by omega) (by omega) | skip
                  refine lv_istore (lv' := [(4, .int y_135), (3, .int y_132), (6, .int y_81), (5, .int nn), (0, .ref (ad a1)), (1, .ref (ad a2)), (2, .ref (ad a3))]) hx hb dX10_joins__108 hl (by decide) rfl (fun ls hl => ?_)
                  obtain ⟨y_136, ey_136⟩ : ∃ y : Int32, y = nn + 1 := ⟨_, rfl⟩
                  first | have ty_136 := i_add (a := nn.toInt) (b := 1) rfl (by decide) ey_136 (by omega) (by omega) | skip
                  refine lv_iinc (v := y_136) (lv' := [(5, .int y_136), (4, .int y_135), (3, .int y_132), (6, .int y_81), (0, .ref (ad a1)), (1, .ref (ad a2)), (2, .ref (ad a3))]) hx hb dX10_joins__110 hl (k := 3) rfl (by rw [ey_136]; rfl) (by decide) rfl (fun ls hl => ?_)
                  refine lv_aload_n hx hb dX10_joins__113 rfl (lv_at hl 6 rfl) ?_
                  refine lv_iload hx hb dX10_joins__114 (lv_at hl 0 rfl) ?_
                  refine lv_iload hx hb dX10_joins__116 (lv_at hl 3 rfl) ?_
                  refine va_iast hx hb hK hP hD hS (rPos (a3)) (rTy (a3)) (mW_R (by first | assumption | (unfold IR; omega))) (mT_R _) (i := y_136) (vp_of (a := y_136.toInt) rfl (by omega) (by omega)) dX10_joins__118 (fun H locs hP hD hS => ?_)
                  obtain ⟨n_137, m_138, o_139, hP, hD, wu_140⟩ := mW_Rx (by first | assumption | (unfold IR; omega)) hP hD
                  have u_140 := rU_v (x := (nn.toInt + 1)) (y := y_81.toInt) wu_140 (by first | assumption | (unfold IR; omega)) (by first | omega | decide) (by omega) rfl
                  have hP : va_P (dC, dI) vwCl (mW ad kc x0 x1 x2 x3 x4 x5 x6 x7 x8 x9 x10 x11 x12 x13 x14 x15 x16 x17 x18 x19 x20 x21 f0 f1 f2 f3 f4 f5 f6 f7 f8 f9 f10 f11 f12 f13 f14 f15 f16 f17 f18 f19 f20 f21 fL n_137 fP m_138 o_139) H := hP
                  have hD : va_D A (mW ad kc x0 x1 x2 x3 x4 x5 x6 x7 x8 x9 x10 x11 x12 x13 x14 x15 x16 x17 x18 x19 x20 x21 f0 f1 f2 f3 f4 f5 f6 f7 f8 f9 f10 f11 f12 f13 f14 f15 f16 f17 f18 f19 f20 f21 fL n_137 fP m_138 o_139) := hD
                  refine lv_goto (tgt := 8) hx hb dX10_joins__119 (by decide) ?_
                  exact ih8 y_132 y_135 y_136 n_137 m_138 o_139 (by first | omega | assumption | decide) (by first | omega | assumption | decide) (by first | omega | assumption | decide) (by first | omega | assumption | decide) (by first | omega | assumption | decide) (by first | omega | assumption | decide) (fun c h1 h2 => (u_140.2 c h1 h2).trans (v8_6 c h1 h2)) (by omega) _ _ ls hP hD hS (lv_sub hl [0, 1, 2, 4, 5, 6] rfl)
                · have tk_134 := c_ngt (a := kk.toInt) (b := y_133.toInt) rfl rfl k_134
                  refine lv_aload_n hx hb dX10_joins__93 rfl (lv_at hl 5 rfl) ?_
                  refine lv_iload hx hb dX10_joins__94 (lv_at hl 3 rfl) ?_
                  refine va_iald hx hb hK hP (rPos (a2)) (rTy (a2)) (mW_R (by first | assumption | (unfold IR; omega))) (mT_R _) (i := kk) (vp_of (a := kk.toInt) rfl (by omega) (by omega)) dX10_joins__96 ?_
                  refine lv_topi (fun y_141 ey_141 => ?_)
                  have rg_y_141 := i_rng y_141
                  have vy_141 := vI_lda (f := (rO hn hm ho) a2) (i := kk) (a := kk.toInt) ey_141 (by first | omega | decide)
                  have wy_141 := vI_cg (z := kk.toInt) (v8_6 a2 q1 q4)
                  refine lv_iload hx hb dX10_joins__97 (lv_at hl 1 rfl) ?_
                  refine lv_icmp_ne (tgt := 106) hx hb dX10_joins__99 (by decide) (fun k_142 => ?_) (fun k_142 => ?_)
                  · have tk_142 := c_ne (a := y_141.toInt) (b := y_81.toInt) rfl rfl k_142
                    refine lv_iconst (v := 0) hx hb dX10_joins__106 (by decide) ?_
                    refine lv_iadd hx hb dX10_joins__107 ?_
                    refine lv_topi (fun y_143 ey_143 => ?_)
                    first | have ty_143 := i_add (a := kk.toInt) (b := 0) rfl (by decide) ey_143 (by omega) (by omega) | skip
                    refine lv_istore (lv' := [(4, .int y_143), (3, .int y_132), (6, .int y_81), (5, .int nn), (0, .ref (ad a1)), (1, .ref (ad a2)), (2, .ref (ad a3))]) hx hb dX10_joins__108 hl (by decide) rfl (fun ls hl => ?_)
                    obtain ⟨y_144, ey_144⟩ : ∃ y : Int32, y = nn + 1 := ⟨_, rfl⟩
                    first | have ty_144 := i_add (a := nn.toInt) (b := 1) rfl (by decide) ey_144 (by omega) (by omega) | skip
                    refine lv_iinc (v := y_144) (lv' := [(5, .int y_144), (4, .int y_143), (3, .int y_132), (6, .int y_81), (0, .ref (ad a1)), (1, .ref (ad a2)), (2, .ref (ad a3))]) hx hb dX10_joins__110 hl (k := 3) rfl (by rw [ey_144]; rfl) (by decide) rfl (fun ls hl => ?_)
                    refine lv_aload_n hx hb dX10_joins__113 rfl (lv_at hl 6 rfl) ?_
                    refine lv_iload hx hb dX10_joins__114 (lv_at hl 0 rfl) ?_
                    refine lv_iload hx hb dX10_joins__116 (lv_at hl 3 rfl) ?_
                    refine va_iast hx hb hK hP hD hS (rPos (a3)) (rTy (a3)) (mW_R (by first | assumption | (unfold IR; omega))) (mT_R _) (i := y_144) (vp_of (a := y_144.toInt) rfl (by omega) (by omega)) dX10_joins__118 (fun H locs hP hD hS => ?_)
                    obtain ⟨n_145, m_146, o_147, hP, hD, wu_148⟩ := mW_Rx (by first | assumption | (unfold IR; omega)) hP hD
                    have u_148 := rU_v (x := (nn.toInt + 1)) (y := y_81.toInt) wu_148 (by first | assumption | (unfold IR; omega)) (by first | omega | decide) (by omega) rfl
                    have hP : va_P (dC, dI) vwCl (mW ad kc x0 x1 x2 x3 x4 x5 x6 x7 x8 x9 x10 x11 x12 x13 x14 x15 x16 x17 x18 x19 x20 x21 f0 f1 f2 f3 f4 f5 f6 f7 f8 f9 f10 f11 f12 f13 f14 f15 f16 f17 f18 f19 f20 f21 fL n_145 fP m_146 o_147) H := hP
                    have hD : va_D A (mW ad kc x0 x1 x2 x3 x4 x5 x6 x7 x8 x9 x10 x11 x12 x13 x14 x15 x16 x17 x18 x19 x20 x21 f0 f1 f2 f3 f4 f5 f6 f7 f8 f9 f10 f11 f12 f13 f14 f15 f16 f17 f18 f19 f20 f21 fL n_145 fP m_146 o_147) := hD
                    refine lv_goto (tgt := 8) hx hb dX10_joins__119 (by decide) ?_
                    exact ih8 y_132 y_143 y_144 n_145 m_146 o_147 (by first | omega | assumption | decide) (by first | omega | assumption | decide) (by first | omega | assumption | decide) (by first | omega | assumption | decide) (by first | omega | assumption | decide) (by first | omega | assumption | decide) (fun c h1 h2 => (u_148.2 c h1 h2).trans (v8_6 c h1 h2)) (by omega) _ _ ls hP hD hS (lv_sub hl [0, 1, 2, 4, 5, 6] rfl)
                  · have tk_142 := c_eq (a := y_141.toInt) (b := y_81.toInt) rfl rfl k_142
                    refine lv_iconst (v := 1) hx hb dX10_joins__102 (by decide) ?_
                    refine lv_goto (tgt := 107) hx hb dX10_joins__103 (by decide) ?_
                    refine lv_iadd hx hb dX10_joins__107 ?_
                    refine lv_topi (fun y_149 ey_149 => ?_)
                    first | have ty_149 := i_add (a := kk.toInt) (b := 1) rfl (by decide) ey_149 (by omega) (by omega) | skip
                    refine lv_istore (lv' := [(4, .int y_149), (3, .int y_132), (6, .int y_81), (5, .int nn), (0, .ref (ad a1)), (1, .ref (ad a2)), (2, .ref (ad a3))]) hx hb dX10_joins__108 hl (by decide) rfl (fun ls hl => ?_)
                    obtain ⟨y_150, ey_150⟩ : ∃ y : Int32, y = nn + 1 := ⟨_, rfl⟩
                    first | have ty_150 := i_add (a := nn.toInt) (b := 1) rfl (by decide) ey_150 (by omega) (by omega) | skip
                    refine lv_iinc (v := y_150) (lv' := [(5, .int y_150), (4, .int y_149), (3, .int y_132), (6, .int y_81), (0, .ref (ad a1)), (1, .ref (ad a2)), (2, .ref (ad a3))]) hx hb dX10_joins__110 hl (k := 3) rfl (by rw [ey_150]; rfl) (by decide) rfl (fun ls hl => ?_)
                    refine lv_aload_n hx hb dX10_joins__113 rfl (lv_at hl 6 rfl) ?_
                    refine lv_iload hx hb dX10_joins__114 (lv_at hl 0 rfl) ?_
                    refine lv_iload hx hb dX10_joins__116 (lv_at hl 3 rfl) ?_
                    refine va_iast hx hb hK hP hD hS (rPos (a3)) (rTy (a3)) (mW_R (by first | assumption | (unfold IR; omega))) (mT_R _) (i := y_150) (vp_of (a := y_150.toInt) rfl (by omega) (by omega)) dX10_joins__118 (fun H locs hP hD hS => ?_)
                    obtain ⟨n_151, m_152, o_153, hP, hD, wu_154⟩ := mW_Rx (by first | assumption | (unfold IR; omega)) hP hD
                    have u_154 := rU_v (x := (nn.toInt + 1)) (y := y_81.toInt) wu_154 (by first | assumption | (unfold IR; omega)) (by first | omega | decide) (by omega) rfl
                    have hP : va_P (dC, dI) vwCl (mW ad kc x0 x1 x2 x3 x4 x5 x6 x7 x8 x9 x10 x11 x12 x13 x14 x15 x16 x17 x18 x19 x20 x21 f0 f1 f2 f3 f4 f5 f6 f7 f8 f9 f10 f11 f12 f13 f14 f15 f16 f17 f18 f19 f20 f21 fL n_151 fP m_152 o_153) H := hP
                    have hD : va_D A (mW ad kc x0 x1 x2 x3 x4 x5 x6 x7 x8 x9 x10 x11 x12 x13 x14 x15 x16 x17 x18 x19 x20 x21 f0 f1 f2 f3 f4 f5 f6 f7 f8 f9 f10 f11 f12 f13 f14 f15 f16 f17 f18 f19 f20 f21 fL n_151 fP m_152 o_153) := hD
                    refine lv_goto (tgt := 8) hx hb dX10_joins__119 (by decide) ?_
                    exact ih8 y_132 y_149 y_150 n_151 m_152 o_153 (by first | omega | assumption | decide) (by first | omega | assumption | decide) (by first | omega | assumption | decide) (by first | omega | assumption | decide) (by first | omega | assumption | decide) (by first | omega | assumption | decide) (fun c h1 h2 => (u_154.2 c h1 h2).trans (v8_6 c h1 h2)) (by omega) _ _ ls hP hD hS (lv_sub hl [0, 1, 2, 4, 5, 6] rfl)
          · have tk_80 := c_ngt (a := ii.toInt) (b := y_79.toInt) rfl rfl k_80
            refine lv_aload_n hx hb dX10_joins__38 rfl (lv_at hl 3 rfl) ?_
            refine lv_iload_n hx hb dX10_joins__39 rfl (lv_at hl 2 rfl) ?_
            refine va_iald hx hb hK hP (rPos (a1)) (rTy (a1)) (mW_R (by first | assumption | (unfold IR; omega))) (mT_R _) (i := ii) (vp_of (a := ii.toInt) rfl (by omega) (by omega)) dX10_joins__40 ?_
            refine lv_topi (fun y_155 ey_155 => ?_)
            have rg_y_155 := i_rng y_155
            have vy_155 := vI_lda (f := (rO hn hm ho) a1) (i := ii) (a := ii.toInt) ey_155 (by first | omega | decide)
            have wy_155 := vI_cg (z := ii.toInt) (v8_6 a1 q0 q3)
            refine lv_aload_n hx hb dX10_joins__41 rfl (lv_at hl 4 rfl) ?_
            refine lv_iload hx hb dX10_joins__42 (lv_at hl 1 rfl) ?_
            refine va_iald hx hb hK hP (rPos (a2)) (rTy (a2)) (mW_R (by first | assumption | (unfold IR; omega))) (mT_R _) (i := kk) (vp_of (a := kk.toInt) rfl (by omega) (by omega)) dX10_joins__44 ?_
            refine lv_topi (fun y_156 ey_156 => ?_)
            have rg_y_156 := i_rng y_156
            have vy_156 := vI_lda (f := (rO hn hm ho) a2) (i := kk) (a := kk.toInt) ey_156 (by first | omega | decide)
            have wy_156 := vI_cg (z := kk.toInt) (v8_6 a2 q1 q4)
            refine lv_icmp_gt (tgt := 54) hx hb dX10_joins__45 (by decide) (fun k_157 => ?_) (fun k_157 => ?_)
            · have tk_157 := c_gt (a := y_155.toInt) (b := y_156.toInt) rfl rfl k_157
              refine lv_aload_n hx hb dX10_joins__54 rfl (lv_at hl 4 rfl) ?_
              refine lv_iload hx hb dX10_joins__55 (lv_at hl 1 rfl) ?_
              refine va_iald hx hb hK hP (rPos (a2)) (rTy (a2)) (mW_R (by first | assumption | (unfold IR; omega))) (mT_R _) (i := kk) (vp_of (a := kk.toInt) rfl (by omega) (by omega)) dX10_joins__57 ?_
              refine lv_topi (fun y_158 ey_158 => ?_)
              have rg_y_158 := i_rng y_158
              have vy_158 := vI_lda (f := (rO hn hm ho) a2) (i := kk) (a := kk.toInt) ey_158 (by first | omega | decide)
              have wy_158 := vI_cg (z := kk.toInt) (v8_6 a2 q1 q4)
              refine lv_istore (lv' := [(6, .int y_158), (5, .int nn), (4, .int kk), (3, .int ii), (0, .ref (ad a1)), (1, .ref (ad a2)), (2, .ref (ad a3))]) hx hb dX10_joins__58 hl (by decide) rfl (fun ls hl => ?_)
              refine lv_iload_n hx hb dX10_joins__60 rfl (lv_at hl 3 rfl) ?_
              refine lv_iload_n hx hb dX10_joins__61 rfl (lv_at hl 3 rfl) ?_
              refine lv_aload_n hx hb dX10_joins__62 rfl (lv_at hl 4 rfl) ?_
              refine lv_iconst (v := 0) hx hb dX10_joins__63 (by decide) ?_
              refine va_iald hx hb hK hP (rPos (a1)) (rTy (a1)) (mW_R (by first | assumption | (unfold IR; omega))) (mT_R _) (i := 0) (by unfold vp_in; decide +kernel) dX10_joins__64 ?_
              refine lv_topi (fun y_159 ey_159 => ?_)
              have rg_y_159 := i_rng y_159
              have vy_159 := vI_lda (f := (rO hn hm ho) a1) (i := 0) (a := 0) ey_159 (by first | omega | decide)
              have wy_159 := vI_cg (z := 0) (v8_6 a1 q0 q3)
              refine lv_icmp_gt (tgt := 80) hx hb dX10_joins__65 (by decide) (fun k_160 => ?_) (fun k_160 => ?_)
              · have tk_160 := c_gt (a := ii.toInt) (b := y_159.toInt) rfl rfl k_160
                refine lv_iconst (v := 0) hx hb dX10_joins__80 (by decide) ?_
                refine lv_iadd hx hb dX10_joins__81 ?_
                refine lv_topi (fun y_161 ey_161 => ?_)
                first | have ty_161 := i_add (a := ii.toInt) (b := 0) rfl (by decide) ey_161 (by omega) (by omega) | skip
                refine lv_istore_n (lv' := [(3, .int y_161), (6, .int y_158), (5, .int nn), (4, .int kk), (0, .ref (ad a1)), (1, .ref (ad a2)), (2, .ref (ad a3))]) hx hb dX10_joins__82 rfl hl (by decide) rfl (fun ls hl => ?_)
                refine lv_iload hx hb dX10_joins__83 (lv_at hl 3 rfl) ?_
                refine lv_iload hx hb dX10_joins__85 (lv_at hl 3 rfl) ?_
                refine lv_aload_n hx hb dX10_joins__87 rfl (lv_at hl 5 rfl) ?_
                refine lv_iconst (v := 0) hx hb dX10_joins__88 (by decide) ?_
                refine va_iald hx hb hK hP (rPos (a2)) (rTy (a2)) (mW_R (by first | assumption | (unfold IR; omega))) (mT_R _) (i := 0) (by unfold vp_in; decide +kernel) dX10_joins__89 ?_
                refine lv_topi (fun y_162 ey_162 => ?_)
                have rg_y_162 := i_rng y_162
                have vy_162 := vI_lda (f := (rO hn hm ho) a2) (i := 0) (a := 0) ey_162 (by first | omega | decide)
                have wy_162 := vI_cg (z := 0) (v8_6 a2 q1 q4)
                refine lv_icmp_gt (tgt := 106) hx hb dX10_joins__90 (by decide) (fun k_163 => ?_) (fun k_163 => ?_)
                · have tk_163 := c_gt (a := kk.toInt) (b := y_162.toInt) rfl rfl k_163
                  refine lv_iconst (v := 0) hx hb dX10_joins__106 (by decide) ?_
                  refine lv_iadd hx hb dX10_joins__107 ?_
                  refine lv_topi (fun y_164 ey_164 => ?_)
                  first | have ty_164 := i_add (a := kk.toInt) (b := 0) rfl (by decide) ey_164 (by omega) (by omega) | skip
                  refine lv_istore (lv' := [(4, .int y_164), (3, .int y_161), (6, .int y_158), (5, .int nn), (0, .ref (ad a1)), (1, .ref (ad a2)), (2, .ref (ad a3))]) hx hb dX10_joins__108 hl (by decide) rfl (fun ls hl => ?_)
                  obtain ⟨y_165, ey_165⟩ : ∃ y : Int32, y = nn + 1 := ⟨_, rfl⟩
                  first | have ty_165 := i_add (a := nn.toInt) (b := 1) rfl (by decide) ey_165 (by omega) (by omega) | skip
                  refine lv_iinc (v := y_165) (lv' := [(5, .int y_165), (4, .int y_164), (3, .int y_161), (6, .int y_158), (0, .ref (ad a1)), (1, .ref (ad a2)), (2, .ref (ad a3))]) hx hb dX10_joins__110 hl (k := 3) rfl (by rw [ey_165]; rfl) (by decide) rfl (fun ls hl => ?_)
                  refine lv_aload_n hx hb dX10_joins__113 rfl (lv_at hl 6 rfl) ?_
                  refine lv_iload hx hb dX10_joins__114 (lv_at hl 0 rfl) ?_
                  refine lv_iload hx hb dX10_joins__116 (lv_at hl 3 rfl) ?_
                  refine va_iast hx hb hK hP hD hS (rPos (a3)) (rTy (a3)) (mW_R (by first | assumption | (unfold IR; omega))) (mT_R _) (i := y_165) (vp_of (a := y_165.toInt) rfl (by omega) (by omega)) dX10_joins__118 (fun H locs hP hD hS => ?_)
                  obtain ⟨n_166, m_167, o_168, hP, hD, wu_169⟩ := mW_Rx (by first | assumption | (unfold IR; omega)) hP hD
                  have u_169 := rU_v (x := (nn.toInt + 1)) (y := y_158.toInt) wu_169 (by first | assumption | (unfold IR; omega)) (by first | omega | decide) (by omega) rfl
                  have hP : va_P (dC, dI) vwCl (mW ad kc x0 x1 x2 x3 x4 x5 x6 x7 x8 x9 x10 x11 x12 x13 x14 x15 x16 x17 x18 x19 x20 x21 f0 f1 f2 f3 f4 f5 f6 f7 f8 f9 f10 f11 f12 f13 f14 f15 f16 f17 f18 f19 f20 f21 fL n_166 fP m_167 o_168) H := hP
                  have hD : va_D A (mW ad kc x0 x1 x2 x3 x4 x5 x6 x7 x8 x9 x10 x11 x12 x13 x14 x15 x16 x17 x18 x19 x20 x21 f0 f1 f2 f3 f4 f5 f6 f7 f8 f9 f10 f11 f12 f13 f14 f15 f16 f17 f18 f19 f20 f21 fL n_166 fP m_167 o_168) := hD
                  refine lv_goto (tgt := 8) hx hb dX10_joins__119 (by decide) ?_
                  exact ih8 y_161 y_164 y_165 n_166 m_167 o_168 (by first | omega | assumption | decide) (by first | omega | assumption | decide) (by first | omega | assumption | decide) (by first | omega | assumption | decide) (by first | omega | assumption | decide) (by first | omega | assumption | decide) (fun c h1 h2 => (u_169.2 c h1 h2).trans (v8_6 c h1 h2)) (by omega) _ _ ls hP hD hS (lv_sub hl [0, 1, 2, 4, 5, 6] rfl)
                · have tk_163 := c_ngt (a := kk.toInt) (b := y_162.toInt) rfl rfl k_163
                  refine lv_aload_n hx hb dX10_joins__93 rfl (lv_at hl 5 rfl) ?_
                  refine lv_iload hx hb dX10_joins__94 (lv_at hl 3 rfl) ?_
                  refine va_iald hx hb hK hP (rPos (a2)) (rTy (a2)) (mW_R (by first | assumption | (unfold IR; omega))) (mT_R _) (i := kk) (vp_of (a := kk.toInt) rfl (by omega) (by omega)) dX10_joins__96 ?_
                  refine lv_topi (fun y_170 ey_170 => ?_)
                  have rg_y_170 := i_rng y_170
                  have vy_170 := vI_lda (f := (rO hn hm ho) a2) (i := kk) (a := kk.toInt) ey_170 (by first | omega | decide)
                  have wy_170 := vI_cg (z := kk.toInt) (v8_6 a2 q1 q4)
                  refine lv_iload hx hb dX10_joins__97 (lv_at hl 1 rfl) ?_
                  refine lv_icmp_ne (tgt := 106) hx hb dX10_joins__99 (by decide) (fun k_171 => ?_) (fun k_171 => ?_)
                  · have tk_171 := c_ne (a := y_170.toInt) (b := y_158.toInt) rfl rfl k_171
                    refine lv_iconst (v := 0) hx hb dX10_joins__106 (by decide) ?_
                    refine lv_iadd hx hb dX10_joins__107 ?_
                    refine lv_topi (fun y_172 ey_172 => ?_)
                    first | have ty_172 := i_add (a := kk.toInt) (b := 0) rfl (by decide) ey_172 (by omega) (by omega) | skip
                    refine lv_istore (lv' := [(4, .int y_172), (3, .int y_161), (6, .int y_158), (5, .int nn), (0, .ref (ad a1)), (1, .ref (ad a2)), (2, .ref (ad a3))]) hx hb dX10_joins__108 hl (by decide) rfl (fun ls hl => ?_)
                    obtain ⟨y_173, ey_173⟩ : ∃ y : Int32, y = nn + 1 := ⟨_, rfl⟩
                    first | have ty_173 := i_add (a := nn.toInt) (b := 1) rfl (by decide) ey_173 (by omega) (by omega) | skip
                    refine lv_iinc (v := y_173) (lv' := [(5, .int y_173), (4, .int y_172), (3, .int y_161), (6, .int y_158), (0, .ref (ad a1)), (1, .ref (ad a2)), (2, .ref (ad a3))]) hx hb dX10_joins__110 hl (k := 3) rfl (by rw [ey_173]; rfl) (by decide) rfl (fun ls hl => ?_)
                    refine lv_aload_n hx hb dX10_joins__113 rfl (lv_at hl 6 rfl) ?_
                    refine lv_iload hx hb dX10_joins__114 (lv_at hl 0 rfl) ?_
                    refine lv_iload hx hb dX10_joins__116 (lv_at hl 3 rfl) ?_
                    refine va_iast hx hb hK hP hD hS (rPos (a3)) (rTy (a3)) (mW_R (by first | assumption | (unfold IR; omega))) (mT_R _) (i := y_173) (vp_of (a := y_173.toInt) rfl (by omega) (by omega)) dX10_joins__118 (fun H locs hP hD hS => ?_)
                    obtain ⟨n_174, m_175, o_176, hP, hD, wu_177⟩ := mW_Rx (by first | assumption | (unfold IR; omega)) hP hD
                    have u_177 := rU_v (x := (nn.toInt + 1)) (y := y_158.toInt) wu_177 (by first | assumption | (unfold IR; omega)) (by first | omega | decide) (by omega) rfl
                    have hP : va_P (dC, dI) vwCl (mW ad kc x0 x1 x2 x3 x4 x5 x6 x7 x8 x9 x10 x11 x12 x13 x14 x15 x16 x17 x18 x19 x20 x21 f0 f1 f2 f3 f4 f5 f6 f7 f8 f9 f10 f11 f12 f13 f14 f15 f16 f17 f18 f19 f20 f21 fL n_174 fP m_175 o_176) H := hP
                    have hD : va_D A (mW ad kc x0 x1 x2 x3 x4 x5 x6 x7 x8 x9 x10 x11 x12 x13 x14 x15 x16 x17 x18 x19 x20 x21 f0 f1 f2 f3 f4 f5 f6 f7 f8 f9 f10 f11 f12 f13 f14 f15 f16 f17 f18 f19 f20 f21 fL n_174 fP m_175 o_176) := hD
                    refine lv_goto (tgt := 8) hx hb dX10_joins__119 (by decide) ?_
                    exact ih8 y_161 y_172 y_173 n_174 m_175 o_176 (by first | omega | assumption | decide) (by first | omega | assumption | decide) (by first | omega | assumption | decide) (by first | omega | assumption | decide) (by first | omega | assumption | decide) (by first | omega | assumption | decide) (fun c h1 h2 => (u_177.2 c h1 h2).trans (v8_6 c h1 h2)) (by omega) _ _ ls hP hD hS (lv_sub hl [0, 1, 2, 4, 5, 6] rfl)
                  · have tk_171 := c_eq (a := y_170.toInt) (b := y_158.toInt) rfl rfl k_171
                    refine lv_iconst (v := 1) hx hb dX10_joins__102 (by decide) ?_
                    refine lv_goto (tgt := 107) hx hb dX10_joins__103 (by decide) ?_
                    refine lv_iadd hx hb dX10_joins__107 ?_
                    refine lv_topi (fun y_178 ey_178 => ?_)
                    first | have ty_178 := i_add (a := kk.toInt) (b := 1) rfl (by decide) ey_178 (by omega) (by omega) | skip
                    refine lv_istore (lv' := [(4, .int y_178), (3, .int y_161), (6, .int y_158), (5, .int nn), (0, .ref (ad a1)), (1, .ref (ad a2)), (2, .ref (ad a3))]) hx hb dX10_joins__108 hl (by decide) rfl (fun ls hl => ?_)
                    obtain ⟨y_179, ey_179⟩ : ∃ y : Int32, y = nn + 1 := ⟨_, rfl⟩
                    first | have ty_179 := i_add (a := nn.toInt) (b := 1) rfl (by decide) ey_179 (by omega) (by omega) | skip
                    refine lv_iinc (v := y_179) (lv' := [(5, .int y_179), (4, .int y_178), (3, .int y_161), (6, .int y_158), (0, .ref (ad a1)), (1, .ref (ad a2)), (2, .ref (ad a3))]) hx hb dX10_joins__110 hl (k := 3) rfl (by rw [ey_179]; rfl) (by decide) rfl (fun ls hl => ?_)
                    refine lv_aload_n hx hb dX10_joins__113 rfl (lv_at hl 6 rfl) ?_
                    refine lv_iload hx hb dX10_joins__114 (lv_at hl 0 rfl) ?_
                    refine lv_iload hx hb dX10_joins__116 (lv_at hl 3 rfl) ?_
                    refine va_iast hx hb hK hP hD hS (rPos (a3)) (rTy (a3)) (mW_R (by first | assumption | (unfold IR; omega))) (mT_R _) (i := y_179) (vp_of (a := y_179.toInt) rfl (by omega) (by omega)) dX10_joins__118 (fun H locs hP hD hS => ?_)
                    obtain ⟨n_180, m_181, o_182, hP, hD, wu_183⟩ := mW_Rx (by first | assumption | (unfold IR; omega)) hP hD
                    have u_183 := rU_v (x := (nn.toInt + 1)) (y := y_158.toInt) wu_183 (by first | assumption | (unfold IR; omega)) (by first | omega | decide) (by omega) rfl
                    have hP : va_P (dC, dI) vwCl (mW ad kc x0 x1 x2 x3 x4 x5 x6 x7 x8 x9 x10 x11 x12 x13 x14 x15 x16 x17 x18 x19 x20 x21 f0 f1 f2 f3 f4 f5 f6 f7 f8 f9 f10 f11 f12 f13 f14 f15 f16 f17 f18 f19 f20 f21 fL n_180 fP m_181 o_182) H := hP
                    have hD : va_D A (mW ad kc x0 x1 x2 x3 x4 x5 x6 x7 x8 x9 x10 x11 x12 x13 x14 x15 x16 x17 x18 x19 x20 x21 f0 f1 f2 f3 f4 f5 f6 f7 f8 f9 f10 f11 f12 f13 f14 f15 f16 f17 f18 f19 f20 f21 fL n_180 fP m_181 o_182) := hD
                    refine lv_goto (tgt := 8) hx hb dX10_joins__119 (by decide) ?_
                    exact ih8 y_161 y_178 y_179 n_180 m_181 o_182 (by first | omega | assumption | decide) (by first | omega | assumption | decide) (by first | omega | assumption | decide) (by first | omega | assumption | decide) (by first | omega | assumption | decide) (by first | omega | assumption | decide) (fun c h1 h2 => (u_183.2 c h1 h2).trans (v8_6 c h1 h2)) (by omega) _ _ ls hP hD hS (lv_sub hl [0, 1, 2, 4, 5, 6] rfl)
              · have tk_160 := c_ngt (a := ii.toInt) (b := y_159.toInt) rfl rfl k_160
                refine lv_aload_n hx hb dX10_joins__68 rfl (lv_at hl 4 rfl) ?_
                refine lv_iload_n hx hb dX10_joins__69 rfl (lv_at hl 3 rfl) ?_
                refine va_iald hx hb hK hP (rPos (a1)) (rTy (a1)) (mW_R (by first | assumption | (unfold IR; omega))) (mT_R _) (i := ii) (vp_of (a := ii.toInt) rfl (by omega) (by omega)) dX10_joins__70 ?_
                refine lv_topi (fun y_184 ey_184 => ?_)
                have rg_y_184 := i_rng y_184
                have vy_184 := vI_lda (f := (rO hn hm ho) a1) (i := ii) (a := ii.toInt) ey_184 (by first | omega | decide)
                have wy_184 := vI_cg (z := ii.toInt) (v8_6 a1 q0 q3)
                refine lv_iload hx hb dX10_joins__71 (lv_at hl 0 rfl) ?_
                refine lv_icmp_ne (tgt := 80) hx hb dX10_joins__73 (by decide) (fun k_185 => ?_) (fun k_185 => ?_)
                · have tk_185 := c_ne (a := y_184.toInt) (b := y_158.toInt) rfl rfl k_185
                  refine lv_iconst (v := 0) hx hb dX10_joins__80 (by decide) ?_
                  refine lv_iadd hx hb dX10_joins__81 ?_
                  refine lv_topi (fun y_186 ey_186 => ?_)
                  first | have ty_186 := i_add (a := ii.toInt) (b := 0) rfl (by decide) ey_186 (by omega) (by omega) | skip
                  refine lv_istore_n (lv' := [(3, .int y_186), (6, .int y_158), (5, .int nn), (4, .int kk), (0, .ref (ad a1)), (1, .ref (ad a2)), (2, .ref (ad a3))]) hx hb dX10_joins__82 rfl hl (by decide) rfl (fun ls hl => ?_)
                  refine lv_iload hx hb dX10_joins__83 (lv_at hl 3 rfl) ?_
                  refine lv_iload hx hb dX10_joins__85 (lv_at hl 3 rfl) ?_
                  refine lv_aload_n hx hb dX10_joins__87 rfl (lv_at hl 5 rfl) ?_
                  refine lv_iconst (v := 0) hx hb dX10_joins__88 (by decide) ?_
                  refine va_iald hx hb hK hP (rPos (a2)) (rTy (a2)) (mW_R (by first | assumption | (unfold IR; omega))) (mT_R _) (i := 0) (by unfold vp_in; decide +kernel) dX10_joins__89 ?_
                  refine lv_topi (fun y_187 ey_187 => ?_)
                  have rg_y_187 := i_rng y_187
                  have vy_187 := vI_lda (f := (rO hn hm ho) a2) (i := 0) (a := 0) ey_187 (by first | omega | decide)
                  have wy_187 := vI_cg (z := 0) (v8_6 a2 q1 q4)
                  refine lv_icmp_gt (tgt := 106) hx hb dX10_joins__90 (by decide) (fun k_188 => ?_) (fun k_188 => ?_)
                  · have tk_188 := c_gt (a := kk.toInt) (b := y_187.toInt) rfl rfl k_188
                    refine lv_iconst (v := 0) hx hb dX10_joins__106 (by decide) ?_
                    refine lv_iadd hx hb dX10_joins__107 ?_
                    refine lv_topi (fun y_189 ey_189 => ?_)
                    first | have ty_189 := i_add (a := kk.toInt) (b := 0) rfl (by decide) ey_189 (by omega) (by omega) | skip
                    refine lv_istore (lv' := [(4, .int y_189), (3, .int y_186), (6, .int y_158), (5, .int nn), (0, .ref (ad a1)), (1, .ref (ad a2)), (2, .ref (ad a3))]) hx hb dX10_joins__108 hl (by decide) rfl (fun ls hl => ?_)
                    obtain ⟨y_190, ey_190⟩ : ∃ y : Int32, y = nn + 1 := ⟨_, rfl⟩
                    first | have ty_190 := i_add (a := nn.toInt) (b := 1) rfl (by decide) ey_190 (by omega) (by omega) | skip
                    refine lv_iinc (v := y_190) (lv' := [(5, .int y_190), (4, .int y_189), (3, .int y_186), (6, .int y_158), (0, .ref (ad a1)), (1, .ref (ad a2)), (2, .ref (ad a3))]) hx hb dX10_joins__110 hl (k := 3) rfl (by rw [ey_190]; rfl) (by decide) rfl (fun ls hl => ?_)
                    refine lv_aload_n hx hb dX10_joins__113 rfl (lv_at hl 6 rfl) ?_
                    refine lv_iload hx hb dX10_joins__114 (lv_at hl 0 rfl) ?_
                    refine lv_iload hx hb dX10_joins__116 (lv_at hl 3 rfl) ?_
                    refine va_iast hx hb hK hP hD hS (rPos (a3)) (rTy (a3)) (mW_R (by first | assumption | (unfold IR; omega))) (mT_R _) (i := y_190) (vp_of (a := y_190.toInt) rfl (by omega) (by omega)) dX10_joins__118 (fun H locs hP hD hS => ?_)
                    obtain ⟨n_191, m_192, o_193, hP, hD, wu_194⟩ := mW_Rx (by first | assumption | (unfold IR; omega)) hP hD
                    have u_194 := rU_v (x := (nn.toInt + 1)) (y := y_158.toInt) wu_194 (by first | assumption | (unfold IR; omega)) (by first | omega | decide) (by omega) rfl
                    have hP : va_P (dC, dI) vwCl (mW ad kc x0 x1 x2 x3 x4 x5 x6 x7 x8 x9 x10 x11 x12 x13 x14 x15 x16 x17 x18 x19 x20 x21 f0 f1 f2 f3 f4 f5 f6 f7 f8 f9 f10 f11 f12 f13 f14 f15 f16 f17 f18 f19 f20 f21 fL n_191 fP m_192 o_193) H := hP
                    have hD : va_D A (mW ad kc x0 x1 x2 x3 x4 x5 x6 x7 x8 x9 x10 x11 x12 x13 x14 x15 x16 x17 x18 x19 x20 x21 f0 f1 f2 f3 f4 f5 f6 f7 f8 f9 f10 f11 f12 f13 f14 f15 f16 f17 f18 f19 f20 f21 fL n_191 fP m_192 o_193) := hD
                    refine lv_goto (tgt := 8) hx hb dX10_joins__119 (by decide) ?_
                    exact ih8 y_186 y_189 y_190 n_191 m_192 o_193 (by first | omega | assumption | decide) (by first | omega | assumption | decide) (by first | omega | assumption | decide) (by first | omega | assumption | decide) (by first | omega | assumption | decide) (by first | omega | assumption | decide) (fun c h1 h2 => (u_194.2 c h1 h2).trans (v8_6 c h1 h2)) (by omega) _ _ ls hP hD hS (lv_sub hl [0, 1, 2, 4, 5, 6] rfl)
                  · have tk_188 := c_ngt (a := kk.toInt) (b := y_187.toInt) rfl rfl k_188
                    refine lv_aload_n hx hb dX10_joins__93 rfl (lv_at hl 5 rfl) ?_
                    refine lv_iload hx hb dX10_joins__94 (lv_at hl 3 rfl) ?_
                    refine va_iald hx hb hK hP (rPos (a2)) (rTy (a2)) (mW_R (by first | assumption | (unfold IR; omega))) (mT_R _) (i := kk) (vp_of (a := kk.toInt) rfl (by omega) (by omega)) dX10_joins__96 ?_
                    refine lv_topi (fun y_195 ey_195 => ?_)
                    have rg_y_195 := i_rng y_195
                    have vy_195 := vI_lda (f := (rO hn hm ho) a2) (i := kk) (a := kk.toInt) ey_195 (by first | omega | decide)
                    have wy_195 := vI_cg (z := kk.toInt) (v8_6 a2 q1 q4)
                    refine lv_iload hx hb dX10_joins__97 (lv_at hl 1 rfl) ?_
                    refine lv_icmp_ne (tgt := 106) hx hb dX10_joins__99 (by decide) (fun k_196 => ?_) (fun k_196 => ?_)
                    · have tk_196 := c_ne (a := y_195.toInt) (b := y_158.toInt) rfl rfl k_196
                      refine lv_iconst (v := 0) hx hb dX10_joins__106 (by decide) ?_
                      refine lv_iadd hx hb dX10_joins__107 ?_
                      refine lv_topi (fun y_197 ey_197 => ?_)
                      first | have ty_197 := i_add (a := kk.toInt) (b := 0) rfl (by decide) ey_197 (by omega) (by omega) | skip
                      refine lv_istore (lv' := [(4, .int y_197), (3, .int y_186), (6, .int y_158), (5, .int nn), (0, .ref (ad a1)), (1, .ref (ad a2)), (2, .ref (ad a3))]) hx hb dX10_joins__108 hl (by decide) rfl (fun ls hl => ?_)
                      obtain ⟨y_198, ey_198⟩ : ∃ y : Int32, y = nn + 1 := ⟨_, rfl⟩
                      first | have ty_198 := i_add (a := nn.toInt) (b := 1) rfl (by decide) ey_198 (by omega) (by omega) | skip
                      refine lv_iinc (v := y_198) (lv' := [(5, .int y_198), (4, .int y_197), (3, .int y_186), (6, .int y_158), (0, .ref (ad a1)), (1, .ref (ad a2)), (2, .ref (ad a3))]) hx hb dX10_joins__110 hl (k := 3) rfl (by rw [ey_198]; rfl) (by decide) rfl (fun ls hl => ?_)
                      refine lv_aload_n hx hb dX10_joins__113 rfl (lv_at hl 6 rfl) ?_
                      refine lv_iload hx hb dX10_joins__114 (lv_at hl 0 rfl) ?_
                      refine lv_iload hx hb dX10_joins__116 (lv_at hl 3 rfl) ?_
                      refine va_iast hx hb hK hP hD hS (rPos (a3)) (rTy (a3)) (mW_R (by first | assumption | (unfold IR; omega))) (mT_R _) (i := y_198) (vp_of (a := y_198.toInt) rfl (by omega) (by omega)) dX10_joins__118 (fun H locs hP hD hS => ?_)
                      obtain ⟨n_199, m_200, o_201, hP, hD, wu_202⟩ := mW_Rx (by first | assumption | (unfold IR; omega)) hP hD
                      have u_202 := rU_v (x := (nn.toInt + 1)) (y := y_158.toInt) wu_202 (by first | assumption | (unfold IR; omega)) (by first | omega | decide) (by omega) rfl
                      have hP : va_P (dC, dI) vwCl (mW ad kc x0 x1 x2 x3 x4 x5 x6 x7 x8 x9 x10 x11 x12 x13 x14 x15 x16 x17 x18 x19 x20 x21 f0 f1 f2 f3 f4 f5 f6 f7 f8 f9 f10 f11 f12 f13 f14 f15 f16 f17 f18 f19 f20 f21 fL n_199 fP m_200 o_201) H := hP
                      have hD : va_D A (mW ad kc x0 x1 x2 x3 x4 x5 x6 x7 x8 x9 x10 x11 x12 x13 x14 x15 x16 x17 x18 x19 x20 x21 f0 f1 f2 f3 f4 f5 f6 f7 f8 f9 f10 f11 f12 f13 f14 f15 f16 f17 f18 f19 f20 f21 fL n_199 fP m_200 o_201) := hD
                      refine lv_goto (tgt := 8) hx hb dX10_joins__119 (by decide) ?_
                      exact ih8 y_186 y_197 y_198 n_199 m_200 o_201 (by first | omega | assumption | decide) (by first | omega | assumption | decide) (by first | omega | assumption | decide) (by first | omega | assumption | decide) (by first | omega | assumption | decide) (by first | omega | assumption | decide) (fun c h1 h2 => (u_202.2 c h1 h2).trans (v8_6 c h1 h2)) (by omega) _ _ ls hP hD hS (lv_sub hl [0, 1, 2, 4, 5, 6] rfl)
                    · have tk_196 := c_eq (a := y_195.toInt) (b := y_158.toInt) rfl rfl k_196
                      refine lv_iconst (v := 1) hx hb dX10_joins__102 (by decide) ?_
                      refine lv_goto (tgt := 107) hx hb dX10_joins__103 (by decide) ?_
                      refine lv_iadd hx hb dX10_joins__107 ?_
                      refine lv_topi (fun y_203 ey_203 => ?_)
                      first | have ty_203 := i_add (a := kk.toInt) (b := 1) rfl (by decide) ey_203 (by omega) (by omega) | skip
                      refine lv_istore (lv' := [(4, .int y_203), (3, .int y_186), (6, .int y_158), (5, .int nn), (0, .ref (ad a1)), (1, .ref (ad a2)), (2, .ref (ad a3))]) hx hb dX10_joins__108 hl (by decide) rfl (fun ls hl => ?_)
                      obtain ⟨y_204, ey_204⟩ : ∃ y : Int32, y = nn + 1 := ⟨_, rfl⟩
                      first | have ty_204 := i_add (a := nn.toInt) (b := 1) rfl (by decide) ey_204 (by omega) (by omega) | skip
                      refine lv_iinc (v := y_204) (lv' := [(5, .int y_204), (4, .int y_203), (3, .int y_186), (6, .int y_158), (0, .ref (ad a1)), (1, .ref (ad a2)), (2, .ref (ad a3))]) hx hb dX10_joins__110 hl (k := 3) rfl (by rw [ey_204]; rfl) (by decide) rfl (fun ls hl => ?_)
                      refine lv_aload_n hx hb dX10_joins__113 rfl (lv_at hl 6 rfl) ?_
                      refine lv_iload hx hb dX10_joins__114 (lv_at hl 0 rfl) ?_
                      refine lv_iload hx hb dX10_joins__116 (lv_at hl 3 rfl) ?_
                      refine va_iast hx hb hK hP hD hS (rPos (a3)) (rTy (a3)) (mW_R (by first | assumption | (unfold IR; omega))) (mT_R _) (i := y_204) (vp_of (a := y_204.toInt) rfl (by omega) (by omega)) dX10_joins__118 (fun H locs hP hD hS => ?_)
                      obtain ⟨n_205, m_206, o_207, hP, hD, wu_208⟩ := mW_Rx (by first | assumption | (unfold IR; omega)) hP hD
                      have u_208 := rU_v (x := (nn.toInt + 1)) (y := y_158.toInt) wu_208 (by first | assumption | (unfold IR; omega)) (by first | omega | decide) (by omega) rfl
                      have hP : va_P (dC, dI) vwCl (mW ad kc x0 x1 x2 x3 x4 x5 x6 x7 x8 x9 x10 x11 x12 x13 x14 x15 x16 x17 x18 x19 x20 x21 f0 f1 f2 f3 f4 f5 f6 f7 f8 f9 f10 f11 f12 f13 f14 f15 f16 f17 f18 f19 f20 f21 fL n_205 fP m_206 o_207) H := hP
                      have hD : va_D A (mW ad kc x0 x1 x2 x3 x4 x5 x6 x7 x8 x9 x10 x11 x12 x13 x14 x15 x16 x17 x18 x19 x20 x21 f0 f1 f2 f3 f4 f5 f6 f7 f8 f9 f10 f11 f12 f13 f14 f15 f16 f17 f18 f19 f20 f21 fL n_205 fP m_206 o_207) := hD
                      refine lv_goto (tgt := 8) hx hb dX10_joins__119 (by decide) ?_
                      exact ih8 y_186 y_203 y_204 n_205 m_206 o_207 (by first | omega | assumption | decide) (by first | omega | assumption | decide) (by first | omega | assumption | decide) (by first | omega | assumption | decide) (by first | omega | assumption | decide) (by first | omega | assumption | decide) (fun c h1 h2 => (u_208.2 c h1 h2).trans (v8_6 c h1 h2)) (by omega) _ _ ls hP hD hS (lv_sub hl [0, 1, 2, 4, 5, 6] rfl)
                · have tk_185 := c_eq (a := y_184.toInt) (b := y_158.toInt) rfl rfl k_185
                  refine lv_iconst (v := 1) hx hb dX10_joins__76 (by decide) ?_
                  refine lv_goto (tgt := 81) hx hb dX10_joins__77 (by decide) ?_
                  refine lv_iadd hx hb dX10_joins__81 ?_
                  refine lv_topi (fun y_209 ey_209 => ?_)
                  first | have ty_209 := i_add (a := ii.toInt) (b := 1) rfl (by decide) ey_209 (by omega) (by omega) | skip
                  refine lv_istore_n (lv' := [(3, .int y_209), (6, .int y_158), (5, .int nn), (4, .int kk), (0, .ref (ad a1)), (1, .ref (ad a2)), (2, .ref (ad a3))]) hx hb dX10_joins__82 rfl hl (by decide) rfl (fun ls hl => ?_)
                  refine lv_iload hx hb dX10_joins__83 (lv_at hl 3 rfl) ?_
                  refine lv_iload hx hb dX10_joins__85 (lv_at hl 3 rfl) ?_
                  refine lv_aload_n hx hb dX10_joins__87 rfl (lv_at hl 5 rfl) ?_
                  refine lv_iconst (v := 0) hx hb dX10_joins__88 (by decide) ?_
                  refine va_iald hx hb hK hP (rPos (a2)) (rTy (a2)) (mW_R (by first | assumption | (unfold IR; omega))) (mT_R _) (i := 0) (by unfold vp_in; decide +kernel) dX10_joins__89 ?_
                  refine lv_topi (fun y_210 ey_210 => ?_)
                  have rg_y_210 := i_rng y_210
                  have vy_210 := vI_lda (f := (rO hn hm ho) a2) (i := 0) (a := 0) ey_210 (by first | omega | decide)
                  have wy_210 := vI_cg (z := 0) (v8_6 a2 q1 q4)
                  refine lv_icmp_gt (tgt := 106) hx hb dX10_joins__90 (by decide) (fun k_211 => ?_) (fun k_211 => ?_)
                  · have tk_211 := c_gt (a := kk.toInt) (b := y_210.toInt) rfl rfl k_211
                    refine lv_iconst (v := 0) hx hb dX10_joins__106 (by decide) ?_
                    refine lv_iadd hx hb dX10_joins__107 ?_
                    refine lv_topi (fun y_212 ey_212 => ?_)
                    first | have ty_212 := i_add (a := kk.toInt) (b := 0) rfl (by decide) ey_212 (by omega) (by omega) | skip
                    refine lv_istore (lv' := [(4, .int y_212), (3, .int y_209), (6, .int y_158), (5, .int nn), (0, .ref (ad a1)), (1, .ref (ad a2)), (2, .ref (ad a3))]) hx hb dX10_joins__108 hl (by decide) rfl (fun ls hl => ?_)
                    obtain ⟨y_213, ey_213⟩ : ∃ y : Int32, y = nn + 1 := ⟨_, rfl⟩
                    first | have ty_213 := i_add (a := nn.toInt) (b := 1) rfl (by decide) ey_213 (by omega) (by omega) | skip
                    refine lv_iinc (v := y_213) (lv' := [(5, .int y_213), (4, .int y_212), (3, .int y_209), (6, .int y_158), (0, .ref (ad a1)), (1, .ref (ad a2)), (2, .ref (ad a3))]) hx hb dX10_joins__110 hl (k := 3) rfl (by rw [ey_213]; rfl) (by decide) rfl (fun ls hl => ?_)
                    refine lv_aload_n hx hb dX10_joins__113 rfl (lv_at hl 6 rfl) ?_
                    refine lv_iload hx hb dX10_joins__114 (lv_at hl 0 rfl) ?_
                    refine lv_iload hx hb dX10_joins__116 (lv_at hl 3 rfl) ?_
                    refine va_iast hx hb hK hP hD hS (rPos (a3)) (rTy (a3)) (mW_R (by first | assumption | (unfold IR; omega))) (mT_R _) (i := y_213) (vp_of (a := y_213.toInt) rfl (by omega) (by omega)) dX10_joins__118 (fun H locs hP hD hS => ?_)
                    obtain ⟨n_214, m_215, o_216, hP, hD, wu_217⟩ := mW_Rx (by first | assumption | (unfold IR; omega)) hP hD
                    have u_217 := rU_v (x := (nn.toInt + 1)) (y := y_158.toInt) wu_217 (by first | assumption | (unfold IR; omega)) (by first | omega | decide) (by omega) rfl
                    have hP : va_P (dC, dI) vwCl (mW ad kc x0 x1 x2 x3 x4 x5 x6 x7 x8 x9 x10 x11 x12 x13 x14 x15 x16 x17 x18 x19 x20 x21 f0 f1 f2 f3 f4 f5 f6 f7 f8 f9 f10 f11 f12 f13 f14 f15 f16 f17 f18 f19 f20 f21 fL n_214 fP m_215 o_216) H := hP
                    have hD : va_D A (mW ad kc x0 x1 x2 x3 x4 x5 x6 x7 x8 x9 x10 x11 x12 x13 x14 x15 x16 x17 x18 x19 x20 x21 f0 f1 f2 f3 f4 f5 f6 f7 f8 f9 f10 f11 f12 f13 f14 f15 f16 f17 f18 f19 f20 f21 fL n_214 fP m_215 o_216) := hD
                    refine lv_goto (tgt := 8) hx hb dX10_joins__119 (by decide) ?_
                    exact ih8 y_209 y_212 y_213 n_214 m_215 o_216 (by first | omega | assumption | decide) (by first | omega | assumption | decide) (by first | omega | assumption | decide) (by first | omega | assumption | decide) (by first | omega | assumption | decide) (by first | omega | assumption | decide) (fun c h1 h2 => (u_217.2 c h1 h2).trans (v8_6 c h1 h2)) (by omega) _ _ ls hP hD hS (lv_sub hl [0, 1, 2, 4, 5, 6] rfl)
                  · have tk_211 := c_ngt (a := kk.toInt) (b := y_210.toInt) rfl rfl k_211
                    refine lv_aload_n hx hb dX10_joins__93 rfl (lv_at hl 5 rfl) ?_
                    refine lv_iload hx hb dX10_joins__94 (lv_at hl 3 rfl) ?_
                    refine va_iald hx hb hK hP (rPos (a2)) (rTy (a2)) (mW_R (by first | assumption | (unfold IR; omega))) (mT_R _) (i := kk) (vp_of (a := kk.toInt) rfl (by omega) (by omega)) dX10_joins__96 ?_
                    refine lv_topi (fun y_218 ey_218 => ?_)
                    have rg_y_218 := i_rng y_218
                    have vy_218 := vI_lda (f := (rO hn hm ho) a2) (i := kk) (a := kk.toInt) ey_218 (by first | omega | decide)
                    have wy_218 := vI_cg (z := kk.toInt) (v8_6 a2 q1 q4)
                    refine lv_iload hx hb dX10_joins__97 (lv_at hl 1 rfl) ?_
                    refine lv_icmp_ne (tgt := 106) hx hb dX10_joins__99 (by decide) (fun k_219 => ?_) (fun k_219 => ?_)
                    · have tk_219 := c_ne (a := y_218.toInt) (b := y_158.toInt) rfl rfl k_219
                      refine lv_iconst (v := 0) hx hb dX10_joins__106 (by decide) ?_
                      refine lv_iadd hx hb dX10_joins__107 ?_
                      refine lv_topi (fun y_220 ey_220 => ?_)
                      first | have ty_220 := i_add (a := kk.toInt) (b := 0) rfl (by decide) ey_220 (by omega) (by omega) | skip
                      refine lv_istore (lv' := [(4, .int y_220), (3, .int y_209), (6, .int y_158), (5, .int nn), (0, .ref (ad a1)), (1, .ref (ad a2)), (2, .ref (ad a3))]) hx hb dX10_joins__108 hl (by decide) rfl (fun ls hl => ?_)
                      obtain ⟨y_221, ey_221⟩ : ∃ y : Int32, y = nn + 1 := ⟨_, rfl⟩
                      first | have ty_221 := i_add (a := nn.toInt) (b := 1) rfl (by decide) ey_221 (by omega) (by omega) | skip
                      refine lv_iinc (v := y_221) (lv' := [(5, .int y_221), (4, .int y_220), (3, .int y_209), (6, .int y_158), (0, .ref (ad a1)), (1, .ref (ad a2)), (2, .ref (ad a3))]) hx hb dX10_joins__110 hl (k := 3) rfl (by rw [ey_221]; rfl) (by decide) rfl (fun ls hl => ?_)
                      refine lv_aload_n hx hb dX10_joins__113 rfl (lv_at hl 6 rfl) ?_
                      refine lv_iload hx hb dX10_joins__114 (lv_at hl 0 rfl) ?_
                      refine lv_iload hx hb dX10_joins__116 (lv_at hl 3 rfl) ?_
                      refine va_iast hx hb hK hP hD hS (rPos (a3)) (rTy (a3)) (mW_R (by first | assumption | (unfold IR; omega))) (mT_R _) (i := y_221) (vp_of (a := y_221.toInt) rfl (by omega) (by omega)) dX10_joins__118 (fun H locs hP hD hS => ?_)
                      obtain ⟨n_222, m_223, o_224, hP, hD, wu_225⟩ := mW_Rx (by first | assumption | (unfold IR; omega)) hP hD
                      have u_225 := rU_v (x := (nn.toInt + 1)) (y := y_158.toInt) wu_225 (by first | assumption | (unfold IR; omega)) (by first | omega | decide) (by omega) rfl
                      have hP : va_P (dC, dI) vwCl (mW ad kc x0 x1 x2 x3 x4 x5 x6 x7 x8 x9 x10 x11 x12 x13 x14 x15 x16 x17 x18 x19 x20 x21 f0 f1 f2 f3 f4 f5 f6 f7 f8 f9 f10 f11 f12 f13 f14 f15 f16 f17 f18 f19 f20 f21 fL n_222 fP m_223 o_224) H := hP
                      have hD : va_D A (mW ad kc x0 x1 x2 x3 x4 x5 x6 x7 x8 x9 x10 x11 x12 x13 x14 x15 x16 x17 x18 x19 x20 x21 f0 f1 f2 f3 f4 f5 f6 f7 f8 f9 f10 f11 f12 f13 f14 f15 f16 f17 f18 f19 f20 f21 fL n_222 fP m_223 o_224) := hD
                      refine lv_goto (tgt := 8) hx hb dX10_joins__119 (by decide) ?_
                      exact ih8 y_209 y_220 y_221 n_222 m_223 o_224 (by first | omega | assumption | decide) (by first | omega | assumption | decide) (by first | omega | assumption | decide) (by first | omega | assumption | decide) (by first | omega | assumption | decide) (by first | omega | assumption | decide) (fun c h1 h2 => (u_225.2 c h1 h2).trans (v8_6 c h1 h2)) (by omega) _ _ ls hP hD hS (lv_sub hl [0, 1, 2, 4, 5, 6] rfl)
                    · have tk_219 := c_eq (a := y_218.toInt) (b := y_158.toInt) rfl rfl k_219
                      refine lv_iconst (v := 1) hx hb dX10_joins__102 (by decide) ?_
                      refine lv_goto (tgt := 107) hx hb dX10_joins__103 (by decide) ?_
                      refine lv_iadd hx hb dX10_joins__107 ?_
                      refine lv_topi (fun y_226 ey_226 => ?_)
                      first | have ty_226 := i_add (a := kk.toInt) (b := 1) rfl (by decide) ey_226 (by omega) (by omega) | skip
                      refine lv_istore (lv' := [(4, .int y_226), (3, .int y_209), (6, .int y_158), (5, .int nn), (0, .ref (ad a1)), (1, .ref (ad a2)), (2, .ref (ad a3))]) hx hb dX10_joins__108 hl (by decide) rfl (fun ls hl => ?_)
                      obtain ⟨y_227, ey_227⟩ : ∃ y : Int32, y = nn + 1 := ⟨_, rfl⟩
                      first | have ty_227 := i_add (a := nn.toInt) (b := 1) rfl (by decide) ey_227 (by omega) (by omega) | skip
                      refine lv_iinc (v := y_227) (lv' := [(5, .int y_227), (4, .int y_226), (3, .int y_209), (6, .int y_158), (0, .ref (ad a1)), (1, .ref (ad a2)), (2, .ref (ad a3))]) hx hb dX10_joins__110 hl (k := 3) rfl (by rw [ey_227]; rfl) (by decide) rfl (fun ls hl => ?_)
                      refine lv_aload_n hx hb dX10_joins__113 rfl (lv_at hl 6 rfl) ?_
                      refine lv_iload hx hb dX10_joins__114 (lv_at hl 0 rfl) ?_
                      refine lv_iload hx hb dX10_joins__116 (lv_at hl 3 rfl) ?_
                      refine va_iast hx hb hK hP hD hS (rPos (a3)) (rTy (a3)) (mW_R (by first | assumption | (unfold IR; omega))) (mT_R _) (i := y_227) (vp_of (a := y_227.toInt) rfl (by omega) (by omega)) dX10_joins__118 (fun H locs hP hD hS => ?_)
                      obtain ⟨n_228, m_229, o_230, hP, hD, wu_231⟩ := mW_Rx (by first | assumption | (unfold IR; omega)) hP hD
                      have u_231 := rU_v (x := (nn.toInt + 1)) (y := y_158.toInt) wu_231 (by first | assumption | (unfold IR; omega)) (by first | omega | decide) (by omega) rfl
                      have hP : va_P (dC, dI) vwCl (mW ad kc x0 x1 x2 x3 x4 x5 x6 x7 x8 x9 x10 x11 x12 x13 x14 x15 x16 x17 x18 x19 x20 x21 f0 f1 f2 f3 f4 f5 f6 f7 f8 f9 f10 f11 f12 f13 f14 f15 f16 f17 f18 f19 f20 f21 fL n_228 fP m_229 o_230) H := hP
                      have hD : va_D A (mW ad kc x0 x1 x2 x3 x4 x5 x6 x7 x8 x9 x10 x11 x12 x13 x14 x15 x16 x17 x18 x19 x20 x21 f0 f1 f2 f3 f4 f5 f6 f7 f8 f9 f10 f11 f12 f13 f14 f15 f16 f17 f18 f19 f20 f21 fL n_228 fP m_229 o_230) := hD
                      refine lv_goto (tgt := 8) hx hb dX10_joins__119 (by decide) ?_
                      exact ih8 y_209 y_226 y_227 n_228 m_229 o_230 (by first | omega | assumption | decide) (by first | omega | assumption | decide) (by first | omega | assumption | decide) (by first | omega | assumption | decide) (by first | omega | assumption | decide) (by first | omega | assumption | decide) (fun c h1 h2 => (u_231.2 c h1 h2).trans (v8_6 c h1 h2)) (by omega) _ _ ls hP hD hS (lv_sub hl [0, 1, 2, 4, 5, 6] rfl)
            · have tk_157 := c_ngt (a := y_155.toInt) (b := y_156.toInt) rfl rfl k_157
              refine lv_aload_n hx hb dX10_joins__48 rfl (lv_at hl 3 rfl) ?_
              refine lv_iload_n hx hb dX10_joins__49 rfl (lv_at hl 2 rfl) ?_
              refine va_iald hx hb hK hP (rPos (a1)) (rTy (a1)) (mW_R (by first | assumption | (unfold IR; omega))) (mT_R _) (i := ii) (vp_of (a := ii.toInt) rfl (by omega) (by omega)) dX10_joins__50 ?_
              refine lv_topi (fun y_232 ey_232 => ?_)
              have rg_y_232 := i_rng y_232
              have vy_232 := vI_lda (f := (rO hn hm ho) a1) (i := ii) (a := ii.toInt) ey_232 (by first | omega | decide)
              have wy_232 := vI_cg (z := ii.toInt) (v8_6 a1 q0 q3)
              refine lv_goto (tgt := 58) hx hb dX10_joins__51 (by decide) ?_
              refine lv_istore (lv' := [(6, .int y_232), (5, .int nn), (4, .int kk), (3, .int ii), (0, .ref (ad a1)), (1, .ref (ad a2)), (2, .ref (ad a3))]) hx hb dX10_joins__58 hl (by decide) rfl (fun ls hl => ?_)
              refine lv_iload_n hx hb dX10_joins__60 rfl (lv_at hl 3 rfl) ?_
              refine lv_iload_n hx hb dX10_joins__61 rfl (lv_at hl 3 rfl) ?_
              refine lv_aload_n hx hb dX10_joins__62 rfl (lv_at hl 4 rfl) ?_
              refine lv_iconst (v := 0) hx hb dX10_joins__63 (by decide) ?_
              refine va_iald hx hb hK hP (rPos (a1)) (rTy (a1)) (mW_R (by first | assumption | (unfold IR; omega))) (mT_R _) (i := 0) (by unfold vp_in; decide +kernel) dX10_joins__64 ?_
              refine lv_topi (fun y_233 ey_233 => ?_)
              have rg_y_233 := i_rng y_233
              have vy_233 := vI_lda (f := (rO hn hm ho) a1) (i := 0) (a := 0) ey_233 (by first | omega | decide)
              have wy_233 := vI_cg (z := 0) (v8_6 a1 q0 q3)
              refine lv_icmp_gt (tgt := 80) hx hb dX10_joins__65 (by decide) (fun k_234 => ?_) (fun k_234 => ?_)
              · have tk_234 := c_gt (a := ii.toInt) (b := y_233.toInt) rfl rfl k_234
                refine lv_iconst (v := 0) hx hb dX10_joins__80 (by decide) ?_
                refine lv_iadd hx hb dX10_joins__81 ?_
                refine lv_topi (fun y_235 ey_235 => ?_)
                first | have ty_235 := i_add (a := ii.toInt) (b := 0) rfl (by decide) ey_235 (by omega) (by omega) | skip
                refine lv_istore_n (lv' := [(3, .int y_235), (6, .int y_232), (5, .int nn), (4, .int kk), (0, .ref (ad a1)), (1, .ref (ad a2)), (2, .ref (ad a3))]) hx hb dX10_joins__82 rfl hl (by decide) rfl (fun ls hl => ?_)
                refine lv_iload hx hb dX10_joins__83 (lv_at hl 3 rfl) ?_
                refine lv_iload hx hb dX10_joins__85 (lv_at hl 3 rfl) ?_
                refine lv_aload_n hx hb dX10_joins__87 rfl (lv_at hl 5 rfl) ?_
                refine lv_iconst (v := 0) hx hb dX10_joins__88 (by decide) ?_
                refine va_iald hx hb hK hP (rPos (a2)) (rTy (a2)) (mW_R (by first | assumption | (unfold IR; omega))) (mT_R _) (i := 0) (by unfold vp_in; decide +kernel) dX10_joins__89 ?_
                refine lv_topi (fun y_236 ey_236 => ?_)
                have rg_y_236 := i_rng y_236
                have vy_236 := vI_lda (f := (rO hn hm ho) a2) (i := 0) (a := 0) ey_236 (by first | omega | decide)
                have wy_236 := vI_cg (z := 0) (v8_6 a2 q1 q4)
                refine lv_icmp_gt (tgt := 106) hx hb dX10_joins__90 (by decide) (fun k_237 => ?_) (fun k_237 => ?_)
                · have tk_237 := c_gt (a := kk.toInt) (b := y_236.toInt) rfl rfl k_237
                  refine lv_iconst (v := 0) hx hb dX10_joins__106 (by decide) ?_
                  refine lv_iadd hx hb dX10_joins__107 ?_
                  refine lv_topi (fun y_238 ey_238 => ?_)
                  first | have ty_238 := i_add (a := kk.toInt) (b := 0) rfl (by decide) ey_238 (by omega) (by omega) | skip
                  refine lv_istore (lv' := [(4, .int y_238), (3, .int y_235), (6, .int y_232), (5, .int nn), (0, .ref (ad a1)), (1, .ref (ad a2)), (2, .ref (ad a3))]) hx hb dX10_joins__108 hl (by decide) rfl (fun ls hl => ?_)
                  obtain ⟨y_239, ey_239⟩ : ∃ y : Int32, y = nn + 1 := ⟨_, rfl⟩
                  first | have ty_239 := i_add (a := nn.toInt) (b := 1) rfl (by decide) ey_239 (by omega) (by omega) | skip
                  refine lv_iinc (v := y_239) (lv' := [(5, .int y_239), (4, .int y_238), (3, .int y_235), (6, .int y_232), (0, .ref (ad a1)), (1, .ref (ad a2)), (2, .ref (ad a3))]) hx hb dX10_joins__110 hl (k := 3) rfl (by rw [ey_239]; rfl) (by decide) rfl (fun ls hl => ?_)
                  refine lv_aload_n hx hb dX10_joins__113 rfl (lv_at hl 6 rfl) ?_
                  refine lv_iload hx hb dX10_joins__114 (lv_at hl 0 rfl) ?_
                  refine lv_iload hx hb dX10_joins__116 (lv_at hl 3 rfl) ?_
                  refine va_iast hx hb hK hP hD hS (rPos (a3)) (rTy (a3)) (mW_R (by first | assumption | (unfold IR; omega))) (mT_R _) (i := y_239) (vp_of (a := y_239.toInt) rfl (by omega) (by omega)) dX10_joins__118 (fun H locs hP hD hS => ?_)
                  obtain ⟨n_240, m_241, o_242, hP, hD, wu_243⟩ := mW_Rx (by first | assumption | (unfold IR; omega)) hP hD
                  have u_243 := rU_v (x := (nn.toInt + 1)) (y := y_232.toInt) wu_243 (by first | assumption | (unfold IR; omega)) (by first | omega | decide) (by omega) rfl
                  have hP : va_P (dC, dI) vwCl (mW ad kc x0 x1 x2 x3 x4 x5 x6 x7 x8 x9 x10 x11 x12 x13 x14 x15 x16 x17 x18 x19 x20 x21 f0 f1 f2 f3 f4 f5 f6 f7 f8 f9 f10 f11 f12 f13 f14 f15 f16 f17 f18 f19 f20 f21 fL n_240 fP m_241 o_242) H := hP
                  have hD : va_D A (mW ad kc x0 x1 x2 x3 x4 x5 x6 x7 x8 x9 x10 x11 x12 x13 x14 x15 x16 x17 x18 x19 x20 x21 f0 f1 f2 f3 f4 f5 f6 f7 f8 f9 f10 f11 f12 f13 f14 f15 f16 f17 f18 f19 f20 f21 fL n_240 fP m_241 o_242) := hD
                  refine lv_goto (tgt := 8) hx hb dX10_joins__119 (by decide) ?_
                  exact ih8 y_235 y_238 y_239 n_240 m_241 o_242 (by first | omega | assumption | decide) (by first | omega | assumption | decide) (by first | omega | assumption | decide) (by first | omega | assumption | decide) (by first | omega | assumption | decide) (by first | omega | assumption | decide) (fun c h1 h2 => (u_243.2 c h1 h2).trans (v8_6 c h1 h2)) (by omega) _ _ ls hP hD hS (lv_sub hl [0, 1, 2, 4, 5, 6] rfl)
                · have tk_237 := c_ngt (a := kk.toInt) (b := y_236.toInt) rfl rfl k_237
                  refine lv_aload_n hx hb dX10_joins__93 rfl (lv_at hl 5 rfl) ?_
                  refine lv_iload hx hb dX10_joins__94 (lv_at hl 3 rfl) ?_
                  refine va_iald hx hb hK hP (rPos (a2)) (rTy (a2)) (mW_R (by first | assumption | (unfold IR; omega))) (mT_R _) (i := kk) (vp_of (a := kk.toInt) rfl (by omega) (by omega)) dX10_joins__96 ?_
                  refine lv_topi (fun y_244 ey_244 => ?_)
                  have rg_y_244 := i_rng y_244
                  have vy_244 := vI_lda (f := (rO hn hm ho) a2) (i := kk) (a := kk.toInt) ey_244 (by first | omega | decide)
                  have wy_244 := vI_cg (z := kk.toInt) (v8_6 a2 q1 q4)
                  refine lv_iload hx hb dX10_joins__97 (lv_at hl 1 rfl) ?_
                  refine lv_icmp_ne (tgt := 106) hx hb dX10_joins__99 (by decide) (fun k_245 => ?_) (fun k_245 => ?_)
                  · have tk_245 := c_ne (a := y_244.toInt) (b := y_232.toInt) rfl rfl k_245
                    refine lv_iconst (v := 0) hx hb dX10_joins__106 (by decide) ?_
                    refine lv_iadd hx hb dX10_joins__107 ?_
                    refine lv_topi (fun y_246 ey_246 => ?_)
                    first | have ty_246 := i_add (a := kk.toInt) (b := 0) rfl (by decide) ey_246 (by omega) (by omega) | skip
                    refine lv_istore (lv' := [(4, .int y_246), (3, .int y_235), (6, .int y_232), (5, .int nn), (0, .ref (ad a1)), (1, .ref (ad a2)), (2, .ref (ad a3))]) hx hb dX10_joins__108 hl (by decide) rfl (fun ls hl => ?_)
                    obtain ⟨y_247, ey_247⟩ : ∃ y : Int32, y = nn + 1 := ⟨_, rfl⟩
                    first | have ty_247 := i_add (a := nn.toInt) (b := 1) rfl (by decide) ey_247 (by omega) (by omega) | skip
                    refine lv_iinc (v := y_247) (lv' := [(5, .int y_247), (4, .int y_246), (3, .int y_235), (6, .int y_232), (0, .ref (ad a1)), (1, .ref (ad a2)), (2, .ref (ad a3))]) hx hb dX10_joins__110 hl (k := 3) rfl (by rw [ey_247]; rfl) (by decide) rfl (fun ls hl => ?_)
                    refine lv_aload_n hx hb dX10_joins__113 rfl (lv_at hl 6 rfl) ?_
                    refine lv_iload hx hb dX10_joins__114 (lv_at hl 0 rfl) ?_
                    refine lv_iload hx hb dX10_joins__116 (lv_at hl 3 rfl) ?_
                    refine va_iast hx hb hK hP hD hS (rPos (a3)) (rTy (a3)) (mW_R (by first | assumption | (unfold IR; omega))) (mT_R _) (i := y_247) (vp_of (a := y_247.toInt) rfl (by omega) (by omega)) dX10_joins__118 (fun H locs hP hD hS => ?_)
                    obtain ⟨n_248, m_249, o_250, hP, hD, wu_251⟩ := mW_Rx (by first | assumption | (unfold IR; omega)) hP hD
                    have u_251 := rU_v (x := (nn.toInt + 1)) (y := y_232.toInt) wu_251 (by first | assumption | (unfold IR; omega)) (by first | omega | decide) (by omega) rfl
                    have hP : va_P (dC, dI) vwCl (mW ad kc x0 x1 x2 x3 x4 x5 x6 x7 x8 x9 x10 x11 x12 x13 x14 x15 x16 x17 x18 x19 x20 x21 f0 f1 f2 f3 f4 f5 f6 f7 f8 f9 f10 f11 f12 f13 f14 f15 f16 f17 f18 f19 f20 f21 fL n_248 fP m_249 o_250) H := hP
                    have hD : va_D A (mW ad kc x0 x1 x2 x3 x4 x5 x6 x7 x8 x9 x10 x11 x12 x13 x14 x15 x16 x17 x18 x19 x20 x21 f0 f1 f2 f3 f4 f5 f6 f7 f8 f9 f10 f11 f12 f13 f14 f15 f16 f17 f18 f19 f20 f21 fL n_248 fP m_249 o_250) := hD
                    refine lv_goto (tgt := 8) hx hb dX10_joins__119 (by decide) ?_
                    exact ih8 y_235 y_246 y_247 n_248 m_249 o_250 (by first | omega | assumption | decide) (by first | omega | assumption | decide) (by first | omega | assumption | decide) (by first | omega | assumption | decide) (by first | omega | assumption | decide) (by first | omega | assumption | decide) (fun c h1 h2 => (u_251.2 c h1 h2).trans (v8_6 c h1 h2)) (by omega) _ _ ls hP hD hS (lv_sub hl [0, 1, 2, 4, 5, 6] rfl)
                  · have tk_245 := c_eq (a := y_244.toInt) (b := y_232.toInt) rfl rfl k_245
                    refine lv_iconst (v := 1) hx hb dX10_joins__102 (by decide) ?_
                    refine lv_goto (tgt := 107) hx hb dX10_joins__103 (by decide) ?_
                    refine lv_iadd hx hb dX10_joins__107 ?_
                    refine lv_topi (fun y_252 ey_252 => ?_)
                    first | have ty_252 := i_add (a := kk.toInt) (b := 1) rfl (by decide) ey_252 (by omega) (by omega) | skip
                    refine lv_istore (lv' := [(4, .int y_252), (3, .int y_235), (6, .int y_232), (5, .int nn), (0, .ref (ad a1)), (1, .ref (ad a2)), (2, .ref (ad a3))]) hx hb dX10_joins__108 hl (by decide) rfl (fun ls hl => ?_)
                    obtain ⟨y_253, ey_253⟩ : ∃ y : Int32, y = nn + 1 := ⟨_, rfl⟩
                    first | have ty_253 := i_add (a := nn.toInt) (b := 1) rfl (by decide) ey_253 (by omega) (by omega) | skip
                    refine lv_iinc (v := y_253) (lv' := [(5, .int y_253), (4, .int y_252), (3, .int y_235), (6, .int y_232), (0, .ref (ad a1)), (1, .ref (ad a2)), (2, .ref (ad a3))]) hx hb dX10_joins__110 hl (k := 3) rfl (by rw [ey_253]; rfl) (by decide) rfl (fun ls hl => ?_)
                    refine lv_aload_n hx hb dX10_joins__113 rfl (lv_at hl 6 rfl) ?_
                    refine lv_iload hx hb dX10_joins__114 (lv_at hl 0 rfl) ?_
                    refine lv_iload hx hb dX10_joins__116 (lv_at hl 3 rfl) ?_
                    refine va_iast hx hb hK hP hD hS (rPos (a3)) (rTy (a3)) (mW_R (by first | assumption | (unfold IR; omega))) (mT_R _) (i := y_253) (vp_of (a := y_253.toInt) rfl (by omega) (by omega)) dX10_joins__118 (fun H locs hP hD hS => ?_)
                    obtain ⟨n_254, m_255, o_256, hP, hD, wu_257⟩ := mW_Rx (by first | assumption | (unfold IR; omega)) hP hD
                    have u_257 := rU_v (x := (nn.toInt + 1)) (y := y_232.toInt) wu_257 (by first | assumption | (unfold IR; omega)) (by first | omega | decide) (by omega) rfl
                    have hP : va_P (dC, dI) vwCl (mW ad kc x0 x1 x2 x3 x4 x5 x6 x7 x8 x9 x10 x11 x12 x13 x14 x15 x16 x17 x18 x19 x20 x21 f0 f1 f2 f3 f4 f5 f6 f7 f8 f9 f10 f11 f12 f13 f14 f15 f16 f17 f18 f19 f20 f21 fL n_254 fP m_255 o_256) H := hP
                    have hD : va_D A (mW ad kc x0 x1 x2 x3 x4 x5 x6 x7 x8 x9 x10 x11 x12 x13 x14 x15 x16 x17 x18 x19 x20 x21 f0 f1 f2 f3 f4 f5 f6 f7 f8 f9 f10 f11 f12 f13 f14 f15 f16 f17 f18 f19 f20 f21 fL n_254 fP m_255 o_256) := hD
                    refine lv_goto (tgt := 8) hx hb dX10_joins__119 (by decide) ?_
                    exact ih8 y_235 y_252 y_253 n_254 m_255 o_256 (by first | omega | assumption | decide) (by first | omega | assumption | decide) (by first | omega | assumption | decide) (by first | omega | assumption | decide) (by first | omega | assumption | decide) (by first | omega | assumption | decide) (fun c h1 h2 => (u_257.2 c h1 h2).trans (v8_6 c h1 h2)) (by omega) _ _ ls hP hD hS (lv_sub hl [0, 1, 2, 4, 5, 6] rfl)
              · have tk_234 := c_ngt (a := ii.toInt) (b := y_233.toInt) rfl rfl k_234
                refine lv_aload_n hx hb dX10_joins__68 rfl (lv_at hl 4 rfl) ?_
                refine lv_iload_n hx hb dX10_joins__69 rfl (lv_at hl 3 rfl) ?_
                refine va_iald hx hb hK hP (rPos (a1)) (rTy (a1)) (mW_R (by first | assumption | (unfold IR; omega))) (mT_R _) (i := ii) (vp_of (a := ii.toInt) rfl (by omega) (by omega)) dX10_joins__70 ?_
                refine lv_topi (fun y_258 ey_258 => ?_)
                have rg_y_258 := i_rng y_258
                have vy_258 := vI_lda (f := (rO hn hm ho) a1) (i := ii) (a := ii.toInt) ey_258 (by first | omega | decide)
                have wy_258 := vI_cg (z := ii.toInt) (v8_6 a1 q0 q3)
                refine lv_iload hx hb dX10_joins__71 (lv_at hl 0 rfl) ?_
                refine lv_icmp_ne (tgt := 80) hx hb dX10_joins__73 (by decide) (fun k_259 => ?_) (fun k_259 => ?_)
                · have tk_259 := c_ne (a := y_258.toInt) (b := y_232.toInt) rfl rfl k_259
                  refine lv_iconst (v := 0) hx hb dX10_joins__80 (by decide) ?_
                  refine lv_iadd hx hb dX10_joins__81 ?_
                  refine lv_topi (fun y_260 ey_260 => ?_)
                  first | have ty_260 := i_add (a := ii.toInt) (b := 0) rfl (by decide) ey_260 (by omega) (by omega) | skip
                  refine lv_istore_n (lv' := [(3, .int y_260), (6, .int y_232), (5, .int nn), (4, .int kk), (0, .ref (ad a1)), (1, .ref (ad a2)), (2, .ref (ad a3))]) hx hb dX10_joins__82 rfl hl (by decide) rfl (fun ls hl => ?_)
                  refine lv_iload hx hb dX10_joins__83 (lv_at hl 3 rfl) ?_
                  refine lv_iload hx hb dX10_joins__85 (lv_at hl 3 rfl) ?_
                  refine lv_aload_n hx hb dX10_joins__87 rfl (lv_at hl 5 rfl) ?_
                  refine lv_iconst (v := 0) hx hb dX10_joins__88 (by decide) ?_
                  refine va_iald hx hb hK hP (rPos (a2)) (rTy (a2)) (mW_R (by first | assumption | (unfold IR; omega))) (mT_R _) (i := 0) (by unfold vp_in; decide +kernel) dX10_joins__89 ?_
                  refine lv_topi (fun y_261 ey_261 => ?_)
                  have rg_y_261 := i_rng y_261
                  have vy_261 := vI_lda (f := (rO hn hm ho) a2) (i := 0) (a := 0) ey_261 (by first | omega | decide)
                  have wy_261 := vI_cg (z := 0) (v8_6 a2 q1 q4)
                  refine lv_icmp_gt (tgt := 106) hx hb dX10_joins__90 (by decide) (fun k_262 => ?_) (fun k_262 => ?_)
                  · have tk_262 := c_gt (a := kk.toInt) (b := y_261.toInt) rfl rfl k_262
                    refine lv_iconst (v := 0) hx hb dX10_joins__106 (by decide) ?_
                    refine lv_iadd hx hb dX10_joins__107 ?_
                    refine lv_topi (fun y_263 ey_263 => ?_)
                    first | have ty_263 := i_add (a := kk.toInt) (b := 0) rfl (by decide) ey_263 (by omega) (by omega) | skip
                    refine lv_istore (lv' := [(4, .int y_263), (3, .int y_260), (6, .int y_232), (5, .int nn), (0, .ref (ad a1)), (1, .ref (ad a2)), (2, .ref (ad a3))]) hx hb dX10_joins__108 hl (by decide) rfl (fun ls hl => ?_)
                    obtain ⟨y_264, ey_264⟩ : ∃ y : Int32, y = nn + 1 := ⟨_, rfl⟩
                    first | have ty_264 := i_add (a := nn.toInt) (b := 1) rfl (by decide) ey_264 (by omega) (by omega) | skip
                    refine lv_iinc (v := y_264) (lv' := [(5, .int y_264), (4, .int y_263), (3, .int y_260), (6, .int y_232), (0, .ref (ad a1)), (1, .ref (ad a2)), (2, .ref (ad a3))]) hx hb dX10_joins__110 hl (k := 3) rfl (by rw [ey_264]; rfl) (by decide) rfl (fun ls hl => ?_)
                    refine lv_aload_n hx hb dX10_joins__113 rfl (lv_at hl 6 rfl) ?_
                    refine lv_iload hx hb dX10_joins__114 (lv_at hl 0 rfl) ?_
                    refine lv_iload hx hb dX10_joins__116 (lv_at hl 3 rfl) ?_
                    refine va_iast hx hb hK hP hD hS (rPos (a3)) (rTy (a3)) (mW_R (by first | assumption | (unfold IR; omega))) (mT_R _) (i := y_264) (vp_of (a := y_264.toInt) rfl (by omega) (by omega)) dX10_joins__118 (fun H locs hP hD hS => ?_)
                    obtain ⟨n_265, m_266, o_267, hP, hD, wu_268⟩ := mW_Rx (by first | assumption | (unfold IR; omega)) hP hD
                    have u_268 := rU_v (x := (nn.toInt + 1)) (y := y_232.toInt) wu_268 (by first | assumption | (unfold IR; omega)) (by first | omega | decide) (by omega) rfl
                    have hP : va_P (dC, dI) vwCl (mW ad kc x0 x1 x2 x3 x4 x5 x6 x7 x8 x9 x10 x11 x12 x13 x14 x15 x16 x17 x18 x19 x20 x21 f0 f1 f2 f3 f4 f5 f6 f7 f8 f9 f10 f11 f12 f13 f14 f15 f16 f17 f18 f19 f20 f21 fL n_265 fP m_266 o_267) H := hP
                    have hD : va_D A (mW ad kc x0 x1 x2 x3 x4 x5 x6 x7 x8 x9 x10 x11 x12 x13 x14 x15 x16 x17 x18 x19 x20 x21 f0 f1 f2 f3 f4 f5 f6 f7 f8 f9 f10 f11 f12 f13 f14 f15 f16 f17 f18 f19 f20 f21 fL n_265 fP m_266 o_267) := hD
                    refine lv_goto (tgt := 8) hx hb dX10_joins__119 (by decide) ?_
                    exact ih8 y_260 y_263 y_264 n_265 m_266 o_267 (by first | omega | assumption | decide) (by first | omega | assumption | decide) (by first | omega | assumption | decide) (by first | omega | assumption | decide) (by first | omega | assumption | decide) (by first | omega | assumption | decide) (fun c h1 h2 => (u_268.2 c h1 h2).trans (v8_6 c h1 h2)) (by omega) _ _ ls hP hD hS (lv_sub hl [0, 1, 2, 4, 5, 6] rfl)
                  · have tk_262 := c_ngt (a := kk.toInt) (b := y_261.toInt) rfl rfl k_262
                    refine lv_aload_n hx hb dX10_joins__93 rfl (lv_at hl 5 rfl) ?_
                    refine lv_iload hx hb dX10_joins__94 (lv_at hl 3 rfl) ?_
                    refine va_iald hx hb hK hP (rPos (a2)) (rTy (a2)) (mW_R (by first | assumption | (unfold IR; omega))) (mT_R _) (i := kk) (vp_of (a := kk.toInt) rfl (by omega) (by omega)) dX10_joins__96 ?_
                    refine lv_topi (fun y_269 ey_269 => ?_)
                    have rg_y_269 := i_rng y_269
                    have vy_269 := vI_lda (f := (rO hn hm ho) a2) (i := kk) (a := kk.toInt) ey_269 (by first | omega | decide)
                    have wy_269 := vI_cg (z := kk.toInt) (v8_6 a2 q1 q4)
                    refine lv_iload hx hb dX10_joins__97 (lv_at hl 1 rfl) ?_
                    refine lv_icmp_ne (tgt := 106) hx hb dX10_joins__99 (by decide) (fun k_270 => ?_) (fun k_270 => ?_)
                    · have tk_270 := c_ne (a := y_269.toInt) (b := y_232.toInt) rfl rfl k_270
                      refine lv_iconst (v := 0) hx hb dX10_joins__106 (by decide) ?_
                      refine lv_iadd hx hb dX10_joins__107 ?_
                      refine lv_topi (fun y_271 ey_271 => ?_)
                      first | have ty_271 := i_add (a := kk.toInt) (b := 0) rfl (by decide) ey_271 (by omega) (by omega) | skip
                      refine lv_istore (lv' := [(4, .int y_271), (3, .int y_260), (6, .int y_232), (5, .int nn), (0, .ref (ad a1)), (1, .ref (ad a2)), (2, .ref (ad a3))]) hx hb dX10_joins__108 hl (by decide) rfl (fun ls hl => ?_)
                      obtain ⟨y_272, ey_272⟩ : ∃ y : Int32, y = nn + 1 := ⟨_, rfl⟩
                      first | have ty_272 := i_add (a := nn.toInt) (b := 1) rfl (by decide) ey_272 (by omega) (by omega) | skip
                      refine lv_iinc (v := y_272) (lv' := [(5, .int y_272), (4, .int y_271), (3, .int y_260), (6, .int y_232), (0, .ref (ad a1)), (1, .ref (ad a2)), (2, .ref (ad a3))]) hx hb dX10_joins__110 hl (k := 3) rfl (by rw [ey_272]; rfl) (by decide) rfl (fun ls hl => ?_)
                      refine lv_aload_n hx hb dX10_joins__113 rfl (lv_at hl 6 rfl) ?_
                      refine lv_iload hx hb dX10_joins__114 (lv_at hl 0 rfl) ?_
                      refine lv_iload hx hb dX10_joins__116 (lv_at hl 3 rfl) ?_
                      refine va_iast hx hb hK hP hD hS (rPos (a3)) (rTy (a3)) (mW_R (by first | assumption | (unfold IR; omega))) (mT_R _) (i := y_272) (vp_of (a := y_272.toInt) rfl (by omega) (by omega)) dX10_joins__118 (fun H locs hP hD hS => ?_)
                      obtain ⟨n_273, m_274, o_275, hP, hD, wu_276⟩ := mW_Rx (by first | assumption | (unfold IR; omega)) hP hD
                      have u_276 := rU_v (x := (nn.toInt + 1)) (y := y_232.toInt) wu_276 (by first | assumption | (unfold IR; omega)) (by first | omega | decide) (by omega) rfl
                      have hP : va_P (dC, dI) vwCl (mW ad kc x0 x1 x2 x3 x4 x5 x6 x7 x8 x9 x10 x11 x12 x13 x14 x15 x16 x17 x18 x19 x20 x21 f0 f1 f2 f3 f4 f5 f6 f7 f8 f9 f10 f11 f12 f13 f14 f15 f16 f17 f18 f19 f20 f21 fL n_273 fP m_274 o_275) H := hP
                      have hD : va_D A (mW ad kc x0 x1 x2 x3 x4 x5 x6 x7 x8 x9 x10 x11 x12 x13 x14 x15 x16 x17 x18 x19 x20 x21 f0 f1 f2 f3 f4 f5 f6 f7 f8 f9 f10 f11 f12 f13 f14 f15 f16 f17 f18 f19 f20 f21 fL n_273 fP m_274 o_275) := hD
                      refine lv_goto (tgt := 8) hx hb dX10_joins__119 (by decide) ?_
                      exact ih8 y_260 y_271 y_272 n_273 m_274 o_275 (by first | omega | assumption | decide) (by first | omega | assumption | decide) (by first | omega | assumption | decide) (by first | omega | assumption | decide) (by first | omega | assumption | decide) (by first | omega | assumption | decide) (fun c h1 h2 => (u_276.2 c h1 h2).trans (v8_6 c h1 h2)) (by omega) _ _ ls hP hD hS (lv_sub hl [0, 1, 2, 4, 5, 6] rfl)
                    · have tk_270 := c_eq (a := y_269.toInt) (b := y_232.toInt) rfl rfl k_270
                      refine lv_iconst (v := 1) hx hb dX10_joins__102 (by decide) ?_
                      refine lv_goto (tgt := 107) hx hb dX10_joins__103 (by decide) ?_
                      refine lv_iadd hx hb dX10_joins__107 ?_
                      refine lv_topi (fun y_277 ey_277 => ?_)
                      first | have ty_277 := i_add (a := kk.toInt) (b := 1) rfl (by decide) ey_277 (by omega) (by omega) | skip
                      refine lv_istore (lv' := [(4, .int y_277), (3, .int y_260), (6, .int y_232), (5, .int nn), (0, .ref (ad a1)), (1, .ref (ad a2)), (2, .ref (ad a3))]) hx hb dX10_joins__108 hl (by decide) rfl (fun ls hl => ?_)
                      obtain ⟨y_278, ey_278⟩ : ∃ y : Int32, y = nn + 1 := ⟨_, rfl⟩
                      first | have ty_278 := i_add (a := nn.toInt) (b := 1) rfl (by decide) ey_278 (by omega) (by omega) | skip
                      refine lv_iinc (v := y_278) (lv' := [(5, .int y_278), (4, .int y_277), (3, .int y_260), (6, .int y_232), (0, .ref (ad a1)), (1, .ref (ad a2)), (2, .ref (ad a3))]) hx hb dX10_joins__110 hl (k := 3) rfl (by rw [ey_278]; rfl) (by decide) rfl (fun ls hl => ?_)
                      refine lv_aload_n hx hb dX10_joins__113 rfl (lv_at hl 6 rfl) ?_
                      refine lv_iload hx hb dX10_joins__114 (lv_at hl 0 rfl) ?_
                      refine lv_iload hx hb dX10_joins__116 (lv_at hl 3 rfl) ?_
                      refine va_iast hx hb hK hP hD hS (rPos (a3)) (rTy (a3)) (mW_R (by first | assumption | (unfold IR; omega))) (mT_R _) (i := y_278) (vp_of (a := y_278.toInt) rfl (by omega) (by omega)) dX10_joins__118 (fun H locs hP hD hS => ?_)
                      obtain ⟨n_279, m_280, o_281, hP, hD, wu_282⟩ := mW_Rx (by first | assumption | (unfold IR; omega)) hP hD
                      have u_282 := rU_v (x := (nn.toInt + 1)) (y := y_232.toInt) wu_282 (by first | assumption | (unfold IR; omega)) (by first | omega | decide) (by omega) rfl
                      have hP : va_P (dC, dI) vwCl (mW ad kc x0 x1 x2 x3 x4 x5 x6 x7 x8 x9 x10 x11 x12 x13 x14 x15 x16 x17 x18 x19 x20 x21 f0 f1 f2 f3 f4 f5 f6 f7 f8 f9 f10 f11 f12 f13 f14 f15 f16 f17 f18 f19 f20 f21 fL n_279 fP m_280 o_281) H := hP
                      have hD : va_D A (mW ad kc x0 x1 x2 x3 x4 x5 x6 x7 x8 x9 x10 x11 x12 x13 x14 x15 x16 x17 x18 x19 x20 x21 f0 f1 f2 f3 f4 f5 f6 f7 f8 f9 f10 f11 f12 f13 f14 f15 f16 f17 f18 f19 f20 f21 fL n_279 fP m_280 o_281) := hD
                      refine lv_goto (tgt := 8) hx hb dX10_joins__119 (by decide) ?_
                      exact ih8 y_260 y_277 y_278 n_279 m_280 o_281 (by first | omega | assumption | decide) (by first | omega | assumption | decide) (by first | omega | assumption | decide) (by first | omega | assumption | decide) (by first | omega | assumption | decide) (by first | omega | assumption | decide) (fun c h1 h2 => (u_282.2 c h1 h2).trans (v8_6 c h1 h2)) (by omega) _ _ ls hP hD hS (lv_sub hl [0, 1, 2, 4, 5, 6] rfl)
                · have tk_259 := c_eq (a := y_258.toInt) (b := y_232.toInt) rfl rfl k_259
                  refine lv_iconst (v := 1) hx hb dX10_joins__76 (by decide) ?_
                  refine lv_goto (tgt := 81) hx hb dX10_joins__77 (by decide) ?_
                  refine lv_iadd hx hb dX10_joins__81 ?_
                  refine lv_topi (fun y_283 ey_283 => ?_)
                  first | have ty_283 := i_add (a := ii.toInt) (b := 1) rfl (by decide) ey_283 (by omega) (by omega) | skip
                  refine lv_istore_n (lv' := [(3, .int y_283), (6, .int y_232), (5, .int nn), (4, .int kk), (0, .ref (ad a1)), (1, .ref (ad a2)), (2, .ref (ad a3))]) hx hb dX10_joins__82 rfl hl (by decide) rfl (fun ls hl => ?_)
                  refine lv_iload hx hb dX10_joins__83 (lv_at hl 3 rfl) ?_
                  refine lv_iload hx hb dX10_joins__85 (lv_at hl 3 rfl) ?_
                  refine lv_aload_n hx hb dX10_joins__87 rfl (lv_at hl 5 rfl) ?_
                  refine lv_iconst (v := 0) hx hb dX10_joins__88 (by decide) ?_
                  refine va_iald hx hb hK hP (rPos (a2)) (rTy (a2)) (mW_R (by first | assumption | (unfold IR; omega))) (mT_R _) (i := 0) (by unfold vp_in; decide +kernel) dX10_joins__89 ?_
                  refine lv_topi (fun y_284 ey_284 => ?_)
                  have rg_y_284 := i_rng y_284
                  have vy_284 := vI_lda (f := (rO hn hm ho) a2) (i := 0) (a := 0) ey_284 (by first | omega | decide)
                  have wy_284 := vI_cg (z := 0) (v8_6 a2 q1 q4)
                  refine lv_icmp_gt (tgt := 106) hx hb dX10_joins__90 (by decide) (fun k_285 => ?_) (fun k_285 => ?_)
                  · have tk_285 := c_gt (a := kk.toInt) (b := y_284.toInt) rfl rfl k_285
                    refine lv_iconst (v := 0) hx hb dX10_joins__106 (by decide) ?_
                    refine lv_iadd hx hb dX10_joins__107 ?_
                    refine lv_topi (fun y_286 ey_286 => ?_)
                    first | have ty_286 := i_add (a := kk.toInt) (b := 0) rfl (by decide) ey_286 (by omega) (by omega) | skip
                    refine lv_istore (lv' := [(4, .int y_286), (3, .int y_283), (6, .int y_232), (5, .int nn), (0, .ref (ad a1)), (1, .ref (ad a2)), (2, .ref (ad a3))]) hx hb dX10_joins__108 hl (by decide) rfl (fun ls hl => ?_)
                    obtain ⟨y_287, ey_287⟩ : ∃ y : Int32, y = nn + 1 := ⟨_, rfl⟩
                    first | have ty_287 := i_add (a := nn.toInt) (b := 1) rfl (by decide) ey_287 (by omega) (by omega) | skip
                    refine lv_iinc (v := y_287) (lv' := [(5, .int y_287), (4, .int y_286), (3, .int y_283), (6, .int y_232), (0, .ref (ad a1)), (1, .ref (ad a2)), (2, .ref (ad a3))]) hx hb dX10_joins__110 hl (k := 3) rfl (by rw [ey_287]; rfl) (by decide) rfl (fun ls hl => ?_)
                    refine lv_aload_n hx hb dX10_joins__113 rfl (lv_at hl 6 rfl) ?_
                    refine lv_iload hx hb dX10_joins__114 (lv_at hl 0 rfl) ?_
                    refine lv_iload hx hb dX10_joins__116 (lv_at hl 3 rfl) ?_
                    refine va_iast hx hb hK hP hD hS (rPos (a3)) (rTy (a3)) (mW_R (by first | assumption | (unfold IR; omega))) (mT_R _) (i := y_287) (vp_of (a := y_287.toInt) rfl (by omega) (by omega)) dX10_joins__118 (fun H locs hP hD hS => ?_)
                    obtain ⟨n_288, m_289, o_290, hP, hD, wu_291⟩ := mW_Rx (by first | assumption | (unfold IR; omega)) hP hD
                    have u_291 := rU_v (x := (nn.toInt + 1)) (y := y_232.toInt) wu_291 (by first | assumption | (unfold IR; omega)) (by first | omega | decide) (by omega) rfl
                    have hP : va_P (dC, dI) vwCl (mW ad kc x0 x1 x2 x3 x4 x5 x6 x7 x8 x9 x10 x11 x12 x13 x14 x15 x16 x17 x18 x19 x20 x21 f0 f1 f2 f3 f4 f5 f6 f7 f8 f9 f10 f11 f12 f13 f14 f15 f16 f17 f18 f19 f20 f21 fL n_288 fP m_289 o_290) H := hP
                    have hD : va_D A (mW ad kc x0 x1 x2 x3 x4 x5 x6 x7 x8 x9 x10 x11 x12 x13 x14 x15 x16 x17 x18 x19 x20 x21 f0 f1 f2 f3 f4 f5 f6 f7 f8 f9 f10 f11 f12 f13 f14 f15 f16 f17 f18 f19 f20 f21 fL n_288 fP m_289 o_290) := hD
                    refine lv_goto (tgt := 8) hx hb dX10_joins__119 (by decide) ?_
                    exact ih8 y_283 y_286 y_287 n_288 m_289 o_290 (by first | omega | assumption | decide) (by first | omega | assumption | decide) (by first | omega | assumption | decide) (by first | omega | assumption | decide) (by first | omega | assumption | decide) (by first | omega | assumption | decide) (fun c h1 h2 => (u_291.2 c h1 h2).trans (v8_6 c h1 h2)) (by omega) _ _ ls hP hD hS (lv_sub hl [0, 1, 2, 4, 5, 6] rfl)
                  · have tk_285 := c_ngt (a := kk.toInt) (b := y_284.toInt) rfl rfl k_285
                    refine lv_aload_n hx hb dX10_joins__93 rfl (lv_at hl 5 rfl) ?_
                    refine lv_iload hx hb dX10_joins__94 (lv_at hl 3 rfl) ?_
                    refine va_iald hx hb hK hP (rPos (a2)) (rTy (a2)) (mW_R (by first | assumption | (unfold IR; omega))) (mT_R _) (i := kk) (vp_of (a := kk.toInt) rfl (by omega) (by omega)) dX10_joins__96 ?_
                    refine lv_topi (fun y_292 ey_292 => ?_)
                    have rg_y_292 := i_rng y_292
                    have vy_292 := vI_lda (f := (rO hn hm ho) a2) (i := kk) (a := kk.toInt) ey_292 (by first | omega | decide)
                    have wy_292 := vI_cg (z := kk.toInt) (v8_6 a2 q1 q4)
                    refine lv_iload hx hb dX10_joins__97 (lv_at hl 1 rfl) ?_
                    refine lv_icmp_ne (tgt := 106) hx hb dX10_joins__99 (by decide) (fun k_293 => ?_) (fun k_293 => ?_)
                    · have tk_293 := c_ne (a := y_292.toInt) (b := y_232.toInt) rfl rfl k_293
                      refine lv_iconst (v := 0) hx hb dX10_joins__106 (by decide) ?_
                      refine lv_iadd hx hb dX10_joins__107 ?_
                      refine lv_topi (fun y_294 ey_294 => ?_)
                      first | have ty_294 := i_add (a := kk.toInt) (b := 0) rfl (by decide) ey_294 (by omega) (by omega) | skip
                      refine lv_istore (lv' := [(4, .int y_294), (3, .int y_283), (6, .int y_232), (5, .int nn), (0, .ref (ad a1)), (1, .ref (ad a2)), (2, .ref (ad a3))]) hx hb dX10_joins__108 hl (by decide) rfl (fun ls hl => ?_)
                      obtain ⟨y_295, ey_295⟩ : ∃ y : Int32, y = nn + 1 := ⟨_, rfl⟩
                      first | have ty_295 := i_add (a := nn.toInt) (b := 1) rfl (by decide) ey_295 (by omega) (by omega) | skip
                      refine lv_iinc (v := y_295) (lv' := [(5, .int y_295), (4, .int y_294), (3, .int y_283), (6, .int y_232), (0, .ref (ad a1)), (1, .ref (ad a2)), (2, .ref (ad a3))]) hx hb dX10_joins__110 hl (k := 3) rfl (by rw [ey_295]; rfl) (by decide) rfl (fun ls hl => ?_)
                      refine lv_aload_n hx hb dX10_joins__113 rfl (lv_at hl 6 rfl) ?_
                      refine lv_iload hx hb dX10_joins__114 (lv_at hl 0 rfl) ?_
                      refine lv_iload hx hb dX10_joins__116 (lv_at hl 3 rfl) ?_
                      refine va_iast hx hb hK hP hD hS (rPos (a3)) (rTy (a3)) (mW_R (by first | assumption | (unfold IR; omega))) (mT_R _) (i := y_295) (vp_of (a := y_295.toInt) rfl (by omega) (by omega)) dX10_joins__118 (fun H locs hP hD hS => ?_)
                      obtain ⟨n_296, m_297, o_298, hP, hD, wu_299⟩ := mW_Rx (by first | assumption | (unfold IR; omega)) hP hD
                      have u_299 := rU_v (x := (nn.toInt + 1)) (y := y_232.toInt) wu_299 (by first | assumption | (unfold IR; omega)) (by first | omega | decide) (by omega) rfl
                      have hP : va_P (dC, dI) vwCl (mW ad kc x0 x1 x2 x3 x4 x5 x6 x7 x8 x9 x10 x11 x12 x13 x14 x15 x16 x17 x18 x19 x20 x21 f0 f1 f2 f3 f4 f5 f6 f7 f8 f9 f10 f11 f12 f13 f14 f15 f16 f17 f18 f19 f20 f21 fL n_296 fP m_297 o_298) H := hP
                      have hD : va_D A (mW ad kc x0 x1 x2 x3 x4 x5 x6 x7 x8 x9 x10 x11 x12 x13 x14 x15 x16 x17 x18 x19 x20 x21 f0 f1 f2 f3 f4 f5 f6 f7 f8 f9 f10 f11 f12 f13 f14 f15 f16 f17 f18 f19 f20 f21 fL n_296 fP m_297 o_298) := hD
                      refine lv_goto (tgt := 8) hx hb dX10_joins__119 (by decide) ?_
                      exact ih8 y_283 y_294 y_295 n_296 m_297 o_298 (by first | omega | assumption | decide) (by first | omega | assumption | decide) (by first | omega | assumption | decide) (by first | omega | assumption | decide) (by first | omega | assumption | decide) (by first | omega | assumption | decide) (fun c h1 h2 => (u_299.2 c h1 h2).trans (v8_6 c h1 h2)) (by omega) _ _ ls hP hD hS (lv_sub hl [0, 1, 2, 4, 5, 6] rfl)
                    · have tk_293 := c_eq (a := y_292.toInt) (b := y_232.toInt) rfl rfl k_293
                      refine lv_iconst (v := 1) hx hb dX10_joins__102 (by decide) ?_
                      refine lv_goto (tgt := 107) hx hb dX10_joins__103 (by decide) ?_
                      refine lv_iadd hx hb dX10_joins__107 ?_
                      refine lv_topi (fun y_300 ey_300 => ?_)
                      first | have ty_300 := i_add (a := kk.toInt) (b := 1) rfl (by decide) ey_300 (by omega) (by omega) | skip
                      refine lv_istore (lv' := [(4, .int y_300), (3, .int y_283), (6, .int y_232), (5, .int nn), (0, .ref (ad a1)), (1, .ref (ad a2)), (2, .ref (ad a3))]) hx hb dX10_joins__108 hl (by decide) rfl (fun ls hl => ?_)
                      obtain ⟨y_301, ey_301⟩ : ∃ y : Int32, y = nn + 1 := ⟨_, rfl⟩
                      first | have ty_301 := i_add (a := nn.toInt) (b := 1) rfl (by decide) ey_301 (by omega) (by omega) | skip
                      refine lv_iinc (v := y_301) (lv' := [(5, .int y_301), (4, .int y_300), (3, .int y_283), (6, .int y_232), (0, .ref (ad a1)), (1, .ref (ad a2)), (2, .ref (ad a3))]) hx hb dX10_joins__110 hl (k := 3) rfl (by rw [ey_301]; rfl) (by decide) rfl (fun ls hl => ?_)
                      refine lv_aload_n hx hb dX10_joins__113 rfl (lv_at hl 6 rfl) ?_
                      refine lv_iload hx hb dX10_joins__114 (lv_at hl 0 rfl) ?_
                      refine lv_iload hx hb dX10_joins__116 (lv_at hl 3 rfl) ?_
                      refine va_iast hx hb hK hP hD hS (rPos (a3)) (rTy (a3)) (mW_R (by first | assumption | (unfold IR; omega))) (mT_R _) (i := y_301) (vp_of (a := y_301.toInt) rfl (by omega) (by omega)) dX10_joins__118 (fun H locs hP hD hS => ?_)
                      obtain ⟨n_302, m_303, o_304, hP, hD, wu_305⟩ := mW_Rx (by first | assumption | (unfold IR; omega)) hP hD
                      have u_305 := rU_v (x := (nn.toInt + 1)) (y := y_232.toInt) wu_305 (by first | assumption | (unfold IR; omega)) (by first | omega | decide) (by omega) rfl
                      have hP : va_P (dC, dI) vwCl (mW ad kc x0 x1 x2 x3 x4 x5 x6 x7 x8 x9 x10 x11 x12 x13 x14 x15 x16 x17 x18 x19 x20 x21 f0 f1 f2 f3 f4 f5 f6 f7 f8 f9 f10 f11 f12 f13 f14 f15 f16 f17 f18 f19 f20 f21 fL n_302 fP m_303 o_304) H := hP
                      have hD : va_D A (mW ad kc x0 x1 x2 x3 x4 x5 x6 x7 x8 x9 x10 x11 x12 x13 x14 x15 x16 x17 x18 x19 x20 x21 f0 f1 f2 f3 f4 f5 f6 f7 f8 f9 f10 f11 f12 f13 f14 f15 f16 f17 f18 f19 f20 f21 fL n_302 fP m_303 o_304) := hD
                      refine lv_goto (tgt := 8) hx hb dX10_joins__119 (by decide) ?_
                      exact ih8 y_283 y_300 y_301 n_302 m_303 o_304 (by first | omega | assumption | decide) (by first | omega | assumption | decide) (by first | omega | assumption | decide) (by first | omega | assumption | decide) (by first | omega | assumption | decide) (by first | omega | assumption | decide) (fun c h1 h2 => (u_305.2 c h1 h2).trans (v8_6 c h1 h2)) (by omega) _ _ ls hP hD hS (lv_sub hl [0, 1, 2, 4, 5, 6] rfl)
      · have tk_2 := c_nle (a := ii.toInt) (b := y_1.toInt) rfl rfl k_2
        refine lv_iload hx hb dX10_joins__15 (lv_at hl 1 rfl) ?_
        refine lv_aload_n hx hb dX10_joins__17 rfl (lv_at hl 4 rfl) ?_
        refine lv_iconst (v := 0) hx hb dX10_joins__18 (by decide) ?_
        refine va_iald hx hb hK hP (rPos (a2)) (rTy (a2)) (mW_R (by first | assumption | (unfold IR; omega))) (mT_R _) (i := 0) (by unfold vp_in; decide +kernel) dX10_joins__19 ?_
        refine lv_topi (fun y_306 ey_306 => ?_)
        have rg_y_306 := i_rng y_306
        have vy_306 := vI_lda (f := (rO hn hm ho) a2) (i := 0) (a := 0) ey_306 (by first | omega | decide)
        have wy_306 := vI_cg (z := 0) (v8_6 a2 q1 q4)
        refine lv_icmp_gt (tgt := 122) hx hb dX10_joins__20 (by decide) (fun k_307 => ?_) (fun k_307 => ?_)
        · have tk_307 := c_gt (a := kk.toInt) (b := y_306.toInt) rfl rfl k_307
          refine lv_aload_n hx hb dX10_joins__122 rfl (lv_at hl 5 rfl) ?_
          refine lv_iconst (v := 0) hx hb dX10_joins__123 (by decide) ?_
          refine lv_iload hx hb dX10_joins__124 (lv_at hl 0 rfl) ?_
          refine va_iast hx hb hK hP hD hS (rPos (a3)) (rTy (a3)) (mW_R (by first | assumption | (unfold IR; omega))) (mT_R _) (i := 0) (by unfold vp_in; decide +kernel) dX10_joins__126 (fun H locs hP hD hS => ?_)
          obtain ⟨n_308, m_309, o_310, hP, hD, wu_311⟩ := mW_Rx (by first | assumption | (unfold IR; omega)) hP hD
          have u_311 := rU_v (x := 0) (y := nn.toInt) wu_311 (by first | assumption | (unfold IR; omega)) (by first | omega | decide) (by omega) rfl
          have hP : va_P (dC, dI) vwCl (mW ad kc x0 x1 x2 x3 x4 x5 x6 x7 x8 x9 x10 x11 x12 x13 x14 x15 x16 x17 x18 x19 x20 x21 f0 f1 f2 f3 f4 f5 f6 f7 f8 f9 f10 f11 f12 f13 f14 f15 f16 f17 f18 f19 f20 f21 fL n_308 fP m_309 o_310) H := hP
          have hD : va_D A (mW ad kc x0 x1 x2 x3 x4 x5 x6 x7 x8 x9 x10 x11 x12 x13 x14 x15 x16 x17 x18 x19 x20 x21 f0 f1 f2 f3 f4 f5 f6 f7 f8 f9 f10 f11 f12 f13 f14 f15 f16 f17 f18 f19 f20 f21 fL n_308 fP m_309 o_310) := hD
          exact W.vret hx hb hr (fun t ht hW => ⟨⟨(), rfl, trivial, n_308, m_309, o_310, (fun c h1 h2 => (u_311.2 c h1 h2).trans (v8_6 c h1 h2)), (by have h9 := u_311.1.1; omega), by rw [ht]; exact hP, va_K.moved hW.alike hK, hD⟩, hS.F ht⟩) hS.2.2 dX10_joins__127
        · have tk_307 := c_ngt (a := kk.toInt) (b := y_306.toInt) rfl rfl k_307
          refine lv_iload hx hb dX10_joins__23 (lv_at hl 1 rfl) ?_
          refine lv_aload_n hx hb dX10_joins__25 rfl (lv_at hl 4 rfl) ?_
          refine lv_iconst (v := 0) hx hb dX10_joins__26 (by decide) ?_
          refine va_iald hx hb hK hP (rPos (a2)) (rTy (a2)) (mW_R (by first | assumption | (unfold IR; omega))) (mT_R _) (i := 0) (by unfold vp_in; decide +kernel) dX10_joins__27 ?_
          refine lv_topi (fun y_312 ey_312 => ?_)
          have rg_y_312 := i_rng y_312
          have vy_312 := vI_lda (f := (rO hn hm ho) a2) (i := 0) (a := 0) ey_312 (by first | omega | decide)
          have wy_312 := vI_cg (z := 0) (v8_6 a2 q1 q4)
          refine lv_icmp_gt (tgt := 48) hx hb dX10_joins__28 (by decide) (fun k_313 => ?_) (fun k_313 => ?_)
          · have tk_313 := c_gt (a := kk.toInt) (b := y_312.toInt) rfl rfl k_313
            refine lv_aload_n hx hb dX10_joins__48 rfl (lv_at hl 3 rfl) ?_
            refine lv_iload_n hx hb dX10_joins__49 rfl (lv_at hl 2 rfl) ?_
            refine va_iald hx hb hK hP (rPos (a1)) (rTy (a1)) (mW_R (by first | assumption | (unfold IR; omega))) (mT_R _) (i := ii) (vp_of (a := ii.toInt) rfl (by omega) (by omega)) dX10_joins__50 ?_
            refine lv_topi (fun y_314 ey_314 => ?_)
            have rg_y_314 := i_rng y_314
            have vy_314 := vI_lda (f := (rO hn hm ho) a1) (i := ii) (a := ii.toInt) ey_314 (by first | omega | decide)
            have wy_314 := vI_cg (z := ii.toInt) (v8_6 a1 q0 q3)
            refine lv_goto (tgt := 58) hx hb dX10_joins__51 (by decide) ?_
            refine lv_istore (lv' := [(6, .int y_314), (5, .int nn), (4, .int kk), (3, .int ii), (0, .ref (ad a1)), (1, .ref (ad a2)), (2, .ref (ad a3))]) hx hb dX10_joins__58 hl (by decide) rfl (fun ls hl => ?_)
            refine lv_iload_n hx hb dX10_joins__60 rfl (lv_at hl 3 rfl) ?_
            refine lv_iload_n hx hb dX10_joins__61 rfl (lv_at hl 3 rfl) ?_
            refine lv_aload_n hx hb dX10_joins__62 rfl (lv_at hl 4 rfl) ?_
            refine lv_iconst (v := 0) hx hb dX10_joins__63 (by decide) ?_
            refine va_iald hx hb hK hP (rPos (a1)) (rTy (a1)) (mW_R (by first | assumption | (unfold IR; omega))) (mT_R _) (i := 0) (by unfold vp_in; decide +kernel) dX10_joins__64 ?_
            refine lv_topi (fun y_315 ey_315 => ?_)
            have rg_y_315 := i_rng y_315
            have vy_315 := vI_lda (f := (rO hn hm ho) a1) (i := 0) (a := 0) ey_315 (by first | omega | decide)
            have wy_315 := vI_cg (z := 0) (v8_6 a1 q0 q3)
            refine lv_icmp_gt (tgt := 80) hx hb dX10_joins__65 (by decide) (fun k_316 => ?_) (fun k_316 => ?_)
            · have tk_316 := c_gt (a := ii.toInt) (b := y_315.toInt) rfl rfl k_316
              refine lv_iconst (v := 0) hx hb dX10_joins__80 (by decide) ?_
              refine lv_iadd hx hb dX10_joins__81 ?_
              refine lv_topi (fun y_317 ey_317 => ?_)
              first | have ty_317 := i_add (a := ii.toInt) (b := 0) rfl (by decide) ey_317 (by omega) (by omega) | skip
              refine lv_istore_n (lv' := [(3, .int y_317), (6, .int y_314), (5, .int nn), (4, .int kk), (0, .ref (ad a1)), (1, .ref (ad a2)), (2, .ref (ad a3))]) hx hb dX10_joins__82 rfl hl (by decide) rfl (fun ls hl => ?_)
              refine lv_iload hx hb dX10_joins__83 (lv_at hl 3 rfl) ?_
              refine lv_iload hx hb dX10_joins__85 (lv_at hl 3 rfl) ?_
              refine lv_aload_n hx hb dX10_joins__87 rfl (lv_at hl 5 rfl) ?_
              refine lv_iconst (v := 0) hx hb dX10_joins__88 (by decide) ?_
              refine va_iald hx hb hK hP (rPos (a2)) (rTy (a2)) (mW_R (by first | assumption | (unfold IR; omega))) (mT_R _) (i := 0) (by unfold vp_in; decide +kernel) dX10_joins__89 ?_
              refine lv_topi (fun y_318 ey_318 => ?_)
              have rg_y_318 := i_rng y_318
              have vy_318 := vI_lda (f := (rO hn hm ho) a2) (i := 0) (a := 0) ey_318 (by first | omega | decide)
              have wy_318 := vI_cg (z := 0) (v8_6 a2 q1 q4)
              refine lv_icmp_gt (tgt := 106) hx hb dX10_joins__90 (by decide) (fun k_319 => ?_) (fun k_319 => ?_)
              · have tk_319 := c_gt (a := kk.toInt) (b := y_318.toInt) rfl rfl k_319
                refine lv_iconst (v := 0) hx hb dX10_joins__106 (by decide) ?_
                refine lv_iadd hx hb dX10_joins__107 ?_
                refine lv_topi (fun y_320 ey_320 => ?_)
                first | have ty_320 := i_add (a := kk.toInt) (b := 0) rfl (by decide) ey_320 (by omega) (by omega) | skip
                refine lv_istore (lv' := [(4, .int y_320), (3, .int y_317), (6, .int y_314), (5, .int nn), (0, .ref (ad a1)), (1, .ref (ad a2)), (2, .ref (ad a3))]) hx hb dX10_joins__108 hl (by decide) rfl (fun ls hl => ?_)
                obtain ⟨y_321, ey_321⟩ : ∃ y : Int32, y = nn + 1 := ⟨_, rfl⟩
                first | have ty_321 := i_add (a := nn.toInt) (b := 1) rfl (by decide) ey_321 (by omega) (by omega) | skip
                refine lv_iinc (v := y_321) (lv' := [(5, .int y_321), (4, .int y_320), (3, .int y_317), (6, .int y_314), (0, .ref (ad a1)), (1, .ref (ad a2)), (2, .ref (ad a3))]) hx hb dX10_joins__110 hl (k := 3) rfl (by rw [ey_321]; rfl) (by decide) rfl (fun ls hl => ?_)
                refine lv_aload_n hx hb dX10_joins__113 rfl (lv_at hl 6 rfl) ?_
                refine lv_iload hx hb dX10_joins__114 (lv_at hl 0 rfl) ?_
                refine lv_iload hx hb dX10_joins__116 (lv_at hl 3 rfl) ?_
                refine va_iast hx hb hK hP hD hS (rPos (a3)) (rTy (a3)) (mW_R (by first | assumption | (unfold IR; omega))) (mT_R _) (i := y_321) (vp_of (a := y_321.toInt) rfl (by omega) (by omega)) dX10_joins__118 (fun H locs hP hD hS => ?_)
                obtain ⟨n_322, m_323, o_324, hP, hD, wu_325⟩ := mW_Rx (by first | assumption | (unfold IR; omega)) hP hD
                have u_325 := rU_v (x := (nn.toInt + 1)) (y := y_314.toInt) wu_325 (by first | assumption | (unfold IR; omega)) (by first | omega | decide) (by omega) rfl
                have hP : va_P (dC, dI) vwCl (mW ad kc x0 x1 x2 x3 x4 x5 x6 x7 x8 x9 x10 x11 x12 x13 x14 x15 x16 x17 x18 x19 x20 x21 f0 f1 f2 f3 f4 f5 f6 f7 f8 f9 f10 f11 f12 f13 f14 f15 f16 f17 f18 f19 f20 f21 fL n_322 fP m_323 o_324) H := hP
                have hD : va_D A (mW ad kc x0 x1 x2 x3 x4 x5 x6 x7 x8 x9 x10 x11 x12 x13 x14 x15 x16 x17 x18 x19 x20 x21 f0 f1 f2 f3 f4 f5 f6 f7 f8 f9 f10 f11 f12 f13 f14 f15 f16 f17 f18 f19 f20 f21 fL n_322 fP m_323 o_324) := hD
                refine lv_goto (tgt := 8) hx hb dX10_joins__119 (by decide) ?_
                exact ih8 y_317 y_320 y_321 n_322 m_323 o_324 (by first | omega | assumption | decide) (by first | omega | assumption | decide) (by first | omega | assumption | decide) (by first | omega | assumption | decide) (by first | omega | assumption | decide) (by first | omega | assumption | decide) (fun c h1 h2 => (u_325.2 c h1 h2).trans (v8_6 c h1 h2)) (by omega) _ _ ls hP hD hS (lv_sub hl [0, 1, 2, 4, 5, 6] rfl)
              · have tk_319 := c_ngt (a := kk.toInt) (b := y_318.toInt) rfl rfl k_319
                refine lv_aload_n hx hb dX10_joins__93 rfl (lv_at hl 5 rfl) ?_
                refine lv_iload hx hb dX10_joins__94 (lv_at hl 3 rfl) ?_
                refine va_iald hx hb hK hP (rPos (a2)) (rTy (a2)) (mW_R (by first | assumption | (unfold IR; omega))) (mT_R _) (i := kk) (vp_of (a := kk.toInt) rfl (by omega) (by omega)) dX10_joins__96 ?_
                refine lv_topi (fun y_326 ey_326 => ?_)
                have rg_y_326 := i_rng y_326
                have vy_326 := vI_lda (f := (rO hn hm ho) a2) (i := kk) (a := kk.toInt) ey_326 (by first | omega | decide)
                have wy_326 := vI_cg (z := kk.toInt) (v8_6 a2 q1 q4)
                refine lv_iload hx hb dX10_joins__97 (lv_at hl 1 rfl) ?_
                refine lv_icmp_ne (tgt := 106) hx hb dX10_joins__99 (by decide) (fun k_327 => ?_) (fun k_327 => ?_)
                · have tk_327 := c_ne (a := y_326.toInt) (b := y_314.toInt) rfl rfl k_327
                  refine lv_iconst (v := 0) hx hb dX10_joins__106 (by decide) ?_
                  refine lv_iadd hx hb dX10_joins__107 ?_
                  refine lv_topi (fun y_328 ey_328 => ?_)
                  first | have ty_328 := i_add (a := kk.toInt) (b := 0) rfl (by decide) ey_328 (by omega) (by omega) | skip
                  refine lv_istore (lv' := [(4, .int y_328), (3, .int y_317), (6, .int y_314), (5, .int nn), (0, .ref (ad a1)), (1, .ref (ad a2)), (2, .ref (ad a3))]) hx hb dX10_joins__108 hl (by decide) rfl (fun ls hl => ?_)
                  obtain ⟨y_329, ey_329⟩ : ∃ y : Int32, y = nn + 1 := ⟨_, rfl⟩
                  first | have ty_329 := i_add (a := nn.toInt) (b := 1) rfl (by decide) ey_329 (by omega) (by omega) | skip
                  refine lv_iinc (v := y_329) (lv' := [(5, .int y_329), (4, .int y_328), (3, .int y_317), (6, .int y_314), (0, .ref (ad a1)), (1, .ref (ad a2)), (2, .ref (ad a3))]) hx hb dX10_joins__110 hl (k := 3) rfl (by rw [ey_329]; rfl) (by decide) rfl (fun ls hl => ?_)
                  refine lv_aload_n hx hb dX10_joins__113 rfl (lv_at hl 6 rfl) ?_
                  refine lv_iload hx hb dX10_joins__114 (lv_at hl 0 rfl) ?_
                  refine lv_iload hx hb dX10_joins__116 (lv_at hl 3 rfl) ?_
                  refine va_iast hx hb hK hP hD hS (rPos (a3)) (rTy (a3)) (mW_R (by first | assumption | (unfold IR; omega))) (mT_R _) (i := y_329) (vp_of (a := y_329.toInt) rfl (by omega) (by omega)) dX10_joins__118 (fun H locs hP hD hS => ?_)
                  obtain ⟨n_330, m_331, o_332, hP, hD, wu_333⟩ := mW_Rx (by first | assumption | (unfold IR; omega)) hP hD
                  have u_333 := rU_v (x := (nn.toInt + 1)) (y := y_314.toInt) wu_333 (by first | assumption | (unfold IR; omega)) (by first | omega | decide) (by omega) rfl
                  have hP : va_P (dC, dI) vwCl (mW ad kc x0 x1 x2 x3 x4 x5 x6 x7 x8 x9 x10 x11 x12 x13 x14 x15 x16 x17 x18 x19 x20 x21 f0 f1 f2 f3 f4 f5 f6 f7 f8 f9 f10 f11 f12 f13 f14 f15 f16 f17 f18 f19 f20 f21 fL n_330 fP m_331 o_332) H := hP
                  have hD : va_D A (mW ad kc x0 x1 x2 x3 x4 x5 x6 x7 x8 x9 x10 x11 x12 x13 x14 x15 x16 x17 x18 x19 x20 x21 f0 f1 f2 f3 f4 f5 f6 f7 f8 f9 f10 f11 f12 f13 f14 f15 f16 f17 f18 f19 f20 f21 fL n_330 fP m_331 o_332) := hD
                  refine lv_goto (tgt := 8) hx hb dX10_joins__119 (by decide) ?_
                  exact ih8 y_317 y_328 y_329 n_330 m_331 o_332 (by first | omega | assumption | decide) (by first | omega | assumption | decide) (by first | omega | assumption | decide) (by first | omega | assumption | decide) (by first | omega | assumption | decide) (by first | omega | assumption | decide) (fun c h1 h2 => (u_333.2 c h1 h2).trans (v8_6 c h1 h2)) (by omega) _ _ ls hP hD hS (lv_sub hl [0, 1, 2, 4, 5, 6] rfl)
                · have tk_327 := c_eq (a := y_326.toInt) (b := y_314.toInt) rfl rfl k_327
                  refine lv_iconst (v := 1) hx hb dX10_joins__102 (by decide) ?_
                  refine lv_goto (tgt := 107) hx hb dX10_joins__103 (by decide) ?_
                  refine lv_iadd hx hb dX10_joins__107 ?_
                  refine lv_topi (fun y_334 ey_334 => ?_)
                  first | have ty_334 := i_add (a := kk.toInt) (b := 1) rfl (by decide) ey_334 (by omega) (by omega) | skip
                  refine lv_istore (lv' := [(4, .int y_334), (3, .int y_317), (6, .int y_314), (5, .int nn), (0, .ref (ad a1)), (1, .ref (ad a2)), (2, .ref (ad a3))]) hx hb dX10_joins__108 hl (by decide) rfl (fun ls hl => ?_)
                  obtain ⟨y_335, ey_335⟩ : ∃ y : Int32, y = nn + 1 := ⟨_, rfl⟩
                  first | have ty_335 := i_add (a := nn.toInt) (b := 1) rfl (by decide) ey_335 (by omega) (by omega) | skip
                  refine lv_iinc (v := y_335) (lv' := [(5, .int y_335), (4, .int y_334), (3, .int y_317), (6, .int y_314), (0, .ref (ad a1)), (1, .ref (ad a2)), (2, .ref (ad a3))]) hx hb dX10_joins__110 hl (k := 3) rfl (by rw [ey_335]; rfl) (by decide) rfl (fun ls hl => ?_)
                  refine lv_aload_n hx hb dX10_joins__113 rfl (lv_at hl 6 rfl) ?_
                  refine lv_iload hx hb dX10_joins__114 (lv_at hl 0 rfl) ?_
                  refine lv_iload hx hb dX10_joins__116 (lv_at hl 3 rfl) ?_
                  refine va_iast hx hb hK hP hD hS (rPos (a3)) (rTy (a3)) (mW_R (by first | assumption | (unfold IR; omega))) (mT_R _) (i := y_335) (vp_of (a := y_335.toInt) rfl (by omega) (by omega)) dX10_joins__118 (fun H locs hP hD hS => ?_)
                  obtain ⟨n_336, m_337, o_338, hP, hD, wu_339⟩ := mW_Rx (by first | assumption | (unfold IR; omega)) hP hD
                  have u_339 := rU_v (x := (nn.toInt + 1)) (y := y_314.toInt) wu_339 (by first | assumption | (unfold IR; omega)) (by first | omega | decide) (by omega) rfl
                  have hP : va_P (dC, dI) vwCl (mW ad kc x0 x1 x2 x3 x4 x5 x6 x7 x8 x9 x10 x11 x12 x13 x14 x15 x16 x17 x18 x19 x20 x21 f0 f1 f2 f3 f4 f5 f6 f7 f8 f9 f10 f11 f12 f13 f14 f15 f16 f17 f18 f19 f20 f21 fL n_336 fP m_337 o_338) H := hP
                  have hD : va_D A (mW ad kc x0 x1 x2 x3 x4 x5 x6 x7 x8 x9 x10 x11 x12 x13 x14 x15 x16 x17 x18 x19 x20 x21 f0 f1 f2 f3 f4 f5 f6 f7 f8 f9 f10 f11 f12 f13 f14 f15 f16 f17 f18 f19 f20 f21 fL n_336 fP m_337 o_338) := hD
                  refine lv_goto (tgt := 8) hx hb dX10_joins__119 (by decide) ?_
                  exact ih8 y_317 y_334 y_335 n_336 m_337 o_338 (by first | omega | assumption | decide) (by first | omega | assumption | decide) (by first | omega | assumption | decide) (by first | omega | assumption | decide) (by first | omega | assumption | decide) (by first | omega | assumption | decide) (fun c h1 h2 => (u_339.2 c h1 h2).trans (v8_6 c h1 h2)) (by omega) _ _ ls hP hD hS (lv_sub hl [0, 1, 2, 4, 5, 6] rfl)
            · have tk_316 := c_ngt (a := ii.toInt) (b := y_315.toInt) rfl rfl k_316
              refine lv_aload_n hx hb dX10_joins__68 rfl (lv_at hl 4 rfl) ?_
              refine lv_iload_n hx hb dX10_joins__69 rfl (lv_at hl 3 rfl) ?_
              refine va_iald hx hb hK hP (rPos (a1)) (rTy (a1)) (mW_R (by first | assumption | (unfold IR; omega))) (mT_R _) (i := ii) (vp_of (a := ii.toInt) rfl (by omega) (by omega)) dX10_joins__70 ?_
              refine lv_topi (fun y_340 ey_340 => ?_)
              have rg_y_340 := i_rng y_340
              have vy_340 := vI_lda (f := (rO hn hm ho) a1) (i := ii) (a := ii.toInt) ey_340 (by first | omega | decide)
              have wy_340 := vI_cg (z := ii.toInt) (v8_6 a1 q0 q3)
              refine lv_iload hx hb dX10_joins__71 (lv_at hl 0 rfl) ?_
              refine lv_icmp_ne (tgt := 80) hx hb dX10_joins__73 (by decide) (fun k_341 => ?_) (fun k_341 => ?_)
              · have tk_341 := c_ne (a := y_340.toInt) (b := y_314.toInt) rfl rfl k_341
                refine lv_iconst (v := 0) hx hb dX10_joins__80 (by decide) ?_
                refine lv_iadd hx hb dX10_joins__81 ?_
                refine lv_topi (fun y_342 ey_342 => ?_)
                first | have ty_342 := i_add (a := ii.toInt) (b := 0) rfl (by decide) ey_342 (by omega) (by omega) | skip
                refine lv_istore_n (lv' := [(3, .int y_342), (6, .int y_314), (5, .int nn), (4, .int kk), (0, .ref (ad a1)), (1, .ref (ad a2)), (2, .ref (ad a3))]) hx hb dX10_joins__82 rfl hl (by decide) rfl (fun ls hl => ?_)
                refine lv_iload hx hb dX10_joins__83 (lv_at hl 3 rfl) ?_
                refine lv_iload hx hb dX10_joins__85 (lv_at hl 3 rfl) ?_
                refine lv_aload_n hx hb dX10_joins__87 rfl (lv_at hl 5 rfl) ?_
                refine lv_iconst (v := 0) hx hb dX10_joins__88 (by decide) ?_
                refine va_iald hx hb hK hP (rPos (a2)) (rTy (a2)) (mW_R (by first | assumption | (unfold IR; omega))) (mT_R _) (i := 0) (by unfold vp_in; decide +kernel) dX10_joins__89 ?_
                refine lv_topi (fun y_343 ey_343 => ?_)
                have rg_y_343 := i_rng y_343
                have vy_343 := vI_lda (f := (rO hn hm ho) a2) (i := 0) (a := 0) ey_343 (by first | omega | decide)
                have wy_343 := vI_cg (z := 0) (v8_6 a2 q1 q4)
                refine lv_icmp_gt (tgt := 106) hx hb dX10_joins__90 (by decide) (fun k_344 => ?_) (fun k_344 => ?_)
                · have tk_344 := c_gt (a := kk.toInt) (b := y_343.toInt) rfl rfl k_344
                  refine lv_iconst (v := 0) hx hb dX10_joins__106 (by decide) ?_
                  refine lv_iadd hx hb dX10_joins__107 ?_
                  refine lv_topi (fun y_345 ey_345 => ?_)
                  first | have ty_345 := i_add (a := kk.toInt) (b := 0) rfl (by decide) ey_345 (by omega) (by omega) | skip
                  refine lv_istore (lv' := [(4, .int y_345), (3, .int y_342), (6, .int y_314), (5, .int nn), (0, .ref (ad a1)), (1, .ref (ad a2)), (2, .ref (ad a3))]) hx hb dX10_joins__108 hl (by decide) rfl (fun ls hl => ?_)
                  obtain ⟨y_346, ey_346⟩ : ∃ y : Int32, y = nn + 1 := ⟨_, rfl⟩
                  first | have ty_346 := i_add (a := nn.toInt) (b := 1) rfl (by decide) ey_346 (by omega) (by omega) | skip
                  refine lv_iinc (v := y_346) (lv' := [(5, .int y_346), (4, .int y_345), (3, .int y_342), (6, .int y_314), (0, .ref (ad a1)), (1, .ref (ad a2)), (2, .ref (ad a3))]) hx hb dX10_joins__110 hl (k := 3) rfl (by rw [ey_346]; rfl) (by decide) rfl (fun ls hl => ?_)
                  refine lv_aload_n hx hb dX10_joins__113 rfl (lv_at hl 6 rfl) ?_
                  refine lv_iload hx hb dX10_joins__114 (lv_at hl 0 rfl) ?_
                  refine lv_iload hx hb dX10_joins__116 (lv_at hl 3 rfl) ?_
                  refine va_iast hx hb hK hP hD hS (rPos (a3)) (rTy (a3)) (mW_R (by first | assumption | (unfold IR; omega))) (mT_R _) (i := y_346) (vp_of (a := y_346.toInt) rfl (by omega) (by omega)) dX10_joins__118 (fun H locs hP hD hS => ?_)
                  obtain ⟨n_347, m_348, o_349, hP, hD, wu_350⟩ := mW_Rx (by first | assumption | (unfold IR; omega)) hP hD
                  have u_350 := rU_v (x := (nn.toInt + 1)) (y := y_314.toInt) wu_350 (by first | assumption | (unfold IR; omega)) (by first | omega | decide) (by omega) rfl
                  have hP : va_P (dC, dI) vwCl (mW ad kc x0 x1 x2 x3 x4 x5 x6 x7 x8 x9 x10 x11 x12 x13 x14 x15 x16 x17 x18 x19 x20 x21 f0 f1 f2 f3 f4 f5 f6 f7 f8 f9 f10 f11 f12 f13 f14 f15 f16 f17 f18 f19 f20 f21 fL n_347 fP m_348 o_349) H := hP
                  have hD : va_D A (mW ad kc x0 x1 x2 x3 x4 x5 x6 x7 x8 x9 x10 x11 x12 x13 x14 x15 x16 x17 x18 x19 x20 x21 f0 f1 f2 f3 f4 f5 f6 f7 f8 f9 f10 f11 f12 f13 f14 f15 f16 f17 f18 f19 f20 f21 fL n_347 fP m_348 o_349) := hD
                  refine lv_goto (tgt := 8) hx hb dX10_joins__119 (by decide) ?_
                  exact ih8 y_342 y_345 y_346 n_347 m_348 o_349 (by first | omega | assumption | decide) (by first | omega | assumption | decide) (by first | omega | assumption | decide) (by first | omega | assumption | decide) (by first | omega | assumption | decide) (by first | omega | assumption | decide) (fun c h1 h2 => (u_350.2 c h1 h2).trans (v8_6 c h1 h2)) (by omega) _ _ ls hP hD hS (lv_sub hl [0, 1, 2, 4, 5, 6] rfl)
                · have tk_344 := c_ngt (a := kk.toInt) (b := y_343.toInt) rfl rfl k_344
                  refine lv_aload_n hx hb dX10_joins__93 rfl (lv_at hl 5 rfl) ?_
                  refine lv_iload hx hb dX10_joins__94 (lv_at hl 3 rfl) ?_
                  refine va_iald hx hb hK hP (rPos (a2)) (rTy (a2)) (mW_R (by first | assumption | (unfold IR; omega))) (mT_R _) (i := kk) (vp_of (a := kk.toInt) rfl (by omega) (by omega)) dX10_joins__96 ?_
                  refine lv_topi (fun y_351 ey_351 => ?_)
                  have rg_y_351 := i_rng y_351
                  have vy_351 := vI_lda (f := (rO hn hm ho) a2) (i := kk) (a := kk.toInt) ey_351 (by first | omega | decide)
                  have wy_351 := vI_cg (z := kk.toInt) (v8_6 a2 q1 q4)
                  refine lv_iload hx hb dX10_joins__97 (lv_at hl 1 rfl) ?_
                  refine lv_icmp_ne (tgt := 106) hx hb dX10_joins__99 (by decide) (fun k_352 => ?_) (fun k_352 => ?_)
                  · have tk_352 := c_ne (a := y_351.toInt) (b := y_314.toInt) rfl rfl k_352
                    refine lv_iconst (v := 0) hx hb dX10_joins__106 (by decide) ?_
                    refine lv_iadd hx hb dX10_joins__107 ?_
                    refine lv_topi (fun y_353 ey_353 => ?_)
                    first | have ty_353 := i_add (a := kk.toInt) (b := 0) rfl (by decide) ey_353 (by omega) (by omega) | skip
                    refine lv_istore (lv' := [(4, .int y_353), (3, .int y_342), (6, .int y_314), (5, .int nn), (0, .ref (ad a1)), (1, .ref (ad a2)), (2, .ref (ad a3))]) hx hb dX10_joins__108 hl (by decide) rfl (fun ls hl => ?_)
                    obtain ⟨y_354, ey_354⟩ : ∃ y : Int32, y = nn + 1 := ⟨_, rfl⟩
                    first | have ty_354 := i_add (a := nn.toInt) (b := 1) rfl (by decide) ey_354 (by omega) (by omega) | skip
                    refine lv_iinc (v := y_354) (lv' := [(5, .int y_354), (4, .int y_353), (3, .int y_342), (6, .int y_314), (0, .ref (ad a1)), (1, .ref (ad a2)), (2, .ref (ad a3))]) hx hb dX10_joins__110 hl (k := 3) rfl (by rw [ey_354]; rfl) (by decide) rfl (fun ls hl => ?_)
                    refine lv_aload_n hx hb dX10_joins__113 rfl (lv_at hl 6 rfl) ?_
                    refine lv_iload hx hb dX10_joins__114 (lv_at hl 0 rfl) ?_
                    refine lv_iload hx hb dX10_joins__116 (lv_at hl 3 rfl) ?_
                    refine va_iast hx hb hK hP hD hS (rPos (a3)) (rTy (a3)) (mW_R (by first | assumption | (unfold IR; omega))) (mT_R _) (i := y_354) (vp_of (a := y_354.toInt) rfl (by omega) (by omega)) dX10_joins__118 (fun H locs hP hD hS => ?_)
                    obtain ⟨n_355, m_356, o_357, hP, hD, wu_358⟩ := mW_Rx (by first | assumption | (unfold IR; omega)) hP hD
                    have u_358 := rU_v (x := (nn.toInt + 1)) (y := y_314.toInt) wu_358 (by first | assumption | (unfold IR; omega)) (by first | omega | decide) (by omega) rfl
                    have hP : va_P (dC, dI) vwCl (mW ad kc x0 x1 x2 x3 x4 x5 x6 x7 x8 x9 x10 x11 x12 x13 x14 x15 x16 x17 x18 x19 x20 x21 f0 f1 f2 f3 f4 f5 f6 f7 f8 f9 f10 f11 f12 f13 f14 f15 f16 f17 f18 f19 f20 f21 fL n_355 fP m_356 o_357) H := hP
                    have hD : va_D A (mW ad kc x0 x1 x2 x3 x4 x5 x6 x7 x8 x9 x10 x11 x12 x13 x14 x15 x16 x17 x18 x19 x20 x21 f0 f1 f2 f3 f4 f5 f6 f7 f8 f9 f10 f11 f12 f13 f14 f15 f16 f17 f18 f19 f20 f21 fL n_355 fP m_356 o_357) := hD
                    refine lv_goto (tgt := 8) hx hb dX10_joins__119 (by decide) ?_
                    exact ih8 y_342 y_353 y_354 n_355 m_356 o_357 (by first | omega | assumption | decide) (by first | omega | assumption | decide) (by first | omega | assumption | decide) (by first | omega | assumption | decide) (by first | omega | assumption | decide) (by first | omega | assumption | decide) (fun c h1 h2 => (u_358.2 c h1 h2).trans (v8_6 c h1 h2)) (by omega) _ _ ls hP hD hS (lv_sub hl [0, 1, 2, 4, 5, 6] rfl)
                  · have tk_352 := c_eq (a := y_351.toInt) (b := y_314.toInt) rfl rfl k_352
                    refine lv_iconst (v := 1) hx hb dX10_joins__102 (by decide) ?_
                    refine lv_goto (tgt := 107) hx hb dX10_joins__103 (by decide) ?_
                    refine lv_iadd hx hb dX10_joins__107 ?_
                    refine lv_topi (fun y_359 ey_359 => ?_)
                    first | have ty_359 := i_add (a := kk.toInt) (b := 1) rfl (by decide) ey_359 (by omega) (by omega) | skip
                    refine lv_istore (lv' := [(4, .int y_359), (3, .int y_342), (6, .int y_314), (5, .int nn), (0, .ref (ad a1)), (1, .ref (ad a2)), (2, .ref (ad a3))]) hx hb dX10_joins__108 hl (by decide) rfl (fun ls hl => ?_)
                    obtain ⟨y_360, ey_360⟩ : ∃ y : Int32, y = nn + 1 := ⟨_, rfl⟩
                    first | have ty_360 := i_add (a := nn.toInt) (b := 1) rfl (by decide) ey_360 (by omega) (by omega) | skip
                    refine lv_iinc (v := y_360) (lv' := [(5, .int y_360), (4, .int y_359), (3, .int y_342), (6, .int y_314), (0, .ref (ad a1)), (1, .ref (ad a2)), (2, .ref (ad a3))]) hx hb dX10_joins__110 hl (k := 3) rfl (by rw [ey_360]; rfl) (by decide) rfl (fun ls hl => ?_)
                    refine lv_aload_n hx hb dX10_joins__113 rfl (lv_at hl 6 rfl) ?_
                    refine lv_iload hx hb dX10_joins__114 (lv_at hl 0 rfl) ?_
                    refine lv_iload hx hb dX10_joins__116 (lv_at hl 3 rfl) ?_
                    refine va_iast hx hb hK hP hD hS (rPos (a3)) (rTy (a3)) (mW_R (by first | assumption | (unfold IR; omega))) (mT_R _) (i := y_360) (vp_of (a := y_360.toInt) rfl (by omega) (by omega)) dX10_joins__118 (fun H locs hP hD hS => ?_)
                    obtain ⟨n_361, m_362, o_363, hP, hD, wu_364⟩ := mW_Rx (by first | assumption | (unfold IR; omega)) hP hD
                    have u_364 := rU_v (x := (nn.toInt + 1)) (y := y_314.toInt) wu_364 (by first | assumption | (unfold IR; omega)) (by first | omega | decide) (by omega) rfl
                    have hP : va_P (dC, dI) vwCl (mW ad kc x0 x1 x2 x3 x4 x5 x6 x7 x8 x9 x10 x11 x12 x13 x14 x15 x16 x17 x18 x19 x20 x21 f0 f1 f2 f3 f4 f5 f6 f7 f8 f9 f10 f11 f12 f13 f14 f15 f16 f17 f18 f19 f20 f21 fL n_361 fP m_362 o_363) H := hP
                    have hD : va_D A (mW ad kc x0 x1 x2 x3 x4 x5 x6 x7 x8 x9 x10 x11 x12 x13 x14 x15 x16 x17 x18 x19 x20 x21 f0 f1 f2 f3 f4 f5 f6 f7 f8 f9 f10 f11 f12 f13 f14 f15 f16 f17 f18 f19 f20 f21 fL n_361 fP m_362 o_363) := hD
                    refine lv_goto (tgt := 8) hx hb dX10_joins__119 (by decide) ?_
                    exact ih8 y_342 y_359 y_360 n_361 m_362 o_363 (by first | omega | assumption | decide) (by first | omega | assumption | decide) (by first | omega | assumption | decide) (by first | omega | assumption | decide) (by first | omega | assumption | decide) (by first | omega | assumption | decide) (fun c h1 h2 => (u_364.2 c h1 h2).trans (v8_6 c h1 h2)) (by omega) _ _ ls hP hD hS (lv_sub hl [0, 1, 2, 4, 5, 6] rfl)
              · have tk_341 := c_eq (a := y_340.toInt) (b := y_314.toInt) rfl rfl k_341
                refine lv_iconst (v := 1) hx hb dX10_joins__76 (by decide) ?_
                refine lv_goto (tgt := 81) hx hb dX10_joins__77 (by decide) ?_
                refine lv_iadd hx hb dX10_joins__81 ?_
                refine lv_topi (fun y_365 ey_365 => ?_)
                first | have ty_365 := i_add (a := ii.toInt) (b := 1) rfl (by decide) ey_365 (by omega) (by omega) | skip
                refine lv_istore_n (lv' := [(3, .int y_365), (6, .int y_314), (5, .int nn), (4, .int kk), (0, .ref (ad a1)), (1, .ref (ad a2)), (2, .ref (ad a3))]) hx hb dX10_joins__82 rfl hl (by decide) rfl (fun ls hl => ?_)
                refine lv_iload hx hb dX10_joins__83 (lv_at hl 3 rfl) ?_
                refine lv_iload hx hb dX10_joins__85 (lv_at hl 3 rfl) ?_
                refine lv_aload_n hx hb dX10_joins__87 rfl (lv_at hl 5 rfl) ?_
                refine lv_iconst (v := 0) hx hb dX10_joins__88 (by decide) ?_
                refine va_iald hx hb hK hP (rPos (a2)) (rTy (a2)) (mW_R (by first | assumption | (unfold IR; omega))) (mT_R _) (i := 0) (by unfold vp_in; decide +kernel) dX10_joins__89 ?_
                refine lv_topi (fun y_366 ey_366 => ?_)
                have rg_y_366 := i_rng y_366
                have vy_366 := vI_lda (f := (rO hn hm ho) a2) (i := 0) (a := 0) ey_366 (by first | omega | decide)
                have wy_366 := vI_cg (z := 0) (v8_6 a2 q1 q4)
                refine lv_icmp_gt (tgt := 106) hx hb dX10_joins__90 (by decide) (fun k_367 => ?_) (fun k_367 => ?_)
                · have tk_367 := c_gt (a := kk.toInt) (b := y_366.toInt) rfl rfl k_367
                  refine lv_iconst (v := 0) hx hb dX10_joins__106 (by decide) ?_
                  refine lv_iadd hx hb dX10_joins__107 ?_
                  refine lv_topi (fun y_368 ey_368 => ?_)
                  first | have ty_368 := i_add (a := kk.toInt) (b := 0) rfl (by decide) ey_368 (by omega) (by omega) | skip
                  refine lv_istore (lv' := [(4, .int y_368), (3, .int y_365), (6, .int y_314), (5, .int nn), (0, .ref (ad a1)), (1, .ref (ad a2)), (2, .ref (ad a3))]) hx hb dX10_joins__108 hl (by decide) rfl (fun ls hl => ?_)
                  obtain ⟨y_369, ey_369⟩ : ∃ y : Int32, y = nn + 1 := ⟨_, rfl⟩
                  first | have ty_369 := i_add (a := nn.toInt) (b := 1) rfl (by decide) ey_369 (by omega) (by omega) | skip
                  refine lv_iinc (v := y_369) (lv' := [(5, .int y_369), (4, .int y_368), (3, .int y_365), (6, .int y_314), (0, .ref (ad a1)), (1, .ref (ad a2)), (2, .ref (ad a3))]) hx hb dX10_joins__110 hl (k := 3) rfl (by rw [ey_369]; rfl) (by decide) rfl (fun ls hl => ?_)
                  refine lv_aload_n hx hb dX10_joins__113 rfl (lv_at hl 6 rfl) ?_
                  refine lv_iload hx hb dX10_joins__114 (lv_at hl 0 rfl) ?_
                  refine lv_iload hx hb dX10_joins__116 (lv_at hl 3 rfl) ?_
                  refine va_iast hx hb hK hP hD hS (rPos (a3)) (rTy (a3)) (mW_R (by first | assumption | (unfold IR; omega))) (mT_R _) (i := y_369) (vp_of (a := y_369.toInt) rfl (by omega) (by omega)) dX10_joins__118 (fun H locs hP hD hS => ?_)
                  obtain ⟨n_370, m_371, o_372, hP, hD, wu_373⟩ := mW_Rx (by first | assumption | (unfold IR; omega)) hP hD
                  have u_373 := rU_v (x := (nn.toInt + 1)) (y := y_314.toInt) wu_373 (by first | assumption | (unfold IR; omega)) (by first | omega | decide) (by omega) rfl
                  have hP : va_P (dC, dI) vwCl (mW ad kc x0 x1 x2 x3 x4 x5 x6 x7 x8 x9 x10 x11 x12 x13 x14 x15 x16 x17 x18 x19 x20 x21 f0 f1 f2 f3 f4 f5 f6 f7 f8 f9 f10 f11 f12 f13 f14 f15 f16 f17 f18 f19 f20 f21 fL n_370 fP m_371 o_372) H := hP
                  have hD : va_D A (mW ad kc x0 x1 x2 x3 x4 x5 x6 x7 x8 x9 x10 x11 x12 x13 x14 x15 x16 x17 x18 x19 x20 x21 f0 f1 f2 f3 f4 f5 f6 f7 f8 f9 f10 f11 f12 f13 f14 f15 f16 f17 f18 f19 f20 f21 fL n_370 fP m_371 o_372) := hD
                  refine lv_goto (tgt := 8) hx hb dX10_joins__119 (by decide) ?_
                  exact ih8 y_365 y_368 y_369 n_370 m_371 o_372 (by first | omega | assumption | decide) (by first | omega | assumption | decide) (by first | omega | assumption | decide) (by first | omega | assumption | decide) (by first | omega | assumption | decide) (by first | omega | assumption | decide) (fun c h1 h2 => (u_373.2 c h1 h2).trans (v8_6 c h1 h2)) (by omega) _ _ ls hP hD hS (lv_sub hl [0, 1, 2, 4, 5, 6] rfl)
                · have tk_367 := c_ngt (a := kk.toInt) (b := y_366.toInt) rfl rfl k_367
                  refine lv_aload_n hx hb dX10_joins__93 rfl (lv_at hl 5 rfl) ?_
                  refine lv_iload hx hb dX10_joins__94 (lv_at hl 3 rfl) ?_
                  refine va_iald hx hb hK hP (rPos (a2)) (rTy (a2)) (mW_R (by first | assumption | (unfold IR; omega))) (mT_R _) (i := kk) (vp_of (a := kk.toInt) rfl (by omega) (by omega)) dX10_joins__96 ?_
                  refine lv_topi (fun y_374 ey_374 => ?_)
                  have rg_y_374 := i_rng y_374
                  have vy_374 := vI_lda (f := (rO hn hm ho) a2) (i := kk) (a := kk.toInt) ey_374 (by first | omega | decide)
                  have wy_374 := vI_cg (z := kk.toInt) (v8_6 a2 q1 q4)
                  refine lv_iload hx hb dX10_joins__97 (lv_at hl 1 rfl) ?_
                  refine lv_icmp_ne (tgt := 106) hx hb dX10_joins__99 (by decide) (fun k_375 => ?_) (fun k_375 => ?_)
                  · have tk_375 := c_ne (a := y_374.toInt) (b := y_314.toInt) rfl rfl k_375
                    refine lv_iconst (v := 0) hx hb dX10_joins__106 (by decide) ?_
                    refine lv_iadd hx hb dX10_joins__107 ?_
                    refine lv_topi (fun y_376 ey_376 => ?_)
                    first | have ty_376 := i_add (a := kk.toInt) (b := 0) rfl (by decide) ey_376 (by omega) (by omega) | skip
                    refine lv_istore (lv' := [(4, .int y_376), (3, .int y_365), (6, .int y_314), (5, .int nn), (0, .ref (ad a1)), (1, .ref (ad a2)), (2, .ref (ad a3))]) hx hb dX10_joins__108 hl (by decide) rfl (fun ls hl => ?_)
                    obtain ⟨y_377, ey_377⟩ : ∃ y : Int32, y = nn + 1 := ⟨_, rfl⟩
                    first | have ty_377 := i_add (a := nn.toInt) (b := 1) rfl (by decide) ey_377 (by omega) (by omega) | skip
                    refine lv_iinc (v := y_377) (lv' := [(5, .int y_377), (4, .int y_376), (3, .int y_365), (6, .int y_314), (0, .ref (ad a1)), (1, .ref (ad a2)), (2, .ref (ad a3))]) hx hb dX10_joins__110 hl (k := 3) rfl (by rw [ey_377]; rfl) (by decide) rfl (fun ls hl => ?_)
                    refine lv_aload_n hx hb dX10_joins__113 rfl (lv_at hl 6 rfl) ?_
                    refine lv_iload hx hb dX10_joins__114 (lv_at hl 0 rfl) ?_
                    refine lv_iload hx hb dX10_joins__116 (lv_at hl 3 rfl) ?_
                    refine va_iast hx hb hK hP hD hS (rPos (a3)) (rTy (a3)) (mW_R (by first | assumption | (unfold IR; omega))) (mT_R _) (i := y_377) (vp_of (a := y_377.toInt) rfl (by omega) (by omega)) dX10_joins__118 (fun H locs hP hD hS => ?_)
                    obtain ⟨n_378, m_379, o_380, hP, hD, wu_381⟩ := mW_Rx (by first | assumption | (unfold IR; omega)) hP hD
                    have u_381 := rU_v (x := (nn.toInt + 1)) (y := y_314.toInt) wu_381 (by first | assumption | (unfold IR; omega)) (by first | omega | decide) (by omega) rfl
                    have hP : va_P (dC, dI) vwCl (mW ad kc x0 x1 x2 x3 x4 x5 x6 x7 x8 x9 x10 x11 x12 x13 x14 x15 x16 x17 x18 x19 x20 x21 f0 f1 f2 f3 f4 f5 f6 f7 f8 f9 f10 f11 f12 f13 f14 f15 f16 f17 f18 f19 f20 f21 fL n_378 fP m_379 o_380) H := hP
                    have hD : va_D A (mW ad kc x0 x1 x2 x3 x4 x5 x6 x7 x8 x9 x10 x11 x12 x13 x14 x15 x16 x17 x18 x19 x20 x21 f0 f1 f2 f3 f4 f5 f6 f7 f8 f9 f10 f11 f12 f13 f14 f15 f16 f17 f18 f19 f20 f21 fL n_378 fP m_379 o_380) := hD
                    refine lv_goto (tgt := 8) hx hb dX10_joins__119 (by decide) ?_
                    exact ih8 y_365 y_376 y_377 n_378 m_379 o_380 (by first | omega | assumption | decide) (by first | omega | assumption | decide) (by first | omega | assumption | decide) (by first | omega | assumption | decide) (by first | omega | assumption | decide) (by first | omega | assumption | decide) (fun c h1 h2 => (u_381.2 c h1 h2).trans (v8_6 c h1 h2)) (by omega) _ _ ls hP hD hS (lv_sub hl [0, 1, 2, 4, 5, 6] rfl)
                  · have tk_375 := c_eq (a := y_374.toInt) (b := y_314.toInt) rfl rfl k_375
                    refine lv_iconst (v := 1) hx hb dX10_joins__102 (by decide) ?_
                    refine lv_goto (tgt := 107) hx hb dX10_joins__103 (by decide) ?_
                    refine lv_iadd hx hb dX10_joins__107 ?_
                    refine lv_topi (fun y_382 ey_382 => ?_)
                    first | have ty_382 := i_add (a := kk.toInt) (b := 1) rfl (by decide) ey_382 (by omega) (by omega) | skip
                    refine lv_istore (lv' := [(4, .int y_382), (3, .int y_365), (6, .int y_314), (5, .int nn), (0, .ref (ad a1)), (1, .ref (ad a2)), (2, .ref (ad a3))]) hx hb dX10_joins__108 hl (by decide) rfl (fun ls hl => ?_)
                    obtain ⟨y_383, ey_383⟩ : ∃ y : Int32, y = nn + 1 := ⟨_, rfl⟩
                    first | have ty_383 := i_add (a := nn.toInt) (b := 1) rfl (by decide) ey_383 (by omega) (by omega) | skip
                    refine lv_iinc (v := y_383) (lv' := [(5, .int y_383), (4, .int y_382), (3, .int y_365), (6, .int y_314), (0, .ref (ad a1)), (1, .ref (ad a2)), (2, .ref (ad a3))]) hx hb dX10_joins__110 hl (k := 3) rfl (by rw [ey_383]; rfl) (by decide) rfl (fun ls hl => ?_)
                    refine lv_aload_n hx hb dX10_joins__113 rfl (lv_at hl 6 rfl) ?_
                    refine lv_iload hx hb dX10_joins__114 (lv_at hl 0 rfl) ?_
                    refine lv_iload hx hb dX10_joins__116 (lv_at hl 3 rfl) ?_
                    refine va_iast hx hb hK hP hD hS (rPos (a3)) (rTy (a3)) (mW_R (by first | assumption | (unfold IR; omega))) (mT_R _) (i := y_383) (vp_of (a := y_383.toInt) rfl (by omega) (by omega)) dX10_joins__118 (fun H locs hP hD hS => ?_)
                    obtain ⟨n_384, m_385, o_386, hP, hD, wu_387⟩ := mW_Rx (by first | assumption | (unfold IR; omega)) hP hD
                    have u_387 := rU_v (x := (nn.toInt + 1)) (y := y_314.toInt) wu_387 (by first | assumption | (unfold IR; omega)) (by first | omega | decide) (by omega) rfl
                    have hP : va_P (dC, dI) vwCl (mW ad kc x0 x1 x2 x3 x4 x5 x6 x7 x8 x9 x10 x11 x12 x13 x14 x15 x16 x17 x18 x19 x20 x21 f0 f1 f2 f3 f4 f5 f6 f7 f8 f9 f10 f11 f12 f13 f14 f15 f16 f17 f18 f19 f20 f21 fL n_384 fP m_385 o_386) H := hP
                    have hD : va_D A (mW ad kc x0 x1 x2 x3 x4 x5 x6 x7 x8 x9 x10 x11 x12 x13 x14 x15 x16 x17 x18 x19 x20 x21 f0 f1 f2 f3 f4 f5 f6 f7 f8 f9 f10 f11 f12 f13 f14 f15 f16 f17 f18 f19 f20 f21 fL n_384 fP m_385 o_386) := hD
                    refine lv_goto (tgt := 8) hx hb dX10_joins__119 (by decide) ?_
                    exact ih8 y_365 y_382 y_383 n_384 m_385 o_386 (by first | omega | assumption | decide) (by first | omega | assumption | decide) (by first | omega | assumption | decide) (by first | omega | assumption | decide) (by first | omega | assumption | decide) (by first | omega | assumption | decide) (fun c h1 h2 => (u_387.2 c h1 h2).trans (v8_6 c h1 h2)) (by omega) _ _ ls hP hD hS (lv_sub hl [0, 1, 2, 4, 5, 6] rfl)
          · have tk_313 := c_ngt (a := kk.toInt) (b := y_312.toInt) rfl rfl k_313
            refine lv_iload_n hx hb dX10_joins__31 rfl (lv_at hl 2 rfl) ?_
            refine lv_aload_n hx hb dX10_joins__32 rfl (lv_at hl 3 rfl) ?_
            refine lv_iconst (v := 0) hx hb dX10_joins__33 (by decide) ?_
            refine va_iald hx hb hK hP (rPos (a1)) (rTy (a1)) (mW_R (by first | assumption | (unfold IR; omega))) (mT_R _) (i := 0) (by unfold vp_in; decide +kernel) dX10_joins__34 ?_
            refine lv_topi (fun y_388 ey_388 => ?_)
            have rg_y_388 := i_rng y_388
            have vy_388 := vI_lda (f := (rO hn hm ho) a1) (i := 0) (a := 0) ey_388 (by first | omega | decide)
            have wy_388 := vI_cg (z := 0) (v8_6 a1 q0 q3)
            refine lv_icmp_gt (tgt := 54) hx hb dX10_joins__35 (by decide) (fun k_389 => ?_) (fun k_389 => ?_)
            · have tk_389 := c_gt (a := ii.toInt) (b := y_388.toInt) rfl rfl k_389
              refine lv_aload_n hx hb dX10_joins__54 rfl (lv_at hl 4 rfl) ?_
              refine lv_iload hx hb dX10_joins__55 (lv_at hl 1 rfl) ?_
              refine va_iald hx hb hK hP (rPos (a2)) (rTy (a2)) (mW_R (by first | assumption | (unfold IR; omega))) (mT_R _) (i := kk) (vp_of (a := kk.toInt) rfl (by omega) (by omega)) dX10_joins__57 ?_
              refine lv_topi (fun y_390 ey_390 => ?_)
              have rg_y_390 := i_rng y_390
              have vy_390 := vI_lda (f := (rO hn hm ho) a2) (i := kk) (a := kk.toInt) ey_390 (by first | omega | decide)
              have wy_390 := vI_cg (z := kk.toInt) (v8_6 a2 q1 q4)
              refine lv_istore (lv' := [(6, .int y_390), (5, .int nn), (4, .int kk), (3, .int ii), (0, .ref (ad a1)), (1, .ref (ad a2)), (2, .ref (ad a3))]) hx hb dX10_joins__58 hl (by decide) rfl (fun ls hl => ?_)
              refine lv_iload_n hx hb dX10_joins__60 rfl (lv_at hl 3 rfl) ?_
              refine lv_iload_n hx hb dX10_joins__61 rfl (lv_at hl 3 rfl) ?_
              refine lv_aload_n hx hb dX10_joins__62 rfl (lv_at hl 4 rfl) ?_
              refine lv_iconst (v := 0) hx hb dX10_joins__63 (by decide) ?_
              refine va_iald hx hb hK hP (rPos (a1)) (rTy (a1)) (mW_R (by first | assumption | (unfold IR; omega))) (mT_R _) (i := 0) (by unfold vp_in; decide +kernel) dX10_joins__64 ?_
              refine lv_topi (fun y_391 ey_391 => ?_)
              have rg_y_391 := i_rng y_391
              have vy_391 := vI_lda (f := (rO hn hm ho) a1) (i := 0) (a := 0) ey_391 (by first | omega | decide)
              have wy_391 := vI_cg (z := 0) (v8_6 a1 q0 q3)
              refine lv_icmp_gt (tgt := 80) hx hb dX10_joins__65 (by decide) (fun k_392 => ?_) (fun k_392 => ?_)
              · have tk_392 := c_gt (a := ii.toInt) (b := y_391.toInt) rfl rfl k_392
                refine lv_iconst (v := 0) hx hb dX10_joins__80 (by decide) ?_
                refine lv_iadd hx hb dX10_joins__81 ?_
                refine lv_topi (fun y_393 ey_393 => ?_)
                first | have ty_393 := i_add (a := ii.toInt) (b := 0) rfl (by decide) ey_393 (by omega) (by omega) | skip
                refine lv_istore_n (lv' := [(3, .int y_393), (6, .int y_390), (5, .int nn), (4, .int kk), (0, .ref (ad a1)), (1, .ref (ad a2)), (2, .ref (ad a3))]) hx hb dX10_joins__82 rfl hl (by decide) rfl (fun ls hl => ?_)
                refine lv_iload hx hb dX10_joins__83 (lv_at hl 3 rfl) ?_
                refine lv_iload hx hb dX10_joins__85 (lv_at hl 3 rfl) ?_
                refine lv_aload_n hx hb dX10_joins__87 rfl (lv_at hl 5 rfl) ?_
                refine lv_iconst (v := 0) hx hb dX10_joins__88 (by decide) ?_
                refine va_iald hx hb hK hP (rPos (a2)) (rTy (a2)) (mW_R (by first | assumption | (unfold IR; omega))) (mT_R _) (i := 0) (by unfold vp_in; decide +kernel) dX10_joins__89 ?_
                refine lv_topi (fun y_394 ey_394 => ?_)
                have rg_y_394 := i_rng y_394
                have vy_394 := vI_lda (f := (rO hn hm ho) a2) (i := 0) (a := 0) ey_394 (by first | omega | decide)
                have wy_394 := vI_cg (z := 0) (v8_6 a2 q1 q4)
                refine lv_icmp_gt (tgt := 106) hx hb dX10_joins__90 (by decide) (fun k_395 => ?_) (fun k_395 => ?_)
                · have tk_395 := c_gt (a := kk.toInt) (b := y_394.toInt) rfl rfl k_395
                  refine lv_iconst (v := 0) hx hb dX10_joins__106 (by decide) ?_
                  refine lv_iadd hx hb dX10_joins__107 ?_
                  refine lv_topi (fun y_396 ey_396 => ?_)
                  first | have ty_396 := i_add (a := kk.toInt) (b := 0) rfl (by decide) ey_396 (by omega) (by omega) | skip
                  refine lv_istore (lv' := [(4, .int y_396), (3, .int y_393), (6, .int y_390), (5, .int nn), (0, .ref (ad a1)), (1, .ref (ad a2)), (2, .ref (ad a3))]) hx hb dX10_joins__108 hl (by decide) rfl (fun ls hl => ?_)
                  obtain ⟨y_397, ey_397⟩ : ∃ y : Int32, y = nn + 1 := ⟨_, rfl⟩
                  first | have ty_397 := i_add (a := nn.toInt) (b := 1) rfl (by decide) ey_397 (by omega) (by omega) | skip
                  refine lv_iinc (v := y_397) (lv' := [(5, .int y_397), (4, .int y_396), (3, .int y_393), (6, .int y_390), (0, .ref (ad a1)), (1, .ref (ad a2)), (2, .ref (ad a3))]) hx hb dX10_joins__110 hl (k := 3) rfl (by rw [ey_397]; rfl) (by decide) rfl (fun ls hl => ?_)
                  refine lv_aload_n hx hb dX10_joins__113 rfl (lv_at hl 6 rfl) ?_
                  refine lv_iload hx hb dX10_joins__114 (lv_at hl 0 rfl) ?_
                  refine lv_iload hx hb dX10_joins__116 (lv_at hl 3 rfl) ?_
                  refine va_iast hx hb hK hP hD hS (rPos (a3)) (rTy (a3)) (mW_R (by first | assumption | (unfold IR; omega))) (mT_R _) (i := y_397) (vp_of (a := y_397.toInt) rfl (by omega) (by omega)) dX10_joins__118 (fun H locs hP hD hS => ?_)
                  obtain ⟨n_398, m_399, o_400, hP, hD, wu_401⟩ := mW_Rx (by first | assumption | (unfold IR; omega)) hP hD
                  have u_401 := rU_v (x := (nn.toInt + 1)) (y := y_390.toInt) wu_401 (by first | assumption | (unfold IR; omega)) (by first | omega | decide) (by omega) rfl
                  have hP : va_P (dC, dI) vwCl (mW ad kc x0 x1 x2 x3 x4 x5 x6 x7 x8 x9 x10 x11 x12 x13 x14 x15 x16 x17 x18 x19 x20 x21 f0 f1 f2 f3 f4 f5 f6 f7 f8 f9 f10 f11 f12 f13 f14 f15 f16 f17 f18 f19 f20 f21 fL n_398 fP m_399 o_400) H := hP
                  have hD : va_D A (mW ad kc x0 x1 x2 x3 x4 x5 x6 x7 x8 x9 x10 x11 x12 x13 x14 x15 x16 x17 x18 x19 x20 x21 f0 f1 f2 f3 f4 f5 f6 f7 f8 f9 f10 f11 f12 f13 f14 f15 f16 f17 f18 f19 f20 f21 fL n_398 fP m_399 o_400) := hD
                  refine lv_goto (tgt := 8) hx hb dX10_joins__119 (by decide) ?_
                  exact ih8 y_393 y_396 y_397 n_398 m_399 o_400 (by first | omega | assumption | decide) (by first | omega | assumption | decide) (by first | omega | assumption | decide) (by first | omega | assumption | decide) (by first | omega | assumption | decide) (by first | omega | assumption | decide) (fun c h1 h2 => (u_401.2 c h1 h2).trans (v8_6 c h1 h2)) (by omega) _ _ ls hP hD hS (lv_sub hl [0, 1, 2, 4, 5, 6] rfl)
                · have tk_395 := c_ngt (a := kk.toInt) (b := y_394.toInt) rfl rfl k_395
                  refine lv_aload_n hx hb dX10_joins__93 rfl (lv_at hl 5 rfl) ?_
                  refine lv_iload hx hb dX10_joins__94 (lv_at hl 3 rfl) ?_
                  refine va_iald hx hb hK hP (rPos (a2)) (rTy (a2)) (mW_R (by first | assumption | (unfold IR; omega))) (mT_R _) (i := kk) (vp_of (a := kk.toInt) rfl (by omega) (by omega)) dX10_joins__96 ?_
                  refine lv_topi (fun y_402 ey_402 => ?_)
                  have rg_y_402 := i_rng y_402
                  have vy_402 := vI_lda (f := (rO hn hm ho) a2) (i := kk) (a := kk.toInt) ey_402 (by first | omega | decide)
                  have wy_402 := vI_cg (z := kk.toInt) (v8_6 a2 q1 q4)
                  refine lv_iload hx hb dX10_joins__97 (lv_at hl 1 rfl) ?_
                  refine lv_icmp_ne (tgt := 106) hx hb dX10_joins__99 (by decide) (fun k_403 => ?_) (fun k_403 => ?_)
                  · have tk_403 := c_ne (a := y_402.toInt) (b := y_390.toInt) rfl rfl k_403
                    refine lv_iconst (v := 0) hx hb dX10_joins__106 (by decide) ?_
                    refine lv_iadd hx hb dX10_joins__107 ?_
                    refine lv_topi (fun y_404 ey_404 => ?_)
                    first | have ty_404 := i_add (a := kk.toInt) (b := 0) rfl (by decide) ey_404 (by omega) (by omega) | skip
                    refine lv_istore (lv' := [(4, .int y_404), (3, .int y_393), (6, .int y_390), (5, .int nn), (0, .ref (ad a1)), (1, .ref (ad a2)), (2, .ref (ad a3))]) hx hb dX10_joins__108 hl (by decide) rfl (fun ls hl => ?_)
                    obtain ⟨y_405, ey_405⟩ : ∃ y : Int32, y = nn + 1 := ⟨_, rfl⟩
                    first | have ty_405 := i_add (a := nn.toInt) (b := 1) rfl (by decide) ey_405 (by omega) (by omega) | skip
                    refine lv_iinc (v := y_405) (lv' := [(5, .int y_405), (4, .int y_404), (3, .int y_393), (6, .int y_390), (0, .ref (ad a1)), (1, .ref (ad a2)), (2, .ref (ad a3))]) hx hb dX10_joins__110 hl (k := 3) rfl (by rw [ey_405]; rfl) (by decide) rfl (fun ls hl => ?_)
                    refine lv_aload_n hx hb dX10_joins__113 rfl (lv_at hl 6 rfl) ?_
                    refine lv_iload hx hb dX10_joins__114 (lv_at hl 0 rfl) ?_
                    refine lv_iload hx hb dX10_joins__116 (lv_at hl 3 rfl) ?_
                    refine va_iast hx hb hK hP hD hS (rPos (a3)) (rTy (a3)) (mW_R (by first | assumption | (unfold IR; omega))) (mT_R _) (i := y_405) (vp_of (a := y_405.toInt) rfl (by omega) (by omega)) dX10_joins__118 (fun H locs hP hD hS => ?_)
                    obtain ⟨n_406, m_407, o_408, hP, hD, wu_409⟩ := mW_Rx (by first | assumption | (unfold IR; omega)) hP hD
                    have u_409 := rU_v (x := (nn.toInt + 1)) (y := y_390.toInt) wu_409 (by first | assumption | (unfold IR; omega)) (by first | omega | decide) (by omega) rfl
                    have hP : va_P (dC, dI) vwCl (mW ad kc x0 x1 x2 x3 x4 x5 x6 x7 x8 x9 x10 x11 x12 x13 x14 x15 x16 x17 x18 x19 x20 x21 f0 f1 f2 f3 f4 f5 f6 f7 f8 f9 f10 f11 f12 f13 f14 f15 f16 f17 f18 f19 f20 f21 fL n_406 fP m_407 o_408) H := hP
                    have hD : va_D A (mW ad kc x0 x1 x2 x3 x4 x5 x6 x7 x8 x9 x10 x11 x12 x13 x14 x15 x16 x17 x18 x19 x20 x21 f0 f1 f2 f3 f4 f5 f6 f7 f8 f9 f10 f11 f12 f13 f14 f15 f16 f17 f18 f19 f20 f21 fL n_406 fP m_407 o_408) := hD
                    refine lv_goto (tgt := 8) hx hb dX10_joins__119 (by decide) ?_
                    exact ih8 y_393 y_404 y_405 n_406 m_407 o_408 (by first | omega | assumption | decide) (by first | omega | assumption | decide) (by first | omega | assumption | decide) (by first | omega | assumption | decide) (by first | omega | assumption | decide) (by first | omega | assumption | decide) (fun c h1 h2 => (u_409.2 c h1 h2).trans (v8_6 c h1 h2)) (by omega) _ _ ls hP hD hS (lv_sub hl [0, 1, 2, 4, 5, 6] rfl)
                  · have tk_403 := c_eq (a := y_402.toInt) (b := y_390.toInt) rfl rfl k_403
                    refine lv_iconst (v := 1) hx hb dX10_joins__102 (by decide) ?_
                    refine lv_goto (tgt := 107) hx hb dX10_joins__103 (by decide) ?_
                    refine lv_iadd hx hb dX10_joins__107 ?_
                    refine lv_topi (fun y_410 ey_410 => ?_)
                    first | have ty_410 := i_add (a := kk.toInt) (b := 1) rfl (by decide) ey_410 (by omega) (by omega) | skip
                    refine lv_istore (lv' := [(4, .int y_410), (3, .int y_393), (6, .int y_390), (5, .int nn), (0, .ref (ad a1)), (1, .ref (ad a2)), (2, .ref (ad a3))]) hx hb dX10_joins__108 hl (by decide) rfl (fun ls hl => ?_)
                    obtain ⟨y_411, ey_411⟩ : ∃ y : Int32, y = nn + 1 := ⟨_, rfl⟩
                    first | have ty_411 := i_add (a := nn.toInt) (b := 1) rfl (by decide) ey_411 (by omega) (by omega) | skip
                    refine lv_iinc (v := y_411) (lv' := [(5, .int y_411), (4, .int y_410), (3, .int y_393), (6, .int y_390), (0, .ref (ad a1)), (1, .ref (ad a2)), (2, .ref (ad a3))]) hx hb dX10_joins__110 hl (k := 3) rfl (by rw [ey_411]; rfl) (by decide) rfl (fun ls hl => ?_)
                    refine lv_aload_n hx hb dX10_joins__113 rfl (lv_at hl 6 rfl) ?_
                    refine lv_iload hx hb dX10_joins__114 (lv_at hl 0 rfl) ?_
                    refine lv_iload hx hb dX10_joins__116 (lv_at hl 3 rfl) ?_
                    refine va_iast hx hb hK hP hD hS (rPos (a3)) (rTy (a3)) (mW_R (by first | assumption | (unfold IR; omega))) (mT_R _) (i := y_411) (vp_of (a := y_411.toInt) rfl (by omega) (by omega)) dX10_joins__118 (fun H locs hP hD hS => ?_)
                    obtain ⟨n_412, m_413, o_414, hP, hD, wu_415⟩ := mW_Rx (by first | assumption | (unfold IR; omega)) hP hD
                    have u_415 := rU_v (x := (nn.toInt + 1)) (y := y_390.toInt) wu_415 (by first | assumption | (unfold IR; omega)) (by first | omega | decide) (by omega) rfl
                    have hP : va_P (dC, dI) vwCl (mW ad kc x0 x1 x2 x3 x4 x5 x6 x7 x8 x9 x10 x11 x12 x13 x14 x15 x16 x17 x18 x19 x20 x21 f0 f1 f2 f3 f4 f5 f6 f7 f8 f9 f10 f11 f12 f13 f14 f15 f16 f17 f18 f19 f20 f21 fL n_412 fP m_413 o_414) H := hP
                    have hD : va_D A (mW ad kc x0 x1 x2 x3 x4 x5 x6 x7 x8 x9 x10 x11 x12 x13 x14 x15 x16 x17 x18 x19 x20 x21 f0 f1 f2 f3 f4 f5 f6 f7 f8 f9 f10 f11 f12 f13 f14 f15 f16 f17 f18 f19 f20 f21 fL n_412 fP m_413 o_414) := hD
                    refine lv_goto (tgt := 8) hx hb dX10_joins__119 (by decide) ?_
                    exact ih8 y_393 y_410 y_411 n_412 m_413 o_414 (by first | omega | assumption | decide) (by first | omega | assumption | decide) (by first | omega | assumption | decide) (by first | omega | assumption | decide) (by first | omega | assumption | decide) (by first | omega | assumption | decide) (fun c h1 h2 => (u_415.2 c h1 h2).trans (v8_6 c h1 h2)) (by omega) _ _ ls hP hD hS (lv_sub hl [0, 1, 2, 4, 5, 6] rfl)
              · have tk_392 := c_ngt (a := ii.toInt) (b := y_391.toInt) rfl rfl k_392
                refine lv_aload_n hx hb dX10_joins__68 rfl (lv_at hl 4 rfl) ?_
                refine lv_iload_n hx hb dX10_joins__69 rfl (lv_at hl 3 rfl) ?_
                refine va_iald hx hb hK hP (rPos (a1)) (rTy (a1)) (mW_R (by first | assumption | (unfold IR; omega))) (mT_R _) (i := ii) (vp_of (a := ii.toInt) rfl (by omega) (by omega)) dX10_joins__70 ?_
                refine lv_topi (fun y_416 ey_416 => ?_)
                have rg_y_416 := i_rng y_416
                have vy_416 := vI_lda (f := (rO hn hm ho) a1) (i := ii) (a := ii.toInt) ey_416 (by first | omega | decide)
                have wy_416 := vI_cg (z := ii.toInt) (v8_6 a1 q0 q3)
                refine lv_iload hx hb dX10_joins__71 (lv_at hl 0 rfl) ?_
                refine lv_icmp_ne (tgt := 80) hx hb dX10_joins__73 (by decide) (fun k_417 => ?_) (fun k_417 => ?_)
                · have tk_417 := c_ne (a := y_416.toInt) (b := y_390.toInt) rfl rfl k_417
                  refine lv_iconst (v := 0) hx hb dX10_joins__80 (by decide) ?_
                  refine lv_iadd hx hb dX10_joins__81 ?_
                  refine lv_topi (fun y_418 ey_418 => ?_)
                  first | have ty_418 := i_add (a := ii.toInt) (b := 0) rfl (by decide) ey_418 (by omega) (by omega) | skip
                  refine lv_istore_n (lv' := [(3, .int y_418), (6, .int y_390), (5, .int nn), (4, .int kk), (0, .ref (ad a1)), (1, .ref (ad a2)), (2, .ref (ad a3))]) hx hb dX10_joins__82 rfl hl (by decide) rfl (fun ls hl => ?_)
                  refine lv_iload hx hb dX10_joins__83 (lv_at hl 3 rfl) ?_
                  refine lv_iload hx hb dX10_joins__85 (lv_at hl 3 rfl) ?_
                  refine lv_aload_n hx hb dX10_joins__87 rfl (lv_at hl 5 rfl) ?_
                  refine lv_iconst (v := 0) hx hb dX10_joins__88 (by decide) ?_
                  refine va_iald hx hb hK hP (rPos (a2)) (rTy (a2)) (mW_R (by first | assumption | (unfold IR; omega))) (mT_R _) (i := 0) (by unfold vp_in; decide +kernel) dX10_joins__89 ?_
                  refine lv_topi (fun y_419 ey_419 => ?_)
                  have rg_y_419 := i_rng y_419
                  have vy_419 := vI_lda (f := (rO hn hm ho) a2) (i := 0) (a := 0) ey_419 (by first | omega | decide)
                  have wy_419 := vI_cg (z := 0) (v8_6 a2 q1 q4)
                  refine lv_icmp_gt (tgt := 106) hx hb dX10_joins__90 (by decide) (fun k_420 => ?_) (fun k_420 => ?_)
                  · have tk_420 := c_gt (a := kk.toInt) (b := y_419.toInt) rfl rfl k_420
                    refine lv_iconst (v := 0) hx hb dX10_joins__106 (by decide) ?_
                    refine lv_iadd hx hb dX10_joins__107 ?_
                    refine lv_topi (fun y_421 ey_421 => ?_)
                    first | have ty_421 := i_add (a := kk.toInt) (b := 0) rfl (by decide) ey_421 (by omega) (by omega) | skip
                    refine lv_istore (lv' := [(4, .int y_421), (3, .int y_418), (6, .int y_390), (5, .int nn), (0, .ref (ad a1)), (1, .ref (ad a2)), (2, .ref (ad a3))]) hx hb dX10_joins__108 hl (by decide) rfl (fun ls hl => ?_)
                    obtain ⟨y_422, ey_422⟩ : ∃ y : Int32, y = nn + 1 := ⟨_, rfl⟩
                    first | have ty_422 := i_add (a := nn.toInt) (b := 1) rfl (by decide) ey_422 (by omega) (by omega) | skip
                    refine lv_iinc (v := y_422) (lv' := [(5, .int y_422), (4, .int y_421), (3, .int y_418), (6, .int y_390), (0, .ref (ad a1)), (1, .ref (ad a2)), (2, .ref (ad a3))]) hx hb dX10_joins__110 hl (k := 3) rfl (by rw [ey_422]; rfl) (by decide) rfl (fun ls hl => ?_)
                    refine lv_aload_n hx hb dX10_joins__113 rfl (lv_at hl 6 rfl) ?_
                    refine lv_iload hx hb dX10_joins__114 (lv_at hl 0 rfl) ?_
                    refine lv_iload hx hb dX10_joins__116 (lv_at hl 3 rfl) ?_
                    refine va_iast hx hb hK hP hD hS (rPos (a3)) (rTy (a3)) (mW_R (by first | assumption | (unfold IR; omega))) (mT_R _) (i := y_422) (vp_of (a := y_422.toInt) rfl (by omega) (by omega)) dX10_joins__118 (fun H locs hP hD hS => ?_)
                    obtain ⟨n_423, m_424, o_425, hP, hD, wu_426⟩ := mW_Rx (by first | assumption | (unfold IR; omega)) hP hD
                    have u_426 := rU_v (x := (nn.toInt + 1)) (y := y_390.toInt) wu_426 (by first | assumption | (unfold IR; omega)) (by first | omega | decide) (by omega) rfl
                    have hP : va_P (dC, dI) vwCl (mW ad kc x0 x1 x2 x3 x4 x5 x6 x7 x8 x9 x10 x11 x12 x13 x14 x15 x16 x17 x18 x19 x20 x21 f0 f1 f2 f3 f4 f5 f6 f7 f8 f9 f10 f11 f12 f13 f14 f15 f16 f17 f18 f19 f20 f21 fL n_423 fP m_424 o_425) H := hP
                    have hD : va_D A (mW ad kc x0 x1 x2 x3 x4 x5 x6 x7 x8 x9 x10 x11 x12 x13 x14 x15 x16 x17 x18 x19 x20 x21 f0 f1 f2 f3 f4 f5 f6 f7 f8 f9 f10 f11 f12 f13 f14 f15 f16 f17 f18 f19 f20 f21 fL n_423 fP m_424 o_425) := hD
                    refine lv_goto (tgt := 8) hx hb dX10_joins__119 (by decide) ?_
                    exact ih8 y_418 y_421 y_422 n_423 m_424 o_425 (by first | omega | assumption | decide) (by first | omega | assumption | decide) (by first | omega | assumption | decide) (by first | omega | assumption | decide) (by first | omega | assumption | decide) (by first | omega | assumption | decide) (fun c h1 h2 => (u_426.2 c h1 h2).trans (v8_6 c h1 h2)) (by omega) _ _ ls hP hD hS (lv_sub hl [0, 1, 2, 4, 5, 6] rfl)
                  · have tk_420 := c_ngt (a := kk.toInt) (b := y_419.toInt) rfl rfl k_420
                    refine lv_aload_n hx hb dX10_joins__93 rfl (lv_at hl 5 rfl) ?_
                    refine lv_iload hx hb dX10_joins__94 (lv_at hl 3 rfl) ?_
                    refine va_iald hx hb hK hP (rPos (a2)) (rTy (a2)) (mW_R (by first | assumption | (unfold IR; omega))) (mT_R _) (i := kk) (vp_of (a := kk.toInt) rfl (by omega) (by omega)) dX10_joins__96 ?_
                    refine lv_topi (fun y_427 ey_427 => ?_)
                    have rg_y_427 := i_rng y_427
                    have vy_427 := vI_lda (f := (rO hn hm ho) a2) (i := kk) (a := kk.toInt) ey_427 (by first | omega | decide)
                    have wy_427 := vI_cg (z := kk.toInt) (v8_6 a2 q1 q4)
                    refine lv_iload hx hb dX10_joins__97 (lv_at hl 1 rfl) ?_
                    refine lv_icmp_ne (tgt := 106) hx hb dX10_joins__99 (by decide) (fun k_428 => ?_) (fun k_428 => ?_)
                    · have tk_428 := c_ne (a := y_427.toInt) (b := y_390.toInt) rfl rfl k_428
                      refine lv_iconst (v := 0) hx hb dX10_joins__106 (by decide) ?_
                      refine lv_iadd hx hb dX10_joins__107 ?_
                      refine lv_topi (fun y_429 ey_429 => ?_)
                      first | have ty_429 := i_add (a := kk.toInt) (b := 0) rfl (by decide) ey_429 (by omega) (by omega) | skip
                      refine lv_istore (lv' := [(4, .int y_429), (3, .int y_418), (6, .int y_390), (5, .int nn), (0, .ref (ad a1)), (1, .ref (ad a2)), (2, .ref (ad a3))]) hx hb dX10_joins__108 hl (by decide) rfl (fun ls hl => ?_)
                      obtain ⟨y_430, ey_430⟩ : ∃ y : Int32, y = nn + 1 := ⟨_, rfl⟩
                      first | have ty_430 := i_add (a := nn.toInt) (b := 1) rfl (by decide) ey_430 (by omega) (by omega) | skip
                      refine lv_iinc (v := y_430) (lv' := [(5, .int y_430), (4, .int y_429), (3, .int y_418), (6, .int y_390), (0, .ref (ad a1)), (1, .ref (ad a2)), (2, .ref (ad a3))]) hx hb dX10_joins__110 hl (k := 3) rfl (by rw [ey_430]; rfl) (by decide) rfl (fun ls hl => ?_)
                      refine lv_aload_n hx hb dX10_joins__113 rfl (lv_at hl 6 rfl) ?_
                      refine lv_iload hx hb dX10_joins__114 (lv_at hl 0 rfl) ?_
                      refine lv_iload hx hb dX10_joins__116 (lv_at hl 3 rfl) ?_
                      refine va_iast hx hb hK hP hD hS (rPos (a3)) (rTy (a3)) (mW_R (by first | assumption | (unfold IR; omega))) (mT_R _) (i := y_430) (vp_of (a := y_430.toInt) rfl (by omega) (by omega)) dX10_joins__118 (fun H locs hP hD hS => ?_)
                      obtain ⟨n_431, m_432, o_433, hP, hD, wu_434⟩ := mW_Rx (by first | assumption | (unfold IR; omega)) hP hD
                      have u_434 := rU_v (x := (nn.toInt + 1)) (y := y_390.toInt) wu_434 (by first | assumption | (unfold IR; omega)) (by first | omega | decide) (by omega) rfl
                      have hP : va_P (dC, dI) vwCl (mW ad kc x0 x1 x2 x3 x4 x5 x6 x7 x8 x9 x10 x11 x12 x13 x14 x15 x16 x17 x18 x19 x20 x21 f0 f1 f2 f3 f4 f5 f6 f7 f8 f9 f10 f11 f12 f13 f14 f15 f16 f17 f18 f19 f20 f21 fL n_431 fP m_432 o_433) H := hP
                      have hD : va_D A (mW ad kc x0 x1 x2 x3 x4 x5 x6 x7 x8 x9 x10 x11 x12 x13 x14 x15 x16 x17 x18 x19 x20 x21 f0 f1 f2 f3 f4 f5 f6 f7 f8 f9 f10 f11 f12 f13 f14 f15 f16 f17 f18 f19 f20 f21 fL n_431 fP m_432 o_433) := hD
                      refine lv_goto (tgt := 8) hx hb dX10_joins__119 (by decide) ?_
                      exact ih8 y_418 y_429 y_430 n_431 m_432 o_433 (by first | omega | assumption | decide) (by first | omega | assumption | decide) (by first | omega | assumption | decide) (by first | omega | assumption | decide) (by first | omega | assumption | decide) (by first | omega | assumption | decide) (fun c h1 h2 => (u_434.2 c h1 h2).trans (v8_6 c h1 h2)) (by omega) _ _ ls hP hD hS (lv_sub hl [0, 1, 2, 4, 5, 6] rfl)
                    · have tk_428 := c_eq (a := y_427.toInt) (b := y_390.toInt) rfl rfl k_428
                      refine lv_iconst (v := 1) hx hb dX10_joins__102 (by decide) ?_
                      refine lv_goto (tgt := 107) hx hb dX10_joins__103 (by decide) ?_
                      refine lv_iadd hx hb dX10_joins__107 ?_
                      refine lv_topi (fun y_435 ey_435 => ?_)
                      first | have ty_435 := i_add (a := kk.toInt) (b := 1) rfl (by decide) ey_435 (by omega) (by omega) | skip
                      refine lv_istore (lv' := [(4, .int y_435), (3, .int y_418), (6, .int y_390), (5, .int nn), (0, .ref (ad a1)), (1, .ref (ad a2)), (2, .ref (ad a3))]) hx hb dX10_joins__108 hl (by decide) rfl (fun ls hl => ?_)
                      obtain ⟨y_436, ey_436⟩ : ∃ y : Int32, y = nn + 1 := ⟨_, rfl⟩
                      first | have ty_436 := i_add (a := nn.toInt) (b := 1) rfl (by decide) ey_436 (by omega) (by omega) | skip
                      refine lv_iinc (v := y_436) (lv' := [(5, .int y_436), (4, .int y_435), (3, .int y_418), (6, .int y_390), (0, .ref (ad a1)), (1, .ref (ad a2)), (2, .ref (ad a3))]) hx hb dX10_joins__110 hl (k := 3) rfl (by rw [ey_436]; rfl) (by decide) rfl (fun ls hl => ?_)
                      refine lv_aload_n hx hb dX10_joins__113 rfl (lv_at hl 6 rfl) ?_
                      refine lv_iload hx hb dX10_joins__114 (lv_at hl 0 rfl) ?_
                      refine lv_iload hx hb dX10_joins__116 (lv_at hl 3 rfl) ?_
                      refine va_iast hx hb hK hP hD hS (rPos (a3)) (rTy (a3)) (mW_R (by first | assumption | (unfold IR; omega))) (mT_R _) (i := y_436) (vp_of (a := y_436.toInt) rfl (by omega) (by omega)) dX10_joins__118 (fun H locs hP hD hS => ?_)
                      obtain ⟨n_437, m_438, o_439, hP, hD, wu_440⟩ := mW_Rx (by first | assumption | (unfold IR; omega)) hP hD
                      have u_440 := rU_v (x := (nn.toInt + 1)) (y := y_390.toInt) wu_440 (by first | assumption | (unfold IR; omega)) (by first | omega | decide) (by omega) rfl
                      have hP : va_P (dC, dI) vwCl (mW ad kc x0 x1 x2 x3 x4 x5 x6 x7 x8 x9 x10 x11 x12 x13 x14 x15 x16 x17 x18 x19 x20 x21 f0 f1 f2 f3 f4 f5 f6 f7 f8 f9 f10 f11 f12 f13 f14 f15 f16 f17 f18 f19 f20 f21 fL n_437 fP m_438 o_439) H := hP
                      have hD : va_D A (mW ad kc x0 x1 x2 x3 x4 x5 x6 x7 x8 x9 x10 x11 x12 x13 x14 x15 x16 x17 x18 x19 x20 x21 f0 f1 f2 f3 f4 f5 f6 f7 f8 f9 f10 f11 f12 f13 f14 f15 f16 f17 f18 f19 f20 f21 fL n_437 fP m_438 o_439) := hD
                      refine lv_goto (tgt := 8) hx hb dX10_joins__119 (by decide) ?_
                      exact ih8 y_418 y_435 y_436 n_437 m_438 o_439 (by first | omega | assumption | decide) (by first | omega | assumption | decide) (by first | omega | assumption | decide) (by first | omega | assumption | decide) (by first | omega | assumption | decide) (by first | omega | assumption | decide) (fun c h1 h2 => (u_440.2 c h1 h2).trans (v8_6 c h1 h2)) (by omega) _ _ ls hP hD hS (lv_sub hl [0, 1, 2, 4, 5, 6] rfl)
                · have tk_417 := c_eq (a := y_416.toInt) (b := y_390.toInt) rfl rfl k_417
                  refine lv_iconst (v := 1) hx hb dX10_joins__76 (by decide) ?_
                  refine lv_goto (tgt := 81) hx hb dX10_joins__77 (by decide) ?_
                  refine lv_iadd hx hb dX10_joins__81 ?_
                  refine lv_topi (fun y_441 ey_441 => ?_)
                  first | have ty_441 := i_add (a := ii.toInt) (b := 1) rfl (by decide) ey_441 (by omega) (by omega) | skip
                  refine lv_istore_n (lv' := [(3, .int y_441), (6, .int y_390), (5, .int nn), (4, .int kk), (0, .ref (ad a1)), (1, .ref (ad a2)), (2, .ref (ad a3))]) hx hb dX10_joins__82 rfl hl (by decide) rfl (fun ls hl => ?_)
                  refine lv_iload hx hb dX10_joins__83 (lv_at hl 3 rfl) ?_
                  refine lv_iload hx hb dX10_joins__85 (lv_at hl 3 rfl) ?_
                  refine lv_aload_n hx hb dX10_joins__87 rfl (lv_at hl 5 rfl) ?_
                  refine lv_iconst (v := 0) hx hb dX10_joins__88 (by decide) ?_
                  refine va_iald hx hb hK hP (rPos (a2)) (rTy (a2)) (mW_R (by first | assumption | (unfold IR; omega))) (mT_R _) (i := 0) (by unfold vp_in; decide +kernel) dX10_joins__89 ?_
                  refine lv_topi (fun y_442 ey_442 => ?_)
                  have rg_y_442 := i_rng y_442
                  have vy_442 := vI_lda (f := (rO hn hm ho) a2) (i := 0) (a := 0) ey_442 (by first | omega | decide)
                  have wy_442 := vI_cg (z := 0) (v8_6 a2 q1 q4)
                  refine lv_icmp_gt (tgt := 106) hx hb dX10_joins__90 (by decide) (fun k_443 => ?_) (fun k_443 => ?_)
                  · have tk_443 := c_gt (a := kk.toInt) (b := y_442.toInt) rfl rfl k_443
                    refine lv_iconst (v := 0) hx hb dX10_joins__106 (by decide) ?_
                    refine lv_iadd hx hb dX10_joins__107 ?_
                    refine lv_topi (fun y_444 ey_444 => ?_)
                    first | have ty_444 := i_add (a := kk.toInt) (b := 0) rfl (by decide) ey_444 (by omega) (by omega) | skip
                    refine lv_istore (lv' := [(4, .int y_444), (3, .int y_441), (6, .int y_390), (5, .int nn), (0, .ref (ad a1)), (1, .ref (ad a2)), (2, .ref (ad a3))]) hx hb dX10_joins__108 hl (by decide) rfl (fun ls hl => ?_)
                    obtain ⟨y_445, ey_445⟩ : ∃ y : Int32, y = nn + 1 := ⟨_, rfl⟩
                    first | have ty_445 := i_add (a := nn.toInt) (b := 1) rfl (by decide) ey_445 (by omega) (by omega) | skip
                    refine lv_iinc (v := y_445) (lv' := [(5, .int y_445), (4, .int y_444), (3, .int y_441), (6, .int y_390), (0, .ref (ad a1)), (1, .ref (ad a2)), (2, .ref (ad a3))]) hx hb dX10_joins__110 hl (k := 3) rfl (by rw [ey_445]; rfl) (by decide) rfl (fun ls hl => ?_)
                    refine lv_aload_n hx hb dX10_joins__113 rfl (lv_at hl 6 rfl) ?_
                    refine lv_iload hx hb dX10_joins__114 (lv_at hl 0 rfl) ?_
                    refine lv_iload hx hb dX10_joins__116 (lv_at hl 3 rfl) ?_
                    refine va_iast hx hb hK hP hD hS (rPos (a3)) (rTy (a3)) (mW_R (by first | assumption | (unfold IR; omega))) (mT_R _) (i := y_445) (vp_of (a := y_445.toInt) rfl (by omega) (by omega)) dX10_joins__118 (fun H locs hP hD hS => ?_)
                    obtain ⟨n_446, m_447, o_448, hP, hD, wu_449⟩ := mW_Rx (by first | assumption | (unfold IR; omega)) hP hD
                    have u_449 := rU_v (x := (nn.toInt + 1)) (y := y_390.toInt) wu_449 (by first | assumption | (unfold IR; omega)) (by first | omega | decide) (by omega) rfl
                    have hP : va_P (dC, dI) vwCl (mW ad kc x0 x1 x2 x3 x4 x5 x6 x7 x8 x9 x10 x11 x12 x13 x14 x15 x16 x17 x18 x19 x20 x21 f0 f1 f2 f3 f4 f5 f6 f7 f8 f9 f10 f11 f12 f13 f14 f15 f16 f17 f18 f19 f20 f21 fL n_446 fP m_447 o_448) H := hP
                    have hD : va_D A (mW ad kc x0 x1 x2 x3 x4 x5 x6 x7 x8 x9 x10 x11 x12 x13 x14 x15 x16 x17 x18 x19 x20 x21 f0 f1 f2 f3 f4 f5 f6 f7 f8 f9 f10 f11 f12 f13 f14 f15 f16 f17 f18 f19 f20 f21 fL n_446 fP m_447 o_448) := hD
                    refine lv_goto (tgt := 8) hx hb dX10_joins__119 (by decide) ?_
                    exact ih8 y_441 y_444 y_445 n_446 m_447 o_448 (by first | omega | assumption | decide) (by first | omega | assumption | decide) (by first | omega | assumption | decide) (by first | omega | assumption | decide) (by first | omega | assumption | decide) (by first | omega | assumption | decide) (fun c h1 h2 => (u_449.2 c h1 h2).trans (v8_6 c h1 h2)) (by omega) _ _ ls hP hD hS (lv_sub hl [0, 1, 2, 4, 5, 6] rfl)
                  · have tk_443 := c_ngt (a := kk.toInt) (b := y_442.toInt) rfl rfl k_443
                    refine lv_aload_n hx hb dX10_joins__93 rfl (lv_at hl 5 rfl) ?_
                    refine lv_iload hx hb dX10_joins__94 (lv_at hl 3 rfl) ?_
                    refine va_iald hx hb hK hP (rPos (a2)) (rTy (a2)) (mW_R (by first | assumption | (unfold IR; omega))) (mT_R _) (i := kk) (vp_of (a := kk.toInt) rfl (by omega) (by omega)) dX10_joins__96 ?_
                    refine lv_topi (fun y_450 ey_450 => ?_)
                    have rg_y_450 := i_rng y_450
                    have vy_450 := vI_lda (f := (rO hn hm ho) a2) (i := kk) (a := kk.toInt) ey_450 (by first | omega | decide)
                    have wy_450 := vI_cg (z := kk.toInt) (v8_6 a2 q1 q4)
                    refine lv_iload hx hb dX10_joins__97 (lv_at hl 1 rfl) ?_
                    refine lv_icmp_ne (tgt := 106) hx hb dX10_joins__99 (by decide) (fun k_451 => ?_) (fun k_451 => ?_)
                    · have tk_451 := c_ne (a := y_450.toInt) (b := y_390.toInt) rfl rfl k_451
                      refine lv_iconst (v := 0) hx hb dX10_joins__106 (by decide) ?_
                      refine lv_iadd hx hb dX10_joins__107 ?_
                      refine lv_topi (fun y_452 ey_452 => ?_)
                      first | have ty_452 := i_add (a := kk.toInt) (b := 0) rfl (by decide) ey_452 (by omega) (by omega) | skip
                      refine lv_istore (lv' := [(4, .int y_452), (3, .int y_441), (6, .int y_390), (5, .int nn), (0, .ref (ad a1)), (1, .ref (ad a2)), (2, .ref (ad a3))]) hx hb dX10_joins__108 hl (by decide) rfl (fun ls hl => ?_)
                      obtain ⟨y_453, ey_453⟩ : ∃ y : Int32, y = nn + 1 := ⟨_, rfl⟩
                      first | have ty_453 := i_add (a := nn.toInt) (b := 1) rfl (by decide) ey_453 (by omega) (by omega) | skip
                      refine lv_iinc (v := y_453) (lv' := [(5, .int y_453), (4, .int y_452), (3, .int y_441), (6, .int y_390), (0, .ref (ad a1)), (1, .ref (ad a2)), (2, .ref (ad a3))]) hx hb dX10_joins__110 hl (k := 3) rfl (by rw [ey_453]; rfl) (by decide) rfl (fun ls hl => ?_)
                      refine lv_aload_n hx hb dX10_joins__113 rfl (lv_at hl 6 rfl) ?_
                      refine lv_iload hx hb dX10_joins__114 (lv_at hl 0 rfl) ?_
                      refine lv_iload hx hb dX10_joins__116 (lv_at hl 3 rfl) ?_
                      refine va_iast hx hb hK hP hD hS (rPos (a3)) (rTy (a3)) (mW_R (by first | assumption | (unfold IR; omega))) (mT_R _) (i := y_453) (vp_of (a := y_453.toInt) rfl (by omega) (by omega)) dX10_joins__118 (fun H locs hP hD hS => ?_)
                      obtain ⟨n_454, m_455, o_456, hP, hD, wu_457⟩ := mW_Rx (by first | assumption | (unfold IR; omega)) hP hD
                      have u_457 := rU_v (x := (nn.toInt + 1)) (y := y_390.toInt) wu_457 (by first | assumption | (unfold IR; omega)) (by first | omega | decide) (by omega) rfl
                      have hP : va_P (dC, dI) vwCl (mW ad kc x0 x1 x2 x3 x4 x5 x6 x7 x8 x9 x10 x11 x12 x13 x14 x15 x16 x17 x18 x19 x20 x21 f0 f1 f2 f3 f4 f5 f6 f7 f8 f9 f10 f11 f12 f13 f14 f15 f16 f17 f18 f19 f20 f21 fL n_454 fP m_455 o_456) H := hP
                      have hD : va_D A (mW ad kc x0 x1 x2 x3 x4 x5 x6 x7 x8 x9 x10 x11 x12 x13 x14 x15 x16 x17 x18 x19 x20 x21 f0 f1 f2 f3 f4 f5 f6 f7 f8 f9 f10 f11 f12 f13 f14 f15 f16 f17 f18 f19 f20 f21 fL n_454 fP m_455 o_456) := hD
                      refine lv_goto (tgt := 8) hx hb dX10_joins__119 (by decide) ?_
                      exact ih8 y_441 y_452 y_453 n_454 m_455 o_456 (by first | omega | assumption | decide) (by first | omega | assumption | decide) (by first | omega | assumption | decide) (by first | omega | assumption | decide) (by first | omega | assumption | decide) (by first | omega | assumption | decide) (fun c h1 h2 => (u_457.2 c h1 h2).trans (v8_6 c h1 h2)) (by omega) _ _ ls hP hD hS (lv_sub hl [0, 1, 2, 4, 5, 6] rfl)
                    · have tk_451 := c_eq (a := y_450.toInt) (b := y_390.toInt) rfl rfl k_451
                      refine lv_iconst (v := 1) hx hb dX10_joins__102 (by decide) ?_
                      refine lv_goto (tgt := 107) hx hb dX10_joins__103 (by decide) ?_
                      refine lv_iadd hx hb dX10_joins__107 ?_
                      refine lv_topi (fun y_458 ey_458 => ?_)
                      first | have ty_458 := i_add (a := kk.toInt) (b := 1) rfl (by decide) ey_458 (by omega) (by omega) | skip
                      refine lv_istore (lv' := [(4, .int y_458), (3, .int y_441), (6, .int y_390), (5, .int nn), (0, .ref (ad a1)), (1, .ref (ad a2)), (2, .ref (ad a3))]) hx hb dX10_joins__108 hl (by decide) rfl (fun ls hl => ?_)
                      obtain ⟨y_459, ey_459⟩ : ∃ y : Int32, y = nn + 1 := ⟨_, rfl⟩
                      first | have ty_459 := i_add (a := nn.toInt) (b := 1) rfl (by decide) ey_459 (by omega) (by omega) | skip
                      refine lv_iinc (v := y_459) (lv' := [(5, .int y_459), (4, .int y_458), (3, .int y_441), (6, .int y_390), (0, .ref (ad a1)), (1, .ref (ad a2)), (2, .ref (ad a3))]) hx hb dX10_joins__110 hl (k := 3) rfl (by rw [ey_459]; rfl) (by decide) rfl (fun ls hl => ?_)
                      refine lv_aload_n hx hb dX10_joins__113 rfl (lv_at hl 6 rfl) ?_
                      refine lv_iload hx hb dX10_joins__114 (lv_at hl 0 rfl) ?_
                      refine lv_iload hx hb dX10_joins__116 (lv_at hl 3 rfl) ?_
                      refine va_iast hx hb hK hP hD hS (rPos (a3)) (rTy (a3)) (mW_R (by first | assumption | (unfold IR; omega))) (mT_R _) (i := y_459) (vp_of (a := y_459.toInt) rfl (by omega) (by omega)) dX10_joins__118 (fun H locs hP hD hS => ?_)
                      obtain ⟨n_460, m_461, o_462, hP, hD, wu_463⟩ := mW_Rx (by first | assumption | (unfold IR; omega)) hP hD
                      have u_463 := rU_v (x := (nn.toInt + 1)) (y := y_390.toInt) wu_463 (by first | assumption | (unfold IR; omega)) (by first | omega | decide) (by omega) rfl
                      have hP : va_P (dC, dI) vwCl (mW ad kc x0 x1 x2 x3 x4 x5 x6 x7 x8 x9 x10 x11 x12 x13 x14 x15 x16 x17 x18 x19 x20 x21 f0 f1 f2 f3 f4 f5 f6 f7 f8 f9 f10 f11 f12 f13 f14 f15 f16 f17 f18 f19 f20 f21 fL n_460 fP m_461 o_462) H := hP
                      have hD : va_D A (mW ad kc x0 x1 x2 x3 x4 x5 x6 x7 x8 x9 x10 x11 x12 x13 x14 x15 x16 x17 x18 x19 x20 x21 f0 f1 f2 f3 f4 f5 f6 f7 f8 f9 f10 f11 f12 f13 f14 f15 f16 f17 f18 f19 f20 f21 fL n_460 fP m_461 o_462) := hD
                      refine lv_goto (tgt := 8) hx hb dX10_joins__119 (by decide) ?_
                      exact ih8 y_441 y_458 y_459 n_460 m_461 o_462 (by first | omega | assumption | decide) (by first | omega | assumption | decide) (by first | omega | assumption | decide) (by first | omega | assumption | decide) (by first | omega | assumption | decide) (by first | omega | assumption | decide) (fun c h1 h2 => (u_463.2 c h1 h2).trans (v8_6 c h1 h2)) (by omega) _ _ ls hP hD hS (lv_sub hl [0, 1, 2, 4, 5, 6] rfl)
            · have tk_389 := c_ngt (a := ii.toInt) (b := y_388.toInt) rfl rfl k_389
              refine lv_aload_n hx hb dX10_joins__38 rfl (lv_at hl 3 rfl) ?_
              refine lv_iload_n hx hb dX10_joins__39 rfl (lv_at hl 2 rfl) ?_
              refine va_iald hx hb hK hP (rPos (a1)) (rTy (a1)) (mW_R (by first | assumption | (unfold IR; omega))) (mT_R _) (i := ii) (vp_of (a := ii.toInt) rfl (by omega) (by omega)) dX10_joins__40 ?_
              refine lv_topi (fun y_464 ey_464 => ?_)
              have rg_y_464 := i_rng y_464
              have vy_464 := vI_lda (f := (rO hn hm ho) a1) (i := ii) (a := ii.toInt) ey_464 (by first | omega | decide)
              have wy_464 := vI_cg (z := ii.toInt) (v8_6 a1 q0 q3)
              refine lv_aload_n hx hb dX10_joins__41 rfl (lv_at hl 4 rfl) ?_
              refine lv_iload hx hb dX10_joins__42 (lv_at hl 1 rfl) ?_
              refine va_iald hx hb hK hP (rPos (a2)) (rTy (a2)) (mW_R (by first | assumption | (unfold IR; omega))) (mT_R _) (i := kk) (vp_of (a := kk.toInt) rfl (by omega) (by omega)) dX10_joins__44 ?_
              refine lv_topi (fun y_465 ey_465 => ?_)
              have rg_y_465 := i_rng y_465
              have vy_465 := vI_lda (f := (rO hn hm ho) a2) (i := kk) (a := kk.toInt) ey_465 (by first | omega | decide)
              have wy_465 := vI_cg (z := kk.toInt) (v8_6 a2 q1 q4)
              refine lv_icmp_gt (tgt := 54) hx hb dX10_joins__45 (by decide) (fun k_466 => ?_) (fun k_466 => ?_)
              · have tk_466 := c_gt (a := y_464.toInt) (b := y_465.toInt) rfl rfl k_466
                refine lv_aload_n hx hb dX10_joins__54 rfl (lv_at hl 4 rfl) ?_
                refine lv_iload hx hb dX10_joins__55 (lv_at hl 1 rfl) ?_
                refine va_iald hx hb hK hP (rPos (a2)) (rTy (a2)) (mW_R (by first | assumption | (unfold IR; omega))) (mT_R _) (i := kk) (vp_of (a := kk.toInt) rfl (by omega) (by omega)) dX10_joins__57 ?_
                refine lv_topi (fun y_467 ey_467 => ?_)
                have rg_y_467 := i_rng y_467
                have vy_467 := vI_lda (f := (rO hn hm ho) a2) (i := kk) (a := kk.toInt) ey_467 (by first | omega | decide)
                have wy_467 := vI_cg (z := kk.toInt) (v8_6 a2 q1 q4)
                refine lv_istore (lv' := [(6, .int y_467), (5, .int nn), (4, .int kk), (3, .int ii), (0, .ref (ad a1)), (1, .ref (ad a2)), (2, .ref (ad a3))]) hx hb dX10_joins__58 hl (by decide) rfl (fun ls hl => ?_)
                refine lv_iload_n hx hb dX10_joins__60 rfl (lv_at hl 3 rfl) ?_
                refine lv_iload_n hx hb dX10_joins__61 rfl (lv_at hl 3 rfl) ?_
                refine lv_aload_n hx hb dX10_joins__62 rfl (lv_at hl 4 rfl) ?_
                refine lv_iconst (v := 0) hx hb dX10_joins__63 (by decide) ?_
                refine va_iald hx hb hK hP (rPos (a1)) (rTy (a1)) (mW_R (by first | assumption | (unfold IR; omega))) (mT_R _) (i := 0) (by unfold vp_in; decide +kernel) dX10_joins__64 ?_
                refine lv_topi (fun y_468 ey_468 => ?_)
                have rg_y_468 := i_rng y_468
                have vy_468 := vI_lda (f := (rO hn hm ho) a1) (i := 0) (a := 0) ey_468 (by first | omega | decide)
                have wy_468 := vI_cg (z := 0) (v8_6 a1 q0 q3)
                refine lv_icmp_gt (tgt := 80) hx hb dX10_joins__65 (by decide) (fun k_469 => ?_) (fun k_469 => ?_)
                · have tk_469 := c_gt (a := ii.toInt) (b := y_468.toInt) rfl rfl k_469
                  refine lv_iconst (v := 0) hx hb dX10_joins__80 (by decide) ?_
                  refine lv_iadd hx hb dX10_joins__81 ?_
                  refine lv_topi (fun y_470 ey_470 => ?_)
                  first | have ty_470 := i_add (a := ii.toInt) (b := 0) rfl (by decide) ey_470 (by omega) (by omega) | skip
                  refine lv_istore_n (lv' := [(3, .int y_470), (6, .int y_467), (5, .int nn), (4, .int kk), (0, .ref (ad a1)), (1, .ref (ad a2)), (2, .ref (ad a3))]) hx hb dX10_joins__82 rfl hl (by decide) rfl (fun ls hl => ?_)
                  refine lv_iload hx hb dX10_joins__83 (lv_at hl 3 rfl) ?_
                  refine lv_iload hx hb dX10_joins__85 (lv_at hl 3 rfl) ?_
                  refine lv_aload_n hx hb dX10_joins__87 rfl (lv_at hl 5 rfl) ?_
                  refine lv_iconst (v := 0) hx hb dX10_joins__88 (by decide) ?_
                  refine va_iald hx hb hK hP (rPos (a2)) (rTy (a2)) (mW_R (by first | assumption | (unfold IR; omega))) (mT_R _) (i := 0) (by unfold vp_in; decide +kernel) dX10_joins__89 ?_
                  refine lv_topi (fun y_471 ey_471 => ?_)
                  have rg_y_471 := i_rng y_471
                  have vy_471 := vI_lda (f := (rO hn hm ho) a2) (i := 0) (a := 0) ey_471 (by first | omega | decide)
                  have wy_471 := vI_cg (z := 0) (v8_6 a2 q1 q4)
                  refine lv_icmp_gt (tgt := 106) hx hb dX10_joins__90 (by decide) (fun k_472 => ?_) (fun k_472 => ?_)
                  · have tk_472 := c_gt (a := kk.toInt) (b := y_471.toInt) rfl rfl k_472
                    refine lv_iconst (v := 0) hx hb dX10_joins__106 (by decide) ?_
                    refine lv_iadd hx hb dX10_joins__107 ?_
                    refine lv_topi (fun y_473 ey_473 => ?_)
                    first | have ty_473 := i_add (a := kk.toInt) (b := 0) rfl (by decide) ey_473 (by omega) (by omega) | skip
                    refine lv_istore (lv' := [(4, .int y_473), (3, .int y_470), (6, .int y_467), (5, .int nn), (0, .ref (ad a1)), (1, .ref (ad a2)), (2, .ref (ad a3))]) hx hb dX10_joins__108 hl (by decide) rfl (fun ls hl => ?_)
                    obtain ⟨y_474, ey_474⟩ : ∃ y : Int32, y = nn + 1 := ⟨_, rfl⟩
                    first | have ty_474 := i_add (a := nn.toInt) (b := 1) rfl (by decide) ey_474 (by omega) (by omega) | skip
                    refine lv_iinc (v := y_474) (lv' := [(5, .int y_474), (4, .int y_473), (3, .int y_470), (6, .int y_467), (0, .ref (ad a1)), (1, .ref (ad a2)), (2, .ref (ad a3))]) hx hb dX10_joins__110 hl (k := 3) rfl (by rw [ey_474]; rfl) (by decide) rfl (fun ls hl => ?_)
                    refine lv_aload_n hx hb dX10_joins__113 rfl (lv_at hl 6 rfl) ?_
                    refine lv_iload hx hb dX10_joins__114 (lv_at hl 0 rfl) ?_
                    refine lv_iload hx hb dX10_joins__116 (lv_at hl 3 rfl) ?_
                    refine va_iast hx hb hK hP hD hS (rPos (a3)) (rTy (a3)) (mW_R (by first | assumption | (unfold IR; omega))) (mT_R _) (i := y_474) (vp_of (a := y_474.toInt) rfl (by omega) (by omega)) dX10_joins__118 (fun H locs hP hD hS => ?_)
                    obtain ⟨n_475, m_476, o_477, hP, hD, wu_478⟩ := mW_Rx (by first | assumption | (unfold IR; omega)) hP hD
                    have u_478 := rU_v (x := (nn.toInt + 1)) (y := y_467.toInt) wu_478 (by first | assumption | (unfold IR; omega)) (by first | omega | decide) (by omega) rfl
                    have hP : va_P (dC, dI) vwCl (mW ad kc x0 x1 x2 x3 x4 x5 x6 x7 x8 x9 x10 x11 x12 x13 x14 x15 x16 x17 x18 x19 x20 x21 f0 f1 f2 f3 f4 f5 f6 f7 f8 f9 f10 f11 f12 f13 f14 f15 f16 f17 f18 f19 f20 f21 fL n_475 fP m_476 o_477) H := hP
                    have hD : va_D A (mW ad kc x0 x1 x2 x3 x4 x5 x6 x7 x8 x9 x10 x11 x12 x13 x14 x15 x16 x17 x18 x19 x20 x21 f0 f1 f2 f3 f4 f5 f6 f7 f8 f9 f10 f11 f12 f13 f14 f15 f16 f17 f18 f19 f20 f21 fL n_475 fP m_476 o_477) := hD
                    refine lv_goto (tgt := 8) hx hb dX10_joins__119 (by decide) ?_
                    exact ih8 y_470 y_473 y_474 n_475 m_476 o_477 (by first | omega | assumption | decide) (by first | omega | assumption | decide) (by first | omega | assumption | decide) (by first | omega | assumption | decide) (by first | omega | assumption | decide) (by first | omega | assumption | decide) (fun c h1 h2 => (u_478.2 c h1 h2).trans (v8_6 c h1 h2)) (by omega) _ _ ls hP hD hS (lv_sub hl [0, 1, 2, 4, 5, 6] rfl)
                  · have tk_472 := c_ngt (a := kk.toInt) (b := y_471.toInt) rfl rfl k_472
                    refine lv_aload_n hx hb dX10_joins__93 rfl (lv_at hl 5 rfl) ?_
                    refine lv_iload hx hb dX10_joins__94 (lv_at hl 3 rfl) ?_
                    refine va_iald hx hb hK hP (rPos (a2)) (rTy (a2)) (mW_R (by first | assumption | (unfold IR; omega))) (mT_R _) (i := kk) (vp_of (a := kk.toInt) rfl (by omega) (by omega)) dX10_joins__96 ?_
                    refine lv_topi (fun y_479 ey_479 => ?_)
                    have rg_y_479 := i_rng y_479
                    have vy_479 := vI_lda (f := (rO hn hm ho) a2) (i := kk) (a := kk.toInt) ey_479 (by first | omega | decide)
                    have wy_479 := vI_cg (z := kk.toInt) (v8_6 a2 q1 q4)
                    refine lv_iload hx hb dX10_joins__97 (lv_at hl 1 rfl) ?_
                    refine lv_icmp_ne (tgt := 106) hx hb dX10_joins__99 (by decide) (fun k_480 => ?_) (fun k_480 => ?_)
                    · have tk_480 := c_ne (a := y_479.toInt) (b := y_467.toInt) rfl rfl k_480
                      refine lv_iconst (v := 0) hx hb dX10_joins__106 (by decide) ?_
                      refine lv_iadd hx hb dX10_joins__107 ?_
                      refine lv_topi (fun y_481 ey_481 => ?_)
                      first | have ty_481 := i_add (a := kk.toInt) (b := 0) rfl (by decide) ey_481 (by omega) (by omega) | skip
                      refine lv_istore (lv' := [(4, .int y_481), (3, .int y_470), (6, .int y_467), (5, .int nn), (0, .ref (ad a1)), (1, .ref (ad a2)), (2, .ref (ad a3))]) hx hb dX10_joins__108 hl (by decide) rfl (fun ls hl => ?_)
                      obtain ⟨y_482, ey_482⟩ : ∃ y : Int32, y = nn + 1 := ⟨_, rfl⟩
                      first | have ty_482 := i_add (a := nn.toInt) (b := 1) rfl (by decide) ey_482 (by omega) (by omega) | skip
                      refine lv_iinc (v := y_482) (lv' := [(5, .int y_482), (4, .int y_481), (3, .int y_470), (6, .int y_467), (0, .ref (ad a1)), (1, .ref (ad a2)), (2, .ref (ad a3))]) hx hb dX10_joins__110 hl (k := 3) rfl (by rw [ey_482]; rfl) (by decide) rfl (fun ls hl => ?_)
                      refine lv_aload_n hx hb dX10_joins__113 rfl (lv_at hl 6 rfl) ?_
                      refine lv_iload hx hb dX10_joins__114 (lv_at hl 0 rfl) ?_
                      refine lv_iload hx hb dX10_joins__116 (lv_at hl 3 rfl) ?_
                      refine va_iast hx hb hK hP hD hS (rPos (a3)) (rTy (a3)) (mW_R (by first | assumption | (unfold IR; omega))) (mT_R _) (i := y_482) (vp_of (a := y_482.toInt) rfl (by omega) (by omega)) dX10_joins__118 (fun H locs hP hD hS => ?_)
                      obtain ⟨n_483, m_484, o_485, hP, hD, wu_486⟩ := mW_Rx (by first | assumption | (unfold IR; omega)) hP hD
                      have u_486 := rU_v (x := (nn.toInt + 1)) (y := y_467.toInt) wu_486 (by first | assumption | (unfold IR; omega)) (by first | omega | decide) (by omega) rfl
                      have hP : va_P (dC, dI) vwCl (mW ad kc x0 x1 x2 x3 x4 x5 x6 x7 x8 x9 x10 x11 x12 x13 x14 x15 x16 x17 x18 x19 x20 x21 f0 f1 f2 f3 f4 f5 f6 f7 f8 f9 f10 f11 f12 f13 f14 f15 f16 f17 f18 f19 f20 f21 fL n_483 fP m_484 o_485) H := hP
                      have hD : va_D A (mW ad kc x0 x1 x2 x3 x4 x5 x6 x7 x8 x9 x10 x11 x12 x13 x14 x15 x16 x17 x18 x19 x20 x21 f0 f1 f2 f3 f4 f5 f6 f7 f8 f9 f10 f11 f12 f13 f14 f15 f16 f17 f18 f19 f20 f21 fL n_483 fP m_484 o_485) := hD
                      refine lv_goto (tgt := 8) hx hb dX10_joins__119 (by decide) ?_
                      exact ih8 y_470 y_481 y_482 n_483 m_484 o_485 (by first | omega | assumption | decide) (by first | omega | assumption | decide) (by first | omega | assumption | decide) (by first | omega | assumption | decide) (by first | omega | assumption | decide) (by first | omega | assumption | decide) (fun c h1 h2 => (u_486.2 c h1 h2).trans (v8_6 c h1 h2)) (by omega) _ _ ls hP hD hS (lv_sub hl [0, 1, 2, 4, 5, 6] rfl)
                    · have tk_480 := c_eq (a := y_479.toInt) (b := y_467.toInt) rfl rfl k_480
                      refine lv_iconst (v := 1) hx hb dX10_joins__102 (by decide) ?_
                      refine lv_goto (tgt := 107) hx hb dX10_joins__103 (by decide) ?_
                      refine lv_iadd hx hb dX10_joins__107 ?_
                      refine lv_topi (fun y_487 ey_487 => ?_)
                      first | have ty_487 := i_add (a := kk.toInt) (b := 1) rfl (by decide) ey_487 (by omega) (by omega) | skip
                      refine lv_istore (lv' := [(4, .int y_487), (3, .int y_470), (6, .int y_467), (5, .int nn), (0, .ref (ad a1)), (1, .ref (ad a2)), (2, .ref (ad a3))]) hx hb dX10_joins__108 hl (by decide) rfl (fun ls hl => ?_)
                      obtain ⟨y_488, ey_488⟩ : ∃ y : Int32, y = nn + 1 := ⟨_, rfl⟩
                      first | have ty_488 := i_add (a := nn.toInt) (b := 1) rfl (by decide) ey_488 (by omega) (by omega) | skip
                      refine lv_iinc (v := y_488) (lv' := [(5, .int y_488), (4, .int y_487), (3, .int y_470), (6, .int y_467), (0, .ref (ad a1)), (1, .ref (ad a2)), (2, .ref (ad a3))]) hx hb dX10_joins__110 hl (k := 3) rfl (by rw [ey_488]; rfl) (by decide) rfl (fun ls hl => ?_)
                      refine lv_aload_n hx hb dX10_joins__113 rfl (lv_at hl 6 rfl) ?_
                      refine lv_iload hx hb dX10_joins__114 (lv_at hl 0 rfl) ?_
                      refine lv_iload hx hb dX10_joins__116 (lv_at hl 3 rfl) ?_
                      refine va_iast hx hb hK hP hD hS (rPos (a3)) (rTy (a3)) (mW_R (by first | assumption | (unfold IR; omega))) (mT_R _) (i := y_488) (vp_of (a := y_488.toInt) rfl (by omega) (by omega)) dX10_joins__118 (fun H locs hP hD hS => ?_)
                      obtain ⟨n_489, m_490, o_491, hP, hD, wu_492⟩ := mW_Rx (by first | assumption | (unfold IR; omega)) hP hD
                      have u_492 := rU_v (x := (nn.toInt + 1)) (y := y_467.toInt) wu_492 (by first | assumption | (unfold IR; omega)) (by first | omega | decide) (by omega) rfl
                      have hP : va_P (dC, dI) vwCl (mW ad kc x0 x1 x2 x3 x4 x5 x6 x7 x8 x9 x10 x11 x12 x13 x14 x15 x16 x17 x18 x19 x20 x21 f0 f1 f2 f3 f4 f5 f6 f7 f8 f9 f10 f11 f12 f13 f14 f15 f16 f17 f18 f19 f20 f21 fL n_489 fP m_490 o_491) H := hP
                      have hD : va_D A (mW ad kc x0 x1 x2 x3 x4 x5 x6 x7 x8 x9 x10 x11 x12 x13 x14 x15 x16 x17 x18 x19 x20 x21 f0 f1 f2 f3 f4 f5 f6 f7 f8 f9 f10 f11 f12 f13 f14 f15 f16 f17 f18 f19 f20 f21 fL n_489 fP m_490 o_491) := hD
                      refine lv_goto (tgt := 8) hx hb dX10_joins__119 (by decide) ?_
                      exact ih8 y_470 y_487 y_488 n_489 m_490 o_491 (by first | omega | assumption | decide) (by first | omega | assumption | decide) (by first | omega | assumption | decide) (by first | omega | assumption | decide) (by first | omega | assumption | decide) (by first | omega | assumption | decide) (fun c h1 h2 => (u_492.2 c h1 h2).trans (v8_6 c h1 h2)) (by omega) _ _ ls hP hD hS (lv_sub hl [0, 1, 2, 4, 5, 6] rfl)
                · have tk_469 := c_ngt (a := ii.toInt) (b := y_468.toInt) rfl rfl k_469
                  refine lv_aload_n hx hb dX10_joins__68 rfl (lv_at hl 4 rfl) ?_
                  refine lv_iload_n hx hb dX10_joins__69 rfl (lv_at hl 3 rfl) ?_
                  refine va_iald hx hb hK hP (rPos (a1)) (rTy (a1)) (mW_R (by first | assumption | (unfold IR; omega))) (mT_R _) (i := ii) (vp_of (a := ii.toInt) rfl (by omega) (by omega)) dX10_joins__70 ?_
                  refine lv_topi (fun y_493 ey_493 => ?_)
                  have rg_y_493 := i_rng y_493
                  have vy_493 := vI_lda (f := (rO hn hm ho) a1) (i := ii) (a := ii.toInt) ey_493 (by first | omega | decide)
                  have wy_493 := vI_cg (z := ii.toInt) (v8_6 a1 q0 q3)
                  refine lv_iload hx hb dX10_joins__71 (lv_at hl 0 rfl) ?_
                  refine lv_icmp_ne (tgt := 80) hx hb dX10_joins__73 (by decide) (fun k_494 => ?_) (fun k_494 => ?_)
                  · have tk_494 := c_ne (a := y_493.toInt) (b := y_467.toInt) rfl rfl k_494
                    refine lv_iconst (v := 0) hx hb dX10_joins__80 (by decide) ?_
                    refine lv_iadd hx hb dX10_joins__81 ?_
                    refine lv_topi (fun y_495 ey_495 => ?_)
                    first | have ty_495 := i_add (a := ii.toInt) (b := 0) rfl (by decide) ey_495 (by omega) (by omega) | skip
                    refine lv_istore_n (lv' := [(3, .int y_495), (6, .int y_467), (5, .int nn), (4, .int kk), (0, .ref (ad a1)), (1, .ref (ad a2)), (2, .ref (ad a3))]) hx hb dX10_joins__82 rfl hl (by decide) rfl (fun ls hl => ?_)
                    refine lv_iload hx hb dX10_joins__83 (lv_at hl 3 rfl) ?_
                    refine lv_iload hx hb dX10_joins__85 (lv_at hl 3 rfl) ?_
                    refine lv_aload_n hx hb dX10_joins__87 rfl (lv_at hl 5 rfl) ?_
                    refine lv_iconst (v := 0) hx hb dX10_joins__88 (by decide) ?_
                    refine va_iald hx hb hK hP (rPos (a2)) (rTy (a2)) (mW_R (by first | assumption | (unfold IR; omega))) (mT_R _) (i := 0) (by unfold vp_in; decide +kernel) dX10_joins__89 ?_
                    refine lv_topi (fun y_496 ey_496 => ?_)
                    have rg_y_496 := i_rng y_496
                    have vy_496 := vI_lda (f := (rO hn hm ho) a2) (i := 0) (a := 0) ey_496 (by first | omega | decide)
                    have wy_496 := vI_cg (z := 0) (v8_6 a2 q1 q4)
                    refine lv_icmp_gt (tgt := 106) hx hb dX10_joins__90 (by decide) (fun k_497 => ?_) (fun k_497 => ?_)
                    · have tk_497 := c_gt (a := kk.toInt) (b := y_496.toInt) rfl rfl k_497
                      refine lv_iconst (v := 0) hx hb dX10_joins__106 (by decide) ?_
                      refine lv_iadd hx hb dX10_joins__107 ?_
                      refine lv_topi (fun y_498 ey_498 => ?_)
                      first | have ty_498 := i_add (a := kk.toInt) (b := 0) rfl (by decide) ey_498 (by omega) (by omega) | skip
                      refine lv_istore (lv' := [(4, .int y_498), (3, .int y_495), (6, .int y_467), (5, .int nn), (0, .ref (ad a1)), (1, .ref (ad a2)), (2, .ref (ad a3))]) hx hb dX10_joins__108 hl (by decide) rfl (fun ls hl => ?_)
                      obtain ⟨y_499, ey_499⟩ : ∃ y : Int32, y = nn + 1 := ⟨_, rfl⟩
                      first | have ty_499 := i_add (a := nn.toInt) (b := 1) rfl (by decide) ey_499 (by omega) (by omega) | skip
                      refine lv_iinc (v := y_499) (lv' := [(5, .int y_499), (4, .int y_498), (3, .int y_495), (6, .int y_467), (0, .ref (ad a1)), (1, .ref (ad a2)), (2, .ref (ad a3))]) hx hb dX10_joins__110 hl (k := 3) rfl (by rw [ey_499]; rfl) (by decide) rfl (fun ls hl => ?_)
                      refine lv_aload_n hx hb dX10_joins__113 rfl (lv_at hl 6 rfl) ?_
                      refine lv_iload hx hb dX10_joins__114 (lv_at hl 0 rfl) ?_
                      refine lv_iload hx hb dX10_joins__116 (lv_at hl 3 rfl) ?_
                      refine va_iast hx hb hK hP hD hS (rPos (a3)) (rTy (a3)) (mW_R (by first | assumption | (unfold IR; omega))) (mT_R _) (i := y_499) (vp_of (a := y_499.toInt) rfl (by omega) (by omega)) dX10_joins__118 (fun H locs hP hD hS => ?_)
                      obtain ⟨n_500, m_501, o_502, hP, hD, wu_503⟩ := mW_Rx (by first | assumption | (unfold IR; omega)) hP hD
                      have u_503 := rU_v (x := (nn.toInt + 1)) (y := y_467.toInt) wu_503 (by first | assumption | (unfold IR; omega)) (by first | omega | decide) (by omega) rfl
                      have hP : va_P (dC, dI) vwCl (mW ad kc x0 x1 x2 x3 x4 x5 x6 x7 x8 x9 x10 x11 x12 x13 x14 x15 x16 x17 x18 x19 x20 x21 f0 f1 f2 f3 f4 f5 f6 f7 f8 f9 f10 f11 f12 f13 f14 f15 f16 f17 f18 f19 f20 f21 fL n_500 fP m_501 o_502) H := hP
                      have hD : va_D A (mW ad kc x0 x1 x2 x3 x4 x5 x6 x7 x8 x9 x10 x11 x12 x13 x14 x15 x16 x17 x18 x19 x20 x21 f0 f1 f2 f3 f4 f5 f6 f7 f8 f9 f10 f11 f12 f13 f14 f15 f16 f17 f18 f19 f20 f21 fL n_500 fP m_501 o_502) := hD
                      refine lv_goto (tgt := 8) hx hb dX10_joins__119 (by decide) ?_
                      exact ih8 y_495 y_498 y_499 n_500 m_501 o_502 (by first | omega | assumption | decide) (by first | omega | assumption | decide) (by first | omega | assumption | decide) (by first | omega | assumption | decide) (by first | omega | assumption | decide) (by first | omega | assumption | decide) (fun c h1 h2 => (u_503.2 c h1 h2).trans (v8_6 c h1 h2)) (by omega) _ _ ls hP hD hS (lv_sub hl [0, 1, 2, 4, 5, 6] rfl)
                    · have tk_497 := c_ngt (a := kk.toInt) (b := y_496.toInt) rfl rfl k_497
                      refine lv_aload_n hx hb dX10_joins__93 rfl (lv_at hl 5 rfl) ?_
                      refine lv_iload hx hb dX10_joins__94 (lv_at hl 3 rfl) ?_
                      refine va_iald hx hb hK hP (rPos (a2)) (rTy (a2)) (mW_R (by first | assumption | (unfold IR; omega))) (mT_R _) (i := kk) (vp_of (a := kk.toInt) rfl (by omega) (by omega)) dX10_joins__96 ?_
                      refine lv_topi (fun y_504 ey_504 => ?_)
                      have rg_y_504 := i_rng y_504
                      have vy_504 := vI_lda (f := (rO hn hm ho) a2) (i := kk) (a := kk.toInt) ey_504 (by first | omega | decide)
                      have wy_504 := vI_cg (z := kk.toInt) (v8_6 a2 q1 q4)
                      refine lv_iload hx hb dX10_joins__97 (lv_at hl 1 rfl) ?_
                      refine lv_icmp_ne (tgt := 106) hx hb dX10_joins__99 (by decide) (fun k_505 => ?_) (fun k_505 => ?_)
                      · have tk_505 := c_ne (a := y_504.toInt) (b := y_467.toInt) rfl rfl k_505
                        refine lv_iconst (v := 0) hx hb dX10_joins__106 (by decide) ?_
                        refine lv_iadd hx hb dX10_joins__107 ?_
                        refine lv_topi (fun y_506 ey_506 => ?_)
                        first | have ty_506 := i_add (a := kk.toInt) (b := 0) rfl (by decide) ey_506 (by omega) (by omega) | skip
                        refine lv_istore (lv' := [(4, .int y_506), (3, .int y_495), (6, .int y_467), (5, .int nn), (0, .ref (ad a1)), (1, .ref (ad a2)), (2, .ref (ad a3))]) hx hb dX10_joins__108 hl (by decide) rfl (fun ls hl => ?_)
                        obtain ⟨y_507, ey_507⟩ : ∃ y : Int32, y = nn + 1 := ⟨_, rfl⟩
                        first | have ty_507 := i_add (a := nn.toInt) (b := 1) rfl (by decide) ey_507 (by omega) (by omega) | skip
                        refine lv_iinc (v := y_507) (lv' := [(5, .int y_507), (4, .int y_506), (3, .int y_495), (6, .int y_467), (0, .ref (ad a1)), (1, .ref (ad a2)), (2, .ref (ad a3))]) hx hb dX10_joins__110 hl (k := 3) rfl (by rw [ey_507]; rfl) (by decide) rfl (fun ls hl => ?_)
                        refine lv_aload_n hx hb dX10_joins__113 rfl (lv_at hl 6 rfl) ?_
                        refine lv_iload hx hb dX10_joins__114 (lv_at hl 0 rfl) ?_
                        refine lv_iload hx hb dX10_joins__116 (lv_at hl 3 rfl) ?_
                        refine va_iast hx hb hK hP hD hS (rPos (a3)) (rTy (a3)) (mW_R (by first | assumption | (unfold IR; omega))) (mT_R _) (i := y_507) (vp_of (a := y_507.toInt) rfl (by omega) (by omega)) dX10_joins__118 (fun H locs hP hD hS => ?_)
                        obtain ⟨n_508, m_509, o_510, hP, hD, wu_511⟩ := mW_Rx (by first | assumption | (unfold IR; omega)) hP hD
                        have u_511 := rU_v (x := (nn.toInt + 1)) (y := y_467.toInt) wu_511 (by first | assumption | (unfold IR; omega)) (by first | omega | decide) (by omega) rfl
                        have hP : va_P (dC, dI) vwCl (mW ad kc x0 x1 x2 x3 x4 x5 x6 x7 x8 x9 x10 x11 x12 x13 x14 x15 x16 x17 x18 x19 x20 x21 f0 f1 f2 f3 f4 f5 f6 f7 f8 f9 f10 f11 f12 f13 f14 f15 f16 f17 f18 f19 f20 f21 fL n_508 fP m_509 o_510) H := hP
                        have hD : va_D A (mW ad kc x0 x1 x2 x3 x4 x5 x6 x7 x8 x9 x10 x11 x12 x13 x14 x15 x16 x17 x18 x19 x20 x21 f0 f1 f2 f3 f4 f5 f6 f7 f8 f9 f10 f11 f12 f13 f14 f15 f16 f17 f18 f19 f20 f21 fL n_508 fP m_509 o_510) := hD
                        refine lv_goto (tgt := 8) hx hb dX10_joins__119 (by decide) ?_
                        exact ih8 y_495 y_506 y_507 n_508 m_509 o_510 (by first | omega | assumption | decide) (by first | omega | assumption | decide) (by first | omega | assumption | decide) (by first | omega | assumption | decide) (by first | omega | assumption | decide) (by first | omega | assumption | decide) (fun c h1 h2 => (u_511.2 c h1 h2).trans (v8_6 c h1 h2)) (by omega) _ _ ls hP hD hS (lv_sub hl [0, 1, 2, 4, 5, 6] rfl)
                      · have tk_505 := c_eq (a := y_504.toInt) (b := y_467.toInt) rfl rfl k_505
                        refine lv_iconst (v := 1) hx hb dX10_joins__102 (by decide) ?_
                        refine lv_goto (tgt := 107) hx hb dX10_joins__103 (by decide) ?_
                        refine lv_iadd hx hb dX10_joins__107 ?_
                        refine lv_topi (fun y_512 ey_512 => ?_)
                        first | have ty_512 := i_add (a := kk.toInt) (b := 1) rfl (by decide) ey_512 (by omega) (by omega) | skip
                        refine lv_istore (lv' := [(4, .int y_512), (3, .int y_495), (6, .int y_467), (5, .int nn), (0, .ref (ad a1)), (1, .ref (ad a2)), (2, .ref (ad a3))]) hx hb dX10_joins__108 hl (by decide) rfl (fun ls hl => ?_)
                        obtain ⟨y_513, ey_513⟩ : ∃ y : Int32, y = nn + 1 := ⟨_, rfl⟩
                        first | have ty_513 := i_add (a := nn.toInt) (b := 1) rfl (by decide) ey_513 (by omega) (by omega) | skip
                        refine lv_iinc (v := y_513) (lv' := [(5, .int y_513), (4, .int y_512), (3, .int y_495), (6, .int y_467), (0, .ref (ad a1)), (1, .ref (ad a2)), (2, .ref (ad a3))]) hx hb dX10_joins__110 hl (k := 3) rfl (by rw [ey_513]; rfl) (by decide) rfl (fun ls hl => ?_)
                        refine lv_aload_n hx hb dX10_joins__113 rfl (lv_at hl 6 rfl) ?_
                        refine lv_iload hx hb dX10_joins__114 (lv_at hl 0 rfl) ?_
                        refine lv_iload hx hb dX10_joins__116 (lv_at hl 3 rfl) ?_
                        refine va_iast hx hb hK hP hD hS (rPos (a3)) (rTy (a3)) (mW_R (by first | assumption | (unfold IR; omega))) (mT_R _) (i := y_513) (vp_of (a := y_513.toInt) rfl (by omega) (by omega)) dX10_joins__118 (fun H locs hP hD hS => ?_)
                        obtain ⟨n_514, m_515, o_516, hP, hD, wu_517⟩ := mW_Rx (by first | assumption | (unfold IR; omega)) hP hD
                        have u_517 := rU_v (x := (nn.toInt + 1)) (y := y_467.toInt) wu_517 (by first | assumption | (unfold IR; omega)) (by first | omega | decide) (by omega) rfl
                        have hP : va_P (dC, dI) vwCl (mW ad kc x0 x1 x2 x3 x4 x5 x6 x7 x8 x9 x10 x11 x12 x13 x14 x15 x16 x17 x18 x19 x20 x21 f0 f1 f2 f3 f4 f5 f6 f7 f8 f9 f10 f11 f12 f13 f14 f15 f16 f17 f18 f19 f20 f21 fL n_514 fP m_515 o_516) H := hP
                        have hD : va_D A (mW ad kc x0 x1 x2 x3 x4 x5 x6 x7 x8 x9 x10 x11 x12 x13 x14 x15 x16 x17 x18 x19 x20 x21 f0 f1 f2 f3 f4 f5 f6 f7 f8 f9 f10 f11 f12 f13 f14 f15 f16 f17 f18 f19 f20 f21 fL n_514 fP m_515 o_516) := hD
                        refine lv_goto (tgt := 8) hx hb dX10_joins__119 (by decide) ?_
                        exact ih8 y_495 y_512 y_513 n_514 m_515 o_516 (by first | omega | assumption | decide) (by first | omega | assumption | decide) (by first | omega | assumption | decide) (by first | omega | assumption | decide) (by first | omega | assumption | decide) (by first | omega | assumption | decide) (fun c h1 h2 => (u_517.2 c h1 h2).trans (v8_6 c h1 h2)) (by omega) _ _ ls hP hD hS (lv_sub hl [0, 1, 2, 4, 5, 6] rfl)
                  · have tk_494 := c_eq (a := y_493.toInt) (b := y_467.toInt) rfl rfl k_494
                    refine lv_iconst (v := 1) hx hb dX10_joins__76 (by decide) ?_
                    refine lv_goto (tgt := 81) hx hb dX10_joins__77 (by decide) ?_
                    refine lv_iadd hx hb dX10_joins__81 ?_
                    refine lv_topi (fun y_518 ey_518 => ?_)
                    first | have ty_518 := i_add (a := ii.toInt) (b := 1) rfl (by decide) ey_518 (by omega) (by omega) | skip
                    refine lv_istore_n (lv' := [(3, .int y_518), (6, .int y_467), (5, .int nn), (4, .int kk), (0, .ref (ad a1)), (1, .ref (ad a2)), (2, .ref (ad a3))]) hx hb dX10_joins__82 rfl hl (by decide) rfl (fun ls hl => ?_)
                    refine lv_iload hx hb dX10_joins__83 (lv_at hl 3 rfl) ?_
                    refine lv_iload hx hb dX10_joins__85 (lv_at hl 3 rfl) ?_
                    refine lv_aload_n hx hb dX10_joins__87 rfl (lv_at hl 5 rfl) ?_
                    refine lv_iconst (v := 0) hx hb dX10_joins__88 (by decide) ?_
                    refine va_iald hx hb hK hP (rPos (a2)) (rTy (a2)) (mW_R (by first | assumption | (unfold IR; omega))) (mT_R _) (i := 0) (by unfold vp_in; decide +kernel) dX10_joins__89 ?_
                    refine lv_topi (fun y_519 ey_519 => ?_)
                    have rg_y_519 := i_rng y_519
                    have vy_519 := vI_lda (f := (rO hn hm ho) a2) (i := 0) (a := 0) ey_519 (by first | omega | decide)
                    have wy_519 := vI_cg (z := 0) (v8_6 a2 q1 q4)
                    refine lv_icmp_gt (tgt := 106) hx hb dX10_joins__90 (by decide) (fun k_520 => ?_) (fun k_520 => ?_)
                    · have tk_520 := c_gt (a := kk.toInt) (b := y_519.toInt) rfl rfl k_520
                      refine lv_iconst (v := 0) hx hb dX10_joins__106 (by decide) ?_
                      refine lv_iadd hx hb dX10_joins__107 ?_
                      refine lv_topi (fun y_521 ey_521 => ?_)
                      first | have ty_521 := i_add (a := kk.toInt) (b := 0) rfl (by decide) ey_521 (by omega) (by omega) | skip
                      refine lv_istore (lv' := [(4, .int y_521), (3, .int y_518), (6, .int y_467), (5, .int nn), (0, .ref (ad a1)), (1, .ref (ad a2)), (2, .ref (ad a3))]) hx hb dX10_joins__108 hl (by decide) rfl (fun ls hl => ?_)
                      obtain ⟨y_522, ey_522⟩ : ∃ y : Int32, y = nn + 1 := ⟨_, rfl⟩
                      first | have ty_522 := i_add (a := nn.toInt) (b := 1) rfl (by decide) ey_522 (by omega) (by omega) | skip
                      refine lv_iinc (v := y_522) (lv' := [(5, .int y_522), (4, .int y_521), (3, .int y_518), (6, .int y_467), (0, .ref (ad a1)), (1, .ref (ad a2)), (2, .ref (ad a3))]) hx hb dX10_joins__110 hl (k := 3) rfl (by rw [ey_522]; rfl) (by decide) rfl (fun ls hl => ?_)
                      refine lv_aload_n hx hb dX10_joins__113 rfl (lv_at hl 6 rfl) ?_
                      refine lv_iload hx hb dX10_joins__114 (lv_at hl 0 rfl) ?_
                      refine lv_iload hx hb dX10_joins__116 (lv_at hl 3 rfl) ?_
                      refine va_iast hx hb hK hP hD hS (rPos (a3)) (rTy (a3)) (mW_R (by first | assumption | (unfold IR; omega))) (mT_R _) (i := y_522) (vp_of (a := y_522.toInt) rfl (by omega) (by omega)) dX10_joins__118 (fun H locs hP hD hS => ?_)
                      obtain ⟨n_523, m_524, o_525, hP, hD, wu_526⟩ := mW_Rx (by first | assumption | (unfold IR; omega)) hP hD
                      have u_526 := rU_v (x := (nn.toInt + 1)) (y := y_467.toInt) wu_526 (by first | assumption | (unfold IR; omega)) (by first | omega | decide) (by omega) rfl
                      have hP : va_P (dC, dI) vwCl (mW ad kc x0 x1 x2 x3 x4 x5 x6 x7 x8 x9 x10 x11 x12 x13 x14 x15 x16 x17 x18 x19 x20 x21 f0 f1 f2 f3 f4 f5 f6 f7 f8 f9 f10 f11 f12 f13 f14 f15 f16 f17 f18 f19 f20 f21 fL n_523 fP m_524 o_525) H := hP
                      have hD : va_D A (mW ad kc x0 x1 x2 x3 x4 x5 x6 x7 x8 x9 x10 x11 x12 x13 x14 x15 x16 x17 x18 x19 x20 x21 f0 f1 f2 f3 f4 f5 f6 f7 f8 f9 f10 f11 f12 f13 f14 f15 f16 f17 f18 f19 f20 f21 fL n_523 fP m_524 o_525) := hD
                      refine lv_goto (tgt := 8) hx hb dX10_joins__119 (by decide) ?_
                      exact ih8 y_518 y_521 y_522 n_523 m_524 o_525 (by first | omega | assumption | decide) (by first | omega | assumption | decide) (by first | omega | assumption | decide) (by first | omega | assumption | decide) (by first | omega | assumption | decide) (by first | omega | assumption | decide) (fun c h1 h2 => (u_526.2 c h1 h2).trans (v8_6 c h1 h2)) (by omega) _ _ ls hP hD hS (lv_sub hl [0, 1, 2, 4, 5, 6] rfl)
                    · have tk_520 := c_ngt (a := kk.toInt) (b := y_519.toInt) rfl rfl k_520
                      refine lv_aload_n hx hb dX10_joins__93 rfl (lv_at hl 5 rfl) ?_
                      refine lv_iload hx hb dX10_joins__94 (lv_at hl 3 rfl) ?_
                      refine va_iald hx hb hK hP (rPos (a2)) (rTy (a2)) (mW_R (by first | assumption | (unfold IR; omega))) (mT_R _) (i := kk) (vp_of (a := kk.toInt) rfl (by omega) (by omega)) dX10_joins__96 ?_
                      refine lv_topi (fun y_527 ey_527 => ?_)
                      have rg_y_527 := i_rng y_527
                      have vy_527 := vI_lda (f := (rO hn hm ho) a2) (i := kk) (a := kk.toInt) ey_527 (by first | omega | decide)
                      have wy_527 := vI_cg (z := kk.toInt) (v8_6 a2 q1 q4)
                      refine lv_iload hx hb dX10_joins__97 (lv_at hl 1 rfl) ?_
                      refine lv_icmp_ne (tgt := 106) hx hb dX10_joins__99 (by decide) (fun k_528 => ?_) (fun k_528 => ?_)
                      · have tk_528 := c_ne (a := y_527.toInt) (b := y_467.toInt) rfl rfl k_528
                        refine lv_iconst (v := 0) hx hb dX10_joins__106 (by decide) ?_
                        refine lv_iadd hx hb dX10_joins__107 ?_
                        refine lv_topi (fun y_529 ey_529 => ?_)
                        first | have ty_529 := i_add (a := kk.toInt) (b := 0) rfl (by decide) ey_529 (by omega) (by omega) | skip
                        refine lv_istore (lv' := [(4, .int y_529), (3, .int y_518), (6, .int y_467), (5, .int nn), (0, .ref (ad a1)), (1, .ref (ad a2)), (2, .ref (ad a3))]) hx hb dX10_joins__108 hl (by decide) rfl (fun ls hl => ?_)
                        obtain ⟨y_530, ey_530⟩ : ∃ y : Int32, y = nn + 1 := ⟨_, rfl⟩
                        first | have ty_530 := i_add (a := nn.toInt) (b := 1) rfl (by decide) ey_530 (by omega) (by omega) | skip
                        refine lv_iinc (v := y_530) (lv' := [(5, .int y_530), (4, .int y_529), (3, .int y_518), (6, .int y_467), (0, .ref (ad a1)), (1, .ref (ad a2)), (2, .ref (ad a3))]) hx hb dX10_joins__110 hl (k := 3) rfl (by rw [ey_530]; rfl) (by decide) rfl (fun ls hl => ?_)
                        refine lv_aload_n hx hb dX10_joins__113 rfl (lv_at hl 6 rfl) ?_
                        refine lv_iload hx hb dX10_joins__114 (lv_at hl 0 rfl) ?_
                        refine lv_iload hx hb dX10_joins__116 (lv_at hl 3 rfl) ?_
                        refine va_iast hx hb hK hP hD hS (rPos (a3)) (rTy (a3)) (mW_R (by first | assumption | (unfold IR; omega))) (mT_R _) (i := y_530) (vp_of (a := y_530.toInt) rfl (by omega) (by omega)) dX10_joins__118 (fun H locs hP hD hS => ?_)
                        obtain ⟨n_531, m_532, o_533, hP, hD, wu_534⟩ := mW_Rx (by first | assumption | (unfold IR; omega)) hP hD
                        have u_534 := rU_v (x := (nn.toInt + 1)) (y := y_467.toInt) wu_534 (by first | assumption | (unfold IR; omega)) (by first | omega | decide) (by omega) rfl
                        have hP : va_P (dC, dI) vwCl (mW ad kc x0 x1 x2 x3 x4 x5 x6 x7 x8 x9 x10 x11 x12 x13 x14 x15 x16 x17 x18 x19 x20 x21 f0 f1 f2 f3 f4 f5 f6 f7 f8 f9 f10 f11 f12 f13 f14 f15 f16 f17 f18 f19 f20 f21 fL n_531 fP m_532 o_533) H := hP
                        have hD : va_D A (mW ad kc x0 x1 x2 x3 x4 x5 x6 x7 x8 x9 x10 x11 x12 x13 x14 x15 x16 x17 x18 x19 x20 x21 f0 f1 f2 f3 f4 f5 f6 f7 f8 f9 f10 f11 f12 f13 f14 f15 f16 f17 f18 f19 f20 f21 fL n_531 fP m_532 o_533) := hD
                        refine lv_goto (tgt := 8) hx hb dX10_joins__119 (by decide) ?_
                        exact ih8 y_518 y_529 y_530 n_531 m_532 o_533 (by first | omega | assumption | decide) (by first | omega | assumption | decide) (by first | omega | assumption | decide) (by first | omega | assumption | decide) (by first | omega | assumption | decide) (by first | omega | assumption | decide) (fun c h1 h2 => (u_534.2 c h1 h2).trans (v8_6 c h1 h2)) (by omega) _ _ ls hP hD hS (lv_sub hl [0, 1, 2, 4, 5, 6] rfl)
                      · have tk_528 := c_eq (a := y_527.toInt) (b := y_467.toInt) rfl rfl k_528
                        refine lv_iconst (v := 1) hx hb dX10_joins__102 (by decide) ?_
                        refine lv_goto (tgt := 107) hx hb dX10_joins__103 (by decide) ?_
                        refine lv_iadd hx hb dX10_joins__107 ?_
                        refine lv_topi (fun y_535 ey_535 => ?_)
                        first | have ty_535 := i_add (a := kk.toInt) (b := 1) rfl (by decide) ey_535 (by omega) (by omega) | skip
                        refine lv_istore (lv' := [(4, .int y_535), (3, .int y_518), (6, .int y_467), (5, .int nn), (0, .ref (ad a1)), (1, .ref (ad a2)), (2, .ref (ad a3))]) hx hb dX10_joins__108 hl (by decide) rfl (fun ls hl => ?_)
                        obtain ⟨y_536, ey_536⟩ : ∃ y : Int32, y = nn + 1 := ⟨_, rfl⟩
                        first | have ty_536 := i_add (a := nn.toInt) (b := 1) rfl (by decide) ey_536 (by omega) (by omega) | skip
                        refine lv_iinc (v := y_536) (lv' := [(5, .int y_536), (4, .int y_535), (3, .int y_518), (6, .int y_467), (0, .ref (ad a1)), (1, .ref (ad a2)), (2, .ref (ad a3))]) hx hb dX10_joins__110 hl (k := 3) rfl (by rw [ey_536]; rfl) (by decide) rfl (fun ls hl => ?_)
                        refine lv_aload_n hx hb dX10_joins__113 rfl (lv_at hl 6 rfl) ?_
                        refine lv_iload hx hb dX10_joins__114 (lv_at hl 0 rfl) ?_
                        refine lv_iload hx hb dX10_joins__116 (lv_at hl 3 rfl) ?_
                        refine va_iast hx hb hK hP hD hS (rPos (a3)) (rTy (a3)) (mW_R (by first | assumption | (unfold IR; omega))) (mT_R _) (i := y_536) (vp_of (a := y_536.toInt) rfl (by omega) (by omega)) dX10_joins__118 (fun H locs hP hD hS => ?_)
                        obtain ⟨n_537, m_538, o_539, hP, hD, wu_540⟩ := mW_Rx (by first | assumption | (unfold IR; omega)) hP hD
                        have u_540 := rU_v (x := (nn.toInt + 1)) (y := y_467.toInt) wu_540 (by first | assumption | (unfold IR; omega)) (by first | omega | decide) (by omega) rfl
                        have hP : va_P (dC, dI) vwCl (mW ad kc x0 x1 x2 x3 x4 x5 x6 x7 x8 x9 x10 x11 x12 x13 x14 x15 x16 x17 x18 x19 x20 x21 f0 f1 f2 f3 f4 f5 f6 f7 f8 f9 f10 f11 f12 f13 f14 f15 f16 f17 f18 f19 f20 f21 fL n_537 fP m_538 o_539) H := hP
                        have hD : va_D A (mW ad kc x0 x1 x2 x3 x4 x5 x6 x7 x8 x9 x10 x11 x12 x13 x14 x15 x16 x17 x18 x19 x20 x21 f0 f1 f2 f3 f4 f5 f6 f7 f8 f9 f10 f11 f12 f13 f14 f15 f16 f17 f18 f19 f20 f21 fL n_537 fP m_538 o_539) := hD
                        refine lv_goto (tgt := 8) hx hb dX10_joins__119 (by decide) ?_
                        exact ih8 y_518 y_535 y_536 n_537 m_538 o_539 (by first | omega | assumption | decide) (by first | omega | assumption | decide) (by first | omega | assumption | decide) (by first | omega | assumption | decide) (by first | omega | assumption | decide) (by first | omega | assumption | decide) (fun c h1 h2 => (u_540.2 c h1 h2).trans (v8_6 c h1 h2)) (by omega) _ _ ls hP hD hS (lv_sub hl [0, 1, 2, 4, 5, 6] rfl)
              · have tk_466 := c_ngt (a := y_464.toInt) (b := y_465.toInt) rfl rfl k_466
                refine lv_aload_n hx hb dX10_joins__48 rfl (lv_at hl 3 rfl) ?_
                refine lv_iload_n hx hb dX10_joins__49 rfl (lv_at hl 2 rfl) ?_
                refine va_iald hx hb hK hP (rPos (a1)) (rTy (a1)) (mW_R (by first | assumption | (unfold IR; omega))) (mT_R _) (i := ii) (vp_of (a := ii.toInt) rfl (by omega) (by omega)) dX10_joins__50 ?_
                refine lv_topi (fun y_541 ey_541 => ?_)
                have rg_y_541 := i_rng y_541
                have vy_541 := vI_lda (f := (rO hn hm ho) a1) (i := ii) (a := ii.toInt) ey_541 (by first | omega | decide)
                have wy_541 := vI_cg (z := ii.toInt) (v8_6 a1 q0 q3)
                refine lv_goto (tgt := 58) hx hb dX10_joins__51 (by decide) ?_
                refine lv_istore (lv' := [(6, .int y_541), (5, .int nn), (4, .int kk), (3, .int ii), (0, .ref (ad a1)), (1, .ref (ad a2)), (2, .ref (ad a3))]) hx hb dX10_joins__58 hl (by decide) rfl (fun ls hl => ?_)
                refine lv_iload_n hx hb dX10_joins__60 rfl (lv_at hl 3 rfl) ?_
                refine lv_iload_n hx hb dX10_joins__61 rfl (lv_at hl 3 rfl) ?_
                refine lv_aload_n hx hb dX10_joins__62 rfl (lv_at hl 4 rfl) ?_
                refine lv_iconst (v := 0) hx hb dX10_joins__63 (by decide) ?_
                refine va_iald hx hb hK hP (rPos (a1)) (rTy (a1)) (mW_R (by first | assumption | (unfold IR; omega))) (mT_R _) (i := 0) (by unfold vp_in; decide +kernel) dX10_joins__64 ?_
                refine lv_topi (fun y_542 ey_542 => ?_)
                have rg_y_542 := i_rng y_542
                have vy_542 := vI_lda (f := (rO hn hm ho) a1) (i := 0) (a := 0) ey_542 (by first | omega | decide)
                have wy_542 := vI_cg (z := 0) (v8_6 a1 q0 q3)
                refine lv_icmp_gt (tgt := 80) hx hb dX10_joins__65 (by decide) (fun k_543 => ?_) (fun k_543 => ?_)
                · have tk_543 := c_gt (a := ii.toInt) (b := y_542.toInt) rfl rfl k_543
                  refine lv_iconst (v := 0) hx hb dX10_joins__80 (by decide) ?_
                  refine lv_iadd hx hb dX10_joins__81 ?_
                  refine lv_topi (fun y_544 ey_544 => ?_)
                  first | have ty_544 := i_add (a := ii.toInt) (b := 0) rfl (by decide) ey_544 (by omega) (by omega) | skip
                  refine lv_istore_n (lv' := [(3, .int y_544), (6, .int y_541), (5, .int nn), (4, .int kk), (0, .ref (ad a1)), (1, .ref (ad a2)), (2, .ref (ad a3))]) hx hb dX10_joins__82 rfl hl (by decide) rfl (fun ls hl => ?_)
                  refine lv_iload hx hb dX10_joins__83 (lv_at hl 3 rfl) ?_
                  refine lv_iload hx hb dX10_joins__85 (lv_at hl 3 rfl) ?_
                  refine lv_aload_n hx hb dX10_joins__87 rfl (lv_at hl 5 rfl) ?_
                  refine lv_iconst (v := 0) hx hb dX10_joins__88 (by decide) ?_
                  refine va_iald hx hb hK hP (rPos (a2)) (rTy (a2)) (mW_R (by first | assumption | (unfold IR; omega))) (mT_R _) (i := 0) (by unfold vp_in; decide +kernel) dX10_joins__89 ?_
                  refine lv_topi (fun y_545 ey_545 => ?_)
                  have rg_y_545 := i_rng y_545
                  have vy_545 := vI_lda (f := (rO hn hm ho) a2) (i := 0) (a := 0) ey_545 (by first | omega | decide)
                  have wy_545 := vI_cg (z := 0) (v8_6 a2 q1 q4)
                  refine lv_icmp_gt (tgt := 106) hx hb dX10_joins__90 (by decide) (fun k_546 => ?_) (fun k_546 => ?_)
                  · have tk_546 := c_gt (a := kk.toInt) (b := y_545.toInt) rfl rfl k_546
                    refine lv_iconst (v := 0) hx hb dX10_joins__106 (by decide) ?_
                    refine lv_iadd hx hb dX10_joins__107 ?_
                    refine lv_topi (fun y_547 ey_547 => ?_)
                    first | have ty_547 := i_add (a := kk.toInt) (b := 0) rfl (by decide) ey_547 (by omega) (by omega) | skip
                    refine lv_istore (lv' := [(4, .int y_547), (3, .int y_544), (6, .int y_541), (5, .int nn), (0, .ref (ad a1)), (1, .ref (ad a2)), (2, .ref (ad a3))]) hx hb dX10_joins__108 hl (by decide) rfl (fun ls hl => ?_)
                    obtain ⟨y_548, ey_548⟩ : ∃ y : Int32, y = nn + 1 := ⟨_, rfl⟩
                    first | have ty_548 := i_add (a := nn.toInt) (b := 1) rfl (by decide) ey_548 (by omega) (by omega) | skip
                    refine lv_iinc (v := y_548) (lv' := [(5, .int y_548), (4, .int y_547), (3, .int y_544), (6, .int y_541), (0, .ref (ad a1)), (1, .ref (ad a2)), (2, .ref (ad a3))]) hx hb dX10_joins__110 hl (k := 3) rfl (by rw [ey_548]; rfl) (by decide) rfl (fun ls hl => ?_)
                    refine lv_aload_n hx hb dX10_joins__113 rfl (lv_at hl 6 rfl) ?_
                    refine lv_iload hx hb dX10_joins__114 (lv_at hl 0 rfl) ?_
                    refine lv_iload hx hb dX10_joins__116 (lv_at hl 3 rfl) ?_
                    refine va_iast hx hb hK hP hD hS (rPos (a3)) (rTy (a3)) (mW_R (by first | assumption | (unfold IR; omega))) (mT_R _) (i := y_548) (vp_of (a := y_548.toInt) rfl (by omega) (by omega)) dX10_joins__118 (fun H locs hP hD hS => ?_)
                    obtain ⟨n_549, m_550, o_551, hP, hD, wu_552⟩ := mW_Rx (by first | assumption | (unfold IR; omega)) hP hD
                    have u_552 := rU_v (x := (nn.toInt + 1)) (y := y_541.toInt) wu_552 (by first | assumption | (unfold IR; omega)) (by first | omega | decide) (by omega) rfl
                    have hP : va_P (dC, dI) vwCl (mW ad kc x0 x1 x2 x3 x4 x5 x6 x7 x8 x9 x10 x11 x12 x13 x14 x15 x16 x17 x18 x19 x20 x21 f0 f1 f2 f3 f4 f5 f6 f7 f8 f9 f10 f11 f12 f13 f14 f15 f16 f17 f18 f19 f20 f21 fL n_549 fP m_550 o_551) H := hP
                    have hD : va_D A (mW ad kc x0 x1 x2 x3 x4 x5 x6 x7 x8 x9 x10 x11 x12 x13 x14 x15 x16 x17 x18 x19 x20 x21 f0 f1 f2 f3 f4 f5 f6 f7 f8 f9 f10 f11 f12 f13 f14 f15 f16 f17 f18 f19 f20 f21 fL n_549 fP m_550 o_551) := hD
                    refine lv_goto (tgt := 8) hx hb dX10_joins__119 (by decide) ?_
                    exact ih8 y_544 y_547 y_548 n_549 m_550 o_551 (by first | omega | assumption | decide) (by first | omega | assumption | decide) (by first | omega | assumption | decide) (by first | omega | assumption | decide) (by first | omega | assumption | decide) (by first | omega | assumption | decide) (fun c h1 h2 => (u_552.2 c h1 h2).trans (v8_6 c h1 h2)) (by omega) _ _ ls hP hD hS (lv_sub hl [0, 1, 2, 4, 5, 6] rfl)
                  · have tk_546 := c_ngt (a := kk.toInt) (b := y_545.toInt) rfl rfl k_546
                    refine lv_aload_n hx hb dX10_joins__93 rfl (lv_at hl 5 rfl) ?_
                    refine lv_iload hx hb dX10_joins__94 (lv_at hl 3 rfl) ?_
                    refine va_iald hx hb hK hP (rPos (a2)) (rTy (a2)) (mW_R (by first | assumption | (unfold IR; omega))) (mT_R _) (i := kk) (vp_of (a := kk.toInt) rfl (by omega) (by omega)) dX10_joins__96 ?_
                    refine lv_topi (fun y_553 ey_553 => ?_)
                    have rg_y_553 := i_rng y_553
                    have vy_553 := vI_lda (f := (rO hn hm ho) a2) (i := kk) (a := kk.toInt) ey_553 (by first | omega | decide)
                    have wy_553 := vI_cg (z := kk.toInt) (v8_6 a2 q1 q4)
                    refine lv_iload hx hb dX10_joins__97 (lv_at hl 1 rfl) ?_
                    refine lv_icmp_ne (tgt := 106) hx hb dX10_joins__99 (by decide) (fun k_554 => ?_) (fun k_554 => ?_)
                    · have tk_554 := c_ne (a := y_553.toInt) (b := y_541.toInt) rfl rfl k_554
                      refine lv_iconst (v := 0) hx hb dX10_joins__106 (by decide) ?_
                      refine lv_iadd hx hb dX10_joins__107 ?_
                      refine lv_topi (fun y_555 ey_555 => ?_)
                      first | have ty_555 := i_add (a := kk.toInt) (b := 0) rfl (by decide) ey_555 (by omega) (by omega) | skip
                      refine lv_istore (lv' := [(4, .int y_555), (3, .int y_544), (6, .int y_541), (5, .int nn), (0, .ref (ad a1)), (1, .ref (ad a2)), (2, .ref (ad a3))]) hx hb dX10_joins__108 hl (by decide) rfl (fun ls hl => ?_)
                      obtain ⟨y_556, ey_556⟩ : ∃ y : Int32, y = nn + 1 := ⟨_, rfl⟩
                      first | have ty_556 := i_add (a := nn.toInt) (b := 1) rfl (by decide) ey_556 (by omega) (by omega) | skip
                      refine lv_iinc (v := y_556) (lv' := [(5, .int y_556), (4, .int y_555), (3, .int y_544), (6, .int y_541), (0, .ref (ad a1)), (1, .ref (ad a2)), (2, .ref (ad a3))]) hx hb dX10_joins__110 hl (k := 3) rfl (by rw [ey_556]; rfl) (by decide) rfl (fun ls hl => ?_)
                      refine lv_aload_n hx hb dX10_joins__113 rfl (lv_at hl 6 rfl) ?_
                      refine lv_iload hx hb dX10_joins__114 (lv_at hl 0 rfl) ?_
                      refine lv_iload hx hb dX10_joins__116 (lv_at hl 3 rfl) ?_
                      refine va_iast hx hb hK hP hD hS (rPos (a3)) (rTy (a3)) (mW_R (by first | assumption | (unfold IR; omega))) (mT_R _) (i := y_556) (vp_of (a := y_556.toInt) rfl (by omega) (by omega)) dX10_joins__118 (fun H locs hP hD hS => ?_)
                      obtain ⟨n_557, m_558, o_559, hP, hD, wu_560⟩ := mW_Rx (by first | assumption | (unfold IR; omega)) hP hD
                      have u_560 := rU_v (x := (nn.toInt + 1)) (y := y_541.toInt) wu_560 (by first | assumption | (unfold IR; omega)) (by first | omega | decide) (by omega) rfl
                      have hP : va_P (dC, dI) vwCl (mW ad kc x0 x1 x2 x3 x4 x5 x6 x7 x8 x9 x10 x11 x12 x13 x14 x15 x16 x17 x18 x19 x20 x21 f0 f1 f2 f3 f4 f5 f6 f7 f8 f9 f10 f11 f12 f13 f14 f15 f16 f17 f18 f19 f20 f21 fL n_557 fP m_558 o_559) H := hP
                      have hD : va_D A (mW ad kc x0 x1 x2 x3 x4 x5 x6 x7 x8 x9 x10 x11 x12 x13 x14 x15 x16 x17 x18 x19 x20 x21 f0 f1 f2 f3 f4 f5 f6 f7 f8 f9 f10 f11 f12 f13 f14 f15 f16 f17 f18 f19 f20 f21 fL n_557 fP m_558 o_559) := hD
                      refine lv_goto (tgt := 8) hx hb dX10_joins__119 (by decide) ?_
                      exact ih8 y_544 y_555 y_556 n_557 m_558 o_559 (by first | omega | assumption | decide) (by first | omega | assumption | decide) (by first | omega | assumption | decide) (by first | omega | assumption | decide) (by first | omega | assumption | decide) (by first | omega | assumption | decide) (fun c h1 h2 => (u_560.2 c h1 h2).trans (v8_6 c h1 h2)) (by omega) _ _ ls hP hD hS (lv_sub hl [0, 1, 2, 4, 5, 6] rfl)
                    · have tk_554 := c_eq (a := y_553.toInt) (b := y_541.toInt) rfl rfl k_554
                      refine lv_iconst (v := 1) hx hb dX10_joins__102 (by decide) ?_
                      refine lv_goto (tgt := 107) hx hb dX10_joins__103 (by decide) ?_
                      refine lv_iadd hx hb dX10_joins__107 ?_
                      refine lv_topi (fun y_561 ey_561 => ?_)
                      first | have ty_561 := i_add (a := kk.toInt) (b := 1) rfl (by decide) ey_561 (by omega) (by omega) | skip
                      refine lv_istore (lv' := [(4, .int y_561), (3, .int y_544), (6, .int y_541), (5, .int nn), (0, .ref (ad a1)), (1, .ref (ad a2)), (2, .ref (ad a3))]) hx hb dX10_joins__108 hl (by decide) rfl (fun ls hl => ?_)
                      obtain ⟨y_562, ey_562⟩ : ∃ y : Int32, y = nn + 1 := ⟨_, rfl⟩
                      first | have ty_562 := i_add (a := nn.toInt) (b := 1) rfl (by decide) ey_562 (by omega) (by omega) | skip
                      refine lv_iinc (v := y_562) (lv' := [(5, .int y_562), (4, .int y_561), (3, .int y_544), (6, .int y_541), (0, .ref (ad a1)), (1, .ref (ad a2)), (2, .ref (ad a3))]) hx hb dX10_joins__110 hl (k := 3) rfl (by rw [ey_562]; rfl) (by decide) rfl (fun ls hl => ?_)
                      refine lv_aload_n hx hb dX10_joins__113 rfl (lv_at hl 6 rfl) ?_
                      refine lv_iload hx hb dX10_joins__114 (lv_at hl 0 rfl) ?_
                      refine lv_iload hx hb dX10_joins__116 (lv_at hl 3 rfl) ?_
                      refine va_iast hx hb hK hP hD hS (rPos (a3)) (rTy (a3)) (mW_R (by first | assumption | (unfold IR; omega))) (mT_R _) (i := y_562) (vp_of (a := y_562.toInt) rfl (by omega) (by omega)) dX10_joins__118 (fun H locs hP hD hS => ?_)
                      obtain ⟨n_563, m_564, o_565, hP, hD, wu_566⟩ := mW_Rx (by first | assumption | (unfold IR; omega)) hP hD
                      have u_566 := rU_v (x := (nn.toInt + 1)) (y := y_541.toInt) wu_566 (by first | assumption | (unfold IR; omega)) (by first | omega | decide) (by omega) rfl
                      have hP : va_P (dC, dI) vwCl (mW ad kc x0 x1 x2 x3 x4 x5 x6 x7 x8 x9 x10 x11 x12 x13 x14 x15 x16 x17 x18 x19 x20 x21 f0 f1 f2 f3 f4 f5 f6 f7 f8 f9 f10 f11 f12 f13 f14 f15 f16 f17 f18 f19 f20 f21 fL n_563 fP m_564 o_565) H := hP
                      have hD : va_D A (mW ad kc x0 x1 x2 x3 x4 x5 x6 x7 x8 x9 x10 x11 x12 x13 x14 x15 x16 x17 x18 x19 x20 x21 f0 f1 f2 f3 f4 f5 f6 f7 f8 f9 f10 f11 f12 f13 f14 f15 f16 f17 f18 f19 f20 f21 fL n_563 fP m_564 o_565) := hD
                      refine lv_goto (tgt := 8) hx hb dX10_joins__119 (by decide) ?_
                      exact ih8 y_544 y_561 y_562 n_563 m_564 o_565 (by first | omega | assumption | decide) (by first | omega | assumption | decide) (by first | omega | assumption | decide) (by first | omega | assumption | decide) (by first | omega | assumption | decide) (by first | omega | assumption | decide) (fun c h1 h2 => (u_566.2 c h1 h2).trans (v8_6 c h1 h2)) (by omega) _ _ ls hP hD hS (lv_sub hl [0, 1, 2, 4, 5, 6] rfl)
                · have tk_543 := c_ngt (a := ii.toInt) (b := y_542.toInt) rfl rfl k_543
                  refine lv_aload_n hx hb dX10_joins__68 rfl (lv_at hl 4 rfl) ?_
                  refine lv_iload_n hx hb dX10_joins__69 rfl (lv_at hl 3 rfl) ?_
                  refine va_iald hx hb hK hP (rPos (a1)) (rTy (a1)) (mW_R (by first | assumption | (unfold IR; omega))) (mT_R _) (i := ii) (vp_of (a := ii.toInt) rfl (by omega) (by omega)) dX10_joins__70 ?_
                  refine lv_topi (fun y_567 ey_567 => ?_)
                  have rg_y_567 := i_rng y_567
                  have vy_567 := vI_lda (f := (rO hn hm ho) a1) (i := ii) (a := ii.toInt) ey_567 (by first | omega | decide)
                  have wy_567 := vI_cg (z := ii.toInt) (v8_6 a1 q0 q3)
                  refine lv_iload hx hb dX10_joins__71 (lv_at hl 0 rfl) ?_
                  refine lv_icmp_ne (tgt := 80) hx hb dX10_joins__73 (by decide) (fun k_568 => ?_) (fun k_568 => ?_)
                  · have tk_568 := c_ne (a := y_567.toInt) (b := y_541.toInt) rfl rfl k_568
                    refine lv_iconst (v := 0) hx hb dX10_joins__80 (by decide) ?_
                    refine lv_iadd hx hb dX10_joins__81 ?_
                    refine lv_topi (fun y_569 ey_569 => ?_)
                    first | have ty_569 := i_add (a := ii.toInt) (b := 0) rfl (by decide) ey_569 (by omega) (by omega) | skip
                    refine lv_istore_n (lv' := [(3, .int y_569), (6, .int y_541), (5, .int nn), (4, .int kk), (0, .ref (ad a1)), (1, .ref (ad a2)), (2, .ref (ad a3))]) hx hb dX10_joins__82 rfl hl (by decide) rfl (fun ls hl => ?_)
                    refine lv_iload hx hb dX10_joins__83 (lv_at hl 3 rfl) ?_
                    refine lv_iload hx hb dX10_joins__85 (lv_at hl 3 rfl) ?_
                    refine lv_aload_n hx hb dX10_joins__87 rfl (lv_at hl 5 rfl) ?_
                    refine lv_iconst (v := 0) hx hb dX10_joins__88 (by decide) ?_
                    refine va_iald hx hb hK hP (rPos (a2)) (rTy (a2)) (mW_R (by first | assumption | (unfold IR; omega))) (mT_R _) (i := 0) (by unfold vp_in; decide +kernel) dX10_joins__89 ?_
                    refine lv_topi (fun y_570 ey_570 => ?_)
                    have rg_y_570 := i_rng y_570
                    have vy_570 := vI_lda (f := (rO hn hm ho) a2) (i := 0) (a := 0) ey_570 (by first | omega | decide)
                    have wy_570 := vI_cg (z := 0) (v8_6 a2 q1 q4)
                    refine lv_icmp_gt (tgt := 106) hx hb dX10_joins__90 (by decide) (fun k_571 => ?_) (fun k_571 => ?_)
                    · have tk_571 := c_gt (a := kk.toInt) (b := y_570.toInt) rfl rfl k_571
                      refine lv_iconst (v := 0) hx hb dX10_joins__106 (by decide) ?_
                      refine lv_iadd hx hb dX10_joins__107 ?_
                      refine lv_topi (fun y_572 ey_572 => ?_)
                      first | have ty_572 := i_add (a := kk.toInt) (b := 0) rfl (by decide) ey_572 (by omega) (by omega) | skip
                      refine lv_istore (lv' := [(4, .int y_572), (3, .int y_569), (6, .int y_541), (5, .int nn), (0, .ref (ad a1)), (1, .ref (ad a2)), (2, .ref (ad a3))]) hx hb dX10_joins__108 hl (by decide) rfl (fun ls hl => ?_)
                      obtain ⟨y_573, ey_573⟩ : ∃ y : Int32, y = nn + 1 := ⟨_, rfl⟩
                      first | have ty_573 := i_add (a := nn.toInt) (b := 1) rfl (by decide) ey_573 (by omega) (by omega) | skip
                      refine lv_iinc (v := y_573) (lv' := [(5, .int y_573), (4, .int y_572), (3, .int y_569), (6, .int y_541), (0, .ref (ad a1)), (1, .ref (ad a2)), (2, .ref (ad a3))]) hx hb dX10_joins__110 hl (k := 3) rfl (by rw [ey_573]; rfl) (by decide) rfl (fun ls hl => ?_)
                      refine lv_aload_n hx hb dX10_joins__113 rfl (lv_at hl 6 rfl) ?_
                      refine lv_iload hx hb dX10_joins__114 (lv_at hl 0 rfl) ?_
                      refine lv_iload hx hb dX10_joins__116 (lv_at hl 3 rfl) ?_
                      refine va_iast hx hb hK hP hD hS (rPos (a3)) (rTy (a3)) (mW_R (by first | assumption | (unfold IR; omega))) (mT_R _) (i := y_573) (vp_of (a := y_573.toInt) rfl (by omega) (by omega)) dX10_joins__118 (fun H locs hP hD hS => ?_)
                      obtain ⟨n_574, m_575, o_576, hP, hD, wu_577⟩ := mW_Rx (by first | assumption | (unfold IR; omega)) hP hD
                      have u_577 := rU_v (x := (nn.toInt + 1)) (y := y_541.toInt) wu_577 (by first | assumption | (unfold IR; omega)) (by first | omega | decide) (by omega) rfl
                      have hP : va_P (dC, dI) vwCl (mW ad kc x0 x1 x2 x3 x4 x5 x6 x7 x8 x9 x10 x11 x12 x13 x14 x15 x16 x17 x18 x19 x20 x21 f0 f1 f2 f3 f4 f5 f6 f7 f8 f9 f10 f11 f12 f13 f14 f15 f16 f17 f18 f19 f20 f21 fL n_574 fP m_575 o_576) H := hP
                      have hD : va_D A (mW ad kc x0 x1 x2 x3 x4 x5 x6 x7 x8 x9 x10 x11 x12 x13 x14 x15 x16 x17 x18 x19 x20 x21 f0 f1 f2 f3 f4 f5 f6 f7 f8 f9 f10 f11 f12 f13 f14 f15 f16 f17 f18 f19 f20 f21 fL n_574 fP m_575 o_576) := hD
                      refine lv_goto (tgt := 8) hx hb dX10_joins__119 (by decide) ?_
                      exact ih8 y_569 y_572 y_573 n_574 m_575 o_576 (by first | omega | assumption | decide) (by first | omega | assumption | decide) (by first | omega | assumption | decide) (by first | omega | assumption | decide) (by first | omega | assumption | decide) (by first | omega | assumption | decide) (fun c h1 h2 => (u_577.2 c h1 h2).trans (v8_6 c h1 h2)) (by omega) _ _ ls hP hD hS (lv_sub hl [0, 1, 2, 4, 5, 6] rfl)
                    · have tk_571 := c_ngt (a := kk.toInt) (b := y_570.toInt) rfl rfl k_571
                      refine lv_aload_n hx hb dX10_joins__93 rfl (lv_at hl 5 rfl) ?_
                      refine lv_iload hx hb dX10_joins__94 (lv_at hl 3 rfl) ?_
                      refine va_iald hx hb hK hP (rPos (a2)) (rTy (a2)) (mW_R (by first | assumption | (unfold IR; omega))) (mT_R _) (i := kk) (vp_of (a := kk.toInt) rfl (by omega) (by omega)) dX10_joins__96 ?_
                      refine lv_topi (fun y_578 ey_578 => ?_)
                      have rg_y_578 := i_rng y_578
                      have vy_578 := vI_lda (f := (rO hn hm ho) a2) (i := kk) (a := kk.toInt) ey_578 (by first | omega | decide)
                      have wy_578 := vI_cg (z := kk.toInt) (v8_6 a2 q1 q4)
                      refine lv_iload hx hb dX10_joins__97 (lv_at hl 1 rfl) ?_
                      refine lv_icmp_ne (tgt := 106) hx hb dX10_joins__99 (by decide) (fun k_579 => ?_) (fun k_579 => ?_)
                      · have tk_579 := c_ne (a := y_578.toInt) (b := y_541.toInt) rfl rfl k_579
                        refine lv_iconst (v := 0) hx hb dX10_joins__106 (by decide) ?_
                        refine lv_iadd hx hb dX10_joins__107 ?_
                        refine lv_topi (fun y_580 ey_580 => ?_)
                        first | have ty_580 := i_add (a := kk.toInt) (b := 0) rfl (by decide) ey_580 (by omega) (by omega) | skip
                        refine lv_istore (lv' := [(4, .int y_580), (3, .int y_569), (6, .int y_541), (5, .int nn), (0, .ref (ad a1)), (1, .ref (ad a2)), (2, .ref (ad a3))]) hx hb dX10_joins__108 hl (by decide) rfl (fun ls hl => ?_)
                        obtain ⟨y_581, ey_581⟩ : ∃ y : Int32, y = nn + 1 := ⟨_, rfl⟩
                        first | have ty_581 := i_add (a := nn.toInt) (b := 1) rfl (by decide) ey_581 (by omega) (by omega) | skip
                        refine lv_iinc (v := y_581) (lv' := [(5, .int y_581), (4, .int y_580), (3, .int y_569), (6, .int y_541), (0, .ref (ad a1)), (1, .ref (ad a2)), (2, .ref (ad a3))]) hx hb dX10_joins__110 hl (k := 3) rfl (by rw [ey_581]; rfl) (by decide) rfl (fun ls hl => ?_)
                        refine lv_aload_n hx hb dX10_joins__113 rfl (lv_at hl 6 rfl) ?_
                        refine lv_iload hx hb dX10_joins__114 (lv_at hl 0 rfl) ?_
                        refine lv_iload hx hb dX10_joins__116 (lv_at hl 3 rfl) ?_
                        refine va_iast hx hb hK hP hD hS (rPos (a3)) (rTy (a3)) (mW_R (by first | assumption | (unfold IR; omega))) (mT_R _) (i := y_581) (vp_of (a := y_581.toInt) rfl (by omega) (by omega)) dX10_joins__118 (fun H locs hP hD hS => ?_)
                        obtain ⟨n_582, m_583, o_584, hP, hD, wu_585⟩ := mW_Rx (by first | assumption | (unfold IR; omega)) hP hD
                        have u_585 := rU_v (x := (nn.toInt + 1)) (y := y_541.toInt) wu_585 (by first | assumption | (unfold IR; omega)) (by first | omega | decide) (by omega) rfl
                        have hP : va_P (dC, dI) vwCl (mW ad kc x0 x1 x2 x3 x4 x5 x6 x7 x8 x9 x10 x11 x12 x13 x14 x15 x16 x17 x18 x19 x20 x21 f0 f1 f2 f3 f4 f5 f6 f7 f8 f9 f10 f11 f12 f13 f14 f15 f16 f17 f18 f19 f20 f21 fL n_582 fP m_583 o_584) H := hP
                        have hD : va_D A (mW ad kc x0 x1 x2 x3 x4 x5 x6 x7 x8 x9 x10 x11 x12 x13 x14 x15 x16 x17 x18 x19 x20 x21 f0 f1 f2 f3 f4 f5 f6 f7 f8 f9 f10 f11 f12 f13 f14 f15 f16 f17 f18 f19 f20 f21 fL n_582 fP m_583 o_584) := hD
                        refine lv_goto (tgt := 8) hx hb dX10_joins__119 (by decide) ?_
                        exact ih8 y_569 y_580 y_581 n_582 m_583 o_584 (by first | omega | assumption | decide) (by first | omega | assumption | decide) (by first | omega | assumption | decide) (by first | omega | assumption | decide) (by first | omega | assumption | decide) (by first | omega | assumption | decide) (fun c h1 h2 => (u_585.2 c h1 h2).trans (v8_6 c h1 h2)) (by omega) _ _ ls hP hD hS (lv_sub hl [0, 1, 2, 4, 5, 6] rfl)
                      · have tk_579 := c_eq (a := y_578.toInt) (b := y_541.toInt) rfl rfl k_579
                        refine lv_iconst (v := 1) hx hb dX10_joins__102 (by decide) ?_
                        refine lv_goto (tgt := 107) hx hb dX10_joins__103 (by decide) ?_
                        refine lv_iadd hx hb dX10_joins__107 ?_
                        refine lv_topi (fun y_586 ey_586 => ?_)
                        first | have ty_586 := i_add (a := kk.toInt) (b := 1) rfl (by decide) ey_586 (by omega) (by omega) | skip
                        refine lv_istore (lv' := [(4, .int y_586), (3, .int y_569), (6, .int y_541), (5, .int nn), (0, .ref (ad a1)), (1, .ref (ad a2)), (2, .ref (ad a3))]) hx hb dX10_joins__108 hl (by decide) rfl (fun ls hl => ?_)
                        obtain ⟨y_587, ey_587⟩ : ∃ y : Int32, y = nn + 1 := ⟨_, rfl⟩
                        first | have ty_587 := i_add (a := nn.toInt) (b := 1) rfl (by decide) ey_587 (by omega) (by omega) | skip
                        refine lv_iinc (v := y_587) (lv' := [(5, .int y_587), (4, .int y_586), (3, .int y_569), (6, .int y_541), (0, .ref (ad a1)), (1, .ref (ad a2)), (2, .ref (ad a3))]) hx hb dX10_joins__110 hl (k := 3) rfl (by rw [ey_587]; rfl) (by decide) rfl (fun ls hl => ?_)
                        refine lv_aload_n hx hb dX10_joins__113 rfl (lv_at hl 6 rfl) ?_
                        refine lv_iload hx hb dX10_joins__114 (lv_at hl 0 rfl) ?_
                        refine lv_iload hx hb dX10_joins__116 (lv_at hl 3 rfl) ?_
                        refine va_iast hx hb hK hP hD hS (rPos (a3)) (rTy (a3)) (mW_R (by first | assumption | (unfold IR; omega))) (mT_R _) (i := y_587) (vp_of (a := y_587.toInt) rfl (by omega) (by omega)) dX10_joins__118 (fun H locs hP hD hS => ?_)
                        obtain ⟨n_588, m_589, o_590, hP, hD, wu_591⟩ := mW_Rx (by first | assumption | (unfold IR; omega)) hP hD
                        have u_591 := rU_v (x := (nn.toInt + 1)) (y := y_541.toInt) wu_591 (by first | assumption | (unfold IR; omega)) (by first | omega | decide) (by omega) rfl
                        have hP : va_P (dC, dI) vwCl (mW ad kc x0 x1 x2 x3 x4 x5 x6 x7 x8 x9 x10 x11 x12 x13 x14 x15 x16 x17 x18 x19 x20 x21 f0 f1 f2 f3 f4 f5 f6 f7 f8 f9 f10 f11 f12 f13 f14 f15 f16 f17 f18 f19 f20 f21 fL n_588 fP m_589 o_590) H := hP
                        have hD : va_D A (mW ad kc x0 x1 x2 x3 x4 x5 x6 x7 x8 x9 x10 x11 x12 x13 x14 x15 x16 x17 x18 x19 x20 x21 f0 f1 f2 f3 f4 f5 f6 f7 f8 f9 f10 f11 f12 f13 f14 f15 f16 f17 f18 f19 f20 f21 fL n_588 fP m_589 o_590) := hD
                        refine lv_goto (tgt := 8) hx hb dX10_joins__119 (by decide) ?_
                        exact ih8 y_569 y_586 y_587 n_588 m_589 o_590 (by first | omega | assumption | decide) (by first | omega | assumption | decide) (by first | omega | assumption | decide) (by first | omega | assumption | decide) (by first | omega | assumption | decide) (by first | omega | assumption | decide) (fun c h1 h2 => (u_591.2 c h1 h2).trans (v8_6 c h1 h2)) (by omega) _ _ ls hP hD hS (lv_sub hl [0, 1, 2, 4, 5, 6] rfl)
                  · have tk_568 := c_eq (a := y_567.toInt) (b := y_541.toInt) rfl rfl k_568
                    refine lv_iconst (v := 1) hx hb dX10_joins__76 (by decide) ?_
                    refine lv_goto (tgt := 81) hx hb dX10_joins__77 (by decide) ?_
                    refine lv_iadd hx hb dX10_joins__81 ?_
                    refine lv_topi (fun y_592 ey_592 => ?_)
                    first | have ty_592 := i_add (a := ii.toInt) (b := 1) rfl (by decide) ey_592 (by omega) (by omega) | skip
                    refine lv_istore_n (lv' := [(3, .int y_592), (6, .int y_541), (5, .int nn), (4, .int kk), (0, .ref (ad a1)), (1, .ref (ad a2)), (2, .ref (ad a3))]) hx hb dX10_joins__82 rfl hl (by decide) rfl (fun ls hl => ?_)
                    refine lv_iload hx hb dX10_joins__83 (lv_at hl 3 rfl) ?_
                    refine lv_iload hx hb dX10_joins__85 (lv_at hl 3 rfl) ?_
                    refine lv_aload_n hx hb dX10_joins__87 rfl (lv_at hl 5 rfl) ?_
                    refine lv_iconst (v := 0) hx hb dX10_joins__88 (by decide) ?_
                    refine va_iald hx hb hK hP (rPos (a2)) (rTy (a2)) (mW_R (by first | assumption | (unfold IR; omega))) (mT_R _) (i := 0) (by unfold vp_in; decide +kernel) dX10_joins__89 ?_
                    refine lv_topi (fun y_593 ey_593 => ?_)
                    have rg_y_593 := i_rng y_593
                    have vy_593 := vI_lda (f := (rO hn hm ho) a2) (i := 0) (a := 0) ey_593 (by first | omega | decide)
                    have wy_593 := vI_cg (z := 0) (v8_6 a2 q1 q4)
                    refine lv_icmp_gt (tgt := 106) hx hb dX10_joins__90 (by decide) (fun k_594 => ?_) (fun k_594 => ?_)
                    · have tk_594 := c_gt (a := kk.toInt) (b := y_593.toInt) rfl rfl k_594
                      refine lv_iconst (v := 0) hx hb dX10_joins__106 (by decide) ?_
                      refine lv_iadd hx hb dX10_joins__107 ?_
                      refine lv_topi (fun y_595 ey_595 => ?_)
                      first | have ty_595 := i_add (a := kk.toInt) (b := 0) rfl (by decide) ey_595 (by omega) (by omega) | skip
                      refine lv_istore (lv' := [(4, .int y_595), (3, .int y_592), (6, .int y_541), (5, .int nn), (0, .ref (ad a1)), (1, .ref (ad a2)), (2, .ref (ad a3))]) hx hb dX10_joins__108 hl (by decide) rfl (fun ls hl => ?_)
                      obtain ⟨y_596, ey_596⟩ : ∃ y : Int32, y = nn + 1 := ⟨_, rfl⟩
                      first | have ty_596 := i_add (a := nn.toInt) (b := 1) rfl (by decide) ey_596 (by omega) (by omega) | skip
                      refine lv_iinc (v := y_596) (lv' := [(5, .int y_596), (4, .int y_595), (3, .int y_592), (6, .int y_541), (0, .ref (ad a1)), (1, .ref (ad a2)), (2, .ref (ad a3))]) hx hb dX10_joins__110 hl (k := 3) rfl (by rw [ey_596]; rfl) (by decide) rfl (fun ls hl => ?_)
                      refine lv_aload_n hx hb dX10_joins__113 rfl (lv_at hl 6 rfl) ?_
                      refine lv_iload hx hb dX10_joins__114 (lv_at hl 0 rfl) ?_
                      refine lv_iload hx hb dX10_joins__116 (lv_at hl 3 rfl) ?_
                      refine va_iast hx hb hK hP hD hS (rPos (a3)) (rTy (a3)) (mW_R (by first | assumption | (unfold IR; omega))) (mT_R _) (i := y_596) (vp_of (a := y_596.toInt) rfl (by omega) (by omega)) dX10_joins__118 (fun H locs hP hD hS => ?_)
                      obtain ⟨n_597, m_598, o_599, hP, hD, wu_600⟩ := mW_Rx (by first | assumption | (unfold IR; omega)) hP hD
                      have u_600 := rU_v (x := (nn.toInt + 1)) (y := y_541.toInt) wu_600 (by first | assumption | (unfold IR; omega)) (by first | omega | decide) (by omega) rfl
                      have hP : va_P (dC, dI) vwCl (mW ad kc x0 x1 x2 x3 x4 x5 x6 x7 x8 x9 x10 x11 x12 x13 x14 x15 x16 x17 x18 x19 x20 x21 f0 f1 f2 f3 f4 f5 f6 f7 f8 f9 f10 f11 f12 f13 f14 f15 f16 f17 f18 f19 f20 f21 fL n_597 fP m_598 o_599) H := hP
                      have hD : va_D A (mW ad kc x0 x1 x2 x3 x4 x5 x6 x7 x8 x9 x10 x11 x12 x13 x14 x15 x16 x17 x18 x19 x20 x21 f0 f1 f2 f3 f4 f5 f6 f7 f8 f9 f10 f11 f12 f13 f14 f15 f16 f17 f18 f19 f20 f21 fL n_597 fP m_598 o_599) := hD
                      refine lv_goto (tgt := 8) hx hb dX10_joins__119 (by decide) ?_
                      exact ih8 y_592 y_595 y_596 n_597 m_598 o_599 (by first | omega | assumption | decide) (by first | omega | assumption | decide) (by first | omega | assumption | decide) (by first | omega | assumption | decide) (by first | omega | assumption | decide) (by first | omega | assumption | decide) (fun c h1 h2 => (u_600.2 c h1 h2).trans (v8_6 c h1 h2)) (by omega) _ _ ls hP hD hS (lv_sub hl [0, 1, 2, 4, 5, 6] rfl)
                    · have tk_594 := c_ngt (a := kk.toInt) (b := y_593.toInt) rfl rfl k_594
                      refine lv_aload_n hx hb dX10_joins__93 rfl (lv_at hl 5 rfl) ?_
                      refine lv_iload hx hb dX10_joins__94 (lv_at hl 3 rfl) ?_
                      refine va_iald hx hb hK hP (rPos (a2)) (rTy (a2)) (mW_R (by first | assumption | (unfold IR; omega))) (mT_R _) (i := kk) (vp_of (a := kk.toInt) rfl (by omega) (by omega)) dX10_joins__96 ?_
                      refine lv_topi (fun y_601 ey_601 => ?_)
                      have rg_y_601 := i_rng y_601
                      have vy_601 := vI_lda (f := (rO hn hm ho) a2) (i := kk) (a := kk.toInt) ey_601 (by first | omega | decide)
                      have wy_601 := vI_cg (z := kk.toInt) (v8_6 a2 q1 q4)
                      refine lv_iload hx hb dX10_joins__97 (lv_at hl 1 rfl) ?_
                      refine lv_icmp_ne (tgt := 106) hx hb dX10_joins__99 (by decide) (fun k_602 => ?_) (fun k_602 => ?_)
                      · have tk_602 := c_ne (a := y_601.toInt) (b := y_541.toInt) rfl rfl k_602
                        refine lv_iconst (v := 0) hx hb dX10_joins__106 (by decide) ?_
                        refine lv_iadd hx hb dX10_joins__107 ?_
                        refine lv_topi (fun y_603 ey_603 => ?_)
                        first | have ty_603 := i_add (a := kk.toInt) (b := 0) rfl (by decide) ey_603 (by omega) (by omega) | skip
                        refine lv_istore (lv' := [(4, .int y_603), (3, .int y_592), (6, .int y_541), (5, .int nn), (0, .ref (ad a1)), (1, .ref (ad a2)), (2, .ref (ad a3))]) hx hb dX10_joins__108 hl (by decide) rfl (fun ls hl => ?_)
                        obtain ⟨y_604, ey_604⟩ : ∃ y : Int32, y = nn + 1 := ⟨_, rfl⟩
                        first | have ty_604 := i_add (a := nn.toInt) (b := 1) rfl (by decide) ey_604 (by omega) (by omega) | skip
                        refine lv_iinc (v := y_604) (lv' := [(5, .int y_604), (4, .int y_603), (3, .int y_592), (6, .int y_541), (0, .ref (ad a1)), (1, .ref (ad a2)), (2, .ref (ad a3))]) hx hb dX10_joins__110 hl (k := 3) rfl (by rw [ey_604]; rfl) (by decide) rfl (fun ls hl => ?_)
                        refine lv_aload_n hx hb dX10_joins__113 rfl (lv_at hl 6 rfl) ?_
                        refine lv_iload hx hb dX10_joins__114 (lv_at hl 0 rfl) ?_
                        refine lv_iload hx hb dX10_joins__116 (lv_at hl 3 rfl) ?_
                        refine va_iast hx hb hK hP hD hS (rPos (a3)) (rTy (a3)) (mW_R (by first | assumption | (unfold IR; omega))) (mT_R _) (i := y_604) (vp_of (a := y_604.toInt) rfl (by omega) (by omega)) dX10_joins__118 (fun H locs hP hD hS => ?_)
                        obtain ⟨n_605, m_606, o_607, hP, hD, wu_608⟩ := mW_Rx (by first | assumption | (unfold IR; omega)) hP hD
                        have u_608 := rU_v (x := (nn.toInt + 1)) (y := y_541.toInt) wu_608 (by first | assumption | (unfold IR; omega)) (by first | omega | decide) (by omega) rfl
                        have hP : va_P (dC, dI) vwCl (mW ad kc x0 x1 x2 x3 x4 x5 x6 x7 x8 x9 x10 x11 x12 x13 x14 x15 x16 x17 x18 x19 x20 x21 f0 f1 f2 f3 f4 f5 f6 f7 f8 f9 f10 f11 f12 f13 f14 f15 f16 f17 f18 f19 f20 f21 fL n_605 fP m_606 o_607) H := hP
                        have hD : va_D A (mW ad kc x0 x1 x2 x3 x4 x5 x6 x7 x8 x9 x10 x11 x12 x13 x14 x15 x16 x17 x18 x19 x20 x21 f0 f1 f2 f3 f4 f5 f6 f7 f8 f9 f10 f11 f12 f13 f14 f15 f16 f17 f18 f19 f20 f21 fL n_605 fP m_606 o_607) := hD
                        refine lv_goto (tgt := 8) hx hb dX10_joins__119 (by decide) ?_
                        exact ih8 y_592 y_603 y_604 n_605 m_606 o_607 (by first | omega | assumption | decide) (by first | omega | assumption | decide) (by first | omega | assumption | decide) (by first | omega | assumption | decide) (by first | omega | assumption | decide) (by first | omega | assumption | decide) (fun c h1 h2 => (u_608.2 c h1 h2).trans (v8_6 c h1 h2)) (by omega) _ _ ls hP hD hS (lv_sub hl [0, 1, 2, 4, 5, 6] rfl)
                      · have tk_602 := c_eq (a := y_601.toInt) (b := y_541.toInt) rfl rfl k_602
                        refine lv_iconst (v := 1) hx hb dX10_joins__102 (by decide) ?_
                        refine lv_goto (tgt := 107) hx hb dX10_joins__103 (by decide) ?_
                        refine lv_iadd hx hb dX10_joins__107 ?_
                        refine lv_topi (fun y_609 ey_609 => ?_)
                        first | have ty_609 := i_add (a := kk.toInt) (b := 1) rfl (by decide) ey_609 (by omega) (by omega) | skip
                        refine lv_istore (lv' := [(4, .int y_609), (3, .int y_592), (6, .int y_541), (5, .int nn), (0, .ref (ad a1)), (1, .ref (ad a2)), (2, .ref (ad a3))]) hx hb dX10_joins__108 hl (by decide) rfl (fun ls hl => ?_)
                        obtain ⟨y_610, ey_610⟩ : ∃ y : Int32, y = nn + 1 := ⟨_, rfl⟩
                        first | have ty_610 := i_add (a := nn.toInt) (b := 1) rfl (by decide) ey_610 (by omega) (by omega) | skip
                        refine lv_iinc (v := y_610) (lv' := [(5, .int y_610), (4, .int y_609), (3, .int y_592), (6, .int y_541), (0, .ref (ad a1)), (1, .ref (ad a2)), (2, .ref (ad a3))]) hx hb dX10_joins__110 hl (k := 3) rfl (by rw [ey_610]; rfl) (by decide) rfl (fun ls hl => ?_)
                        refine lv_aload_n hx hb dX10_joins__113 rfl (lv_at hl 6 rfl) ?_
                        refine lv_iload hx hb dX10_joins__114 (lv_at hl 0 rfl) ?_
                        refine lv_iload hx hb dX10_joins__116 (lv_at hl 3 rfl) ?_
                        refine va_iast hx hb hK hP hD hS (rPos (a3)) (rTy (a3)) (mW_R (by first | assumption | (unfold IR; omega))) (mT_R _) (i := y_610) (vp_of (a := y_610.toInt) rfl (by omega) (by omega)) dX10_joins__118 (fun H locs hP hD hS => ?_)
                        obtain ⟨n_611, m_612, o_613, hP, hD, wu_614⟩ := mW_Rx (by first | assumption | (unfold IR; omega)) hP hD
                        have u_614 := rU_v (x := (nn.toInt + 1)) (y := y_541.toInt) wu_614 (by first | assumption | (unfold IR; omega)) (by first | omega | decide) (by omega) rfl
                        have hP : va_P (dC, dI) vwCl (mW ad kc x0 x1 x2 x3 x4 x5 x6 x7 x8 x9 x10 x11 x12 x13 x14 x15 x16 x17 x18 x19 x20 x21 f0 f1 f2 f3 f4 f5 f6 f7 f8 f9 f10 f11 f12 f13 f14 f15 f16 f17 f18 f19 f20 f21 fL n_611 fP m_612 o_613) H := hP
                        have hD : va_D A (mW ad kc x0 x1 x2 x3 x4 x5 x6 x7 x8 x9 x10 x11 x12 x13 x14 x15 x16 x17 x18 x19 x20 x21 f0 f1 f2 f3 f4 f5 f6 f7 f8 f9 f10 f11 f12 f13 f14 f15 f16 f17 f18 f19 f20 f21 fL n_611 fP m_612 o_613) := hD
                        refine lv_goto (tgt := 8) hx hb dX10_joins__119 (by decide) ?_
                        exact ih8 y_592 y_609 y_610 n_611 m_612 o_613 (by first | omega | assumption | decide) (by first | omega | assumption | decide) (by first | omega | assumption | decide) (by first | omega | assumption | decide) (by first | omega | assumption | decide) (by first | omega | assumption | decide) (fun c h1 h2 => (u_614.2 c h1 h2).trans (v8_6 c h1 h2)) (by omega) _ _ ls hP hD hS (lv_sub hl [0, 1, 2, 4, 5, 6] rfl)
  have lit_614 : (1 : Int32).toInt = 1 := by decide
  have lit_615 : (1 : Int32).toInt = 1 := by decide
  have lit_616 : (0 : Int32).toInt = 0 := by decide
  exact loop8 _ 1 1 0 fN fM fO (by first | omega | assumption | decide) (by first | omega | assumption | decide) (by first | omega | assumption | decide) (by first | omega | assumption | decide) (by first | omega | assumption | decide) (by first | omega | assumption | decide) (fun _ _ _ => rfl) (Nat.lt_succ_self _) _ _ ls hP hD hS (lv_sub hl [0, 1, 2, 3, 4, 5] rfl)
theorem dX10_adds_0 : decode cX10_adds 0 = .ok (.aload_n 0, 1) := by decide +kernel
theorem dX10_adds_1 : decode cX10_adds 1 = .ok (.iconst 0, 1) := by decide +kernel
theorem dX10_adds_2 : decode cX10_adds 2 = .ok (.iaload, 1) := by decide +kernel
theorem dX10_adds_3 : decode cX10_adds 3 = .ok (.istore_n 2, 1) := by decide +kernel
theorem dX10_adds_4 : decode cX10_adds 4 = .ok (.iload_n 2, 1) := by decide +kernel
theorem dX10_adds_5 : decode cX10_adds 5 = .ok (.ifCond .le 16, 3) := by decide +kernel
theorem dX10_adds_8 : decode cX10_adds 8 = .ok (.aload_n 0, 1) := by decide +kernel
theorem dX10_adds_9 : decode cX10_adds 9 = .ok (.iload_n 2, 1) := by decide +kernel
theorem dX10_adds_10 : decode cX10_adds 10 = .ok (.iaload, 1) := by decide +kernel
theorem dX10_adds_11 : decode cX10_adds 11 = .ok (.iload_n 1, 1) := by decide +kernel
theorem dX10_adds_12 : decode cX10_adds 12 = .ok (.if_icmp .le 9, 3) := by decide +kernel
theorem dX10_adds_15 : decode cX10_adds 15 = .ok (.iinc 2 (-1), 3) := by decide +kernel
theorem dX10_adds_18 : decode cX10_adds 18 = .ok (.goto (-14), 3) := by decide +kernel
theorem dX10_adds_21 : decode cX10_adds 21 = .ok (.iload_n 2, 1) := by decide +kernel
theorem dX10_adds_22 : decode cX10_adds 22 = .ok (.ifCond .le 11, 3) := by decide +kernel
theorem dX10_adds_25 : decode cX10_adds 25 = .ok (.aload_n 0, 1) := by decide +kernel
theorem dX10_adds_26 : decode cX10_adds 26 = .ok (.iload_n 2, 1) := by decide +kernel
theorem dX10_adds_27 : decode cX10_adds 27 = .ok (.iaload, 1) := by decide +kernel
theorem dX10_adds_28 : decode cX10_adds 28 = .ok (.iload_n 1, 1) := by decide +kernel
theorem dX10_adds_29 : decode cX10_adds 29 = .ok (.if_icmp .ne 4, 3) := by decide +kernel
theorem dX10_adds_32 : decode cX10_adds 32 = .ok (.return_, 1) := by decide +kernel
theorem dX10_adds_33 : decode cX10_adds 33 = .ok (.aload_n 0, 1) := by decide +kernel
theorem dX10_adds_34 : decode cX10_adds 34 = .ok (.iconst 0, 1) := by decide +kernel
theorem dX10_adds_35 : decode cX10_adds 35 = .ok (.iaload, 1) := by decide +kernel
theorem dX10_adds_36 : decode cX10_adds 36 = .ok (.istore_n 3, 1) := by decide +kernel
theorem dX10_adds_37 : decode cX10_adds 37 = .ok (.iload_n 3, 1) := by decide +kernel
theorem dX10_adds_38 : decode cX10_adds 38 = .ok (.iload_n 2, 1) := by decide +kernel
theorem dX10_adds_39 : decode cX10_adds 39 = .ok (.if_icmp .le 17, 3) := by decide +kernel
theorem dX10_adds_42 : decode cX10_adds 42 = .ok (.aload_n 0, 1) := by decide +kernel
theorem dX10_adds_43 : decode cX10_adds 43 = .ok (.iload_n 3, 1) := by decide +kernel
theorem dX10_adds_44 : decode cX10_adds 44 = .ok (.iconst 1, 1) := by decide +kernel
theorem dX10_adds_45 : decode cX10_adds 45 = .ok (.iadd, 1) := by decide +kernel
theorem dX10_adds_46 : decode cX10_adds 46 = .ok (.aload_n 0, 1) := by decide +kernel
theorem dX10_adds_47 : decode cX10_adds 47 = .ok (.iload_n 3, 1) := by decide +kernel
theorem dX10_adds_48 : decode cX10_adds 48 = .ok (.iaload, 1) := by decide +kernel
theorem dX10_adds_49 : decode cX10_adds 49 = .ok (.iastore, 1) := by decide +kernel
theorem dX10_adds_50 : decode cX10_adds 50 = .ok (.iinc 3 (-1), 3) := by decide +kernel
theorem dX10_adds_53 : decode cX10_adds 53 = .ok (.goto (-16), 3) := by decide +kernel
theorem dX10_adds_56 : decode cX10_adds 56 = .ok (.aload_n 0, 1) := by decide +kernel
theorem dX10_adds_57 : decode cX10_adds 57 = .ok (.iload_n 2, 1) := by decide +kernel
theorem dX10_adds_58 : decode cX10_adds 58 = .ok (.iconst 1, 1) := by decide +kernel
theorem dX10_adds_59 : decode cX10_adds 59 = .ok (.iadd, 1) := by decide +kernel
theorem dX10_adds_60 : decode cX10_adds 60 = .ok (.iload_n 1, 1) := by decide +kernel
theorem dX10_adds_61 : decode cX10_adds 61 = .ok (.iastore, 1) := by decide +kernel
theorem dX10_adds_62 : decode cX10_adds 62 = .ok (.aload_n 0, 1) := by decide +kernel
theorem dX10_adds_63 : decode cX10_adds 63 = .ok (.iconst 0, 1) := by decide +kernel
theorem dX10_adds_64 : decode cX10_adds 64 = .ok (.dup2, 1) := by decide +kernel
theorem dX10_adds_65 : decode cX10_adds 65 = .ok (.iaload, 1) := by decide +kernel
theorem dX10_adds_66 : decode cX10_adds 66 = .ok (.iconst 1, 1) := by decide +kernel
theorem dX10_adds_67 : decode cX10_adds 67 = .ok (.iadd, 1) := by decide +kernel
theorem dX10_adds_68 : decode cX10_adds 68 = .ok (.iastore, 1) := by decide +kernel
theorem dX10_adds_69 : decode cX10_adds 69 = .ok (.return_, 1) := by decide +kernel
def mwX10_addsm : List Cond := .code yX10_adds cX10_adds 4 none :: ([])
set_option maxHeartbeats 4000000 in
set_option maxRecDepth 100000 in
theorem m_adds (l : Launch) (dC : Nat → ClassId) (dI : Nat → Nat → Nat) (ad : Nat → Nat) (kc : Nat → ClassId) (x0 x1 x2 x3 x4 x5 x6 x7 x8 x9 x10 x11 x12 x13 x14 x15 x16 x17 x18 x19 x20 x21 : Int32) (f0 f1 f2 f3 f4 f5 f6 f7 f8 f9 f10 f11 f12 f13 f14 f15 f16 f17 f18 f19 f20 f21 : Nat → Int32) (fL : Nat → Nat → Int64) (fN : Nat → Nat → Int32) (fP : Nat → Nat → Nat) (fM : Nat → Nat → Int32) (fO : Nat → Nat → Int32) (sz : Nat) (i2 : Int32) (a1 : Nat) (q0 : IR a1) (q1 : 0 ≤ vI ((rO fN fM fO) a1) 0 ∧ vI ((rO fN fM fO) a1) 0 ≤ 160) : Met l yX10_adds mwX10_addsm ({ frames := 0, cells := 0, slots := 0, locals := 0 }) (va_Pc [.ref (ad a1), .int i2] (fun U => U.heap.size = sz ∧ va_P (dC, dI) vwCl (mW ad kc x0 x1 x2 x3 x4 x5 x6 x7 x8 x9 x10 x11 x12 x13 x14 x15 x16 x17 x18 x19 x20 x21 f0 f1 f2 f3 f4 f5 f6 f7 f8 f9 f10 f11 f12 f13 f14 f15 f16 f17 f18 f19 f20 f21 fL fN fP fM fO) U.heap ∧ va_K (dC, dI) vwCl (mT kc) U ∧ va_D (fun _ => True) (mW ad kc x0 x1 x2 x3 x4 x5 x6 x7 x8 x9 x10 x11 x12 x13 x14 x15 x16 x17 x18 x19 x20 x21 f0 f1 f2 f3 f4 f5 f6 f7 f8 f9 f10 f11 f12 f13 f14 f15 f16 f17 f18 f19 f20 f21 fL fN fP fM fO))) (va_Qv (fun (_ : Unit) => True) (fun _ t => ∃ (Nn9 : Nat → Nat → Int32) (M9 : Nat → Nat → Int32) (O9 : Nat → Nat → Int32), (rFr (rO fN fM fO) (rO Nn9 M9 O9) a1) ∧ (vI ((rO fN fM fO) a1) 0 ≤ vI ((rO Nn9 M9 O9) a1) 0 ∧ vI ((rO Nn9 M9 O9) a1) 0 ≤ vI ((rO fN fM fO) a1) 0 + 1) ∧ va_P (dC, dI) vwCl (mW ad kc x0 x1 x2 x3 x4 x5 x6 x7 x8 x9 x10 x11 x12 x13 x14 x15 x16 x17 x18 x19 x20 x21 f0 f1 f2 f3 f4 f5 f6 f7 f8 f9 f10 f11 f12 f13 f14 f15 f16 f17 f18 f19 f20 f21 fL Nn9 fP M9 O9) t.heap ∧ va_K (dC, dI) vwCl (mT kc) t ∧ va_D (va_A (mW ad kc x0 x1 x2 x3 x4 x5 x6 x7 x8 x9 x10 x11 x12 x13 x14 x15 x16 x17 x18 x19 x20 x21 f0 f1 f2 f3 f4 f5 f6 f7 f8 f9 f10 f11 f12 f13 f14 f15 f16 f17 f18 f19 f20 f21 fL fN fP fM fO) sz) (mW ad kc x0 x1 x2 x3 x4 x5 x6 x7 x8 x9 x10 x11 x12 x13 x14 x15 x16 x17 x18 x19 x20 x21 f0 f1 f2 f3 f4 f5 f6 f7 f8 f9 f10 f11 f12 f13 f14 f15 f16 f17 f18 f19 f20 f21 fL Nn9 fP M9 O9)) (va_A (mW ad kc x0 x1 x2 x3 x4 x5 x6 x7 x8 x9 x10 x11 x12 x13 x14 x15 x16 x17 x18 x19 x20 x21 f0 f1 f2 f3 f4 f5 f6 f7 f8 f9 f10 f11 f12 f13 f14 f15 f16 f17 f18 f19 f20 f21 fL fN fP fM fO) sz)) 0 0 (va_A (mW ad kc x0 x1 x2 x3 x4 x5 x6 x7 x8 x9 x10 x11 x12 x13 x14 x15 x16 x17 x18 x19 x20 x21 f0 f1 f2 f3 f4 f5 f6 f7 f8 f9 f10 f11 f12 f13 f14 f15 f16 f17 f18 f19 f20 f21 fL fN fP fM fO) sz) := by
  refine Met.ofW (cc := cX10_adds) (maxL := 4) (ret := none) (by decide +kernel) rfl ?_
  intro p e s m args below meth c s₁ B hml hv
  obtain ⟨rfl, hsz, hP, hK, hD0⟩ := hv
  have hx := B.exec
  have hb := B.bytes
  have hr := B.returns
  have hts := atoms_spec (ws := mwX10_addsm) B.pre
  have hown : s.vm.findClass RX10 = some m.cls := findClass_of_methodNamed B.named
  have hlocks := B.notSynchronized
  subst hsz
  have hD := hD0.self (sz := s.heap.size)
  generalize hAe : va_A (mW ad kc x0 x1 x2 x3 x4 x5 x6 x7 x8 x9 x10 x11 x12 x13 x14 x15 x16 x17 x18 x19 x20 x21 f0 f1 f2 f3 f4 f5 f6 f7 f8 f9 f10 f11 f12 f13 f14 f15 f16 f17 f18 f19 f20 f21 fL fN fP fM fO) s.heap.size = A at hD ⊢
  have hA : ∀ q : Nat, s.heap.size ≤ q → A q := fun q h => by rw [← hAe]; exact Or.inr h
  have hP : va_P (dC, dI) vwCl (mW ad kc x0 x1 x2 x3 x4 x5 x6 x7 x8 x9 x10 x11 x12 x13 x14 x15 x16 x17 x18 x19 x20 x21 f0 f1 f2 f3 f4 f5 f6 f7 f8 f9 f10 f11 f12 f13 f14 f15 f16 f17 f18 f19 f20 f21 fL fN fP fM fO) s.heap := hP
  have hD : va_D A (mW ad kc x0 x1 x2 x3 x4 x5 x6 x7 x8 x9 x10 x11 x12 x13 x14 x15 x16 x17 x18 x19 x20 x21 f0 f1 f2 f3 f4 f5 f6 f7 f8 f9 f10 f11 f12 f13 f14 f15 f16 f17 f18 f19 f20 f21 fL fN fP fM fO) := hD
  have hK : va_K (dC, dI) vwCl (mT kc) s := hK
  generalize hH : s.heap = H at hP ⊢
  have hS : va_S A s.heap H [] := by rw [← hH]; exact va_S.rf
  have hl := lv_entry ([.ref (ad a1), .int i2]) (n := 4) (Nat.le_of_ble_eq_true rfl)
  rw [lg_entry_eq]
  generalize (lg_sl ([.ref (ad a1), .int i2]) ++ List.replicate (4 - (lg_sl ([.ref (ad a1), .int i2])).length) Slot.unset).toArray = ls at hl ⊢
  have hl : lv_has ls 4 [(0, .ref (ad a1)), (1, .int i2)] := hl
  have rg_i2 := i_rng i2
  refine lv_aload_n hx hb dX10_adds_0 rfl (lv_at hl 0 rfl) ?_
  refine lv_iconst (v := 0) hx hb dX10_adds_1 (by decide) ?_
  refine va_iald hx hb hK hP (rPos (a1)) (rTy (a1)) (mW_R (by first | assumption | (unfold IR; omega))) (mT_R _) (i := 0) (by unfold vp_in; decide +kernel) dX10_adds_2 ?_
  refine lv_topi (fun y_1 ey_1 => ?_)
  have rg_y_1 := i_rng y_1
  have vy_1 := vI_lda (f := (rO fN fM fO) a1) (i := 0) (a := 0) ey_1 (by first | omega | decide)
  refine lv_istore_n (lv' := [(2, .int y_1), (0, .ref (ad a1)), (1, .int i2)]) hx hb dX10_adds_3 rfl hl (by decide) rfl (fun ls hl => ?_)
  have loop4 : ∀ (lm4 : Nat) (kk : Int32), (0 ≤ kk.toInt) → (kk.toInt ≤ vI ((rO fN fM fO) a1) 0) → kk.toInt.toNat < lm4 → ∀ (H : Heap) (locs : List Loc) (ls : Array Slot), va_P (dC, dI) vwCl (mW ad kc x0 x1 x2 x3 x4 x5 x6 x7 x8 x9 x10 x11 x12 x13 x14 x15 x16 x17 x18 x19 x20 x21 f0 f1 f2 f3 f4 f5 f6 f7 f8 f9 f10 f11 f12 f13 f14 f15 f16 f17 f18 f19 f20 f21 fL fN fP fM fO) H → va_D A (mW ad kc x0 x1 x2 x3 x4 x5 x6 x7 x8 x9 x10 x11 x12 x13 x14 x15 x16 x17 x18 x19 x20 x21 f0 f1 f2 f3 f4 f5 f6 f7 f8 f9 f10 f11 f12 f13 f14 f15 f16 f17 f18 f19 f20 f21 fL fN fP fM fO) → va_S A s.heap H locs → lv_has ls 4 [(2, .int kk), (0, .ref (ad a1)), (1, .int i2)] → W p l e (headSpec mwX10_addsm ({ frames := 0, cells := 0, slots := 0, locals := 0 })).room s m ([.ref (ad a1), .int i2]).toArray below meth c H locs 0 0 (MQ below (va_Qv (fun (_ : Unit) => True) (fun _ t => ∃ (Nn9 : Nat → Nat → Int32) (M9 : Nat → Nat → Int32) (O9 : Nat → Nat → Int32), (rFr (rO fN fM fO) (rO Nn9 M9 O9) a1) ∧ (vI ((rO fN fM fO) a1) 0 ≤ vI ((rO Nn9 M9 O9) a1) 0 ∧ vI ((rO Nn9 M9 O9) a1) 0 ≤ vI ((rO fN fM fO) a1) 0 + 1) ∧ va_P (dC, dI) vwCl (mW ad kc x0 x1 x2 x3 x4 x5 x6 x7 x8 x9 x10 x11 x12 x13 x14 x15 x16 x17 x18 x19 x20 x21 f0 f1 f2 f3 f4 f5 f6 f7 f8 f9 f10 f11 f12 f13 f14 f15 f16 f17 f18 f19 f20 f21 fL Nn9 fP M9 O9) t.heap ∧ va_K (dC, dI) vwCl (mT kc) t ∧ va_D A (mW ad kc x0 x1 x2 x3 x4 x5 x6 x7 x8 x9 x10 x11 x12 x13 x14 x15 x16 x17 x18 x19 x20 x21 f0 f1 f2 f3 f4 f5 f6 f7 f8 f9 f10 f11 f12 f13 f14 f15 f16 f17 f18 f19 f20 f21 fL Nn9 fP M9 O9)) A) ([.ref (ad a1), .int i2]).toArray s 0 0 A) (F0 m 4 ls []) := by
    intro lm4
    induction lm4 with
    | zero => intro kk v4_0 v4_1 hm4; exact absurd hm4 (Nat.not_lt_zero _)
    | succ lm4 ih4 =>
      intro kk v4_0 v4_1 hm4 H locs ls hP hD hS hl
      have rg_kk := i_rng kk
      refine lv_iload_n hx hb dX10_adds_4 rfl (lv_at hl 0 rfl) ?_
      refine lv_if_le (tgt := 21) hx hb dX10_adds_5 (by decide) (fun k_2 => ?_) (fun k_2 => ?_)
      · have tk_2 := c_le (a := kk.toInt) (b := 0) rfl (by decide) k_2
        refine lv_iload_n hx hb dX10_adds_21 rfl (lv_at hl 0 rfl) ?_
        refine lv_if_le (tgt := 33) hx hb dX10_adds_22 (by decide) (fun k_3 => ?_) (fun k_3 => ?_)
        · have tk_3 := c_le (a := kk.toInt) (b := 0) rfl (by decide) k_3
          refine lv_aload_n hx hb dX10_adds_33 rfl (lv_at hl 1 rfl) ?_
          refine lv_iconst (v := 0) hx hb dX10_adds_34 (by decide) ?_
          refine va_iald hx hb hK hP (rPos (a1)) (rTy (a1)) (mW_R (by first | assumption | (unfold IR; omega))) (mT_R _) (i := 0) (by unfold vp_in; decide +kernel) dX10_adds_35 ?_
          refine lv_topi (fun y_4 ey_4 => ?_)
          have rg_y_4 := i_rng y_4
          have vy_4 := vI_lda (f := (rO fN fM fO) a1) (i := 0) (a := 0) ey_4 (by first | omega | decide)
          refine lv_istore_n (lv' := [(3, .int y_4), (2, .int kk), (0, .ref (ad a1)), (1, .int i2)]) hx hb dX10_adds_36 rfl hl (by decide) rfl (fun ls hl => ?_)
          have loop37 : ∀ (lm37 : Nat) (ii : Int32) (hn : Nat → Nat → Int32) (hm : Nat → Nat → Int32) (ho : Nat → Nat → Int32), (kk.toInt ≤ ii.toInt) → (ii.toInt ≤ vI ((rO fN fM fO) a1) 0) → (rFr (rO fN fM fO) (rO hn hm ho) a1) → (vI ((rO hn hm ho) a1) 0 = vI ((rO fN fM fO) a1) 0) → ii.toInt.toNat < lm37 → ∀ (H : Heap) (locs : List Loc) (ls : Array Slot), va_P (dC, dI) vwCl (mW ad kc x0 x1 x2 x3 x4 x5 x6 x7 x8 x9 x10 x11 x12 x13 x14 x15 x16 x17 x18 x19 x20 x21 f0 f1 f2 f3 f4 f5 f6 f7 f8 f9 f10 f11 f12 f13 f14 f15 f16 f17 f18 f19 f20 f21 fL hn fP hm ho) H → va_D A (mW ad kc x0 x1 x2 x3 x4 x5 x6 x7 x8 x9 x10 x11 x12 x13 x14 x15 x16 x17 x18 x19 x20 x21 f0 f1 f2 f3 f4 f5 f6 f7 f8 f9 f10 f11 f12 f13 f14 f15 f16 f17 f18 f19 f20 f21 fL hn fP hm ho) → va_S A s.heap H locs → lv_has ls 4 [(3, .int ii), (2, .int kk), (0, .ref (ad a1)), (1, .int i2)] → W p l e (headSpec mwX10_addsm ({ frames := 0, cells := 0, slots := 0, locals := 0 })).room s m ([.ref (ad a1), .int i2]).toArray below meth c H locs 0 0 (MQ below (va_Qv (fun (_ : Unit) => True) (fun _ t => ∃ (Nn9 : Nat → Nat → Int32) (M9 : Nat → Nat → Int32) (O9 : Nat → Nat → Int32), (rFr (rO fN fM fO) (rO Nn9 M9 O9) a1) ∧ (vI ((rO fN fM fO) a1) 0 ≤ vI ((rO Nn9 M9 O9) a1) 0 ∧ vI ((rO Nn9 M9 O9) a1) 0 ≤ vI ((rO fN fM fO) a1) 0 + 1) ∧ va_P (dC, dI) vwCl (mW ad kc x0 x1 x2 x3 x4 x5 x6 x7 x8 x9 x10 x11 x12 x13 x14 x15 x16 x17 x18 x19 x20 x21 f0 f1 f2 f3 f4 f5 f6 f7 f8 f9 f10 f11 f12 f13 f14 f15 f16 f17 f18 f19 f20 f21 fL Nn9 fP M9 O9) t.heap ∧ va_K (dC, dI) vwCl (mT kc) t ∧ va_D A (mW ad kc x0 x1 x2 x3 x4 x5 x6 x7 x8 x9 x10 x11 x12 x13 x14 x15 x16 x17 x18 x19 x20 x21 f0 f1 f2 f3 f4 f5 f6 f7 f8 f9 f10 f11 f12 f13 f14 f15 f16 f17 f18 f19 f20 f21 fL Nn9 fP M9 O9)) A) ([.ref (ad a1), .int i2]).toArray s 0 0 A) (F0 m 37 ls []) := by
            intro lm37
            induction lm37 with
            | zero => intro ii hn hm ho v37_0 v37_1 v37_2 v37_3 hm37; exact absurd hm37 (Nat.not_lt_zero _)
            | succ lm37 ih37 =>
              intro ii hn hm ho v37_0 v37_1 v37_2 v37_3 hm37 H locs ls hP hD hS hl
              have rg_ii := i_rng ii
              refine lv_iload_n hx hb dX10_adds_37 rfl (lv_at hl 0 rfl) ?_
              refine lv_iload_n hx hb dX10_adds_38 rfl (lv_at hl 1 rfl) ?_
              refine lv_icmp_le (tgt := 56) hx hb dX10_adds_39 (by decide) (fun k_5 => ?_) (fun k_5 => ?_)
              · have tk_5 := c_le (a := ii.toInt) (b := kk.toInt) rfl rfl k_5
                refine lv_aload_n hx hb dX10_adds_56 rfl (lv_at hl 2 rfl) ?_
                refine lv_iload_n hx hb dX10_adds_57 rfl (lv_at hl 1 rfl) ?_
                refine lv_iconst (v := 1) hx hb dX10_adds_58 (by decide) ?_
                refine lv_iadd hx hb dX10_adds_59 ?_
                refine lv_topi (fun y_6 ey_6 => ?_)
                first | have ty_6 := i_add (a := kk.toInt) (b := 1) rfl (by decide) ey_6 (by omega) (by omega) | skip
                refine lv_iload_n hx hb dX10_adds_60 rfl (lv_at hl 3 rfl) ?_
                refine va_iast hx hb hK hP hD hS (rPos (a1)) (rTy (a1)) (mW_R (by first | assumption | (unfold IR; omega))) (mT_R _) (i := y_6) (vp_of (a := y_6.toInt) rfl (by omega) (by omega)) dX10_adds_61 (fun H locs hP hD hS => ?_)
                obtain ⟨n_7, m_8, o_9, hP, hD, wu_10⟩ := mW_Rx (by first | assumption | (unfold IR; omega)) hP hD
                have u_10 := rU_v (x := (kk.toInt + 1)) (y := i2.toInt) wu_10 (by first | assumption | (unfold IR; omega)) (by first | omega | decide) (by omega) rfl
                have hP : va_P (dC, dI) vwCl (mW ad kc x0 x1 x2 x3 x4 x5 x6 x7 x8 x9 x10 x11 x12 x13 x14 x15 x16 x17 x18 x19 x20 x21 f0 f1 f2 f3 f4 f5 f6 f7 f8 f9 f10 f11 f12 f13 f14 f15 f16 f17 f18 f19 f20 f21 fL n_7 fP m_8 o_9) H := hP
                have hD : va_D A (mW ad kc x0 x1 x2 x3 x4 x5 x6 x7 x8 x9 x10 x11 x12 x13 x14 x15 x16 x17 x18 x19 x20 x21 f0 f1 f2 f3 f4 f5 f6 f7 f8 f9 f10 f11 f12 f13 f14 f15 f16 f17 f18 f19 f20 f21 fL n_7 fP m_8 o_9) := hD
                refine lv_aload_n hx hb dX10_adds_62 rfl (lv_at hl 2 rfl) ?_
                refine lv_iconst (v := 0) hx hb dX10_adds_63 (by decide) ?_
                refine lv_dup2_11 hx hb dX10_adds_64 rfl rfl ?_
                refine va_iald hx hb hK hP (rPos (a1)) (rTy (a1)) (mW_R (by first | assumption | (unfold IR; omega))) (mT_R _) (i := 0) (by unfold vp_in; decide +kernel) dX10_adds_65 ?_
                refine lv_topi (fun y_11 ey_11 => ?_)
                have rg_y_11 := i_rng y_11
                have vy_11 := vI_lda (f := (rO n_7 m_8 o_9) a1) (i := 0) (a := 0) ey_11 (by first | omega | decide)
                have wy_11 := (u_10.1.2 0 (by omega) (by omega)).trans v37_3
                refine lv_iconst (v := 1) hx hb dX10_adds_66 (by decide) ?_
                refine lv_iadd hx hb dX10_adds_67 ?_
                refine lv_topi (fun y_12 ey_12 => ?_)
                first | have ty_12 := i_add (a := y_11.toInt) (b := 1) rfl (by decide) ey_12 (by omega) (by omega) | skip
                refine va_iast hx hb hK hP hD hS (rPos (a1)) (rTy (a1)) (mW_R (by first | assumption | (unfold IR; omega))) (mT_R _) (i := 0) (by unfold vp_in; decide +kernel) dX10_adds_68 (fun H locs hP hD hS => ?_)
                obtain ⟨n_13, m_14, o_15, hP, hD, wu_16⟩ := mW_Rx (by first | assumption | (unfold IR; omega)) hP hD
                have u_16 := rU_v (x := 0) (y := y_12.toInt) wu_16 (by first | assumption | (unfold IR; omega)) (by first | omega | decide) (by omega) rfl
                have hP : va_P (dC, dI) vwCl (mW ad kc x0 x1 x2 x3 x4 x5 x6 x7 x8 x9 x10 x11 x12 x13 x14 x15 x16 x17 x18 x19 x20 x21 f0 f1 f2 f3 f4 f5 f6 f7 f8 f9 f10 f11 f12 f13 f14 f15 f16 f17 f18 f19 f20 f21 fL n_13 fP m_14 o_15) H := hP
                have hD : va_D A (mW ad kc x0 x1 x2 x3 x4 x5 x6 x7 x8 x9 x10 x11 x12 x13 x14 x15 x16 x17 x18 x19 x20 x21 f0 f1 f2 f3 f4 f5 f6 f7 f8 f9 f10 f11 f12 f13 f14 f15 f16 f17 f18 f19 f20 f21 fL n_13 fP m_14 o_15) := hD
                exact W.vret hx hb hr (fun t ht hW => ⟨⟨(), rfl, trivial, n_13, m_14, o_15, (fun c h1 h2 => ((u_16.2 c h1 h2).trans (u_10.2 c h1 h2)).trans (v37_2 c h1 h2)), (by have h9 := u_16.1.1; have h8 := u_10.1.2 0 (by omega) (by omega); omega), by rw [ht]; exact hP, va_K.moved hW.alike hK, hD⟩, hS.F ht⟩) hS.2.2 dX10_adds_69
              · have tk_5 := c_nle (a := ii.toInt) (b := kk.toInt) rfl rfl k_5
                refine lv_aload_n hx hb dX10_adds_42 rfl (lv_at hl 2 rfl) ?_
                refine lv_iload_n hx hb dX10_adds_43 rfl (lv_at hl 0 rfl) ?_
                refine lv_iconst (v := 1) hx hb dX10_adds_44 (by decide) ?_
                refine lv_iadd hx hb dX10_adds_45 ?_
                refine lv_topi (fun y_17 ey_17 => ?_)
                first | have ty_17 := i_add (a := ii.toInt) (b := 1) rfl (by decide) ey_17 (by omega) (by omega) | skip
                refine lv_aload_n hx hb dX10_adds_46 rfl (lv_at hl 2 rfl) ?_
                refine lv_iload_n hx hb dX10_adds_47 rfl (lv_at hl 0 rfl) ?_
                refine va_iald hx hb hK hP (rPos (a1)) (rTy (a1)) (mW_R (by first | assumption | (unfold IR; omega))) (mT_R _) (i := ii) (vp_of (a := ii.toInt) rfl (by omega) (by omega)) dX10_adds_48 ?_
                refine lv_topi (fun y_18 ey_18 => ?_)
                have rg_y_18 := i_rng y_18
                have vy_18 := vI_lda (f := (rO hn hm ho) a1) (i := ii) (a := ii.toInt) ey_18 (by first | omega | decide)
                refine va_iast hx hb hK hP hD hS (rPos (a1)) (rTy (a1)) (mW_R (by first | assumption | (unfold IR; omega))) (mT_R _) (i := y_17) (vp_of (a := y_17.toInt) rfl (by omega) (by omega)) dX10_adds_49 (fun H locs hP hD hS => ?_)
                obtain ⟨n_19, m_20, o_21, hP, hD, wu_22⟩ := mW_Rx (by first | assumption | (unfold IR; omega)) hP hD
                have u_22 := rU_v (x := (ii.toInt + 1)) (y := y_18.toInt) wu_22 (by first | assumption | (unfold IR; omega)) (by first | omega | decide) (by omega) rfl
                have hP : va_P (dC, dI) vwCl (mW ad kc x0 x1 x2 x3 x4 x5 x6 x7 x8 x9 x10 x11 x12 x13 x14 x15 x16 x17 x18 x19 x20 x21 f0 f1 f2 f3 f4 f5 f6 f7 f8 f9 f10 f11 f12 f13 f14 f15 f16 f17 f18 f19 f20 f21 fL n_19 fP m_20 o_21) H := hP
                have hD : va_D A (mW ad kc x0 x1 x2 x3 x4 x5 x6 x7 x8 x9 x10 x11 x12 x13 x14 x15 x16 x17 x18 x19 x20 x21 f0 f1 f2 f3 f4 f5 f6 f7 f8 f9 f10 f11 f12 f13 f14 f15 f16 f17 f18 f19 f20 f21 fL n_19 fP m_20 o_21) := hD
                obtain ⟨y_23, ey_23⟩ : ∃ y : Int32, y = ii + (-1) := ⟨_, rfl⟩
                first | have ty_23 := i_add (a := ii.toInt) (b := (-1)) rfl (by decide) ey_23 (by omega) (by omega) | skip
                refine lv_iinc (v := y_23) (lv' := [(3, .int y_23), (2, .int kk), (0, .ref (ad a1)), (1, .int i2)]) hx hb dX10_adds_50 hl (k := 0) rfl (by rw [ey_23]; rfl) (by decide) rfl (fun ls hl => ?_)
                refine lv_goto (tgt := 37) hx hb dX10_adds_53 (by decide) ?_
                exact ih37 y_23 n_19 m_20 o_21 (by first | omega | assumption | decide) (by first | omega | assumption | decide) (fun c h1 h2 => (u_22.2 c h1 h2).trans (v37_2 c h1 h2)) (by rw [u_22.1.2 0 (by omega) (by omega)]; exact v37_3) (by omega) _ _ ls hP hD hS (lv_sub hl [0, 1, 2, 3] rfl)
          exact loop37 _ y_4 fN fM fO (by first | omega | assumption | decide) (by first | omega | assumption | decide) (fun _ _ _ => rfl) rfl (Nat.lt_succ_self _) _ _ ls hP hD hS (lv_sub hl [0, 1, 2, 3] rfl)
        · have tk_3 := c_nle (a := kk.toInt) (b := 0) rfl (by decide) k_3
          refine lv_aload_n hx hb dX10_adds_25 rfl (lv_at hl 1 rfl) ?_
          refine lv_iload_n hx hb dX10_adds_26 rfl (lv_at hl 0 rfl) ?_
          refine va_iald hx hb hK hP (rPos (a1)) (rTy (a1)) (mW_R (by first | assumption | (unfold IR; omega))) (mT_R _) (i := kk) (vp_of (a := kk.toInt) rfl (by omega) (by omega)) dX10_adds_27 ?_
          refine lv_topi (fun y_24 ey_24 => ?_)
          have rg_y_24 := i_rng y_24
          have vy_24 := vI_lda (f := (rO fN fM fO) a1) (i := kk) (a := kk.toInt) ey_24 (by first | omega | decide)
          refine lv_iload_n hx hb dX10_adds_28 rfl (lv_at hl 2 rfl) ?_
          refine lv_icmp_ne (tgt := 33) hx hb dX10_adds_29 (by decide) (fun k_25 => ?_) (fun k_25 => ?_)
          · have tk_25 := c_ne (a := y_24.toInt) (b := i2.toInt) rfl rfl k_25
            refine lv_aload_n hx hb dX10_adds_33 rfl (lv_at hl 1 rfl) ?_
            refine lv_iconst (v := 0) hx hb dX10_adds_34 (by decide) ?_
            refine va_iald hx hb hK hP (rPos (a1)) (rTy (a1)) (mW_R (by first | assumption | (unfold IR; omega))) (mT_R _) (i := 0) (by unfold vp_in; decide +kernel) dX10_adds_35 ?_
            refine lv_topi (fun y_26 ey_26 => ?_)
            have rg_y_26 := i_rng y_26
            have vy_26 := vI_lda (f := (rO fN fM fO) a1) (i := 0) (a := 0) ey_26 (by first | omega | decide)
            refine lv_istore_n (lv' := [(3, .int y_26), (2, .int kk), (0, .ref (ad a1)), (1, .int i2)]) hx hb dX10_adds_36 rfl hl (by decide) rfl (fun ls hl => ?_)
            have loop37 : ∀ (lm37 : Nat) (ii : Int32) (hn : Nat → Nat → Int32) (hm : Nat → Nat → Int32) (ho : Nat → Nat → Int32), (kk.toInt ≤ ii.toInt) → (ii.toInt ≤ vI ((rO fN fM fO) a1) 0) → (rFr (rO fN fM fO) (rO hn hm ho) a1) → (vI ((rO hn hm ho) a1) 0 = vI ((rO fN fM fO) a1) 0) → ii.toInt.toNat < lm37 → ∀ (H : Heap) (locs : List Loc) (ls : Array Slot), va_P (dC, dI) vwCl (mW ad kc x0 x1 x2 x3 x4 x5 x6 x7 x8 x9 x10 x11 x12 x13 x14 x15 x16 x17 x18 x19 x20 x21 f0 f1 f2 f3 f4 f5 f6 f7 f8 f9 f10 f11 f12 f13 f14 f15 f16 f17 f18 f19 f20 f21 fL hn fP hm ho) H → va_D A (mW ad kc x0 x1 x2 x3 x4 x5 x6 x7 x8 x9 x10 x11 x12 x13 x14 x15 x16 x17 x18 x19 x20 x21 f0 f1 f2 f3 f4 f5 f6 f7 f8 f9 f10 f11 f12 f13 f14 f15 f16 f17 f18 f19 f20 f21 fL hn fP hm ho) → va_S A s.heap H locs → lv_has ls 4 [(3, .int ii), (2, .int kk), (0, .ref (ad a1)), (1, .int i2)] → W p l e (headSpec mwX10_addsm ({ frames := 0, cells := 0, slots := 0, locals := 0 })).room s m ([.ref (ad a1), .int i2]).toArray below meth c H locs 0 0 (MQ below (va_Qv (fun (_ : Unit) => True) (fun _ t => ∃ (Nn9 : Nat → Nat → Int32) (M9 : Nat → Nat → Int32) (O9 : Nat → Nat → Int32), (rFr (rO fN fM fO) (rO Nn9 M9 O9) a1) ∧ (vI ((rO fN fM fO) a1) 0 ≤ vI ((rO Nn9 M9 O9) a1) 0 ∧ vI ((rO Nn9 M9 O9) a1) 0 ≤ vI ((rO fN fM fO) a1) 0 + 1) ∧ va_P (dC, dI) vwCl (mW ad kc x0 x1 x2 x3 x4 x5 x6 x7 x8 x9 x10 x11 x12 x13 x14 x15 x16 x17 x18 x19 x20 x21 f0 f1 f2 f3 f4 f5 f6 f7 f8 f9 f10 f11 f12 f13 f14 f15 f16 f17 f18 f19 f20 f21 fL Nn9 fP M9 O9) t.heap ∧ va_K (dC, dI) vwCl (mT kc) t ∧ va_D A (mW ad kc x0 x1 x2 x3 x4 x5 x6 x7 x8 x9 x10 x11 x12 x13 x14 x15 x16 x17 x18 x19 x20 x21 f0 f1 f2 f3 f4 f5 f6 f7 f8 f9 f10 f11 f12 f13 f14 f15 f16 f17 f18 f19 f20 f21 fL Nn9 fP M9 O9)) A) ([.ref (ad a1), .int i2]).toArray s 0 0 A) (F0 m 37 ls []) := by
              intro lm37
              induction lm37 with
              | zero => intro ii hn hm ho v37_0 v37_1 v37_2 v37_3 hm37; exact absurd hm37 (Nat.not_lt_zero _)
              | succ lm37 ih37 =>
                intro ii hn hm ho v37_0 v37_1 v37_2 v37_3 hm37 H locs ls hP hD hS hl
                have rg_ii := i_rng ii
                refine lv_iload_n hx hb dX10_adds_37 rfl (lv_at hl 0 rfl) ?_
                refine lv_iload_n hx hb dX10_adds_38 rfl (lv_at hl 1 rfl) ?_
                refine lv_icmp_le (tgt := 56) hx hb dX10_adds_39 (by decide) (fun k_27 => ?_) (fun k_27 => ?_)
                · have tk_27 := c_le (a := ii.toInt) (b := kk.toInt) rfl rfl k_27
                  refine lv_aload_n hx hb dX10_adds_56 rfl (lv_at hl 2 rfl) ?_
                  refine lv_iload_n hx hb dX10_adds_57 rfl (lv_at hl 1 rfl) ?_
                  refine lv_iconst (v := 1) hx hb dX10_adds_58 (by decide) ?_
                  refine lv_iadd hx hb dX10_adds_59 ?_
                  refine lv_topi (fun y_28 ey_28 => ?_)
                  first | have ty_28 := i_add (a := kk.toInt) (b := 1) rfl (by decide) ey_28 (by omega) (by omega) | skip
                  refine lv_iload_n hx hb dX10_adds_60 rfl (lv_at hl 3 rfl) ?_
                  refine va_iast hx hb hK hP hD hS (rPos (a1)) (rTy (a1)) (mW_R (by first | assumption | (unfold IR; omega))) (mT_R _) (i := y_28) (vp_of (a := y_28.toInt) rfl (by omega) (by omega)) dX10_adds_61 (fun H locs hP hD hS => ?_)
                  obtain ⟨n_29, m_30, o_31, hP, hD, wu_32⟩ := mW_Rx (by first | assumption | (unfold IR; omega)) hP hD
                  have u_32 := rU_v (x := (kk.toInt + 1)) (y := i2.toInt) wu_32 (by first | assumption | (unfold IR; omega)) (by first | omega | decide) (by omega) rfl
                  have hP : va_P (dC, dI) vwCl (mW ad kc x0 x1 x2 x3 x4 x5 x6 x7 x8 x9 x10 x11 x12 x13 x14 x15 x16 x17 x18 x19 x20 x21 f0 f1 f2 f3 f4 f5 f6 f7 f8 f9 f10 f11 f12 f13 f14 f15 f16 f17 f18 f19 f20 f21 fL n_29 fP m_30 o_31) H := hP
                  have hD : va_D A (mW ad kc x0 x1 x2 x3 x4 x5 x6 x7 x8 x9 x10 x11 x12 x13 x14 x15 x16 x17 x18 x19 x20 x21 f0 f1 f2 f3 f4 f5 f6 f7 f8 f9 f10 f11 f12 f13 f14 f15 f16 f17 f18 f19 f20 f21 fL n_29 fP m_30 o_31) := hD
                  refine lv_aload_n hx hb dX10_adds_62 rfl (lv_at hl 2 rfl) ?_
                  refine lv_iconst (v := 0) hx hb dX10_adds_63 (by decide) ?_
                  refine lv_dup2_11 hx hb dX10_adds_64 rfl rfl ?_
                  refine va_iald hx hb hK hP (rPos (a1)) (rTy (a1)) (mW_R (by first | assumption | (unfold IR; omega))) (mT_R _) (i := 0) (by unfold vp_in; decide +kernel) dX10_adds_65 ?_
                  refine lv_topi (fun y_33 ey_33 => ?_)
                  have rg_y_33 := i_rng y_33
                  have vy_33 := vI_lda (f := (rO n_29 m_30 o_31) a1) (i := 0) (a := 0) ey_33 (by first | omega | decide)
                  have wy_33 := (u_32.1.2 0 (by omega) (by omega)).trans v37_3
                  refine lv_iconst (v := 1) hx hb dX10_adds_66 (by decide) ?_
                  refine lv_iadd hx hb dX10_adds_67 ?_
                  refine lv_topi (fun y_34 ey_34 => ?_)
                  first | have ty_34 := i_add (a := y_33.toInt) (b := 1) rfl (by decide) ey_34 (by omega) (by omega) | skip
                  refine va_iast hx hb hK hP hD hS (rPos (a1)) (rTy (a1)) (mW_R (by first | assumption | (unfold IR; omega))) (mT_R _) (i := 0) (by unfold vp_in; decide +kernel) dX10_adds_68 (fun H locs hP hD hS => ?_)
                  obtain ⟨n_35, m_36, o_37, hP, hD, wu_38⟩ := mW_Rx (by first | assumption | (unfold IR; omega)) hP hD
                  have u_38 := rU_v (x := 0) (y := y_34.toInt) wu_38 (by first | assumption | (unfold IR; omega)) (by first | omega | decide) (by omega) rfl
                  have hP : va_P (dC, dI) vwCl (mW ad kc x0 x1 x2 x3 x4 x5 x6 x7 x8 x9 x10 x11 x12 x13 x14 x15 x16 x17 x18 x19 x20 x21 f0 f1 f2 f3 f4 f5 f6 f7 f8 f9 f10 f11 f12 f13 f14 f15 f16 f17 f18 f19 f20 f21 fL n_35 fP m_36 o_37) H := hP
                  have hD : va_D A (mW ad kc x0 x1 x2 x3 x4 x5 x6 x7 x8 x9 x10 x11 x12 x13 x14 x15 x16 x17 x18 x19 x20 x21 f0 f1 f2 f3 f4 f5 f6 f7 f8 f9 f10 f11 f12 f13 f14 f15 f16 f17 f18 f19 f20 f21 fL n_35 fP m_36 o_37) := hD
                  exact W.vret hx hb hr (fun t ht hW => ⟨⟨(), rfl, trivial, n_35, m_36, o_37, (fun c h1 h2 => ((u_38.2 c h1 h2).trans (u_32.2 c h1 h2)).trans (v37_2 c h1 h2)), (by have h9 := u_38.1.1; have h8 := u_32.1.2 0 (by omega) (by omega); omega), by rw [ht]; exact hP, va_K.moved hW.alike hK, hD⟩, hS.F ht⟩) hS.2.2 dX10_adds_69
                · have tk_27 := c_nle (a := ii.toInt) (b := kk.toInt) rfl rfl k_27
                  refine lv_aload_n hx hb dX10_adds_42 rfl (lv_at hl 2 rfl) ?_
                  refine lv_iload_n hx hb dX10_adds_43 rfl (lv_at hl 0 rfl) ?_
                  refine lv_iconst (v := 1) hx hb dX10_adds_44 (by decide) ?_
                  refine lv_iadd hx hb dX10_adds_45 ?_
                  refine lv_topi (fun y_39 ey_39 => ?_)
                  first | have ty_39 := i_add (a := ii.toInt) (b := 1) rfl (by decide) ey_39 (by omega) (by omega) | skip
                  refine lv_aload_n hx hb dX10_adds_46 rfl (lv_at hl 2 rfl) ?_
                  refine lv_iload_n hx hb dX10_adds_47 rfl (lv_at hl 0 rfl) ?_
                  refine va_iald hx hb hK hP (rPos (a1)) (rTy (a1)) (mW_R (by first | assumption | (unfold IR; omega))) (mT_R _) (i := ii) (vp_of (a := ii.toInt) rfl (by omega) (by omega)) dX10_adds_48 ?_
                  refine lv_topi (fun y_40 ey_40 => ?_)
                  have rg_y_40 := i_rng y_40
                  have vy_40 := vI_lda (f := (rO hn hm ho) a1) (i := ii) (a := ii.toInt) ey_40 (by first | omega | decide)
                  refine va_iast hx hb hK hP hD hS (rPos (a1)) (rTy (a1)) (mW_R (by first | assumption | (unfold IR; omega))) (mT_R _) (i := y_39) (vp_of (a := y_39.toInt) rfl (by omega) (by omega)) dX10_adds_49 (fun H locs hP hD hS => ?_)
                  obtain ⟨n_41, m_42, o_43, hP, hD, wu_44⟩ := mW_Rx (by first | assumption | (unfold IR; omega)) hP hD
                  have u_44 := rU_v (x := (ii.toInt + 1)) (y := y_40.toInt) wu_44 (by first | assumption | (unfold IR; omega)) (by first | omega | decide) (by omega) rfl
                  have hP : va_P (dC, dI) vwCl (mW ad kc x0 x1 x2 x3 x4 x5 x6 x7 x8 x9 x10 x11 x12 x13 x14 x15 x16 x17 x18 x19 x20 x21 f0 f1 f2 f3 f4 f5 f6 f7 f8 f9 f10 f11 f12 f13 f14 f15 f16 f17 f18 f19 f20 f21 fL n_41 fP m_42 o_43) H := hP
                  have hD : va_D A (mW ad kc x0 x1 x2 x3 x4 x5 x6 x7 x8 x9 x10 x11 x12 x13 x14 x15 x16 x17 x18 x19 x20 x21 f0 f1 f2 f3 f4 f5 f6 f7 f8 f9 f10 f11 f12 f13 f14 f15 f16 f17 f18 f19 f20 f21 fL n_41 fP m_42 o_43) := hD
                  obtain ⟨y_45, ey_45⟩ : ∃ y : Int32, y = ii + (-1) := ⟨_, rfl⟩
                  first | have ty_45 := i_add (a := ii.toInt) (b := (-1)) rfl (by decide) ey_45 (by omega) (by omega) | skip
                  refine lv_iinc (v := y_45) (lv' := [(3, .int y_45), (2, .int kk), (0, .ref (ad a1)), (1, .int i2)]) hx hb dX10_adds_50 hl (k := 0) rfl (by rw [ey_45]; rfl) (by decide) rfl (fun ls hl => ?_)
                  refine lv_goto (tgt := 37) hx hb dX10_adds_53 (by decide) ?_
                  exact ih37 y_45 n_41 m_42 o_43 (by first | omega | assumption | decide) (by first | omega | assumption | decide) (fun c h1 h2 => (u_44.2 c h1 h2).trans (v37_2 c h1 h2)) (by rw [u_44.1.2 0 (by omega) (by omega)]; exact v37_3) (by omega) _ _ ls hP hD hS (lv_sub hl [0, 1, 2, 3] rfl)
            exact loop37 _ y_26 fN fM fO (by first | omega | assumption | decide) (by first | omega | assumption | decide) (fun _ _ _ => rfl) rfl (Nat.lt_succ_self _) _ _ ls hP hD hS (lv_sub hl [0, 1, 2, 3] rfl)
          · have tk_25 := c_eq (a := y_24.toInt) (b := i2.toInt) rfl rfl k_25
            exact W.vret hx hb hr (fun t ht hW => ⟨⟨(), rfl, trivial, fN, fM, fO, (fun _ _ _ => rfl), ⟨by omega, by omega⟩, by rw [ht]; exact hP, va_K.moved hW.alike hK, hD⟩, hS.F ht⟩) hS.2.2 dX10_adds_32
      · have tk_2 := c_nle (a := kk.toInt) (b := 0) rfl (by decide) k_2
        refine lv_aload_n hx hb dX10_adds_8 rfl (lv_at hl 1 rfl) ?_
        refine lv_iload_n hx hb dX10_adds_9 rfl (lv_at hl 0 rfl) ?_
        refine va_iald hx hb hK hP (rPos (a1)) (rTy (a1)) (mW_R (by first | assumption | (unfold IR; omega))) (mT_R _) (i := kk) (vp_of (a := kk.toInt) rfl (by omega) (by omega)) dX10_adds_10 ?_
        refine lv_topi (fun y_46 ey_46 => ?_)
        have rg_y_46 := i_rng y_46
        have vy_46 := vI_lda (f := (rO fN fM fO) a1) (i := kk) (a := kk.toInt) ey_46 (by first | omega | decide)
        refine lv_iload_n hx hb dX10_adds_11 rfl (lv_at hl 2 rfl) ?_
        refine lv_icmp_le (tgt := 21) hx hb dX10_adds_12 (by decide) (fun k_47 => ?_) (fun k_47 => ?_)
        · have tk_47 := c_le (a := y_46.toInt) (b := i2.toInt) rfl rfl k_47
          refine lv_iload_n hx hb dX10_adds_21 rfl (lv_at hl 0 rfl) ?_
          refine lv_if_le (tgt := 33) hx hb dX10_adds_22 (by decide) (fun k_48 => ?_) (fun k_48 => ?_)
          · have tk_48 := c_le (a := kk.toInt) (b := 0) rfl (by decide) k_48
            refine lv_aload_n hx hb dX10_adds_33 rfl (lv_at hl 1 rfl) ?_
            refine lv_iconst (v := 0) hx hb dX10_adds_34 (by decide) ?_
            refine va_iald hx hb hK hP (rPos (a1)) (rTy (a1)) (mW_R (by first | assumption | (unfold IR; omega))) (mT_R _) (i := 0) (by unfold vp_in; decide +kernel) dX10_adds_35 ?_
            refine lv_topi (fun y_49 ey_49 => ?_)
            have rg_y_49 := i_rng y_49
            have vy_49 := vI_lda (f := (rO fN fM fO) a1) (i := 0) (a := 0) ey_49 (by first | omega | decide)
            refine lv_istore_n (lv' := [(3, .int y_49), (2, .int kk), (0, .ref (ad a1)), (1, .int i2)]) hx hb dX10_adds_36 rfl hl (by decide) rfl (fun ls hl => ?_)
            have loop37 : ∀ (lm37 : Nat) (ii : Int32) (hn : Nat → Nat → Int32) (hm : Nat → Nat → Int32) (ho : Nat → Nat → Int32), (kk.toInt ≤ ii.toInt) → (ii.toInt ≤ vI ((rO fN fM fO) a1) 0) → (rFr (rO fN fM fO) (rO hn hm ho) a1) → (vI ((rO hn hm ho) a1) 0 = vI ((rO fN fM fO) a1) 0) → ii.toInt.toNat < lm37 → ∀ (H : Heap) (locs : List Loc) (ls : Array Slot), va_P (dC, dI) vwCl (mW ad kc x0 x1 x2 x3 x4 x5 x6 x7 x8 x9 x10 x11 x12 x13 x14 x15 x16 x17 x18 x19 x20 x21 f0 f1 f2 f3 f4 f5 f6 f7 f8 f9 f10 f11 f12 f13 f14 f15 f16 f17 f18 f19 f20 f21 fL hn fP hm ho) H → va_D A (mW ad kc x0 x1 x2 x3 x4 x5 x6 x7 x8 x9 x10 x11 x12 x13 x14 x15 x16 x17 x18 x19 x20 x21 f0 f1 f2 f3 f4 f5 f6 f7 f8 f9 f10 f11 f12 f13 f14 f15 f16 f17 f18 f19 f20 f21 fL hn fP hm ho) → va_S A s.heap H locs → lv_has ls 4 [(3, .int ii), (2, .int kk), (0, .ref (ad a1)), (1, .int i2)] → W p l e (headSpec mwX10_addsm ({ frames := 0, cells := 0, slots := 0, locals := 0 })).room s m ([.ref (ad a1), .int i2]).toArray below meth c H locs 0 0 (MQ below (va_Qv (fun (_ : Unit) => True) (fun _ t => ∃ (Nn9 : Nat → Nat → Int32) (M9 : Nat → Nat → Int32) (O9 : Nat → Nat → Int32), (rFr (rO fN fM fO) (rO Nn9 M9 O9) a1) ∧ (vI ((rO fN fM fO) a1) 0 ≤ vI ((rO Nn9 M9 O9) a1) 0 ∧ vI ((rO Nn9 M9 O9) a1) 0 ≤ vI ((rO fN fM fO) a1) 0 + 1) ∧ va_P (dC, dI) vwCl (mW ad kc x0 x1 x2 x3 x4 x5 x6 x7 x8 x9 x10 x11 x12 x13 x14 x15 x16 x17 x18 x19 x20 x21 f0 f1 f2 f3 f4 f5 f6 f7 f8 f9 f10 f11 f12 f13 f14 f15 f16 f17 f18 f19 f20 f21 fL Nn9 fP M9 O9) t.heap ∧ va_K (dC, dI) vwCl (mT kc) t ∧ va_D A (mW ad kc x0 x1 x2 x3 x4 x5 x6 x7 x8 x9 x10 x11 x12 x13 x14 x15 x16 x17 x18 x19 x20 x21 f0 f1 f2 f3 f4 f5 f6 f7 f8 f9 f10 f11 f12 f13 f14 f15 f16 f17 f18 f19 f20 f21 fL Nn9 fP M9 O9)) A) ([.ref (ad a1), .int i2]).toArray s 0 0 A) (F0 m 37 ls []) := by
              intro lm37
              induction lm37 with
              | zero => intro ii hn hm ho v37_0 v37_1 v37_2 v37_3 hm37; exact absurd hm37 (Nat.not_lt_zero _)
              | succ lm37 ih37 =>
                intro ii hn hm ho v37_0 v37_1 v37_2 v37_3 hm37 H locs ls hP hD hS hl
                have rg_ii := i_rng ii
                refine lv_iload_n hx hb dX10_adds_37 rfl (lv_at hl 0 rfl) ?_
                refine lv_iload_n hx hb dX10_adds_38 rfl (lv_at hl 1 rfl) ?_
                refine lv_icmp_le (tgt := 56) hx hb dX10_adds_39 (by decide) (fun k_50 => ?_) (fun k_50 => ?_)
                · have tk_50 := c_le (a := ii.toInt) (b := kk.toInt) rfl rfl k_50
                  refine lv_aload_n hx hb dX10_adds_56 rfl (lv_at hl 2 rfl) ?_
                  refine lv_iload_n hx hb dX10_adds_57 rfl (lv_at hl 1 rfl) ?_
                  refine lv_iconst (v := 1) hx hb dX10_adds_58 (by decide) ?_
                  refine lv_iadd hx hb dX10_adds_59 ?_
                  refine lv_topi (fun y_51 ey_51 => ?_)
                  first | have ty_51 := i_add (a := kk.toInt) (b := 1) rfl (by decide) ey_51 (by omega) (by omega) | skip
                  refine lv_iload_n hx hb dX10_adds_60 rfl (lv_at hl 3 rfl) ?_
                  refine va_iast hx hb hK hP hD hS (rPos (a1)) (rTy (a1)) (mW_R (by first | assumption | (unfold IR; omega))) (mT_R _) (i := y_51) (vp_of (a := y_51.toInt) rfl (by omega) (by omega)) dX10_adds_61 (fun H locs hP hD hS => ?_)
                  obtain ⟨n_52, m_53, o_54, hP, hD, wu_55⟩ := mW_Rx (by first | assumption | (unfold IR; omega)) hP hD
                  have u_55 := rU_v (x := (kk.toInt + 1)) (y := i2.toInt) wu_55 (by first | assumption | (unfold IR; omega)) (by first | omega | decide) (by omega) rfl
                  have hP : va_P (dC, dI) vwCl (mW ad kc x0 x1 x2 x3 x4 x5 x6 x7 x8 x9 x10 x11 x12 x13 x14 x15 x16 x17 x18 x19 x20 x21 f0 f1 f2 f3 f4 f5 f6 f7 f8 f9 f10 f11 f12 f13 f14 f15 f16 f17 f18 f19 f20 f21 fL n_52 fP m_53 o_54) H := hP
                  have hD : va_D A (mW ad kc x0 x1 x2 x3 x4 x5 x6 x7 x8 x9 x10 x11 x12 x13 x14 x15 x16 x17 x18 x19 x20 x21 f0 f1 f2 f3 f4 f5 f6 f7 f8 f9 f10 f11 f12 f13 f14 f15 f16 f17 f18 f19 f20 f21 fL n_52 fP m_53 o_54) := hD
                  refine lv_aload_n hx hb dX10_adds_62 rfl (lv_at hl 2 rfl) ?_
                  refine lv_iconst (v := 0) hx hb dX10_adds_63 (by decide) ?_
                  refine lv_dup2_11 hx hb dX10_adds_64 rfl rfl ?_
                  refine va_iald hx hb hK hP (rPos (a1)) (rTy (a1)) (mW_R (by first | assumption | (unfold IR; omega))) (mT_R _) (i := 0) (by unfold vp_in; decide +kernel) dX10_adds_65 ?_
                  refine lv_topi (fun y_56 ey_56 => ?_)
                  have rg_y_56 := i_rng y_56
                  have vy_56 := vI_lda (f := (rO n_52 m_53 o_54) a1) (i := 0) (a := 0) ey_56 (by first | omega | decide)
                  have wy_56 := (u_55.1.2 0 (by omega) (by omega)).trans v37_3
                  refine lv_iconst (v := 1) hx hb dX10_adds_66 (by decide) ?_
                  refine lv_iadd hx hb dX10_adds_67 ?_
                  refine lv_topi (fun y_57 ey_57 => ?_)
                  first | have ty_57 := i_add (a := y_56.toInt) (b := 1) rfl (by decide) ey_57 (by omega) (by omega) | skip
                  refine va_iast hx hb hK hP hD hS (rPos (a1)) (rTy (a1)) (mW_R (by first | assumption | (unfold IR; omega))) (mT_R _) (i := 0) (by unfold vp_in; decide +kernel) dX10_adds_68 (fun H locs hP hD hS => ?_)
                  obtain ⟨n_58, m_59, o_60, hP, hD, wu_61⟩ := mW_Rx (by first | assumption | (unfold IR; omega)) hP hD
                  have u_61 := rU_v (x := 0) (y := y_57.toInt) wu_61 (by first | assumption | (unfold IR; omega)) (by first | omega | decide) (by omega) rfl
                  have hP : va_P (dC, dI) vwCl (mW ad kc x0 x1 x2 x3 x4 x5 x6 x7 x8 x9 x10 x11 x12 x13 x14 x15 x16 x17 x18 x19 x20 x21 f0 f1 f2 f3 f4 f5 f6 f7 f8 f9 f10 f11 f12 f13 f14 f15 f16 f17 f18 f19 f20 f21 fL n_58 fP m_59 o_60) H := hP
                  have hD : va_D A (mW ad kc x0 x1 x2 x3 x4 x5 x6 x7 x8 x9 x10 x11 x12 x13 x14 x15 x16 x17 x18 x19 x20 x21 f0 f1 f2 f3 f4 f5 f6 f7 f8 f9 f10 f11 f12 f13 f14 f15 f16 f17 f18 f19 f20 f21 fL n_58 fP m_59 o_60) := hD
                  exact W.vret hx hb hr (fun t ht hW => ⟨⟨(), rfl, trivial, n_58, m_59, o_60, (fun c h1 h2 => ((u_61.2 c h1 h2).trans (u_55.2 c h1 h2)).trans (v37_2 c h1 h2)), (by have h9 := u_61.1.1; have h8 := u_55.1.2 0 (by omega) (by omega); omega), by rw [ht]; exact hP, va_K.moved hW.alike hK, hD⟩, hS.F ht⟩) hS.2.2 dX10_adds_69
                · have tk_50 := c_nle (a := ii.toInt) (b := kk.toInt) rfl rfl k_50
                  refine lv_aload_n hx hb dX10_adds_42 rfl (lv_at hl 2 rfl) ?_
                  refine lv_iload_n hx hb dX10_adds_43 rfl (lv_at hl 0 rfl) ?_
                  refine lv_iconst (v := 1) hx hb dX10_adds_44 (by decide) ?_
                  refine lv_iadd hx hb dX10_adds_45 ?_
                  refine lv_topi (fun y_62 ey_62 => ?_)
                  first | have ty_62 := i_add (a := ii.toInt) (b := 1) rfl (by decide) ey_62 (by omega) (by omega) | skip
                  refine lv_aload_n hx hb dX10_adds_46 rfl (lv_at hl 2 rfl) ?_
                  refine lv_iload_n hx hb dX10_adds_47 rfl (lv_at hl 0 rfl) ?_
                  refine va_iald hx hb hK hP (rPos (a1)) (rTy (a1)) (mW_R (by first | assumption | (unfold IR; omega))) (mT_R _) (i := ii) (vp_of (a := ii.toInt) rfl (by omega) (by omega)) dX10_adds_48 ?_
                  refine lv_topi (fun y_63 ey_63 => ?_)
                  have rg_y_63 := i_rng y_63
                  have vy_63 := vI_lda (f := (rO hn hm ho) a1) (i := ii) (a := ii.toInt) ey_63 (by first | omega | decide)
                  refine va_iast hx hb hK hP hD hS (rPos (a1)) (rTy (a1)) (mW_R (by first | assumption | (unfold IR; omega))) (mT_R _) (i := y_62) (vp_of (a := y_62.toInt) rfl (by omega) (by omega)) dX10_adds_49 (fun H locs hP hD hS => ?_)
                  obtain ⟨n_64, m_65, o_66, hP, hD, wu_67⟩ := mW_Rx (by first | assumption | (unfold IR; omega)) hP hD
                  have u_67 := rU_v (x := (ii.toInt + 1)) (y := y_63.toInt) wu_67 (by first | assumption | (unfold IR; omega)) (by first | omega | decide) (by omega) rfl
                  have hP : va_P (dC, dI) vwCl (mW ad kc x0 x1 x2 x3 x4 x5 x6 x7 x8 x9 x10 x11 x12 x13 x14 x15 x16 x17 x18 x19 x20 x21 f0 f1 f2 f3 f4 f5 f6 f7 f8 f9 f10 f11 f12 f13 f14 f15 f16 f17 f18 f19 f20 f21 fL n_64 fP m_65 o_66) H := hP
                  have hD : va_D A (mW ad kc x0 x1 x2 x3 x4 x5 x6 x7 x8 x9 x10 x11 x12 x13 x14 x15 x16 x17 x18 x19 x20 x21 f0 f1 f2 f3 f4 f5 f6 f7 f8 f9 f10 f11 f12 f13 f14 f15 f16 f17 f18 f19 f20 f21 fL n_64 fP m_65 o_66) := hD
                  obtain ⟨y_68, ey_68⟩ : ∃ y : Int32, y = ii + (-1) := ⟨_, rfl⟩
                  first | have ty_68 := i_add (a := ii.toInt) (b := (-1)) rfl (by decide) ey_68 (by omega) (by omega) | skip
                  refine lv_iinc (v := y_68) (lv' := [(3, .int y_68), (2, .int kk), (0, .ref (ad a1)), (1, .int i2)]) hx hb dX10_adds_50 hl (k := 0) rfl (by rw [ey_68]; rfl) (by decide) rfl (fun ls hl => ?_)
                  refine lv_goto (tgt := 37) hx hb dX10_adds_53 (by decide) ?_
                  exact ih37 y_68 n_64 m_65 o_66 (by first | omega | assumption | decide) (by first | omega | assumption | decide) (fun c h1 h2 => (u_67.2 c h1 h2).trans (v37_2 c h1 h2)) (by rw [u_67.1.2 0 (by omega) (by omega)]; exact v37_3) (by omega) _ _ ls hP hD hS (lv_sub hl [0, 1, 2, 3] rfl)
            exact loop37 _ y_49 fN fM fO (by first | omega | assumption | decide) (by first | omega | assumption | decide) (fun _ _ _ => rfl) rfl (Nat.lt_succ_self _) _ _ ls hP hD hS (lv_sub hl [0, 1, 2, 3] rfl)
          · have tk_48 := c_nle (a := kk.toInt) (b := 0) rfl (by decide) k_48
            refine lv_aload_n hx hb dX10_adds_25 rfl (lv_at hl 1 rfl) ?_
            refine lv_iload_n hx hb dX10_adds_26 rfl (lv_at hl 0 rfl) ?_
            refine va_iald hx hb hK hP (rPos (a1)) (rTy (a1)) (mW_R (by first | assumption | (unfold IR; omega))) (mT_R _) (i := kk) (vp_of (a := kk.toInt) rfl (by omega) (by omega)) dX10_adds_27 ?_
            refine lv_topi (fun y_69 ey_69 => ?_)
            have rg_y_69 := i_rng y_69
            have vy_69 := vI_lda (f := (rO fN fM fO) a1) (i := kk) (a := kk.toInt) ey_69 (by first | omega | decide)
            refine lv_iload_n hx hb dX10_adds_28 rfl (lv_at hl 2 rfl) ?_
            refine lv_icmp_ne (tgt := 33) hx hb dX10_adds_29 (by decide) (fun k_70 => ?_) (fun k_70 => ?_)
            · have tk_70 := c_ne (a := y_69.toInt) (b := i2.toInt) rfl rfl k_70
              refine lv_aload_n hx hb dX10_adds_33 rfl (lv_at hl 1 rfl) ?_
              refine lv_iconst (v := 0) hx hb dX10_adds_34 (by decide) ?_
              refine va_iald hx hb hK hP (rPos (a1)) (rTy (a1)) (mW_R (by first | assumption | (unfold IR; omega))) (mT_R _) (i := 0) (by unfold vp_in; decide +kernel) dX10_adds_35 ?_
              refine lv_topi (fun y_71 ey_71 => ?_)
              have rg_y_71 := i_rng y_71
              have vy_71 := vI_lda (f := (rO fN fM fO) a1) (i := 0) (a := 0) ey_71 (by first | omega | decide)
              refine lv_istore_n (lv' := [(3, .int y_71), (2, .int kk), (0, .ref (ad a1)), (1, .int i2)]) hx hb dX10_adds_36 rfl hl (by decide) rfl (fun ls hl => ?_)
              have loop37 : ∀ (lm37 : Nat) (ii : Int32) (hn : Nat → Nat → Int32) (hm : Nat → Nat → Int32) (ho : Nat → Nat → Int32), (kk.toInt ≤ ii.toInt) → (ii.toInt ≤ vI ((rO fN fM fO) a1) 0) → (rFr (rO fN fM fO) (rO hn hm ho) a1) → (vI ((rO hn hm ho) a1) 0 = vI ((rO fN fM fO) a1) 0) → ii.toInt.toNat < lm37 → ∀ (H : Heap) (locs : List Loc) (ls : Array Slot), va_P (dC, dI) vwCl (mW ad kc x0 x1 x2 x3 x4 x5 x6 x7 x8 x9 x10 x11 x12 x13 x14 x15 x16 x17 x18 x19 x20 x21 f0 f1 f2 f3 f4 f5 f6 f7 f8 f9 f10 f11 f12 f13 f14 f15 f16 f17 f18 f19 f20 f21 fL hn fP hm ho) H → va_D A (mW ad kc x0 x1 x2 x3 x4 x5 x6 x7 x8 x9 x10 x11 x12 x13 x14 x15 x16 x17 x18 x19 x20 x21 f0 f1 f2 f3 f4 f5 f6 f7 f8 f9 f10 f11 f12 f13 f14 f15 f16 f17 f18 f19 f20 f21 fL hn fP hm ho) → va_S A s.heap H locs → lv_has ls 4 [(3, .int ii), (2, .int kk), (0, .ref (ad a1)), (1, .int i2)] → W p l e (headSpec mwX10_addsm ({ frames := 0, cells := 0, slots := 0, locals := 0 })).room s m ([.ref (ad a1), .int i2]).toArray below meth c H locs 0 0 (MQ below (va_Qv (fun (_ : Unit) => True) (fun _ t => ∃ (Nn9 : Nat → Nat → Int32) (M9 : Nat → Nat → Int32) (O9 : Nat → Nat → Int32), (rFr (rO fN fM fO) (rO Nn9 M9 O9) a1) ∧ (vI ((rO fN fM fO) a1) 0 ≤ vI ((rO Nn9 M9 O9) a1) 0 ∧ vI ((rO Nn9 M9 O9) a1) 0 ≤ vI ((rO fN fM fO) a1) 0 + 1) ∧ va_P (dC, dI) vwCl (mW ad kc x0 x1 x2 x3 x4 x5 x6 x7 x8 x9 x10 x11 x12 x13 x14 x15 x16 x17 x18 x19 x20 x21 f0 f1 f2 f3 f4 f5 f6 f7 f8 f9 f10 f11 f12 f13 f14 f15 f16 f17 f18 f19 f20 f21 fL Nn9 fP M9 O9) t.heap ∧ va_K (dC, dI) vwCl (mT kc) t ∧ va_D A (mW ad kc x0 x1 x2 x3 x4 x5 x6 x7 x8 x9 x10 x11 x12 x13 x14 x15 x16 x17 x18 x19 x20 x21 f0 f1 f2 f3 f4 f5 f6 f7 f8 f9 f10 f11 f12 f13 f14 f15 f16 f17 f18 f19 f20 f21 fL Nn9 fP M9 O9)) A) ([.ref (ad a1), .int i2]).toArray s 0 0 A) (F0 m 37 ls []) := by
                intro lm37
                induction lm37 with
                | zero => intro ii hn hm ho v37_0 v37_1 v37_2 v37_3 hm37; exact absurd hm37 (Nat.not_lt_zero _)
                | succ lm37 ih37 =>
                  intro ii hn hm ho v37_0 v37_1 v37_2 v37_3 hm37 H locs ls hP hD hS hl
                  have rg_ii := i_rng ii
                  refine lv_iload_n hx hb dX10_adds_37 rfl (lv_at hl 0 rfl) ?_
                  refine lv_iload_n hx hb dX10_adds_38 rfl (lv_at hl 1 rfl) ?_
                  refine lv_icmp_le (tgt := 56) hx hb dX10_adds_39 (by decide) (fun k_72 => ?_) (fun k_72 => ?_)
                  · have tk_72 := c_le (a := ii.toInt) (b := kk.toInt) rfl rfl k_72
                    refine lv_aload_n hx hb dX10_adds_56 rfl (lv_at hl 2 rfl) ?_
                    refine lv_iload_n hx hb dX10_adds_57 rfl (lv_at hl 1 rfl) ?_
                    refine lv_iconst (v := 1) hx hb dX10_adds_58 (by decide) ?_
                    refine lv_iadd hx hb dX10_adds_59 ?_
                    refine lv_topi (fun y_73 ey_73 => ?_)
                    first | have ty_73 := i_add (a := kk.toInt) (b := 1) rfl (by decide) ey_73 (by omega) (by omega) | skip
                    refine lv_iload_n hx hb dX10_adds_60 rfl (lv_at hl 3 rfl) ?_
                    refine va_iast hx hb hK hP hD hS (rPos (a1)) (rTy (a1)) (mW_R (by first | assumption | (unfold IR; omega))) (mT_R _) (i := y_73) (vp_of (a := y_73.toInt) rfl (by omega) (by omega)) dX10_adds_61 (fun H locs hP hD hS => ?_)
                    obtain ⟨n_74, m_75, o_76, hP, hD, wu_77⟩ := mW_Rx (by first | assumption | (unfold IR; omega)) hP hD
                    have u_77 := rU_v (x := (kk.toInt + 1)) (y := i2.toInt) wu_77 (by first | assumption | (unfold IR; omega)) (by first | omega | decide) (by omega) rfl
                    have hP : va_P (dC, dI) vwCl (mW ad kc x0 x1 x2 x3 x4 x5 x6 x7 x8 x9 x10 x11 x12 x13 x14 x15 x16 x17 x18 x19 x20 x21 f0 f1 f2 f3 f4 f5 f6 f7 f8 f9 f10 f11 f12 f13 f14 f15 f16 f17 f18 f19 f20 f21 fL n_74 fP m_75 o_76) H := hP
                    have hD : va_D A (mW ad kc x0 x1 x2 x3 x4 x5 x6 x7 x8 x9 x10 x11 x12 x13 x14 x15 x16 x17 x18 x19 x20 x21 f0 f1 f2 f3 f4 f5 f6 f7 f8 f9 f10 f11 f12 f13 f14 f15 f16 f17 f18 f19 f20 f21 fL n_74 fP m_75 o_76) := hD
                    refine lv_aload_n hx hb dX10_adds_62 rfl (lv_at hl 2 rfl) ?_
                    refine lv_iconst (v := 0) hx hb dX10_adds_63 (by decide) ?_
                    refine lv_dup2_11 hx hb dX10_adds_64 rfl rfl ?_
                    refine va_iald hx hb hK hP (rPos (a1)) (rTy (a1)) (mW_R (by first | assumption | (unfold IR; omega))) (mT_R _) (i := 0) (by unfold vp_in; decide +kernel) dX10_adds_65 ?_
                    refine lv_topi (fun y_78 ey_78 => ?_)
                    have rg_y_78 := i_rng y_78
                    have vy_78 := vI_lda (f := (rO n_74 m_75 o_76) a1) (i := 0) (a := 0) ey_78 (by first | omega | decide)
                    have wy_78 := (u_77.1.2 0 (by omega) (by omega)).trans v37_3
                    refine lv_iconst (v := 1) hx hb dX10_adds_66 (by decide) ?_
                    refine lv_iadd hx hb dX10_adds_67 ?_
                    refine lv_topi (fun y_79 ey_79 => ?_)
                    first | have ty_79 := i_add (a := y_78.toInt) (b := 1) rfl (by decide) ey_79 (by omega) (by omega) | skip
                    refine va_iast hx hb hK hP hD hS (rPos (a1)) (rTy (a1)) (mW_R (by first | assumption | (unfold IR; omega))) (mT_R _) (i := 0) (by unfold vp_in; decide +kernel) dX10_adds_68 (fun H locs hP hD hS => ?_)
                    obtain ⟨n_80, m_81, o_82, hP, hD, wu_83⟩ := mW_Rx (by first | assumption | (unfold IR; omega)) hP hD
                    have u_83 := rU_v (x := 0) (y := y_79.toInt) wu_83 (by first | assumption | (unfold IR; omega)) (by first | omega | decide) (by omega) rfl
                    have hP : va_P (dC, dI) vwCl (mW ad kc x0 x1 x2 x3 x4 x5 x6 x7 x8 x9 x10 x11 x12 x13 x14 x15 x16 x17 x18 x19 x20 x21 f0 f1 f2 f3 f4 f5 f6 f7 f8 f9 f10 f11 f12 f13 f14 f15 f16 f17 f18 f19 f20 f21 fL n_80 fP m_81 o_82) H := hP
                    have hD : va_D A (mW ad kc x0 x1 x2 x3 x4 x5 x6 x7 x8 x9 x10 x11 x12 x13 x14 x15 x16 x17 x18 x19 x20 x21 f0 f1 f2 f3 f4 f5 f6 f7 f8 f9 f10 f11 f12 f13 f14 f15 f16 f17 f18 f19 f20 f21 fL n_80 fP m_81 o_82) := hD
                    exact W.vret hx hb hr (fun t ht hW => ⟨⟨(), rfl, trivial, n_80, m_81, o_82, (fun c h1 h2 => ((u_83.2 c h1 h2).trans (u_77.2 c h1 h2)).trans (v37_2 c h1 h2)), (by have h9 := u_83.1.1; have h8 := u_77.1.2 0 (by omega) (by omega); omega), by rw [ht]; exact hP, va_K.moved hW.alike hK, hD⟩, hS.F ht⟩) hS.2.2 dX10_adds_69
                  · have tk_72 := c_nle (a := ii.toInt) (b := kk.toInt) rfl rfl k_72
                    refine lv_aload_n hx hb dX10_adds_42 rfl (lv_at hl 2 rfl) ?_
                    refine lv_iload_n hx hb dX10_adds_43 rfl (lv_at hl 0 rfl) ?_
                    refine lv_iconst (v := 1) hx hb dX10_adds_44 (by decide) ?_
                    refine lv_iadd hx hb dX10_adds_45 ?_
                    refine lv_topi (fun y_84 ey_84 => ?_)
                    first | have ty_84 := i_add (a := ii.toInt) (b := 1) rfl (by decide) ey_84 (by omega) (by omega) | skip
                    refine lv_aload_n hx hb dX10_adds_46 rfl (lv_at hl 2 rfl) ?_
                    refine lv_iload_n hx hb dX10_adds_47 rfl (lv_at hl 0 rfl) ?_
                    refine va_iald hx hb hK hP (rPos (a1)) (rTy (a1)) (mW_R (by first | assumption | (unfold IR; omega))) (mT_R _) (i := ii) (vp_of (a := ii.toInt) rfl (by omega) (by omega)) dX10_adds_48 ?_
                    refine lv_topi (fun y_85 ey_85 => ?_)
                    have rg_y_85 := i_rng y_85
                    have vy_85 := vI_lda (f := (rO hn hm ho) a1) (i := ii) (a := ii.toInt) ey_85 (by first | omega | decide)
                    refine va_iast hx hb hK hP hD hS (rPos (a1)) (rTy (a1)) (mW_R (by first | assumption | (unfold IR; omega))) (mT_R _) (i := y_84) (vp_of (a := y_84.toInt) rfl (by omega) (by omega)) dX10_adds_49 (fun H locs hP hD hS => ?_)
                    obtain ⟨n_86, m_87, o_88, hP, hD, wu_89⟩ := mW_Rx (by first | assumption | (unfold IR; omega)) hP hD
                    have u_89 := rU_v (x := (ii.toInt + 1)) (y := y_85.toInt) wu_89 (by first | assumption | (unfold IR; omega)) (by first | omega | decide) (by omega) rfl
                    have hP : va_P (dC, dI) vwCl (mW ad kc x0 x1 x2 x3 x4 x5 x6 x7 x8 x9 x10 x11 x12 x13 x14 x15 x16 x17 x18 x19 x20 x21 f0 f1 f2 f3 f4 f5 f6 f7 f8 f9 f10 f11 f12 f13 f14 f15 f16 f17 f18 f19 f20 f21 fL n_86 fP m_87 o_88) H := hP
                    have hD : va_D A (mW ad kc x0 x1 x2 x3 x4 x5 x6 x7 x8 x9 x10 x11 x12 x13 x14 x15 x16 x17 x18 x19 x20 x21 f0 f1 f2 f3 f4 f5 f6 f7 f8 f9 f10 f11 f12 f13 f14 f15 f16 f17 f18 f19 f20 f21 fL n_86 fP m_87 o_88) := hD
                    obtain ⟨y_90, ey_90⟩ : ∃ y : Int32, y = ii + (-1) := ⟨_, rfl⟩
                    first | have ty_90 := i_add (a := ii.toInt) (b := (-1)) rfl (by decide) ey_90 (by omega) (by omega) | skip
                    refine lv_iinc (v := y_90) (lv' := [(3, .int y_90), (2, .int kk), (0, .ref (ad a1)), (1, .int i2)]) hx hb dX10_adds_50 hl (k := 0) rfl (by rw [ey_90]; rfl) (by decide) rfl (fun ls hl => ?_)
                    refine lv_goto (tgt := 37) hx hb dX10_adds_53 (by decide) ?_
                    exact ih37 y_90 n_86 m_87 o_88 (by first | omega | assumption | decide) (by first | omega | assumption | decide) (fun c h1 h2 => (u_89.2 c h1 h2).trans (v37_2 c h1 h2)) (by rw [u_89.1.2 0 (by omega) (by omega)]; exact v37_3) (by omega) _ _ ls hP hD hS (lv_sub hl [0, 1, 2, 3] rfl)
              exact loop37 _ y_71 fN fM fO (by first | omega | assumption | decide) (by first | omega | assumption | decide) (fun _ _ _ => rfl) rfl (Nat.lt_succ_self _) _ _ ls hP hD hS (lv_sub hl [0, 1, 2, 3] rfl)
            · have tk_70 := c_eq (a := y_69.toInt) (b := i2.toInt) rfl rfl k_70
              exact W.vret hx hb hr (fun t ht hW => ⟨⟨(), rfl, trivial, fN, fM, fO, (fun _ _ _ => rfl), ⟨by omega, by omega⟩, by rw [ht]; exact hP, va_K.moved hW.alike hK, hD⟩, hS.F ht⟩) hS.2.2 dX10_adds_32
        · have tk_47 := c_nle (a := y_46.toInt) (b := i2.toInt) rfl rfl k_47
          obtain ⟨y_91, ey_91⟩ : ∃ y : Int32, y = kk + (-1) := ⟨_, rfl⟩
          first | have ty_91 := i_add (a := kk.toInt) (b := (-1)) rfl (by decide) ey_91 (by omega) (by omega) | skip
          refine lv_iinc (v := y_91) (lv' := [(2, .int y_91), (0, .ref (ad a1)), (1, .int i2)]) hx hb dX10_adds_15 hl (k := 0) rfl (by rw [ey_91]; rfl) (by decide) rfl (fun ls hl => ?_)
          refine lv_goto (tgt := 4) hx hb dX10_adds_18 (by decide) ?_
          exact ih4 y_91 (by first | omega | assumption | decide) (by first | omega | assumption | decide) (by omega) _ _ ls hP hD hS (lv_sub hl [0, 1, 2] rfl)
  exact loop4 _ y_1 (by first | omega | assumption | decide) (by first | omega | assumption | decide) (Nat.lt_succ_self _) _ _ ls hP hD hS (lv_sub hl [0, 1, 2] rfl)

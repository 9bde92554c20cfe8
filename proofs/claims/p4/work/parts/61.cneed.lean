/-- where the CHOICES begin -/
def stI (f fo fs : Nat → Int32) (k : Int) : Prop := vI f 0 = 0 ∧ ∀ j : Int, 0 ≤ j → j < k → vI f (j + 1) = vI f j + vI fs (vI fo j)
theorem stI.le {f fo fs : Nat → Int32} {k : Int} (h : stI f fo fs k) (hs : ∀ i, 0 ≤ (fs i).toInt ∧ (fs i).toInt ≤ 24) : ∀ n : Nat, (n : Int) ≤ k → 0 ≤ vI f n ∧ vI f n ≤ 24 * n
  | 0, _ => by
    have := h.1
    show 0 ≤ vI f 0 ∧ vI f 0 ≤ 24 * ((0 : Nat) : Int)
    omega
  | n + 1, hn => by
    have h1 := stI.le h hs n (by omega)
    have h2 := h.2 n (by omega) (by omega)
    have h3 := hs (vI fo n).toNat
    have h4 : vI fs (vI fo n) = (fs (vI fo n).toNat).toInt := rfl
    have e : ((n + 1 : Nat) : Int) = (n : Int) + 1 := by omega
    rw [e]
    omega
theorem stI.mono {f fo fs : Nat → Int32} {k : Int} (h : stI f fo fs k) (hs : ∀ i, 0 ≤ (fs i).toInt ∧ (fs i).toInt ≤ 24) (i : Int) (h0 : 0 ≤ i) : ∀ n : Nat, i + n ≤ k → vI f i ≤ vI f (i + n)
  | 0, _ => by
    rw [show i + ((0 : Nat) : Int) = i by omega]; exact Int.le_refl _
  | n + 1, hn => by
    have h1 := stI.mono h hs i h0 n (by omega)
    have h2 := h.2 (i + n) (by omega) (by omega)
    have h3 := hs (vI fo (i + n)).toNat
    have h4 : vI fs (vI fo (i + n)) = (fs (vI fo (i + n)).toNat).toInt := rfl
    rw [show i + ((n + 1 : Nat) : Int) = i + n + 1 by omega]
    omega
theorem stI.step {f g fo fs : Nat → Int32} {k v : Int} (h : stI f fo fs k) (h0 : 0 ≤ k) (hu : vI g (k + 1) = v ∧ ∀ z : Int, 0 ≤ z → z ≠ k + 1 → vI g z = vI f z) (hv : v = vI f k + vI fs (vI fo k)) : stI g fo fs (k + 1) := by
  refine ⟨by rw [hu.2 0 (by omega) (by omega)]; exact h.1, fun j h1 h2 => ?_⟩
  by_cases e : j = k
  · subst e
    rw [hu.1, hv, hu.2 j (by omega) (by omega)]
  · rw [hu.2 (j + 1) (by omega) (by omega), hu.2 j (by omega) (by omega)]
    exact h.2 j h1 (by omega)
theorem dX3_startsBy_0 : decode cX3_startsBy 0 = .ok (.aload_n 1, 1) := by decide +kernel
theorem dX3_startsBy_1 : decode cX3_startsBy 1 = .ok (.arraylength, 1) := by decide +kernel
theorem dX3_startsBy_2 : decode cX3_startsBy 2 = .ok (.iconst 1, 1) := by decide +kernel
theorem dX3_startsBy_3 : decode cX3_startsBy 3 = .ok (.iadd, 1) := by decide +kernel
theorem dX3_startsBy_4 : decode cX3_startsBy 4 = .ok (.newarray .int, 2) := by decide +kernel
theorem dX3_startsBy_6 : decode cX3_startsBy 6 = .ok (.astore_n 2, 1) := by decide +kernel
theorem dX3_startsBy_7 : decode cX3_startsBy 7 = .ok (.iconst 0, 1) := by decide +kernel
theorem dX3_startsBy_8 : decode cX3_startsBy 8 = .ok (.istore_n 3, 1) := by decide +kernel
theorem dX3_startsBy_9 : decode cX3_startsBy 9 = .ok (.iload_n 3, 1) := by decide +kernel
theorem dX3_startsBy_10 : decode cX3_startsBy 10 = .ok (.aload_n 1, 1) := by decide +kernel
theorem dX3_startsBy_11 : decode cX3_startsBy 11 = .ok (.arraylength, 1) := by decide +kernel
theorem dX3_startsBy_12 : decode cX3_startsBy 12 = .ok (.if_icmp .ge 26, 3) := by decide +kernel
theorem dX3_startsBy_15 : decode cX3_startsBy 15 = .ok (.aload_n 2, 1) := by decide +kernel
theorem dX3_startsBy_16 : decode cX3_startsBy 16 = .ok (.iload_n 3, 1) := by decide +kernel
theorem dX3_startsBy_17 : decode cX3_startsBy 17 = .ok (.iconst 1, 1) := by decide +kernel
theorem dX3_startsBy_18 : decode cX3_startsBy 18 = .ok (.iadd, 1) := by decide +kernel
theorem dX3_startsBy_19 : decode cX3_startsBy 19 = .ok (.aload_n 2, 1) := by decide +kernel
theorem dX3_startsBy_20 : decode cX3_startsBy 20 = .ok (.iload_n 3, 1) := by decide +kernel
theorem dX3_startsBy_21 : decode cX3_startsBy 21 = .ok (.iaload, 1) := by decide +kernel
theorem dX3_startsBy_22 : decode cX3_startsBy 22 = .ok (.aload_n 0, 1) := by decide +kernel
theorem dX3_startsBy_23 : decode cX3_startsBy 23 = .ok (.getfield 25, 3) := by decide +kernel
theorem dX3_startsBy_26 : decode cX3_startsBy 26 = .ok (.aload_n 1, 1) := by decide +kernel
theorem dX3_startsBy_27 : decode cX3_startsBy 27 = .ok (.iload_n 3, 1) := by decide +kernel
theorem dX3_startsBy_28 : decode cX3_startsBy 28 = .ok (.iaload, 1) := by decide +kernel
theorem dX3_startsBy_29 : decode cX3_startsBy 29 = .ok (.iaload, 1) := by decide +kernel
theorem dX3_startsBy_30 : decode cX3_startsBy 30 = .ok (.iadd, 1) := by decide +kernel
theorem dX3_startsBy_31 : decode cX3_startsBy 31 = .ok (.iastore, 1) := by decide +kernel
theorem dX3_startsBy_32 : decode cX3_startsBy 32 = .ok (.iinc 3 1, 3) := by decide +kernel
theorem dX3_startsBy_35 : decode cX3_startsBy 35 = .ok (.goto (-26), 3) := by decide +kernel
theorem dX3_startsBy_38 : decode cX3_startsBy 38 = .ok (.aload_n 2, 1) := by decide +kernel
theorem dX3_startsBy_39 : decode cX3_startsBy 39 = .ok (.areturn, 1) := by decide +kernel
def mwX3_startsBy : List Cond := .code yX3_startsBy cX3_startsBy 4 (some (.array .int)) :: (([.arrayClass .int, .fieldLink RX3 25 "PatternGate$Need" "sizes" "[I"] : List Cond) ++ (wsX30))
theorem fin_X3_startsBy_X3 : ∀ w ∈ wsX30, w ∈ mwX3_startsBy := fun w h => List.mem_cons_of_mem _ (List.mem_append_right _ (h))
set_option maxHeartbeats 4000000 in
set_option maxRecDepth 100000 in
/-- Need.startsBy -/
theorem s_startsBy (l : Launch) (dC : Nat → ClassId) (dI : Nat → Nat → Nat) (e1 t1 s1 R1 : Nat) (ct1 cs1 : ClassId) (ft1 fs1 : Nat → Int32) (m1 : Int32) (oa ko : Nat) (co : ClassId) (fo : Nat → Int32) (sz : Nat) (hR1 : 1 ≤ R1) (hU1 : R1 ≤ 144) (hc1 : 0 ≤ m1.toInt) (hd1 : m1.toInt ≤ R1) (hb_fs1 : ∀ i, 0 ≤ (fs1 i).toInt ∧ (fs1 i).toInt ≤ 24) (hko : ko ≤ 12) (hb_fo : ∀ i, 0 ≤ (fo i).toInt ∧ (fo i).toInt ≤ (R1 : Int) - 1) : Met l yX3_startsBy mwX3_startsBy ({ frames := 0, cells := 1, slots := 13, locals := 0 }) (va_Pc [.ref e1, .ref oa] (fun U => U.heap.size = sz ∧ va_P (dC, dI) vwCl ([(e1, .inr (3, [.int (nI R1), .ref t1, .ref s1, .int m1])), (t1, .inl (ct1, 24 * R1, .inl ft1)), (s1, .inl (cs1, R1, .inl fs1)), (oa, .inl (co, ko, .inl fo))]) U.heap ∧ va_K (dC, dI) vwCl ([(ct1, .int), (cs1, .int), (co, .int)]) U ∧ va_D (fun _ => True) ([(e1, .inr (3, [.int (nI R1), .ref t1, .ref s1, .int m1])), (t1, .inl (ct1, 24 * R1, .inl ft1)), (s1, .inl (cs1, R1, .inl fs1)), (oa, .inl (co, ko, .inl fo))]))) (va_Qr (fun (_ : Unit) => True) (fun _ a t => ∃ (f9 : Nat → Int32) (cN : ClassId), stI f9 fo fs1 ko ∧ va_P (dC, dI) vwCl [(e1, .inr (3, [.int (nI R1), .ref t1, .ref s1, .int m1])), (t1, .inl (ct1, 24 * R1, .inl ft1)), (s1, .inl (cs1, R1, .inl fs1)), (oa, .inl (co, ko, .inl fo)), (a, .inl (cN, (ko + 1), .inl f9))] t.heap ∧ va_K (dC, dI) vwCl [(ct1, .int), (cs1, .int), (co, .int), (cN, .int)] t ∧ va_D (va_A ([(e1, .inr (3, [.int (nI R1), .ref t1, .ref s1, .int m1])), (t1, .inl (ct1, 24 * R1, .inl ft1)), (s1, .inl (cs1, R1, .inl fs1)), (oa, .inl (co, ko, .inl fo))]) sz) [(e1, .inr (3, [.int (nI R1), .ref t1, .ref s1, .int m1])), (t1, .inl (ct1, 24 * R1, .inl ft1)), (s1, .inl (cs1, R1, .inl fs1)), (oa, .inl (co, ko, .inl fo)), (a, .inl (cN, (ko + 1), .inl f9))]) (va_A ([(e1, .inr (3, [.int (nI R1), .ref t1, .ref s1, .int m1])), (t1, .inl (ct1, 24 * R1, .inl ft1)), (s1, .inl (cs1, R1, .inl fs1)), (oa, .inl (co, ko, .inl fo))]) sz)) 1 13 (va_A ([(e1, .inr (3, [.int (nI R1), .ref t1, .ref s1, .int m1])), (t1, .inl (ct1, 24 * R1, .inl ft1)), (s1, .inl (cs1, R1, .inl fs1)), (oa, .inl (co, ko, .inl fo))]) sz) := by
  refine Met.ofW (cc := cX3_startsBy) (maxL := 4) (ret := (some (.array .int))) (by decide +kernel) rfl ?_
  intro p e s m args below meth c s₁ B hml hv
  obtain ⟨rfl, hsz, hP, hK, hD0⟩ := hv
  have hx := B.exec
  have hb := B.bytes
  have hr := B.returns
  have hts := atoms_spec (ws := mwX3_startsBy) B.pre
  have hown : s.vm.findClass RX3 = some m.cls := findClass_of_methodNamed B.named
  have hlocks := B.notSynchronized
  subst hsz
  have hD := hD0.self (sz := s.heap.size)
  generalize hAe : va_A ([(e1, .inr (3, [.int (nI R1), .ref t1, .ref s1, .int m1])), (t1, .inl (ct1, 24 * R1, .inl ft1)), (s1, .inl (cs1, R1, .inl fs1)), (oa, .inl (co, ko, .inl fo))]) s.heap.size = A at hD ⊢
  have hA : ∀ q : Nat, s.heap.size ≤ q → A q := fun q h => by rw [← hAe]; exact Or.inr h
  have hP : va_P (dC, dI) vwCl [(e1, .inr (3, [.int (nI R1), .ref t1, .ref s1, .int m1])), (t1, .inl (ct1, 24 * R1, .inl ft1)), (s1, .inl (cs1, R1, .inl fs1)), (oa, .inl (co, ko, .inl fo))] s.heap := hP
  have hD : va_D A [(e1, .inr (3, [.int (nI R1), .ref t1, .ref s1, .int m1])), (t1, .inl (ct1, 24 * R1, .inl ft1)), (s1, .inl (cs1, R1, .inl fs1)), (oa, .inl (co, ko, .inl fo))] := hD
  have hK : va_K (dC, dI) vwCl [(ct1, .int), (cs1, .int), (co, .int)] s := hK
  generalize hH : s.heap = H at hP ⊢
  have hS : va_S A s.heap H [] := by rw [← hH]; exact va_S.rf
  have hl := lv_entry ([.ref e1, .ref oa]) (n := 4) (Nat.le_of_ble_eq_true rfl)
  rw [lg_entry_eq]
  generalize (lg_sl ([.ref e1, .ref oa]) ++ List.replicate (4 - (lg_sl ([.ref e1, .ref oa])).length) Slot.unset).toArray = ls at hl ⊢
  have hl : lv_has ls 4 [(0, .ref e1), (1, .ref oa)] := hl
  have tr1 : (nI R1).toInt = (R1 : Int) := nI_toInt (by omega)
  have rm1 := i_rng m1
  refine lv_aload_n hx hb dX3_startsBy_0 rfl (lv_at hl 1 rfl) ?_
  refine va_alen hx hb hK hP 3 2 rfl rfl rfl dX3_startsBy_1 ?_
  refine lv_topi (fun y_1 ey_1 => ?_)
  have ty_1 : y_1.toInt = (ko : Int) := i_len ey_1 (by omega)
  refine lv_iconst (v := 1) hx hb dX3_startsBy_2 (by decide) ?_
  refine lv_iadd hx hb dX3_startsBy_3 ?_
  refine lv_topi (fun y_2 ey_2 => ?_)
  first | have ty_2 := i_add (a := y_1.toInt) (b := 1) rfl (by decide) ey_2 (by omega) (by omega) | skip
  obtain ⟨n_5, hn_5, en_5⟩ := nI_of (i_nn (x := y_2) rfl (by omega))
  have tn_5 : y_2.toInt = (n_5 : Int) := by rw [en_5]; exact nI_toInt hn_5
  have un_5 : n_5 ≤ 13 := by omega
  refine va_newa (atype := .int) (ty := .int) (n := y_2) (N' := n_5) (a0 := (n_5, .inl (fun _ => 0))) hx hb (hts (.arrayClass .int) (List.mem_of_getElem? (i := 1) (by decide +kernel))) rfl hK hP hD hS hA (fun _ => rfl) (i_nn rfl (by omega)) (by rw [en_5]; exact nI_clamp hn_5) (by show n_5 * 4 ≤ 536870912; omega) (Nat.le_of_ble_eq_true rfl) (Nat.le_trans (Nat.add_le_add_left un_5 _) (Nat.le_of_ble_eq_true rfl)) dX3_startsBy_4 (fun q_3 c_4 H hK hP hD hS => ?_)
  have hP : va_P (dC, dI) vwCl [(e1, .inr (3, [.int (nI R1), .ref t1, .ref s1, .int m1])), (t1, .inl (ct1, 24 * R1, .inl ft1)), (s1, .inl (cs1, R1, .inl fs1)), (oa, .inl (co, ko, .inl fo)), (q_3, .inl (c_4, n_5, .inl (fun _ => 0)))] H := hP
  have hD : va_D A [(e1, .inr (3, [.int (nI R1), .ref t1, .ref s1, .int m1])), (t1, .inl (ct1, 24 * R1, .inl ft1)), (s1, .inl (cs1, R1, .inl fs1)), (oa, .inl (co, ko, .inl fo)), (q_3, .inl (c_4, n_5, .inl (fun _ => 0)))] := hD
  have hK : va_K (dC, dI) vwCl [(ct1, .int), (cs1, .int), (co, .int), (c_4, .int)] s := hK
  refine W.widen (k := 1) (n := 13) (by omega) (by omega) ?_
  refine lv_astore_n (lv' := [(2, .ref q_3), (0, .ref e1), (1, .ref oa)]) hx hb dX3_startsBy_6 rfl hl (by decide) rfl (fun ls hl => ?_)
  refine lv_iconst (v := 0) hx hb dX3_startsBy_7 (by decide) ?_
  refine lv_istore_n (lv' := [(3, .int 0), (2, .ref q_3), (0, .ref e1), (1, .ref oa)]) hx hb dX3_startsBy_8 rfl hl (by decide) rfl (fun ls hl => ?_)
  obtain rfl : n_5 = ko + 1 := by omega
  have hP : va_P (dC, dI) vwCl [(e1, .inr (3, [.int (nI R1), .ref t1, .ref s1, .int m1])), (t1, .inl (ct1, 24 * R1, .inl ft1)), (s1, .inl (cs1, R1, .inl fs1)), (oa, .inl (co, ko, .inl fo)), (q_3, .inl (c_4, (ko + 1), .inl (fun _ => 0)))] H := hP
  have hD : va_D A [(e1, .inr (3, [.int (nI R1), .ref t1, .ref s1, .int m1])), (t1, .inl (ct1, 24 * R1, .inl ft1)), (s1, .inl (cs1, R1, .inl fs1)), (oa, .inl (co, ko, .inl fo)), (q_3, .inl (c_4, (ko + 1), .inl (fun _ => 0)))] := hD
  have loop9 : ∀ (lm9 : Nat) (ii : Int32) (ga : Nat → Int32), (0 ≤ ii.toInt ∧ ii.toInt ≤ ko) → (stI ga fo fs1 ii.toInt) → (((ko : Int) - ii.toInt).toNat) < lm9 → ∀ (H : Heap) (locs : List Loc) (ls : Array Slot), va_P (dC, dI) vwCl [(e1, .inr (3, [.int (nI R1), .ref t1, .ref s1, .int m1])), (t1, .inl (ct1, 24 * R1, .inl ft1)), (s1, .inl (cs1, R1, .inl fs1)), (oa, .inl (co, ko, .inl fo)), (q_3, .inl (c_4, (ko + 1), .inl ga))] H → va_D A [(e1, .inr (3, [.int (nI R1), .ref t1, .ref s1, .int m1])), (t1, .inl (ct1, 24 * R1, .inl ft1)), (s1, .inl (cs1, R1, .inl fs1)), (oa, .inl (co, ko, .inl fo)), (q_3, .inl (c_4, (ko + 1), .inl ga))] → va_S A s.heap H locs → lv_has ls 4 [(3, .int ii), (2, .ref q_3), (0, .ref e1), (1, .ref oa)] → W p l e (headSpec mwX3_startsBy ({ frames := 0, cells := 1, slots := 13, locals := 0 })).room s m ([.ref e1, .ref oa]).toArray below meth c H locs 1 13 (MQ below (va_Qr (fun (_ : Unit) => True) (fun _ a t => ∃ (f9 : Nat → Int32) (cN : ClassId), stI f9 fo fs1 ko ∧ va_P (dC, dI) vwCl [(e1, .inr (3, [.int (nI R1), .ref t1, .ref s1, .int m1])), (t1, .inl (ct1, 24 * R1, .inl ft1)), (s1, .inl (cs1, R1, .inl fs1)), (oa, .inl (co, ko, .inl fo)), (a, .inl (cN, (ko + 1), .inl f9))] t.heap ∧ va_K (dC, dI) vwCl [(ct1, .int), (cs1, .int), (co, .int), (cN, .int)] t ∧ va_D A [(e1, .inr (3, [.int (nI R1), .ref t1, .ref s1, .int m1])), (t1, .inl (ct1, 24 * R1, .inl ft1)), (s1, .inl (cs1, R1, .inl fs1)), (oa, .inl (co, ko, .inl fo)), (a, .inl (cN, (ko + 1), .inl f9))]) A) ([.ref e1, .ref oa]).toArray s 1 13 A) (F0 m 9 ls []) := by
    intro lm9
    induction lm9 with
    | zero => intro ii ga v9_0 v9_1 hm9; exact absurd hm9 (Nat.not_lt_zero _)
    | succ lm9 ih9 =>
      intro ii ga v9_0 v9_1 hm9 H locs ls hP hD hS hl
      have rg_ii := i_rng ii
      refine lv_iload_n hx hb dX3_startsBy_9 rfl (lv_at hl 0 rfl) ?_
      refine lv_aload_n hx hb dX3_startsBy_10 rfl (lv_at hl 3 rfl) ?_
      refine va_alen hx hb hK hP 3 2 rfl rfl rfl dX3_startsBy_11 ?_
      refine lv_topi (fun y_6 ey_6 => ?_)
      have ty_6 : y_6.toInt = (ko : Int) := i_len ey_6 (by omega)
      refine lv_icmp_ge (tgt := 38) hx hb dX3_startsBy_12 (by decide) (fun k_7 => ?_) (fun k_7 => ?_)
      · have tk_7 := c_ge (a := ii.toInt) (b := y_6.toInt) rfl rfl k_7
        refine lv_aload_n hx hb dX3_startsBy_38 rfl (lv_at hl 1 rfl) ?_
        have hP9 := hP.sub (ws' := [(e1, .inr (3, [.int (nI R1), .ref t1, .ref s1, .int m1])), (t1, .inl (ct1, 24 * R1, .inl ft1)), (s1, .inl (cs1, R1, .inl fs1)), (oa, .inl (co, ko, .inl fo)), (q_3, .inl (c_4, (ko + 1), .inl ga))]) [0, 1, 2, 3, 4] rfl
        have hD9 := hD.sub (ws' := [(e1, .inr (3, [.int (nI R1), .ref t1, .ref s1, .int m1])), (t1, .inl (ct1, 24 * R1, .inl ft1)), (s1, .inl (cs1, R1, .inl fs1)), (oa, .inl (co, ko, .inl fo)), (q_3, .inl (c_4, (ko + 1), .inl ga))]) [0, 1, 2, 3, 4] (by decide) rfl
        have hK9 := hK.sub (tys' := [(ct1, .int), (cs1, .int), (co, .int), (c_4, .int)]) [0, 1, 2, 3] rfl
        refine W.widen (k := 1) (n := 13) (by omega) (by omega) ?_
        exact W.aret hx hb hr (Or.inr ⟨_, rfl⟩) (Or.inr ⟨_, rfl⟩) (fun t ht hW => ⟨⟨(), _, rfl, trivial, ga, c_4, (by have h9 := v9_1; rw [show ii.toInt = (ko : Int) by omega] at h9; exact h9), by rw [ht]; exact hP9, va_K.moved hW.alike hK9, hD9⟩, hS.F ht⟩) hS.2.2 dX3_startsBy_39
      · have tk_7 := c_nge (a := ii.toInt) (b := y_6.toInt) rfl rfl k_7
        refine lv_aload_n hx hb dX3_startsBy_15 rfl (lv_at hl 1 rfl) ?_
        refine lv_iload_n hx hb dX3_startsBy_16 rfl (lv_at hl 0 rfl) ?_
        refine lv_iconst (v := 1) hx hb dX3_startsBy_17 (by decide) ?_
        refine lv_iadd hx hb dX3_startsBy_18 ?_
        refine lv_topi (fun y_8 ey_8 => ?_)
        first | have ty_8 := i_add (a := ii.toInt) (b := 1) rfl (by decide) ey_8 (by omega) (by omega) | skip
        refine lv_aload_n hx hb dX3_startsBy_19 rfl (lv_at hl 1 rfl) ?_
        refine lv_iload_n hx hb dX3_startsBy_20 rfl (lv_at hl 0 rfl) ?_
        refine va_iald hx hb hK hP 4 3 rfl rfl (i := ii) (vp_of (a := ii.toInt) rfl (by omega) (by omega)) dX3_startsBy_21 ?_
        refine lv_topi (fun y_9 ey_9 => ?_)
        have rg_y_9 := i_rng y_9
        have vy_9 := vI_lda (f := ga) (i := ii) (a := ii.toInt) ey_9 (by first | omega | decide)
        have rg_y_9 := i_rng y_9
        have hle := v9_1.le hb_fs1 ii.toInt.toNat (by omega)
        rw [Int.toNat_of_nonneg (by omega)] at hle
        refine lv_aload_n hx hb dX3_startsBy_22 rfl (lv_at hl 2 rfl) ?_
        refine va_get (D := (dC, dI)) (ci := 3) (v := .ref s1) (C := RX3) (T := TX3) (N := 4) hx hb hts fin_X3_startsBy_X3 hown hK hP 0 rfl rfl 2 (by decide) (hts (.fieldLink RX3 25 "PatternGate$Need" "sizes" "[I") (List.mem_of_getElem? (i := 2) (by decide +kernel))) (fun _ h9 => h9) rfl dX3_startsBy_23 ?_
        refine lv_aload_n hx hb dX3_startsBy_26 rfl (lv_at hl 3 rfl) ?_
        refine lv_iload_n hx hb dX3_startsBy_27 rfl (lv_at hl 0 rfl) ?_
        refine va_iald hx hb hK hP 3 2 rfl rfl (i := ii) (vp_of (a := ii.toInt) rfl (by omega) (by omega)) dX3_startsBy_28 ?_
        refine lv_topi (fun y_10 ey_10 => ?_)
        have rg_y_10 := i_rng y_10
        have vy_10 := vI_lda (f := fo) (i := ii) (a := ii.toInt) ey_10 (by first | omega | decide)
        have rg_y_10 := i_rng y_10
        have by_10 : 0 ≤ y_10.toInt ∧ y_10.toInt ≤ (R1 : Int) - 1 := by rw [ey_10]; exact hb_fo _
        refine va_iald hx hb hK hP 2 1 rfl rfl (i := y_10) (vp_of (a := y_10.toInt) rfl (by omega) (by omega)) dX3_startsBy_29 ?_
        refine lv_topi (fun y_11 ey_11 => ?_)
        have rg_y_11 := i_rng y_11
        have vy_11 := vI_lda (f := fs1) (i := y_10) (a := y_10.toInt) ey_11 (by first | omega | decide)
        have rg_y_11 := i_rng y_11
        have by_11 : 0 ≤ y_11.toInt ∧ y_11.toInt ≤ 24 := by rw [ey_11]; exact hb_fs1 _
        have hsum : y_9.toInt + y_11.toInt = vI ga ii.toInt + vI fs1 (vI fo ii.toInt) := by rw [vy_9, vy_11, ← vy_10]
        refine lv_iadd hx hb dX3_startsBy_30 ?_
        refine lv_topi (fun y_12 ey_12 => ?_)
        first | have ty_12 := i_add (a := y_9.toInt) (b := y_11.toInt) rfl rfl ey_12 (by omega) (by omega) | skip
        refine va_iast hx hb hK hP hD hS 4 3 rfl rfl (i := y_8) (vp_of (a := y_8.toInt) rfl (by omega) (by omega)) dX3_startsBy_31 (fun H locs hP hD hS => ?_)
        generalize hf_f_13 : upd ga _ _ = f_13 at hP hD
        have uf_13 := vI_up (a := (ii.toInt + 1)) (b := y_12.toInt) hf_f_13 (by first | omega | decide) (by omega) rfl
        have hP : va_P (dC, dI) vwCl [(e1, .inr (3, [.int (nI R1), .ref t1, .ref s1, .int m1])), (t1, .inl (ct1, 24 * R1, .inl ft1)), (s1, .inl (cs1, R1, .inl fs1)), (oa, .inl (co, ko, .inl fo)), (q_3, .inl (c_4, (ko + 1), .inl f_13))] H := hP
        have hD : va_D A [(e1, .inr (3, [.int (nI R1), .ref t1, .ref s1, .int m1])), (t1, .inl (ct1, 24 * R1, .inl ft1)), (s1, .inl (cs1, R1, .inl fs1)), (oa, .inl (co, ko, .inl fo)), (q_3, .inl (c_4, (ko + 1), .inl f_13))] := hD
        obtain ⟨y_14, ey_14⟩ : ∃ y : Int32, y = ii + 1 := ⟨_, rfl⟩
        first | have ty_14 := i_add (a := ii.toInt) (b := 1) rfl (by decide) ey_14 (by omega) (by omega) | skip
        refine lv_iinc (v := y_14) (lv' := [(3, .int y_14), (2, .ref q_3), (0, .ref e1), (1, .ref oa)]) hx hb dX3_startsBy_32 hl (k := 0) rfl (by rw [ey_14]; rfl) (by decide) rfl (fun ls hl => ?_)
        refine lv_goto (tgt := 9) hx hb dX3_startsBy_35 (by decide) ?_
        exact ih9 y_14 f_13 (by first | omega | assumption | decide) (by rw [show y_14.toInt = ii.toInt + 1 by omega]; exact v9_1.step (by omega) uf_13 (by have h9 := hsum; omega)) (by omega) _ _ ls hP hD hS (lv_sub hl [0, 1, 2, 3] rfl)
  have lit_14 : (0 : Int32).toInt = 0 := by decide
  exact loop9 _ 0 (fun _ => 0) (by first | omega | assumption | decide) ⟨rfl, fun j h1 h2 => by omega⟩ (Nat.lt_succ_self _) _ _ ls hP hD hS (lv_sub hl [0, 1, 2, 3] rfl)
theorem dX3_triplesBy_0 : decode cX3_triplesBy 0 = .ok (.aload_n 2, 1) := by decide +kernel
theorem dX3_triplesBy_1 : decode cX3_triplesBy 1 = .ok (.aload_n 1, 1) := by decide +kernel
theorem dX3_triplesBy_2 : decode cX3_triplesBy 2 = .ok (.arraylength, 1) := by decide +kernel
theorem dX3_triplesBy_3 : decode cX3_triplesBy 3 = .ok (.iaload, 1) := by decide +kernel
theorem dX3_triplesBy_4 : decode cX3_triplesBy 4 = .ok (.newarray .int, 2) := by decide +kernel
theorem dX3_triplesBy_6 : decode cX3_triplesBy 6 = .ok (.astore_n 3, 1) := by decide +kernel
theorem dX3_triplesBy_7 : decode cX3_triplesBy 7 = .ok (.iconst 0, 1) := by decide +kernel
theorem dX3_triplesBy_8 : decode cX3_triplesBy 8 = .ok (.istore 4, 2) := by decide +kernel
theorem dX3_triplesBy_10 : decode cX3_triplesBy 10 = .ok (.iload 4, 2) := by decide +kernel
theorem dX3_triplesBy_12 : decode cX3_triplesBy 12 = .ok (.aload_n 1, 1) := by decide +kernel
theorem dX3_triplesBy_13 : decode cX3_triplesBy 13 = .ok (.arraylength, 1) := by decide +kernel
theorem dX3_triplesBy_14 : decode cX3_triplesBy 14 = .ok (.if_icmp .ge 37, 3) := by decide +kernel
theorem dX3_triplesBy_17 : decode cX3_triplesBy 17 = .ok (.aload_n 0, 1) := by decide +kernel
theorem dX3_triplesBy_18 : decode cX3_triplesBy 18 = .ok (.getfield 21, 3) := by decide +kernel
theorem dX3_triplesBy_21 : decode cX3_triplesBy 21 = .ok (.aload_n 1, 1) := by decide +kernel
theorem dX3_triplesBy_22 : decode cX3_triplesBy 22 = .ok (.iload 4, 2) := by decide +kernel
theorem dX3_triplesBy_24 : decode cX3_triplesBy 24 = .ok (.iaload, 1) := by decide +kernel
theorem dX3_triplesBy_25 : decode cX3_triplesBy 25 = .ok (.bipush 24, 2) := by decide +kernel
theorem dX3_triplesBy_27 : decode cX3_triplesBy 27 = .ok (.imul, 1) := by decide +kernel
theorem dX3_triplesBy_28 : decode cX3_triplesBy 28 = .ok (.aload_n 3, 1) := by decide +kernel
theorem dX3_triplesBy_29 : decode cX3_triplesBy 29 = .ok (.aload_n 2, 1) := by decide +kernel
theorem dX3_triplesBy_30 : decode cX3_triplesBy 30 = .ok (.iload 4, 2) := by decide +kernel
theorem dX3_triplesBy_32 : decode cX3_triplesBy 32 = .ok (.iaload, 1) := by decide +kernel
theorem dX3_triplesBy_33 : decode cX3_triplesBy 33 = .ok (.aload_n 0, 1) := by decide +kernel
theorem dX3_triplesBy_34 : decode cX3_triplesBy 34 = .ok (.getfield 25, 3) := by decide +kernel
theorem dX3_triplesBy_37 : decode cX3_triplesBy 37 = .ok (.aload_n 1, 1) := by decide +kernel
theorem dX3_triplesBy_38 : decode cX3_triplesBy 38 = .ok (.iload 4, 2) := by decide +kernel
theorem dX3_triplesBy_40 : decode cX3_triplesBy 40 = .ok (.iaload, 1) := by decide +kernel
theorem dX3_triplesBy_41 : decode cX3_triplesBy 41 = .ok (.iaload, 1) := by decide +kernel
theorem dX3_triplesBy_42 : decode cX3_triplesBy 42 = .ok (.invokestatic 38, 3) := by decide +kernel
theorem dX3_triplesBy_45 : decode cX3_triplesBy 45 = .ok (.iinc 4 1, 3) := by decide +kernel
theorem dX3_triplesBy_48 : decode cX3_triplesBy 48 = .ok (.goto (-38), 3) := by decide +kernel
theorem dX3_triplesBy_51 : decode cX3_triplesBy 51 = .ok (.aload_n 3, 1) := by decide +kernel
theorem dX3_triplesBy_52 : decode cX3_triplesBy 52 = .ok (.areturn, 1) := by decide +kernel
def mwX3_triplesBy : List Cond := .code yX3_triplesBy cX3_triplesBy 5 (some (.array .int)) :: (([.arrayClass .int, .fieldLink RX3 21 "PatternGate$Need" "triples" "[I", .fieldLink RX3 25 "PatternGate$Need" "sizes" "[I", .methodLink RX3 38 arraycopyName, .native arraycopyName, .static arraycopyName, .initialized "java/lang/System"] : List Cond) ++ (wsX30))
theorem fin_X3_triplesBy_X3 : ∀ w ∈ wsX30, w ∈ mwX3_triplesBy := fun w h => List.mem_cons_of_mem _ (List.mem_append_right _ (h))
set_option maxHeartbeats 4000000 in
set_option maxRecDepth 100000 in
/-- Need.triplesBy -/
theorem s_triplesBy (l : Launch) (dC : Nat → ClassId) (dI : Nat → Nat → Nat) (e1 t1 s1 R1 : Nat) (ct1 cs1 : ClassId) (ft1 fs1 : Nat → Int32) (m1 : Int32) (oa ko : Nat) (co : ClassId) (fo : Nat → Int32) (sa : Nat) (cst : ClassId) (fst : Nat → Int32) (sz : Nat) (hR1 : 1 ≤ R1) (hU1 : R1 ≤ 144) (hc1 : 0 ≤ m1.toInt) (hd1 : m1.toInt ≤ R1) (hb_fs1 : ∀ i, 0 ≤ (fs1 i).toInt ∧ (fs1 i).toInt ≤ 24) (hko : ko ≤ 12) (hb_fo : ∀ i, 0 ≤ (fo i).toInt ∧ (fo i).toInt ≤ (R1 : Int) - 1) (hst : stI fst fo fs1 ko) : Met l yX3_triplesBy mwX3_triplesBy ({ frames := 1, cells := 1, slots := 288, locals := 60 }) (va_Pc [.ref e1, .ref oa, .ref sa] (fun U => U.heap.size = sz ∧ va_P (dC, dI) vwCl ([(e1, .inr (3, [.int (nI R1), .ref t1, .ref s1, .int m1])), (t1, .inl (ct1, 24 * R1, .inl ft1)), (s1, .inl (cs1, R1, .inl fs1)), (oa, .inl (co, ko, .inl fo)), (sa, .inl (cst, (ko + 1), .inl fst))]) U.heap ∧ va_K (dC, dI) vwCl ([(ct1, .int), (cs1, .int), (co, .int), (cst, .int)]) U ∧ va_D (fun _ => True) ([(e1, .inr (3, [.int (nI R1), .ref t1, .ref s1, .int m1])), (t1, .inl (ct1, 24 * R1, .inl ft1)), (s1, .inl (cs1, R1, .inl fs1)), (oa, .inl (co, ko, .inl fo)), (sa, .inl (cst, (ko + 1), .inl fst))]))) (va_Qr (fun (_ : Unit) => True) (fun _ a t => ∃ (k9 : Nat) (f9 : Nat → Int32) (cN : ClassId), (k9 : Int) = vI fst (ko : Int) ∧ va_P (dC, dI) vwCl [(e1, .inr (3, [.int (nI R1), .ref t1, .ref s1, .int m1])), (t1, .inl (ct1, 24 * R1, .inl ft1)), (s1, .inl (cs1, R1, .inl fs1)), (oa, .inl (co, ko, .inl fo)), (sa, .inl (cst, (ko + 1), .inl fst)), (a, .inl (cN, k9, .inl f9))] t.heap ∧ va_K (dC, dI) vwCl [(ct1, .int), (cs1, .int), (co, .int), (cst, .int), (cN, .int)] t ∧ va_D (va_A ([(e1, .inr (3, [.int (nI R1), .ref t1, .ref s1, .int m1])), (t1, .inl (ct1, 24 * R1, .inl ft1)), (s1, .inl (cs1, R1, .inl fs1)), (oa, .inl (co, ko, .inl fo)), (sa, .inl (cst, (ko + 1), .inl fst))]) sz) [(e1, .inr (3, [.int (nI R1), .ref t1, .ref s1, .int m1])), (t1, .inl (ct1, 24 * R1, .inl ft1)), (s1, .inl (cs1, R1, .inl fs1)), (oa, .inl (co, ko, .inl fo)), (sa, .inl (cst, (ko + 1), .inl fst)), (a, .inl (cN, k9, .inl f9))]) (va_A ([(e1, .inr (3, [.int (nI R1), .ref t1, .ref s1, .int m1])), (t1, .inl (ct1, 24 * R1, .inl ft1)), (s1, .inl (cs1, R1, .inl fs1)), (oa, .inl (co, ko, .inl fo)), (sa, .inl (cst, (ko + 1), .inl fst))]) sz)) 1 288 (va_A ([(e1, .inr (3, [.int (nI R1), .ref t1, .ref s1, .int m1])), (t1, .inl (ct1, 24 * R1, .inl ft1)), (s1, .inl (cs1, R1, .inl fs1)), (oa, .inl (co, ko, .inl fo)), (sa, .inl (cst, (ko + 1), .inl fst))]) sz) := by
  refine Met.ofW (cc := cX3_triplesBy) (maxL := 5) (ret := (some (.array .int))) (by decide +kernel) rfl ?_
  intro p e s m args below meth c s₁ B hml hv
  obtain ⟨rfl, hsz, hP, hK, hD0⟩ := hv
  have hx := B.exec
  have hb := B.bytes
  have hr := B.returns
  have hts := atoms_spec (ws := mwX3_triplesBy) B.pre
  have hown : s.vm.findClass RX3 = some m.cls := findClass_of_methodNamed B.named
  have hlocks := B.notSynchronized
  subst hsz
  have hD := hD0.self (sz := s.heap.size)
  generalize hAe : va_A ([(e1, .inr (3, [.int (nI R1), .ref t1, .ref s1, .int m1])), (t1, .inl (ct1, 24 * R1, .inl ft1)), (s1, .inl (cs1, R1, .inl fs1)), (oa, .inl (co, ko, .inl fo)), (sa, .inl (cst, (ko + 1), .inl fst))]) s.heap.size = A at hD ⊢
  have hA : ∀ q : Nat, s.heap.size ≤ q → A q := fun q h => by rw [← hAe]; exact Or.inr h
  have hP : va_P (dC, dI) vwCl [(e1, .inr (3, [.int (nI R1), .ref t1, .ref s1, .int m1])), (t1, .inl (ct1, 24 * R1, .inl ft1)), (s1, .inl (cs1, R1, .inl fs1)), (oa, .inl (co, ko, .inl fo)), (sa, .inl (cst, (ko + 1), .inl fst))] s.heap := hP
  have hD : va_D A [(e1, .inr (3, [.int (nI R1), .ref t1, .ref s1, .int m1])), (t1, .inl (ct1, 24 * R1, .inl ft1)), (s1, .inl (cs1, R1, .inl fs1)), (oa, .inl (co, ko, .inl fo)), (sa, .inl (cst, (ko + 1), .inl fst))] := hD
  have hK : va_K (dC, dI) vwCl [(ct1, .int), (cs1, .int), (co, .int), (cst, .int)] s := hK
  generalize hH : s.heap = H at hP ⊢
  have hS : va_S A s.heap H [] := by rw [← hH]; exact va_S.rf
  have hl := lv_entry ([.ref e1, .ref oa, .ref sa]) (n := 5) (Nat.le_of_ble_eq_true rfl)
  rw [lg_entry_eq]
  generalize (lg_sl ([.ref e1, .ref oa, .ref sa]) ++ List.replicate (5 - (lg_sl ([.ref e1, .ref oa, .ref sa])).length) Slot.unset).toArray = ls at hl ⊢
  have hl : lv_has ls 5 [(0, .ref e1), (1, .ref oa), (2, .ref sa)] := hl
  have tr1 : (nI R1).toInt = (R1 : Int) := nI_toInt (by omega)
  have rm1 := i_rng m1
  refine lv_aload_n hx hb dX3_triplesBy_0 rfl (lv_at hl 2 rfl) ?_
  refine lv_aload_n hx hb dX3_triplesBy_1 rfl (lv_at hl 1 rfl) ?_
  refine va_alen hx hb hK hP 3 2 rfl rfl rfl dX3_triplesBy_2 ?_
  refine lv_topi (fun y_1 ey_1 => ?_)
  have ty_1 : y_1.toInt = (ko : Int) := i_len ey_1 (by omega)
  refine va_iald hx hb hK hP 4 3 rfl rfl (i := y_1) (vp_of (a := y_1.toInt) rfl (by omega) (by omega)) dX3_triplesBy_3 ?_
  refine lv_topi (fun y_2 ey_2 => ?_)
  have rg_y_2 := i_rng y_2
  have vy_2 := vI_lda (f := fst) (i := y_1) (a := y_1.toInt) ey_2 (by first | omega | decide)
  have rg_y_2 := i_rng y_2
  have hle := hst.le hb_fs1 ko (by omega)
  have hyk : y_2.toInt = vI fst (ko : Int) := vy_2.trans (by first | rfl | (congr 1 <;> omega))
  obtain ⟨n_5, hn_5, en_5⟩ := nI_of (i_nn (x := y_2) rfl (by omega))
  have tn_5 : y_2.toInt = (n_5 : Int) := by rw [en_5]; exact nI_toInt hn_5
  have un_5 : n_5 ≤ 288 := by omega
  refine va_newa (atype := .int) (ty := .int) (n := y_2) (N' := n_5) (a0 := (n_5, .inl (fun _ => 0))) hx hb (hts (.arrayClass .int) (List.mem_of_getElem? (i := 1) (by decide +kernel))) rfl hK hP hD hS hA (fun _ => rfl) (i_nn rfl (by omega)) (by rw [en_5]; exact nI_clamp hn_5) (by show n_5 * 4 ≤ 536870912; omega) (Nat.le_of_ble_eq_true rfl) (Nat.le_trans (Nat.add_le_add_left un_5 _) (Nat.le_of_ble_eq_true rfl)) dX3_triplesBy_4 (fun q_3 c_4 H hK hP hD hS => ?_)
  have hP : va_P (dC, dI) vwCl [(e1, .inr (3, [.int (nI R1), .ref t1, .ref s1, .int m1])), (t1, .inl (ct1, 24 * R1, .inl ft1)), (s1, .inl (cs1, R1, .inl fs1)), (oa, .inl (co, ko, .inl fo)), (sa, .inl (cst, (ko + 1), .inl fst)), (q_3, .inl (c_4, n_5, .inl (fun _ => 0)))] H := hP
  have hD : va_D A [(e1, .inr (3, [.int (nI R1), .ref t1, .ref s1, .int m1])), (t1, .inl (ct1, 24 * R1, .inl ft1)), (s1, .inl (cs1, R1, .inl fs1)), (oa, .inl (co, ko, .inl fo)), (sa, .inl (cst, (ko + 1), .inl fst)), (q_3, .inl (c_4, n_5, .inl (fun _ => 0)))] := hD
  have hK : va_K (dC, dI) vwCl [(ct1, .int), (cs1, .int), (co, .int), (cst, .int), (c_4, .int)] s := hK
  refine W.widen (k := 1) (n := 288) (by omega) (by omega) ?_
  refine lv_astore_n (lv' := [(3, .ref q_3), (0, .ref e1), (1, .ref oa), (2, .ref sa)]) hx hb dX3_triplesBy_6 rfl hl (by decide) rfl (fun ls hl => ?_)
  refine lv_iconst (v := 0) hx hb dX3_triplesBy_7 (by decide) ?_
  refine lv_istore (lv' := [(4, .int 0), (3, .ref q_3), (0, .ref e1), (1, .ref oa), (2, .ref sa)]) hx hb dX3_triplesBy_8 hl (by decide) rfl (fun ls hl => ?_)
  have loop10 : ∀ (lm10 : Nat) (ii : Int32) (ga : Nat → Int32), (0 ≤ ii.toInt ∧ ii.toInt ≤ ko) → (((ko : Int) - ii.toInt).toNat) < lm10 → ∀ (H : Heap) (locs : List Loc) (ls : Array Slot), va_P (dC, dI) vwCl [(e1, .inr (3, [.int (nI R1), .ref t1, .ref s1, .int m1])), (t1, .inl (ct1, 24 * R1, .inl ft1)), (s1, .inl (cs1, R1, .inl fs1)), (oa, .inl (co, ko, .inl fo)), (sa, .inl (cst, (ko + 1), .inl fst)), (q_3, .inl (c_4, n_5, .inl ga))] H → va_D A [(e1, .inr (3, [.int (nI R1), .ref t1, .ref s1, .int m1])), (t1, .inl (ct1, 24 * R1, .inl ft1)), (s1, .inl (cs1, R1, .inl fs1)), (oa, .inl (co, ko, .inl fo)), (sa, .inl (cst, (ko + 1), .inl fst)), (q_3, .inl (c_4, n_5, .inl ga))] → va_S A s.heap H locs → lv_has ls 5 [(4, .int ii), (3, .ref q_3), (0, .ref e1), (1, .ref oa), (2, .ref sa)] → W p l e (headSpec mwX3_triplesBy ({ frames := 1, cells := 1, slots := 288, locals := 60 })).room s m ([.ref e1, .ref oa, .ref sa]).toArray below meth c H locs 1 288 (MQ below (va_Qr (fun (_ : Unit) => True) (fun _ a t => ∃ (k9 : Nat) (f9 : Nat → Int32) (cN : ClassId), (k9 : Int) = vI fst (ko : Int) ∧ va_P (dC, dI) vwCl [(e1, .inr (3, [.int (nI R1), .ref t1, .ref s1, .int m1])), (t1, .inl (ct1, 24 * R1, .inl ft1)), (s1, .inl (cs1, R1, .inl fs1)), (oa, .inl (co, ko, .inl fo)), (sa, .inl (cst, (ko + 1), .inl fst)), (a, .inl (cN, k9, .inl f9))] t.heap ∧ va_K (dC, dI) vwCl [(ct1, .int), (cs1, .int), (co, .int), (cst, .int), (cN, .int)] t ∧ va_D A [(e1, .inr (3, [.int (nI R1), .ref t1, .ref s1, .int m1])), (t1, .inl (ct1, 24 * R1, .inl ft1)), (s1, .inl (cs1, R1, .inl fs1)), (oa, .inl (co, ko, .inl fo)), (sa, .inl (cst, (ko + 1), .inl fst)), (a, .inl (cN, k9, .inl f9))]) A) ([.ref e1, .ref oa, .ref sa]).toArray s 1 288 A) (F0 m 10 ls []) := by
    intro lm10
    induction lm10 with
    | zero => intro ii ga v10_0 hm10; exact absurd hm10 (Nat.not_lt_zero _)
    | succ lm10 ih10 =>
      intro ii ga v10_0 hm10 H locs ls hP hD hS hl
      have rg_ii := i_rng ii
      refine lv_iload hx hb dX3_triplesBy_10 (lv_at hl 0 rfl) ?_
      refine lv_aload_n hx hb dX3_triplesBy_12 rfl (lv_at hl 3 rfl) ?_
      refine va_alen hx hb hK hP 3 2 rfl rfl rfl dX3_triplesBy_13 ?_
      refine lv_topi (fun y_6 ey_6 => ?_)
      have ty_6 : y_6.toInt = (ko : Int) := i_len ey_6 (by omega)
      refine lv_icmp_ge (tgt := 51) hx hb dX3_triplesBy_14 (by decide) (fun k_7 => ?_) (fun k_7 => ?_)
      · have tk_7 := c_ge (a := ii.toInt) (b := y_6.toInt) rfl rfl k_7
        refine lv_aload_n hx hb dX3_triplesBy_51 rfl (lv_at hl 1 rfl) ?_
        have hP9 := hP.sub (ws' := [(e1, .inr (3, [.int (nI R1), .ref t1, .ref s1, .int m1])), (t1, .inl (ct1, 24 * R1, .inl ft1)), (s1, .inl (cs1, R1, .inl fs1)), (oa, .inl (co, ko, .inl fo)), (sa, .inl (cst, (ko + 1), .inl fst)), (q_3, .inl (c_4, n_5, .inl ga))]) [0, 1, 2, 3, 4, 5] rfl
        have hD9 := hD.sub (ws' := [(e1, .inr (3, [.int (nI R1), .ref t1, .ref s1, .int m1])), (t1, .inl (ct1, 24 * R1, .inl ft1)), (s1, .inl (cs1, R1, .inl fs1)), (oa, .inl (co, ko, .inl fo)), (sa, .inl (cst, (ko + 1), .inl fst)), (q_3, .inl (c_4, n_5, .inl ga))]) [0, 1, 2, 3, 4, 5] (by decide) rfl
        have hK9 := hK.sub (tys' := [(ct1, .int), (cs1, .int), (co, .int), (cst, .int), (c_4, .int)]) [0, 1, 2, 3, 4] rfl
        refine W.widen (k := 1) (n := 288) (by omega) (by omega) ?_
        exact W.aret hx hb hr (Or.inr ⟨_, rfl⟩) (Or.inr ⟨_, rfl⟩) (fun t ht hW => ⟨⟨(), _, rfl, trivial, n_5, ga, c_4, by omega, by rw [ht]; exact hP9, va_K.moved hW.alike hK9, hD9⟩, hS.F ht⟩) hS.2.2 dX3_triplesBy_52
      · have tk_7 := c_nge (a := ii.toInt) (b := y_6.toInt) rfl rfl k_7
        refine lv_aload_n hx hb dX3_triplesBy_17 rfl (lv_at hl 2 rfl) ?_
        refine va_get (D := (dC, dI)) (ci := 3) (v := .ref t1) (C := RX3) (T := TX3) (N := 4) hx hb hts fin_X3_triplesBy_X3 hown hK hP 0 rfl rfl 1 (by decide) (hts (.fieldLink RX3 21 "PatternGate$Need" "triples" "[I") (List.mem_of_getElem? (i := 2) (by decide +kernel))) (fun _ h9 => h9) rfl dX3_triplesBy_18 ?_
        refine lv_aload_n hx hb dX3_triplesBy_21 rfl (lv_at hl 3 rfl) ?_
        refine lv_iload hx hb dX3_triplesBy_22 (lv_at hl 0 rfl) ?_
        refine va_iald hx hb hK hP 3 2 rfl rfl (i := ii) (vp_of (a := ii.toInt) rfl (by omega) (by omega)) dX3_triplesBy_24 ?_
        refine lv_topi (fun y_8 ey_8 => ?_)
        have rg_y_8 := i_rng y_8
        have vy_8 := vI_lda (f := fo) (i := ii) (a := ii.toInt) ey_8 (by first | omega | decide)
        have rg_y_8 := i_rng y_8
        have by_8 : 0 ≤ y_8.toInt ∧ y_8.toInt ≤ (R1 : Int) - 1 := by rw [ey_8]; exact hb_fo _
        refine lv_bipush (v := 24) hx hb dX3_triplesBy_25 (by decide) ?_
        refine lv_imul hx hb dX3_triplesBy_27 ?_
        refine lv_topi (fun y_9 ey_9 => ?_)
        first | have ty_9 := i_mul (a := y_8.toInt) (b := 24) rfl (by decide) ey_9 (by omega) (by omega) | skip
        refine lv_aload_n hx hb dX3_triplesBy_28 rfl (lv_at hl 1 rfl) ?_
        refine lv_aload_n hx hb dX3_triplesBy_29 rfl (lv_at hl 4 rfl) ?_
        refine lv_iload hx hb dX3_triplesBy_30 (lv_at hl 0 rfl) ?_
        refine va_iald hx hb hK hP 4 3 rfl rfl (i := ii) (vp_of (a := ii.toInt) rfl (by omega) (by omega)) dX3_triplesBy_32 ?_
        refine lv_topi (fun y_10 ey_10 => ?_)
        have rg_y_10 := i_rng y_10
        have vy_10 := vI_lda (f := fst) (i := ii) (a := ii.toInt) ey_10 (by first | omega | decide)
        have rg_y_10 := i_rng y_10
        refine lv_aload_n hx hb dX3_triplesBy_33 rfl (lv_at hl 2 rfl) ?_
        refine va_get (D := (dC, dI)) (ci := 3) (v := .ref s1) (C := RX3) (T := TX3) (N := 4) hx hb hts fin_X3_triplesBy_X3 hown hK hP 0 rfl rfl 2 (by decide) (hts (.fieldLink RX3 25 "PatternGate$Need" "sizes" "[I") (List.mem_of_getElem? (i := 3) (by decide +kernel))) (fun _ h9 => h9) rfl dX3_triplesBy_34 ?_
        refine lv_aload_n hx hb dX3_triplesBy_37 rfl (lv_at hl 3 rfl) ?_
        refine lv_iload hx hb dX3_triplesBy_38 (lv_at hl 0 rfl) ?_
        refine va_iald hx hb hK hP 3 2 rfl rfl (i := ii) (vp_of (a := ii.toInt) rfl (by omega) (by omega)) dX3_triplesBy_40 ?_
        refine lv_topi (fun y_11 ey_11 => ?_)
        have rg_y_11 := i_rng y_11
        have vy_11 := vI_lda (f := fo) (i := ii) (a := ii.toInt) ey_11 (by first | omega | decide)
        have rg_y_11 := i_rng y_11
        have by_11 : 0 ≤ y_11.toInt ∧ y_11.toInt ≤ (R1 : Int) - 1 := by rw [ey_11]; exact hb_fo _
        refine va_iald hx hb hK hP 2 1 rfl rfl (i := y_11) (vp_of (a := y_11.toInt) rfl (by omega) (by omega)) dX3_triplesBy_41 ?_
        refine lv_topi (fun y_12 ey_12 => ?_)
        have rg_y_12 := i_rng y_12
        have vy_12 := vI_lda (f := fs1) (i := y_11) (a := y_11.toInt) ey_12 (by first | omega | decide)
        have rg_y_12 := i_rng y_12
        have by_12 : 0 ≤ y_12.toInt ∧ y_12.toInt ≤ 24 := by rw [ey_12]; exact hb_fs1 _
        have hs1 := hst.2 ii.toInt (by omega) (by omega)
        have hs2 := hst.mono hb_fs1 (ii.toInt + 1) (by omega) ((ko : Int) - (ii.toInt + 1)).toNat (by omega)
        rw [show ii.toInt + 1 + ((((ko : Int) - (ii.toInt + 1)).toNat : Nat) : Int) = (ko : Int) by omega] at hs2
        have hs3 : y_12.toInt = vI fs1 (vI fo ii.toInt) := by rw [vy_12, ← vy_11]
        have hs4 := hst.le hb_fs1 ii.toInt.toNat (by omega)
        rw [Int.toNat_of_nonneg (by omega)] at hs4
        refine va_copyi hx hb (hml.trans hl.1.symm) hown (hts (.methodLink RX3 38 arraycopyName) (List.mem_of_getElem? (i := 4) (by decide +kernel))) (hts (.native arraycopyName) (List.mem_of_getElem? (i := 5) (by decide +kernel))) (hts (.static arraycopyName) (List.mem_of_getElem? (i := 6) (by decide +kernel))) (hts (.initialized "java/lang/System") (List.mem_of_getElem? (i := 7) (by decide +kernel))) hK hP hD hS 1 5 0 4 rfl rfl rfl rfl rfl (i_nn (a := y_9.toInt) rfl (by omega)) (i_nn (a := y_10.toInt) rfl (by omega)) (i_nn (a := y_12.toInt) rfl (by omega)) (cp_le (a := y_9.toInt) (b := y_12.toInt) rfl rfl (by omega) (by omega) (by omega)) (cp_le (a := y_10.toInt) (b := y_12.toInt) rfl rfl (by omega) (by omega) (by omega)) (fun _ _ => rfl) (Nat.le_of_ble_eq_true rfl) (by decide +kernel) dX3_triplesBy_42 (fun H locs hP hD hS => ?_)
        generalize hf_f_13 : va_cpy _ _ _ _ _ = f_13 at hP hD
        have hP : va_P (dC, dI) vwCl [(e1, .inr (3, [.int (nI R1), .ref t1, .ref s1, .int m1])), (t1, .inl (ct1, 24 * R1, .inl ft1)), (s1, .inl (cs1, R1, .inl fs1)), (oa, .inl (co, ko, .inl fo)), (sa, .inl (cst, (ko + 1), .inl fst)), (q_3, .inl (c_4, n_5, .inl f_13))] H := hP
        have hD : va_D A [(e1, .inr (3, [.int (nI R1), .ref t1, .ref s1, .int m1])), (t1, .inl (ct1, 24 * R1, .inl ft1)), (s1, .inl (cs1, R1, .inl fs1)), (oa, .inl (co, ko, .inl fo)), (sa, .inl (cst, (ko + 1), .inl fst)), (q_3, .inl (c_4, n_5, .inl f_13))] := hD
        obtain ⟨y_14, ey_14⟩ : ∃ y : Int32, y = ii + 1 := ⟨_, rfl⟩
        first | have ty_14 := i_add (a := ii.toInt) (b := 1) rfl (by decide) ey_14 (by omega) (by omega) | skip
        refine lv_iinc (v := y_14) (lv' := [(4, .int y_14), (3, .ref q_3), (0, .ref e1), (1, .ref oa), (2, .ref sa)]) hx hb dX3_triplesBy_45 hl (k := 0) rfl (by rw [ey_14]; rfl) (by decide) rfl (fun ls hl => ?_)
        refine lv_goto (tgt := 10) hx hb dX3_triplesBy_48 (by decide) ?_
        exact ih10 y_14 f_13 (by first | omega | assumption | decide) (by omega) _ _ ls hP hD hS (lv_sub hl [0, 1, 2, 3, 4] rfl)
  have lit_14 : (0 : Int32).toInt = 0 := by decide
  exact loop10 _ 0 (fun _ => 0) (by first | omega | assumption | decide) (Nat.lt_succ_self _) _ _ ls hP hD hS (lv_sub hl [0, 1, 2, 3, 4] rfl)

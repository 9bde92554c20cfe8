theorem D_new {A : Nat → Prop} {D : va_G} {cl : List vw_C} {ws X : va_W} {H : Heap} (hP : va_P D cl ws H) (hD : va_D A ws) (hn : (X.map Prod.fst).Nodup) (hg : ∀ q ∈ X, H.size ≤ q.1) (hA : ∀ q, H.size ≤ q → A q) : va_D A (ws ++ X) := by
  have hx := pm_nd.mpr hn
  refine ⟨fun i j x y hi hj e => ?_, fun k q hk => ?_⟩
  · by_cases li : i < ws.length
    · rw [List.getElem?_append_left li] at hi
      have l1 := (hP i x hi).lt
      by_cases lj : j < ws.length
      · rw [List.getElem?_append_left lj] at hj
        exact hD.1 i j x y hi hj e
      · rw [List.getElem?_append_right (by omega)] at hj
        have l2 := hg y (List.mem_of_getElem? hj)
        omega
    · rw [List.getElem?_append_right (by omega)] at hi
      have l1 := hg x (List.mem_of_getElem? hi)
      by_cases lj : j < ws.length
      · rw [List.getElem?_append_left lj] at hj
        have l2 := (hP j y hj).lt
        omega
      · rw [List.getElem?_append_right (by omega)] at hj
        have := hx _ _ x y hi hj e
        omega
  · by_cases lk : k < ws.length
    · rw [List.getElem?_append_left lk] at hk
      exact hD.2 k q hk
    · rw [List.getElem?_append_right (by omega)] at hk
      exact hA _ (hg q (List.mem_of_getElem? hk))
theorem nd_map {α : Type} {n : Nat} {g : Nat → Nat × α} (h : ∀ i j, i < n → j < n → i ≠ j → (g i).1 ≠ (g j).1) : (((List.range n).map g).map Prod.fst).Nodup := by
  rw [List.map_map]
  unfold List.Nodup
  rw [List.pairwise_map]
  have h2 : List.Pairwise (fun a b => a ≠ b) (List.range n) := List.nodup_range
  exact h2.imp_of_mem (fun ha hb hab => h _ _ (List.mem_range.mp ha) (List.mem_range.mp hb) hab)
theorem ce_ext {ce : Cell} {cA : ClassId} {n : Nat} {f : Nat → Option Nat} (h1 : ce.cls = cA) (h2 : ce.vm = .none ∧ ce.monitor = ({ cls := cA, slots := #[], vm := .none } : Cell).monitor ∧ ce.hash = ({ cls := cA, slots := #[], vm := .none } : Cell).hash) (h3 : ce.slots.size = n) (h4 : ∀ j, j < n → ce.slots[j]? = some (va_rf (f j))) : ce = vp_cell cA (n, .inr (.inr (.inr (.inr f)))) := by
  obtain ⟨h5, h6, h7⟩ := h2
  have hs : ce.slots = (arrV cA n (fun j => va_rf (f j))).slots := by
    apply Array.ext_getElem?
    intro j
    by_cases hj : j < n
    · rw [h4 j hj, arrV_read _ _ hj]
    · rw [Array.getElem?_eq_none (by omega), Array.getElem?_eq_none (by rw [arrV_size]; omega)]
  rw [vp_cell_q]
  have he : arrV cA n (fun j => va_rf (f j)) = { cls := cA, slots := (arrV cA n (fun j => va_rf (f j))).slots, vm := .none } := rfl
  rw [he, ← hs]
  obtain ⟨k9, s9, m9, a9, v9⟩ := ce
  have g1 : k9 = cA := h1
  have g5 : v9 = .none := h5
  have g6 : m9 = ({ cls := cA, slots := #[], vm := .none } : Cell).monitor := h6
  have g7 : a9 = ({ cls := cA, slots := #[], vm := .none } : Cell).hash := h7
  rw [g1, g5, g6, g7]
theorem zr_int (c : ClassId) (k : Nat) : ({ cls := c, slots := Array.replicate k (.int 0), vm := .none } : Cell) = vp_cell c (k, .inl (fun _ => 0)) := arrV_new c k (.int 0)
theorem zr_long (c : ClassId) (k : Nat) : ({ cls := c, slots := Array.replicate k (.long 0), vm := .none } : Cell) = vp_cell c (k, .inr (.inl (fun _ => 0))) := arrV_new c k (.long 0)
theorem pm8 {e t x i : va_W} : ((e ++ t) ++ (x ++ i)).Perm ((e ++ x) ++ (t ++ i)) := by
  rw [List.append_assoc, List.append_assoc]
  refine List.Perm.append_left e ?_
  rw [← List.append_assoc, ← List.append_assoc]
  exact List.Perm.append_right i List.perm_append_comm
/-- an array of arrays has come -/
theorem md2_w {A : Nat → Prop} {D : va_G} {cl : List vw_C} {E T : va_W} {H H1 : Heap} {cA cB : ClassId} {n k : Nat} {dv : Value} {z : (Nat → Int32) ⊕ (Nat → Int64) ⊕ (Nat → UInt32) ⊕ (Nat → UInt64) ⊕ (Nat → Option Nat)} (hz : ∀ c : ClassId, ({ cls := c, slots := Array.replicate k dv, vm := .none } : Cell) = vp_cell c (k, z)) (hP0 : va_P D cl (E ++ T) H) (hm : mfT H1 dv H.size [cA, cB] [n, k]) (hP : va_P D cl (E ++ T) H1) (hD : va_D A (E ++ T)) (hA : ∀ q, H.size ≤ q → A q) :
    va_P D cl ((E ++ [(H.size, .inl (cA, n, .inr (.inr (.inr (.inr (fun j => some (H.size + 1 + j)))))))]) ++ (T ++ (List.range n).map (fun j => (H.size + 1 + j, .inl (cB, k, z))))) H1 ∧ va_D A ((E ++ [(H.size, .inl (cA, n, .inr (.inr (.inr (.inr (fun j => some (H.size + 1 + j)))))))]) ++ (T ++ (List.range n).map (fun j => (H.size + 1 + j, .inl (cB, k, z))))) := by
  obtain ⟨⟨ce, h1, h2, h3, h4, h5⟩, h6⟩ := hm
  have hX : va_P D cl ([(H.size, .inl (cA, n, .inr (.inr (.inr (.inr (fun j => some (H.size + 1 + j)))))))] ++ (List.range n).map (fun j => (H.size + 1 + j, .inl (cB, k, z)))) H1 := fun i q hq => by
    rcases List.mem_append.mp (List.mem_of_getElem? hq) with hq | hq
    · cases List.mem_singleton.mp hq
      show H1[H.size]? = _
      rw [h1, ce_ext (f := fun j => some (H.size + 1 + j)) h2 h3 h4 (fun j hj => by rw [h5 j hj]; show some (Value.ref (H.size + 1 + j * 1)) = _; rw [Nat.mul_one]; rfl)]
    · obtain ⟨j, hj, rfl⟩ := List.mem_map.mp hq
      have := h6 j (List.mem_range.mp hj)
      show H1[H.size + 1 + j]? = _
      have e1 : H1[H.size + 1 + j * 1]? = some { cls := cB, slots := Array.replicate k dv, vm := .none } := this
      rw [Nat.mul_one] at e1
      rw [e1, hz]
  have hN : va_D A ((E ++ T) ++ ([(H.size, .inl (cA, n, .inr (.inr (.inr (.inr (fun j => some (H.size + 1 + j)))))))] ++ (List.range n).map (fun j => (H.size + 1 + j, .inl (cB, k, z))))) := by
    refine D_new hP0 hD ?_ (fun q hq => ?_) hA
    · rw [List.map_append]
      have hn1 : (((List.range n).map (fun j => ((H.size + 1 + j, .inl (cB, k, z)) : Nat × va_E))).map Prod.fst).Nodup := nd_map (fun i j _ _ h => by show H.size + 1 + i ≠ H.size + 1 + j; omega)
      refine List.nodup_cons.mpr ⟨fun h => ?_, hn1⟩
      rcases List.mem_append.mp h with h | h
      · cases h
      obtain ⟨q, hq, e⟩ := List.mem_map.mp h
      obtain ⟨j, -, rfl⟩ := List.mem_map.mp hq
      have e2 : H.size + 1 + j = H.size := e
      omega
    · rcases List.mem_append.mp hq with hq | hq
      · cases List.mem_singleton.mp hq
        exact Nat.le_refl _
      · obtain ⟨j, -, rfl⟩ := List.mem_map.mp hq
        show H.size ≤ H.size + 1 + j
        omega
  exact ⟨pm_P (hP.app hX) pm8, pm_D hN pm8⟩
/-- an array of arrays of arrays has come: 60 of 12 -/
theorem md3_w {A : Nat → Prop} {D : va_G} {cl : List vw_C} {E T : va_W} {H H1 : Heap} {cA cB cC : ClassId} {k : Nat} {dv : Value} {z : (Nat → Int32) ⊕ (Nat → Int64) ⊕ (Nat → UInt32) ⊕ (Nat → UInt64) ⊕ (Nat → Option Nat)} (hz : ∀ c : ClassId, ({ cls := c, slots := Array.replicate k dv, vm := .none } : Cell) = vp_cell c (k, z)) (hP0 : va_P D cl (E ++ T) H) (hm : mfT H1 dv H.size [cA, cB, cC] [60, 12, k]) (hP : va_P D cl (E ++ T) H1) (hD : va_D A (E ++ T)) (hA : ∀ q, H.size ≤ q → A q) :
    va_P D cl ((E ++ [(H.size, .inl (cA, 60, .inr (.inr (.inr (.inr (fun j => some (H.size + 1 + j * 13)))))))]) ++ (T ++ ((List.range 60).map (fun n => (H.size + 1 + n * 13, .inl (cB, 12, .inr (.inr (.inr (.inr (fun i => some (H.size + 1 + n * 13 + 1 + (if i < 12 then i else 0))))))))) ++ (List.range 720).map (fun j => (H.size + 1 + j / 12 * 13 + 1 + j % 12, .inl (cC, k, z)))))) H1 ∧
    va_D A ((E ++ [(H.size, .inl (cA, 60, .inr (.inr (.inr (.inr (fun j => some (H.size + 1 + j * 13)))))))]) ++ (T ++ ((List.range 60).map (fun n => (H.size + 1 + n * 13, .inl (cB, 12, .inr (.inr (.inr (.inr (fun i => some (H.size + 1 + n * 13 + 1 + (if i < 12 then i else 0))))))))) ++ (List.range 720).map (fun j => (H.size + 1 + j / 12 * 13 + 1 + j % 12, .inl (cC, k, z)))))) := by
  obtain ⟨⟨ce, h1, h2, h3, h4, h5⟩, h6⟩ := hm
  have hX : va_P D cl ([(H.size, .inl (cA, 60, .inr (.inr (.inr (.inr (fun j => some (H.size + 1 + j * 13)))))))] ++ ((List.range 60).map (fun n => (H.size + 1 + n * 13, .inl (cB, 12, .inr (.inr (.inr (.inr (fun i => some (H.size + 1 + n * 13 + 1 + (if i < 12 then i else 0))))))))) ++ (List.range 720).map (fun j => (H.size + 1 + j / 12 * 13 + 1 + j % 12, .inl (cC, k, z))))) H1 := fun i q hq => by
    rcases List.mem_append.mp (List.mem_of_getElem? hq) with hq | hq
    · cases List.mem_singleton.mp hq
      show H1[H.size]? = _
      rw [h1, ce_ext (f := fun j => some (H.size + 1 + j * 13)) h2 h3 h4 (fun j hj => by rw [h5 j hj]; rfl)]
    · rcases List.mem_append.mp hq with hq | hq
      · obtain ⟨n, hn, rfl⟩ := List.mem_map.mp hq
        obtain ⟨⟨c2, g1, g2, g3, g4, g5⟩, -⟩ := h6 n (List.mem_range.mp hn)
        have g1 : H1[H.size + 1 + n * 13]? = some c2 := g1
        show H1[H.size + 1 + n * 13]? = _
        rw [g1, ce_ext (f := fun i => some (H.size + 1 + n * 13 + 1 + (if i < 12 then i else 0))) g2 g3 g4 (fun j hj => by rw [g5 j hj, if_pos hj]; show some (Value.ref (H.size + 1 + n * 13 + 1 + j * 1)) = _; rw [Nat.mul_one]; rfl)]
      · obtain ⟨j, hj, rfl⟩ := List.mem_map.mp hq
        have hj := List.mem_range.mp hj
        obtain ⟨-, g6⟩ := h6 (j / 12) (by omega)
        have g7 := g6 (j % 12) (by omega)
        have e1 : H1[H.size + 1 + j / 12 * 13 + 1 + j % 12 * 1]? = some { cls := cC, slots := Array.replicate k dv, vm := .none } := g7
        rw [Nat.mul_one] at e1
        show H1[H.size + 1 + j / 12 * 13 + 1 + j % 12]? = _
        rw [e1, hz]
  have hN : va_D A ((E ++ T) ++ ([(H.size, .inl (cA, 60, .inr (.inr (.inr (.inr (fun j => some (H.size + 1 + j * 13)))))))] ++ ((List.range 60).map (fun n => (H.size + 1 + n * 13, .inl (cB, 12, .inr (.inr (.inr (.inr (fun i => some (H.size + 1 + n * 13 + 1 + (if i < 12 then i else 0))))))))) ++ (List.range 720).map (fun j => (H.size + 1 + j / 12 * 13 + 1 + j % 12, .inl (cC, k, z)))))) := by
    refine D_new hP0 hD ?_ (fun q hq => ?_) hA
    · rw [List.map_append, List.map_append]
      have hn1 : (((List.range 60).map (fun n => ((H.size + 1 + n * 13, .inl (cB, 12, .inr (.inr (.inr (.inr (fun i => some (H.size + 1 + n * 13 + 1 + (if i < 12 then i else 0)))))))) : Nat × va_E))).map Prod.fst).Nodup := nd_map (fun i j _ _ h => by show H.size + 1 + i * 13 ≠ H.size + 1 + j * 13; omega)
      have hn2 : (((List.range 720).map (fun j => ((H.size + 1 + j / 12 * 13 + 1 + j % 12, .inl (cC, k, z)) : Nat × va_E))).map Prod.fst).Nodup := nd_map (fun i j _ _ h => by show H.size + 1 + i / 12 * 13 + 1 + i % 12 ≠ H.size + 1 + j / 12 * 13 + 1 + j % 12; omega)
      have hn3 := List.nodup_append.mpr ⟨hn1, hn2, fun x hx y hy e => by
        obtain ⟨q, hq, e1⟩ := List.mem_map.mp hx
        obtain ⟨i, -, rfl⟩ := List.mem_map.mp hq
        obtain ⟨q2, hq2, e2⟩ := List.mem_map.mp hy
        obtain ⟨j, -, rfl⟩ := List.mem_map.mp hq2
        have e1 : H.size + 1 + i * 13 = x := e1
        have e2 : H.size + 1 + j / 12 * 13 + 1 + j % 12 = y := e2
        omega⟩
      refine List.nodup_cons.mpr ⟨fun h => ?_, hn3⟩
      rcases List.mem_append.mp h with h | h
      · cases h
      · rcases List.mem_append.mp h with h | h
        · obtain ⟨q, hq, e⟩ := List.mem_map.mp h
          obtain ⟨j, -, rfl⟩ := List.mem_map.mp hq
          have e2 : H.size + 1 + j * 13 = H.size := e
          omega
        · obtain ⟨q, hq, e⟩ := List.mem_map.mp h
          obtain ⟨j, -, rfl⟩ := List.mem_map.mp hq
          have e2 : H.size + 1 + j / 12 * 13 + 1 + j % 12 = H.size := e
          omega
    · rcases List.mem_append.mp hq with hq | hq
      · cases List.mem_singleton.mp hq
        exact Nat.le_refl _
      · rcases List.mem_append.mp hq with hq | hq
        · obtain ⟨j, -, rfl⟩ := List.mem_map.mp hq
          show H.size ≤ H.size + 1 + j * 13
          omega
        · obtain ⟨j, -, rfl⟩ := List.mem_map.mp hq
          show H.size ≤ H.size + 1 + j / 12 * 13 + 1 + j % 12
          omega
  exact ⟨pm_P (hP.app hX) pm8, pm_D hN pm8⟩
theorem over_K {U : State} {t : FieldType} (h : mf_A t U) : ∃ cA cB : ClassId, U.vm.findClass ("[" ++ (FieldType.array t).toString) = some cA ∧ U.vm.findClass (FieldType.array t).toString = some cB ∧ (ArrOfT U cA (.array t) ∧ va_RA U cA (.array t)) := by
  obtain ⟨comp, c9, k, g1, g2, g3, g4⟩ := mf_over h
  exact ⟨c9, comp, g4, g1, fun n z => ⟨(fun k h => by cases h), k, g2, comp, g3⟩, g4⟩
theorem mI_new : mI (0 : Int32).toInt (0 : Int32).toInt (0 : Int32).toInt (fun _ => 0) (fun _ i => if i < 12 then i else 0) := by
  have z : (0 : Int32).toInt = 0 := by decide
  rw [z]
  refine ⟨by omega, by omega, by omega, ?_, fun j h1 h2 => by omega, fun j h1 h2 => by omega, fun n i hi => ?_⟩
  · have hv : ∀ w : Int, vI (fun _ => (0 : Int32)) w = 0 := fun w => by show (0 : Int32).toInt = 0; exact z
    exact ⟨by rw [hv]; omega, fun d h1 h2 => absurd h2 (by rw [hv]; omega), by rw [hv]; omega, fun p h1 h2 => absurd h2 (by rw [hv]; omega)⟩
  · show (if i < 12 then i else 0) < 12 ∧ ∀ j, j < 12 → (if i < 12 then i else 0) = (if j < 12 then j else 0) → i = j
    rw [if_pos hi]
    exact ⟨hi, fun j hj e => by rw [if_pos hj] at e; exact e⟩
theorem va_bf {t : FieldType} {args : Array Value} {U : State} (h : (Cond.arrayClass t).before args U = true) : mf_B t U := h
theorem cls_K {U : State} {t : FieldType} {cA : ClassId} (hB : mf_B t U) (hc : U.vm.findClass ("[" ++ t.toString) = some cA) (hr : va_RA U cA t = (U.vm.findClass ("[" ++ t.toString) = some cA) := by rfl) : ArrOfT U cA t ∧ va_RA U cA t := by
  obtain ⟨c9, k, comp, g1, g2, g3⟩ := Cond.arrayClass_spec hB
  cases hc.symm.trans g1
  exact ⟨fun n z => ⟨(fun k h => by cases h), k, g2, comp, g3⟩, by rw [hr]; exact hc⟩

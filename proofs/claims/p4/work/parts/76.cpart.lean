theorem pm_P {D : va_G} {cl : List vw_C} {ws ws' : va_W} {H : Heap} (h : va_P D cl ws H) (p : ws.Perm ws') : va_P D cl ws' H := p_sub h (fun _ hq => p.mem_iff.mpr hq)
theorem pm_nd {ws : va_W} : (∀ (i j : Nat) (p q : Nat × va_E), ws[i]? = some p → ws[j]? = some q → p.1 = q.1 → i = j) ↔ (ws.map Prod.fst).Nodup := by
  constructor
  · intro h
    refine List.pairwise_iff_getElem.mpr (fun i j hi hj hij e => ?_)
    have hi' : i < ws.length := by simpa using hi
    have hj' : j < ws.length := by simpa using hj
    have := h i j ws[i] ws[j] (List.getElem?_eq_getElem hi') (List.getElem?_eq_getElem hj') (by simpa using e)
    omega
  · intro h i j p q hp hq e
    have hh := List.pairwise_iff_getElem.mp h
    obtain ⟨hi, ei⟩ := List.getElem?_eq_some_iff.mp hp
    obtain ⟨hj, ej⟩ := List.getElem?_eq_some_iff.mp hq
    have li : i < (ws.map Prod.fst).length := by simpa using hi
    have lj : j < (ws.map Prod.fst).length := by simpa using hj
    rcases Nat.lt_trichotomy i j with h1 | h1 | h1
    · exact absurd (by simp only [List.getElem_map]; rw [ei, ej]; exact e) (hh i j li lj h1)
    · exact h1
    · exact absurd (by simp only [List.getElem_map]; rw [ei, ej]; exact e.symm) (hh j i lj li h1)
theorem pm_D {A : Nat → Prop} {ws ws' : va_W} (h : va_D A ws) (p : ws.Perm ws') : va_D A ws' := by
  refine ⟨pm_nd.mpr ((p.map Prod.fst).nodup (pm_nd.mp h.1)), fun k q hk => ?_⟩
  obtain ⟨j, hj⟩ := List.getElem?_of_mem (p.mem_iff.mpr (List.mem_of_getElem? hk))
  exact h.2 j q hj
theorem t_P {D : va_G} {cl : List vw_C} {X cx pl : va_W} {H : Heap} (h : va_P D cl (X ++ pl) H) (is : List Nat) (hs : is.map (fun i => X[i]?) = cx.map some) : va_P D cl (cx ++ pl) H := fun k q hk => h _ q (va_part is hs k q hk)
/-- the cells of a Part -/
def sCp (ad : Nat → Nat → Nat) (ca : Nat → Nat → ClassId) (k : Nat) (x0 x1 x2 x3 x4 x5 n m : Int32) (fr : Nat → Int64) (ft fs : Nat → Int32) : va_W :=
  [(ad k 0, .inr (4, [.ref (ad k 1), .ref (ad k 3), .int x0, .int x1, .int x2, .int x3, .int x4, .int x5])), (ad k 1, .inr (7, [.ref (ad k 2), .int n])), (ad k 2, .inl (ca k 0, 6, .inr (.inl fr))), (ad k 3, .inr (3, [.int (nI 12), .ref (ad k 4), .ref (ad k 5), .int m])), (ad k 4, .inl (ca k 1, 24 * 12, .inl ft)), (ad k 5, .inl (ca k 2, 12, .inl fs))]
def cC (ad : Nat → Nat → Nat) (ca : Nat → Nat → ClassId) (vi : Nat → Nat → Int32) (vl : Nat → Nat → Int64) (vf : Nat → Nat → Nat → Int32) (k : Nat) : va_W :=
  sCp ad ca k (vi k 0) (vi k 1) (vi k 2) (vi k 3) (vi k 4) (vi k 5) (vi k 6) (vi k 7) (vl k) (vf k 0) (vf k 1)
def cPL (ad : Nat → Nat → Nat) (ca : Nat → Nat → ClassId) (vi : Nat → Nat → Int32) (vl : Nat → Nat → Int64) (vf : Nat → Nat → Nat → Int32) (L : List Nat) : va_W := L.flatMap (cC ad ca vi vl vf)
/-- what holds of each Part -/
def cG (vi : Nat → Nat → Int32) (vf : Nat → Nat → Nat → Int32) : Prop := ∀ k, (vi k 0 = 0 ∨ vi k 0 = 1) ∧ (vi k 1 = 0 ∨ vi k 1 = 1) ∧ (0 ≤ (vi k 6).toInt ∧ (vi k 6).toInt ≤ 6) ∧ (0 ≤ (vi k 7).toInt ∧ (vi k 7).toInt ≤ 12) ∧ ∀ i, 0 ≤ (vf k 1 i).toInt ∧ (vf k 1 i).toInt ≤ 24
theorem cp_perm {ad : Nat → Nat → Nat} {ca : Nat → Nat → ClassId} {vi : Nat → Nat → Int32} {vl : Nat → Nat → Int64} {vf : Nat → Nat → Nat → Int32} {L : List Nat} {k : Nat} (E : va_W) (hk : k ∈ L) : (E ++ cPL ad ca vi vl vf L).Perm (E ++ (cC ad ca vi vl vf k ++ cPL ad ca vi vl vf (L.erase k))) :=
  ((List.perm_cons_erase hk).flatMap_right (cC ad ca vi vl vf)).append_left E
theorem cp_pull {A : Nat → Prop} {D : va_G} {cl : List vw_C} {ad : Nat → Nat → Nat} {ca : Nat → Nat → ClassId} {vi : Nat → Nat → Int32} {vl : Nat → Nat → Int64} {vf : Nat → Nat → Nat → Int32} {L : List Nat} {k : Nat} {E : va_W} {H : Heap} (hP : va_P D cl (E ++ cPL ad ca vi vl vf L) H) (hD : va_D A (E ++ cPL ad ca vi vl vf L)) (hk : k ∈ L) (hG : cG vi vf) :
    ∃ (x0 x1 x2 x3 x4 x5 n m : Int32) (fr : Nat → Int64) (ft fs : Nat → Int32), (x0 = 0 ∨ x0 = 1) ∧ (x1 = 0 ∨ x1 = 1) ∧ (0 ≤ n.toInt ∧ n.toInt ≤ 6) ∧ (0 ≤ m.toInt ∧ m.toInt ≤ 12) ∧ (∀ i, 0 ≤ (fs i).toInt ∧ (fs i).toInt ≤ 24) ∧ va_P D cl (E ++ (sCp ad ca k x0 x1 x2 x3 x4 x5 n m fr ft fs ++ cPL ad ca vi vl vf (L.erase k))) H ∧ va_D A (E ++ (sCp ad ca k x0 x1 x2 x3 x4 x5 n m fr ft fs ++ cPL ad ca vi vl vf (L.erase k))) := by
  obtain ⟨h1, h2, h3, h4, h5⟩ := hG k
  exact ⟨vi k 0, vi k 1, vi k 2, vi k 3, vi k 4, vi k 5, vi k 6, vi k 7, vl k, vf k 0, vf k 1, h1, h2, h3, h4, h5, pm_P hP (cp_perm E hk), pm_D hD (cp_perm E hk)⟩
theorem cp_congr {ad : Nat → Nat → Nat} {ca : Nat → Nat → ClassId} {vi vi' : Nat → Nat → Int32} {vl vl' : Nat → Nat → Int64} {vf vf' : Nat → Nat → Nat → Int32} : ∀ {L : List Nat}, (∀ j ∈ L, vi' j = vi j ∧ vl' j = vl j ∧ vf' j = vf j) → cPL ad ca vi' vl' vf' L = cPL ad ca vi vl vf L
  | [], _ => rfl
  | j :: L, h => by
    have h1 := h j (List.mem_cons_self ..)
    have h2 : cPL ad ca vi' vl' vf' L = cPL ad ca vi vl vf L := cp_congr (fun i hi => h i (List.mem_cons_of_mem _ hi))
    show cC ad ca vi' vl' vf' j ++ cPL ad ca vi' vl' vf' L = cC ad ca vi vl vf j ++ cPL ad ca vi vl vf L
    rw [h2]
    unfold cC
    rw [h1.1, h1.2.1, h1.2.2]
/-- the numbers of a Part by their places -/
def cN8 (x0 x1 x2 x3 x4 x5 n m : Int32) : Nat → Int32
  | 0 => x0
  | 1 => x1
  | 2 => x2
  | 3 => x3
  | 4 => x4
  | 5 => x5
  | 6 => n
  | _ => m
def cN2 (ft fs : Nat → Int32) : Nat → Nat → Int32
  | 0 => ft
  | _ => fs
theorem cp_push {A : Nat → Prop} {D : va_G} {cl : List vw_C} {ad : Nat → Nat → Nat} {ca : Nat → Nat → ClassId} {vi : Nat → Nat → Int32} {vl : Nat → Nat → Int64} {vf : Nat → Nat → Nat → Int32} {L : List Nat} {k : Nat} {E : va_W} {H : Heap} {x0 x1 x2 x3 x4 x5 n m : Int32} {fr : Nat → Int64} {ft fs : Nat → Int32} (hk : k ∈ L) (hnd : L.Nodup) (hG : cG vi vf) (h1 : x0 = 0 ∨ x0 = 1) (h2 : x1 = 0 ∨ x1 = 1) (h3 : 0 ≤ n.toInt ∧ n.toInt ≤ 6) (h4 : 0 ≤ m.toInt ∧ m.toInt ≤ 12) (h5 : ∀ i, 0 ≤ (fs i).toInt ∧ (fs i).toInt ≤ 24)
    (hP : va_P D cl (E ++ (sCp ad ca k x0 x1 x2 x3 x4 x5 n m fr ft fs ++ cPL ad ca vi vl vf (L.erase k))) H) (hD : va_D A (E ++ (sCp ad ca k x0 x1 x2 x3 x4 x5 n m fr ft fs ++ cPL ad ca vi vl vf (L.erase k)))) :
    ∃ (vi' : Nat → Nat → Int32) (vl' : Nat → Nat → Int64) (vf' : Nat → Nat → Nat → Int32), cG vi' vf' ∧ va_P D cl (E ++ cPL ad ca vi' vl' vf' L) H ∧ va_D A (E ++ cPL ad ca vi' vl' vf' L) := by
  have hne : k ∉ L.erase k := hnd.not_mem_erase
  have e : cPL ad ca (fun j => if j = k then cN8 x0 x1 x2 x3 x4 x5 n m else vi j) (fun j => if j = k then fr else vl j) (fun j => if j = k then cN2 ft fs else vf j) (L.erase k) = cPL ad ca vi vl vf (L.erase k) := cp_congr (fun j hj => by
    have hjk : j ≠ k := fun h => hne (h ▸ hj)
    exact ⟨if_neg hjk, if_neg hjk, if_neg hjk⟩)
  have e2 : cC ad ca (fun j => if j = k then cN8 x0 x1 x2 x3 x4 x5 n m else vi j) (fun j => if j = k then fr else vl j) (fun j => if j = k then cN2 ft fs else vf j) k = sCp ad ca k x0 x1 x2 x3 x4 x5 n m fr ft fs := by
    unfold cC
    simp only [if_true]
    rfl
  have pe := (cp_perm (ad := ad) (ca := ca) (vi := fun j => if j = k then cN8 x0 x1 x2 x3 x4 x5 n m else vi j) (vl := fun j => if j = k then fr else vl j) (vf := fun j => if j = k then cN2 ft fs else vf j) E hk).symm
  rw [e2, e] at pe
  refine ⟨_, _, _, fun j => ?_, pm_P hP pe, pm_D hD pe⟩
  by_cases hjk : j = k
  · simp only [hjk, if_true]
    exact ⟨h1, h2, h3, h4, h5⟩
  · simp only [hjk, if_false]
    exact hG j
/-- behind a call: the callee's cells are told by a permutation -/
theorem pm_join {A0 : Nat → Prop} {D : va_G} {cl : List vw_C} {ws wc wr w1 : va_W} {H H1 : Heap} (hP : va_P D cl ws H) (hD : va_D A0 ws) (hp : ws.Perm (wr ++ wc)) (hk : ∀ q : Nat, q < H.size → ¬ va_A wc H.size q → H1[q]? = H[q]?) (hF : ∀ q, va_A wc H.size q → A0 q) (hP1 : va_P D cl w1 H1) (hD1 : va_D (va_A wc H.size) w1) : va_P D cl (wr ++ w1) H1 ∧ va_D A0 (wr ++ w1) := by
  have hP' := pm_P hP hp
  have hD' := pm_D hD hp
  have ap : ∀ (k : Nat) (q : Nat × va_E), wr[k]? = some q → q.1 < H.size ∧ ¬ va_A wc H.size q.1 := by
    intro k q hq
    have hlk := (List.getElem?_eq_some_iff.mp hq).1
    have h1 : (wr ++ wc)[k]? = some q := by rw [List.getElem?_append_left hlk]; exact hq
    have hl := (hP' k q h1).lt
    refine ⟨hl, fun h => ?_⟩
    rcases h with ⟨j, e, hj⟩ | h
    · have h2 : (wr ++ wc)[wr.length + j]? = some (q.1, e) := by rw [List.getElem?_append_right (by omega), Nat.add_sub_cancel_left]; exact hj
      have := hD'.1 k (wr.length + j) q (q.1, e) h1 h2 rfl
      omega
    · omega
  have hPr : va_P D cl wr H1 := fun k q hq => by
    have hlk := (List.getElem?_eq_some_iff.mp hq).1
    have h1 : (wr ++ wc)[k]? = some q := by rw [List.getElem?_append_left hlk]; exact hq
    exact (hP' k q h1).kept (hk q.1 (ap k q hq).1 (ap k q hq).2)
  refine ⟨hPr.app hP1, ?_, ?_⟩
  · intro i j x y hi hj e
    by_cases li : i < wr.length
    · rw [List.getElem?_append_left li] at hi
      by_cases lj : j < wr.length
      · rw [List.getElem?_append_left lj] at hj
        exact hD'.1 i j x y (by rw [List.getElem?_append_left li]; exact hi) (by rw [List.getElem?_append_left lj]; exact hj) e
      · rw [List.getElem?_append_right (by omega)] at hj
        have h2 := hD1.2 _ y hj
        rw [← e] at h2
        exact absurd h2 (ap i x hi).2
    · rw [List.getElem?_append_right (by omega)] at hi
      by_cases lj : j < wr.length
      · rw [List.getElem?_append_left lj] at hj
        have h2 := hD1.2 _ x hi
        rw [e] at h2
        exact absurd h2 (ap j y hj).2
      · rw [List.getElem?_append_right (by omega)] at hj
        have := hD1.1 _ _ x y hi hj e
        omega
  · intro k q hq
    by_cases lk : k < wr.length
    · rw [List.getElem?_append_left lk] at hq
      exact hD'.2 k q (by rw [List.getElem?_append_left lk]; exact hq)
    · rw [List.getElem?_append_right (by omega)] at hq
      exact hF _ (hD1.2 _ q hq)
theorem c_nat {x : Int32} (h : 0 ≤ x.toInt) : (x.toNatClampNeg : Int) = x.toInt := by
  show ((x.toInt.toNat : Nat) : Int) = x.toInt
  omega

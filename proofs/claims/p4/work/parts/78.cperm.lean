theorem sw_perm {a b c : va_W} : ((a ++ b) ++ c).Perm ((a ++ c) ++ b) := by
  rw [List.append_assoc, List.append_assoc]
  exact List.perm_append_comm.append_left a
theorem cp_fst {ad : Nat → Nat → Nat} {ca ca' : Nat → Nat → ClassId} {vi vi' : Nat → Nat → Int32} {vl vl' : Nat → Nat → Int64} {vf vf' : Nat → Nat → Nat → Int32} : ∀ {L : List Nat}, (cPL ad ca vi vl vf L).map Prod.fst = (cPL ad ca' vi' vl' vf' L).map Prod.fst
  | [] => rfl
  | j :: L => by
    have h : (cPL ad ca vi vl vf L).map Prod.fst = (cPL ad ca' vi' vl' vf' L).map Prod.fst := cp_fst
    show (cC ad ca vi vl vf j ++ cPL ad ca vi vl vf L).map Prod.fst = (cC ad ca' vi' vl' vf' j ++ cPL ad ca' vi' vl' vf' L).map Prod.fst
    rw [List.map_append, List.map_append, h]
    rfl
/-- what is new lies behind -/
theorem nw_ge {W0 W1 X : va_W} {sz : Nat} (hD : va_D (va_A W0 sz) (W1 ++ X)) (hm : W0.map Prod.fst = W1.map Prod.fst) : ∀ q ∈ X, sz ≤ q.1 := fun q hq => by
  obtain ⟨j, hj⟩ := List.getElem?_of_mem hq
  have h1 : (W1 ++ X)[W1.length + j]? = some q := by rw [List.getElem?_append_right (by omega), Nat.add_sub_cancel_left]; exact hj
  rcases hD.2 _ q h1 with ⟨k, e, hk⟩ | h
  · have h2 : q.1 ∈ W1.map Prod.fst := by
      rw [← hm]
      exact List.mem_map.mpr ⟨(q.1, e), List.mem_of_getElem? hk, rfl⟩
    obtain ⟨y, hy, e2⟩ := List.mem_map.mp h2
    obtain ⟨i, hi⟩ := List.getElem?_of_mem hy
    have hl := (List.getElem?_eq_some_iff.mp hi).1
    have := hD.1 i (W1.length + j) y q (by rw [List.getElem?_append_left hl]; exact hi) h1 e2
    omega
  · exact h

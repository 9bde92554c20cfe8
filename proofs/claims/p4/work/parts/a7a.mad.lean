def adF (L : List Nat) (q1 q2 q3 q4 : Nat) : Nat → Nat := fun x => if x < 100 then L.getD x 0 else if x < 200 then q1 + 1 + (x - 100) else if x < 300 then q2 + 1 + (x - 200) * 13 else if x < 1100 then q2 + 1 + (x - 300) / 12 * 13 + 1 + (x - 300) % 12 else if x < 1300 then q3 + 1 + (x - 1100) else q4 + 1 + (x - 1300)
def kcF (L : List ClassId) (d : ClassId) : Nat → ClassId := fun x => L.getD x d
theorem adF_1 {L : List Nat} {q1 q2 q3 q4 i : Nat} (h : i < 100) : adF L q1 q2 q3 q4 (100 + i) = q1 + 1 + i := by
  unfold adF
  rw [if_neg (show ¬ 100 + i < 100 by omega), if_pos (show 100 + i < 200 by omega)]
  omega
theorem adF_2 {L : List Nat} {q1 q2 q3 q4 i : Nat} (h : i < 100) : adF L q1 q2 q3 q4 (200 + i) = q2 + 1 + i * 13 := by
  unfold adF
  rw [if_neg (show ¬ 200 + i < 100 by omega), if_neg (show ¬ 200 + i < 200 by omega), if_pos (show 200 + i < 300 by omega)]
  rw [show 200 + i - 200 = i by omega]
theorem adF_3 {L : List Nat} {q1 q2 q3 q4 i : Nat} (h : i < 800) : adF L q1 q2 q3 q4 (300 + i) = q2 + 1 + i / 12 * 13 + 1 + i % 12 := by
  unfold adF
  rw [if_neg (show ¬ 300 + i < 100 by omega), if_neg (show ¬ 300 + i < 200 by omega), if_neg (show ¬ 300 + i < 300 by omega), if_pos (show 300 + i < 1100 by omega)]
  rw [show 300 + i - 300 = i by omega]
theorem adF_4 {L : List Nat} {q1 q2 q3 q4 i : Nat} (h : i < 200) : adF L q1 q2 q3 q4 (1100 + i) = q3 + 1 + i := by
  unfold adF
  rw [if_neg (show ¬ 1100 + i < 100 by omega), if_neg (show ¬ 1100 + i < 200 by omega), if_neg (show ¬ 1100 + i < 300 by omega), if_neg (show ¬ 1100 + i < 1100 by omega), if_pos (show 1100 + i < 1300 by omega)]
  rw [show 1100 + i - 1100 = i by omega]
theorem adF_5 {L : List Nat} {q1 q2 q3 q4 i : Nat} : adF L q1 q2 q3 q4 (1300 + i) = q4 + 1 + i := by
  unfold adF
  rw [if_neg (show ¬ 1300 + i < 100 by omega), if_neg (show ¬ 1300 + i < 200 by omega), if_neg (show ¬ 1300 + i < 300 by omega), if_neg (show ¬ 1300 + i < 1100 by omega), if_neg (show ¬ 1300 + i < 1300 by omega)]
  rw [show 1300 + i - 1300 = i by omega]
theorem adF_m {L : List Nat} {q1 q2 q3 q4 n : Nat} (hn : n < 60) : (fun i : Nat => some (q2 + 1 + n * 13 + 1 + (if i < 12 then i else 0))) = (fun i => some (adF L q1 q2 q3 q4 (300 + (12 * n + (if i < 12 then i else 0))))) := by
  funext i
  have hr : (if i < 12 then i else 0) < 12 := by split <;> omega
  generalize (if i < 12 then i else 0) = r at hr ⊢
  rw [adF_3 (by omega), show (12 * n + r) / 12 = n by omega, show (12 * n + r) % 12 = r by omega]
theorem m_fam {L : List Nat} {q1 q2 q3 q4 : Nat} {kc : Nat → ClassId} {cL cII cI : ClassId} (k30 : kc 30 = cL) (k31 : kc 31 = cII) (k32 : kc 32 = cI) (k33 : kc 33 = cI) (k34 : kc 34 = cI) : (((([] ++ (List.range 90).map (fun j => ((q1 + 1 + j, .inl (cL, 40, .inr (.inl (fun _ => 0)))) : Nat × va_E))) ++ ((List.range 60).map (fun n => ((q2 + 1 + n * 13, .inl (cII, 12, .inr (.inr (.inr (.inr (fun i => some (q2 + 1 + n * 13 + 1 + (if i < 12 then i else 0)))))))) : Nat × va_E)) ++ (List.range 720).map (fun j => ((q2 + 1 + j / 12 * 13 + 1 + j % 12, .inl (cI, 170, .inl (fun _ => 0))) : Nat × va_E)))) ++ (List.range 150).map (fun j => ((q3 + 1 + j, .inl (cI, 170, .inl (fun _ => 0))) : Nat × va_E))) ++ (List.range 12).map (fun j => ((q4 + 1 + j, .inl (cI, 170, .inl (fun _ => 0))) : Nat × va_E))) = mFam (adF L q1 q2 q3 q4) kc (fun _ _ => 0) (fun _ _ => 0) (fun _ i => if i < 12 then i else 0) (fun _ _ => 0) (fun _ _ => 0) := by
  have e1 : (List.range 90).map (fun j => ((q1 + 1 + j, .inl (cL, 40, .inr (.inl (fun _ => 0)))) : Nat × va_E)) = (List.range 90).map (fun s => ((adF L q1 q2 q3 q4 (100 + s), .inl (cL, 40, .inr (.inl (fun _ => 0)))) : Nat × va_E)) := List.map_congr_left (fun x hx => by have hx := List.mem_range.mp hx; rw [adF_1 (by omega)])
  have e2 : (List.range 60).map (fun n => ((q2 + 1 + n * 13, .inl (cII, 12, .inr (.inr (.inr (.inr (fun i => some (q2 + 1 + n * 13 + 1 + (if i < 12 then i else 0)))))))) : Nat × va_E)) = (List.range 60).map (fun n => ((adF L q1 q2 q3 q4 (200 + n), .inl (cII, 12, .inr (.inr (.inr (.inr (fun i => some (adF L q1 q2 q3 q4 (300 + (12 * n + (if i < 12 then i else 0)))))))))) : Nat × va_E)) := List.map_congr_left (fun x hx => by have hx := List.mem_range.mp hx; rw [adF_2 (by omega), adF_m (L := L) (q1 := q1) (q3 := q3) (q4 := q4) hx])
  have e3 : (List.range 720).map (fun j => ((q2 + 1 + j / 12 * 13 + 1 + j % 12, .inl (cI, 170, .inl (fun _ => 0))) : Nat × va_E)) = (List.range 720).map (fun j => ((adF L q1 q2 q3 q4 (300 + j), .inl (cI, 170, .inl (fun _ => 0))) : Nat × va_E)) := List.map_congr_left (fun x hx => by have hx := List.mem_range.mp hx; rw [adF_3 (by omega)])
  have e4 : (List.range 150).map (fun j => ((q3 + 1 + j, .inl (cI, 170, .inl (fun _ => 0))) : Nat × va_E)) = (List.range 150).map (fun k => ((adF L q1 q2 q3 q4 (1100 + k), .inl (cI, 170, .inl (fun _ => 0))) : Nat × va_E)) := List.map_congr_left (fun x hx => by have hx := List.mem_range.mp hx; rw [adF_4 (by omega)])
  have e5 : (List.range 12).map (fun j => ((q4 + 1 + j, .inl (cI, 170, .inl (fun _ => 0))) : Nat × va_E)) = (List.range 12).map (fun k => ((adF L q1 q2 q3 q4 (1300 + k), .inl (cI, 170, .inl (fun _ => 0))) : Nat × va_E)) := List.map_congr_left (fun x hx => by rw [adF_5])
  rw [e1, e2, e3, e4, e5, List.nil_append]
  unfold mFam
  rw [k30, k31, k32, k33, k34]
  simp only [List.append_assoc]

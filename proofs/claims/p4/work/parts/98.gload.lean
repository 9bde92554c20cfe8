theorem D_left {A : Nat → Prop} {a b : va_W} (h : va_D A (a ++ b)) : va_D A a := by
  refine ⟨fun i j x y hi hj e => ?_, fun k q hk => ?_⟩
  · have li := (List.getElem?_eq_some_iff.mp hi).1
    have lj := (List.getElem?_eq_some_iff.mp hj).1
    exact h.1 i j x y (by rw [List.getElem?_append_left li]; exact hi) (by rw [List.getElem?_append_left lj]; exact hj) e
  · have lk := (List.getElem?_eq_some_iff.mp hk).1
    exact h.2 k q (by rw [List.getElem?_append_left lk]; exact hk)
theorem not_A {A : Nat → Prop} {D : va_G} {cl : List vw_C} {a b : va_W} {H : Heap} (hP : va_P D cl (a ++ b) H) (hD : va_D A (a ++ b)) : ∀ q ∈ a, ¬ va_A b H.size q.1 := fun q hq h => by
  obtain ⟨i, hi⟩ := List.getElem?_of_mem hq
  have li := (List.getElem?_eq_some_iff.mp hi).1
  have h1 : (a ++ b)[i]? = some q := by rw [List.getElem?_append_left li]; exact hi
  rcases h with ⟨j, e, hj⟩ | h
  · have h2 : (a ++ b)[a.length + j]? = some (q.1, e) := by rw [List.getElem?_append_right (by omega), Nat.add_sub_cancel_left]; exact hj
    have := hD.1 i (a.length + j) q (q.1, e) h1 h2 rfl
    omega
  · have := (hP i q h1).lt
    omega
theorem pm_as {a b c : va_W} : ((a ++ b) ++ c).Perm (a ++ (b ++ c)) := by rw [List.append_assoc]
theorem dX9_load_0 : decode cX9_load 0 = .ok (.iload_n 1, 1) := by decide +kernel
theorem dX9_load_1 : decode cX9_load 1 = .ok (.ifCond .lt 11, 3) := by decide +kernel
theorem dX9_load_4 : decode cX9_load 4 = .ok (.iload_n 1, 1) := by decide +kernel
theorem dX9_load_5 : decode cX9_load 5 = .ok (.aload_n 0, 1) := by decide +kernel
theorem dX9_load_6 : decode cX9_load 6 = .ok (.getfield 73, 3) := by decide +kernel
theorem dX9_load_9 : decode cX9_load 9 = .ok (.if_icmp .le 9, 3) := by decide +kernel
theorem dX9_load_12 : decode cX9_load 12 = .ok (.aload_n 0, 1) := by decide +kernel
theorem dX9_load_13 : decode cX9_load 13 = .ok (.iconst 1, 1) := by decide +kernel
theorem dX9_load_14 : decode cX9_load 14 = .ok (.invokevirtual 80, 3) := by decide +kernel
theorem dX9_load_17 : decode cX9_load 17 = .ok (.ireturn, 1) := by decide +kernel
theorem dX9_load_18 : decode cX9_load 18 = .ok (.aload_n 0, 1) := by decide +kernel
theorem dX9_load_19 : decode cX9_load 19 = .ok (.iload_n 1, 1) := by decide +kernel
theorem dX9_load_20 : decode cX9_load 20 = .ok (.iconst 0, 1) := by decide +kernel
theorem dX9_load_21 : decode cX9_load 21 = .ok (.iconst 0, 1) := by decide +kernel
theorem dX9_load_22 : decode cX9_load 22 = .ok (.invokevirtual 84, 3) := by decide +kernel
theorem dX9_load_25 : decode cX9_load 25 = .ok (.ifCond .ne 10, 3) := by decide +kernel
theorem dX9_load_28 : decode cX9_load 28 = .ok (.aload_n 0, 1) := by decide +kernel
theorem dX9_load_29 : decode cX9_load 29 = .ok (.bipush 9, 2) := by decide +kernel
theorem dX9_load_31 : decode cX9_load 31 = .ok (.invokevirtual 80, 3) := by decide +kernel
theorem dX9_load_34 : decode cX9_load 34 = .ok (.ireturn, 1) := by decide +kernel
theorem dX9_load_35 : decode cX9_load 35 = .ok (.aload_n 0, 1) := by decide +kernel
theorem dX9_load_36 : decode cX9_load 36 = .ok (.aload_n 0, 1) := by decide +kernel
theorem dX9_load_37 : decode cX9_load 37 = .ok (.iconst 0, 1) := by decide +kernel
theorem dX9_load_38 : decode cX9_load 38 = .ok (.anewarray 22, 3) := by decide +kernel
theorem dX9_load_41 : decode cX9_load 41 = .ok (.iconst 0, 1) := by decide +kernel
theorem dX9_load_42 : decode cX9_load 42 = .ok (.anewarray 24, 3) := by decide +kernel
theorem dX9_load_45 : decode cX9_load 45 = .ok (.invokevirtual 88, 3) := by decide +kernel
theorem dX9_load_48 : decode cX9_load 48 = .ok (.invokevirtual 92, 3) := by decide +kernel
theorem dX9_load_51 : decode cX9_load 51 = .ok (.aload_n 0, 1) := by decide +kernel
theorem dX9_load_52 : decode cX9_load 52 = .ok (.aload_n 0, 1) := by decide +kernel
theorem dX9_load_53 : decode cX9_load 53 = .ok (.getfield 29, 3) := by decide +kernel
theorem dX9_load_56 : decode cX9_load 56 = .ok (.getfield 96, 3) := by decide +kernel
theorem dX9_load_59 : decode cX9_load 59 = .ok (.arraylength, 1) := by decide +kernel
theorem dX9_load_60 : decode cX9_load 60 = .ok (.invokevirtual 100, 3) := by decide +kernel
theorem dX9_load_63 : decode cX9_load 63 = .ok (.ireturn, 1) := by decide +kernel
def mwX9_load : List Cond := .code yX9_load cX9_load 2 (some .int) :: (([.methodLink RX9 80 yX9_refuse, .instanceMethod yX9_refuse, .selects RX9 yX9_refuse yX9_refuse, .initialized RX9, .fieldLink RX9 73 "PatternGate" "taped" "I", .methodLink RX9 84 yX9_readTape, .instanceMethod yX9_readTape, .selects RX9 yX9_readTape yX9_readTape, .classLink RX9 22 RX2, .classLink RX9 24 RX5, .methodLink RX9 88 yX9_bookBehind, .instanceMethod yX9_bookBehind, .selects RX9 yX9_bookBehind yX9_bookBehind, .methodLink RX9 92 yX9_act, .instanceMethod yX9_act, .selects RX9 yX9_act yX9_act, .fieldLink RX9 29 "PatternGate" "book" "LPatternGate$Book;", .fieldLink RX9 96 "PatternGate$Book" "docs" "[LPatternGate$Doc;", .methodLink RX9 100 yX9_answer, .instanceMethod yX9_answer, .selects RX9 yX9_answer yX9_answer] : List Cond) ++ (wsX90 ++ (wsX00 ++ (mwX9_refuse ++ (mwX9_readTape ++ (mwX9_bookBehind ++ (mwX9_act ++ (mwX9_answer))))))))
theorem fin_X9_load_X0 : ∀ w ∈ wsX00, w ∈ mwX9_load := fun w h => List.mem_cons_of_mem _ (List.mem_append_right _ (List.mem_append_right _ (List.mem_append_left _ h)))
theorem fin_X9_load_X9 : ∀ w ∈ wsX90, w ∈ mwX9_load := fun w h => List.mem_cons_of_mem _ (List.mem_append_right _ (List.mem_append_left _ h))
set_option maxRecDepth 100000 in
theorem gd_mwX9_readTape : mwX9_readTape.all goodWord = true := by decide +kernel
set_option maxRecDepth 100000 in
theorem gd_mwX9_bookBehind : mwX9_bookBehind.all goodWord = true := by decide +kernel
set_option maxRecDepth 20000 in
theorem mg_X9_load_X9_refuse_80 : GoodIn mwX9_load (wsV RX9 80 RX9 yX9_refuse mwX9_refuse) := gi_app (A := [.methodLink RX9 80 yX9_refuse, .instanceMethod yX9_refuse, .selects RX9 yX9_refuse yX9_refuse, .initialized RX9]) (goodIn_r _ [1, 2, 3, 4] (by decide +kernel) (by decide +kernel)) (gi_sub gd_mwX9_refuse (fun w h => List.mem_cons_of_mem _ (List.mem_append_right _ (List.mem_append_right _ (List.mem_append_right _ (List.mem_append_left _ h))))))
set_option maxRecDepth 20000 in
theorem mg_X9_load_X9_readTape_84 : GoodIn mwX9_load (wsV RX9 84 RX9 yX9_readTape mwX9_readTape) := gi_app (A := [.methodLink RX9 84 yX9_readTape, .instanceMethod yX9_readTape, .selects RX9 yX9_readTape yX9_readTape, .initialized RX9]) (goodIn_r _ [6, 7, 8, 4] (by decide +kernel) (by decide +kernel)) (gi_sub gd_mwX9_readTape (fun w h => List.mem_cons_of_mem _ (List.mem_append_right _ (List.mem_append_right _ (List.mem_append_right _ (List.mem_append_right _ (List.mem_append_left _ h)))))))
set_option maxRecDepth 20000 in
theorem mg_X9_load_X9_bookBehind_88 : GoodIn mwX9_load (wsV RX9 88 RX9 yX9_bookBehind mwX9_bookBehind) := gi_app (A := [.methodLink RX9 88 yX9_bookBehind, .instanceMethod yX9_bookBehind, .selects RX9 yX9_bookBehind yX9_bookBehind, .initialized RX9]) (goodIn_r _ [11, 12, 13, 4] (by decide +kernel) (by decide +kernel)) (gi_sub gd_mwX9_bookBehind (fun w h => List.mem_cons_of_mem _ (List.mem_append_right _ (List.mem_append_right _ (List.mem_append_right _ (List.mem_append_right _ (List.mem_append_right _ (List.mem_append_left _ h))))))))
set_option maxRecDepth 20000 in
theorem mg_X9_load_X9_act_92 : GoodIn mwX9_load (wsV RX9 92 RX9 yX9_act mwX9_act) := gi_app (A := [.methodLink RX9 92 yX9_act, .instanceMethod yX9_act, .selects RX9 yX9_act yX9_act, .initialized RX9]) (goodIn_r _ [14, 15, 16, 4] (by decide +kernel) (by decide +kernel)) (gi_sub gd_mwX9_act (fun w h => List.mem_cons_of_mem _ (List.mem_append_right _ (List.mem_append_right _ (List.mem_append_right _ (List.mem_append_right _ (List.mem_append_right _ (List.mem_append_right _ (List.mem_append_left _ h)))))))))
set_option maxRecDepth 20000 in
theorem mg_X9_load_X9_answer_100 : GoodIn mwX9_load (wsV RX9 100 RX9 yX9_answer mwX9_answer) := gi_app (A := [.methodLink RX9 100 yX9_answer, .instanceMethod yX9_answer, .selects RX9 yX9_answer yX9_answer, .initialized RX9]) (goodIn_r _ [19, 20, 21, 4] (by decide +kernel) (by decide +kernel)) (gi_sub gd_mwX9_answer (fun w h => List.mem_cons_of_mem _ (List.mem_append_right _ (List.mem_append_right _ (List.mem_append_right _ (List.mem_append_right _ (List.mem_append_right _ (List.mem_append_right _ (List.mem_append_right _ (h))))))))))

theorem dL_law_653 : decode cL_law 653 = .ok (.aload_n 1, 1) := by decide +kernel
theorem dL_law_654 : decode cL_law 654 = .ok (.aload_n 0, 1) := by decide +kernel
theorem dL_law_655 : decode cL_law 655 = .ok (.iload_n 3, 1) := by decide +kernel
theorem dL_law_656 : decode cL_law 656 = .ok (.iconst 1, 1) := by decide +kernel
theorem dL_law_657 : decode cL_law 657 = .ok (.iadd, 1) := by decide +kernel
theorem dL_law_658 : decode cL_law 658 = .ok (.iaload, 1) := by decide +kernel
theorem dL_law_659 : decode cL_law 659 = .ok (.aload_n 0, 1) := by decide +kernel
theorem dL_law_660 : decode cL_law 660 = .ok (.iload_n 3, 1) := by decide +kernel
theorem dL_law_661 : decode cL_law 661 = .ok (.iconst 2, 1) := by decide +kernel
theorem dL_law_662 : decode cL_law 662 = .ok (.iadd, 1) := by decide +kernel
theorem dL_law_663 : decode cL_law 663 = .ok (.iaload, 1) := by decide +kernel
theorem dL_law_664 : decode cL_law 664 = .ok (.aload_n 0, 1) := by decide +kernel
theorem dL_law_665 : decode cL_law 665 = .ok (.iload_n 3, 1) := by decide +kernel
theorem dL_law_666 : decode cL_law 666 = .ok (.iconst 3, 1) := by decide +kernel
theorem dL_law_667 : decode cL_law 667 = .ok (.iadd, 1) := by decide +kernel
theorem dL_law_668 : decode cL_law 668 = .ok (.iaload, 1) := by decide +kernel
theorem dL_law_669 : decode cL_law 669 = .ok (.invokevirtual 78, 3) := by decide +kernel
theorem dL_law_672 : decode cL_law 672 = .ok (.aload_n 2, 1) := by decide +kernel
theorem dL_law_673 : decode cL_law 673 = .ok (.aload_n 0, 1) := by decide +kernel
theorem dL_law_674 : decode cL_law 674 = .ok (.iload_n 3, 1) := by decide +kernel
theorem dL_law_675 : decode cL_law 675 = .ok (.iconst 1, 1) := by decide +kernel
theorem dL_law_676 : decode cL_law 676 = .ok (.iadd, 1) := by decide +kernel
theorem dL_law_677 : decode cL_law 677 = .ok (.iaload, 1) := by decide +kernel
theorem dL_law_678 : decode cL_law 678 = .ok (.aload_n 0, 1) := by decide +kernel
theorem dL_law_679 : decode cL_law 679 = .ok (.iload_n 3, 1) := by decide +kernel
theorem dL_law_680 : decode cL_law 680 = .ok (.iconst 2, 1) := by decide +kernel
theorem dL_law_681 : decode cL_law 681 = .ok (.iadd, 1) := by decide +kernel
theorem dL_law_682 : decode cL_law 682 = .ok (.iaload, 1) := by decide +kernel
theorem dL_law_683 : decode cL_law 683 = .ok (.aload_n 0, 1) := by decide +kernel
theorem dL_law_684 : decode cL_law 684 = .ok (.iload_n 3, 1) := by decide +kernel
theorem dL_law_685 : decode cL_law 685 = .ok (.iconst 3, 1) := by decide +kernel
theorem dL_law_686 : decode cL_law 686 = .ok (.iadd, 1) := by decide +kernel
theorem dL_law_687 : decode cL_law 687 = .ok (.iaload, 1) := by decide +kernel
theorem dL_law_688 : decode cL_law 688 = .ok (.invokevirtual 81, 3) := by decide +kernel
theorem dL_law_691 : decode cL_law 691 = .ok (.if_icmp .eq 437, 3) := by decide +kernel
set_option maxRecDepth 20000 in
theorem mg_L_law_X9_match_78 : GoodIn lw_tbl (wsV RL 78 RX9 yX9_match mwX9_match) := goodIn_r _ [983, 984, 985, 106, 986, 424, 356, 421, 423, 1, 106, 361, 892, 148, 889, 890, 891, 107, 884, 145, 881, 882, 883, 372, 374, 376, 378, 380, 382, 384, 386, 388, 390, 392, 394, 396, 398, 400, 402, 152, 154, 156] (by decide +kernel) (by decide +kernel)
set_option maxRecDepth 20000 in
theorem mg_L_law_X10_match_81 : GoodIn lw_tbl (wsV RL 81 RX10 yX10_match mwX10_match) := goodIn_r _ [1658, 1659, 1660, 115, 1661, 1286, 1284, 1285, 115, 1626, 1123, 1623, 1625, 99, 1290, 1124, 1287, 1289, 33, 1171, 1173, 1175, 1177, 1179, 1181, 1183, 1185, 1187, 1189, 1191, 1193, 1195, 1197, 1199, 1201, 1203, 1205, 1207, 1209, 1211, 1213, 1215, 1217, 1219, 1221, 1223, 1225, 1227, 1229, 1231, 1233, 1235, 1237, 1239, 1241, 1243, 1245, 1247, 1249, 1251, 1253, 1255, 1257, 1259, 1261, 1263, 1265] (by decide +kernel) (by decide +kernel)
set_option maxHeartbeats 4000000 in
set_option maxRecDepth 100000 in
theorem law_case15 {p : Program} {l : Launch} {e : Env} {s : State} {m : MethodId} {below : List Frame} {meth : Method} {c : Code} {dC : Nat → ClassId} {dI : Nat → Nat → Nat} {b : Nat} {xs : Nat → Int32} (C0 : lw_At p s m meth c b 6 xs) {x : Nat} {q : Nat → Nat} {bk d0 p0 : Nat} {cT cD cP cB cU : ClassId} {r : Nat → Nat} {y : Nat} {z : Nat → Nat} {mA mT mX mC : ClassId} {H : Heap} {locs : List Loc} (hK : va_K (dC, dI) vwCl [(cT, .int), (cD, .object "PatternGate$Doc"), (cP, .object "PatternGate$Pattern"), (cB, .object "PatternGate$Book"), (cU, .int), (mA, .int), (mT, .byte), (mX, .byte), (mC, .boolean)] s) (hP : va_P (dC, dI) vwCl [(x, .inr (9, gF q 0 0 (-1) (-1) bk 0 0)), (q 0, .inl (cT, 900, .inl (fun _ => 0))), (bk, .inr (0, [.ref d0, .ref p0, .null])), (d0, .inl (cD, 0, .inr (.inr (.inr (.inr (fun _ => none)))))), (p0, .inl (cP, 0, .inr (.inr (.inr (.inr (fun _ => none)))))), (q 1, .inl (cB, 3, .inr (.inr (.inr (.inr (fun _ => none)))))), (q 2, .inl (cU, 3, .inl (fun _ => 0))), (q 3, .inr (6, rF r 0 0 0 0 0 0 0 0)), (y, .inr (10, mF z 0 0 0 0 0 0 0 0 0 (-1) (-1))), (z 0, .inl (mA, 101660, .inl (fun _ => 0))), (z 1, .inl (mT, 900, .inl (fun _ => 0))), (z 2, .inl (mX, 900, .inl (fun _ => 0))), (z 23, .inl (mC, 17576, .inl (fun _ => 0)))] H) (hD : va_D (fun q : Nat => s.heap.size ≤ q) [(x, .inr (9, gF q 0 0 (-1) (-1) bk 0 0)), (q 0, .inl (cT, 900, .inl (fun _ => 0))), (bk, .inr (0, [.ref d0, .ref p0, .null])), (d0, .inl (cD, 0, .inr (.inr (.inr (.inr (fun _ => none)))))), (p0, .inl (cP, 0, .inr (.inr (.inr (.inr (fun _ => none)))))), (q 1, .inl (cB, 3, .inr (.inr (.inr (.inr (fun _ => none)))))), (q 2, .inl (cU, 3, .inl (fun _ => 0))), (q 3, .inr (6, rF r 0 0 0 0 0 0 0 0)), (y, .inr (10, mF z 0 0 0 0 0 0 0 0 0 (-1) (-1))), (z 0, .inl (mA, 101660, .inl (fun _ => 0))), (z 1, .inl (mT, 900, .inl (fun _ => 0))), (z 2, .inl (mX, 900, .inl (fun _ => 0))), (z 23, .inl (mC, 17576, .inl (fun _ => 0)))]) (hS : va_S (fun q : Nat => s.heap.size ≤ q) s.heap H locs) (hAO2 : va_AO "PatternGate$Doc" s) (hAO5 : va_AO "PatternGate$Pattern" s) {ls : Array Slot} (hl : lv_has ls 4 [(3, .int 0), (2, .ref y), (1, .ref x), (0, .ref b)]) : W p l e room_1 s m #[Value.ref b] below meth c H locs 1222 311064 (lw_Z below #[Value.ref b] s) (F0 m 653 ls []) := by
  obtain ⟨hx, hb, hr, hml, hown, hts, hX, hbl, hlocks, hgv⟩ := id C0
  have hown : s.vm.findClass RL = some m.cls := hown
  have hA : ∀ q : Nat, s.heap.size ≤ q → (fun q : Nat => s.heap.size ≤ q) q := fun _ h => h
  have hbA : ¬ (fun q : Nat => s.heap.size ≤ q) b := Nat.not_le.mpr hbl
  refine lv_aload_n hx hb dL_law_653 rfl (lv_at hl 2 rfl) ?_
  refine lv_aload_n hx hb dL_law_654 rfl (lv_at hl 3 rfl) ?_
  refine lv_iload_n hx hb dL_law_655 rfl (lv_at hl 0 rfl) ?_
  refine lv_iconst (v := 1) hx hb dL_law_656 (by decide) ?_
  refine lv_iadd hx hb dL_law_657 ?_
  refine lv_topi (fun y_1 ey_1 => ?_)
  obtain rfl : y_1 = 1 := ey_1.trans (by first | rfl | decide)
  refine va_sld hx hb hX hbl hbA hS (i := 1) (by unfold vp_in; decide) dL_law_658 ?_
  refine lv_aload_n hx hb dL_law_659 rfl (lv_at hl 3 rfl) ?_
  refine lv_iload_n hx hb dL_law_660 rfl (lv_at hl 0 rfl) ?_
  refine lv_iconst (v := 2) hx hb dL_law_661 (by decide) ?_
  refine lv_iadd hx hb dL_law_662 ?_
  refine lv_topi (fun y_2 ey_2 => ?_)
  obtain rfl : y_2 = 2 := ey_2.trans (by first | rfl | decide)
  refine va_sld hx hb hX hbl hbA hS (i := 2) (by unfold vp_in; decide) dL_law_663 ?_
  refine lv_aload_n hx hb dL_law_664 rfl (lv_at hl 3 rfl) ?_
  refine lv_iload_n hx hb dL_law_665 rfl (lv_at hl 0 rfl) ?_
  refine lv_iconst (v := 3) hx hb dL_law_666 (by decide) ?_
  refine lv_iadd hx hb dL_law_667 ?_
  refine lv_topi (fun y_3 ey_3 => ?_)
  obtain rfl : y_3 = 3 := ey_3.trans (by first | rfl | decide)
  refine va_sld hx hb hX hbl hbA hS (i := 3) (by unfold vp_in; decide) dL_law_668 ?_
  have hPc := hP.sub (ws' := [(x, .inr (9, gF q 0 0 (-1) (-1) bk 0 0)), (q 0, .inl (cT, 900, .inl (fun _ => 0))), (bk, .inr (0, [.ref d0, .ref p0, .null])), (d0, .inl (cD, 0, .inr (.inr (.inr (.inr (fun _ => none)))))), (p0, .inl (cP, 0, .inr (.inr (.inr (.inr (fun _ => none)))))), (q 1, .inl (cB, 3, .inr (.inr (.inr (.inr (fun _ => none)))))), (q 2, .inl (cU, 3, .inl (fun _ => 0))), (q 3, .inr (6, rF r 0 0 0 0 0 0 0 0))]) [0, 1, 2, 3, 4, 5, 6, 7] rfl
  have hKc := hK.sub (tys' := [(cT, .int), (cD, .object "PatternGate$Doc"), (cP, .object "PatternGate$Pattern"), (cB, .object "PatternGate$Book"), (cU, .int)]) [0, 1, 2, 3, 4] rfl
  have hDc := hD.sub (ws' := [(x, .inr (9, gF q 0 0 (-1) (-1) bk 0 0)), (q 0, .inl (cT, 900, .inl (fun _ => 0))), (bk, .inr (0, [.ref d0, .ref p0, .null])), (d0, .inl (cD, 0, .inr (.inr (.inr (.inr (fun _ => none)))))), (p0, .inl (cP, 0, .inr (.inr (.inr (.inr (fun _ => none)))))), (q 1, .inl (cB, 3, .inr (.inr (.inr (.inr (fun _ => none)))))), (q 2, .inl (cU, 3, .inl (fun _ => 0))), (q 3, .inr (6, rF r 0 0 0 0 0 0 0 0))]) [0, 1, 2, 3, 4, 5, 6, 7] (by decide) rfl
  have hFc := va_free (wc := [(x, .inr (9, gF q 0 0 (-1) (-1) bk 0 0)), (q 0, .inl (cT, 900, .inl (fun _ => 0))), (bk, .inr (0, [.ref d0, .ref p0, .null])), (d0, .inl (cD, 0, .inr (.inr (.inr (.inr (fun _ => none)))))), (p0, .inl (cP, 0, .inr (.inr (.inr (.inr (fun _ => none)))))), (q 1, .inl (cB, 3, .inr (.inr (.inr (.inr (fun _ => none)))))), (q 2, .inl (cU, 3, .inl (fun _ => 0))), (q 3, .inr (6, rF r 0 0 0 0 0 0 0 0))]) hD hS hA [0, 1, 2, 3, 4, 5, 6, 7] rfl
  refine va_calli (va_runV (As := [.int (xs (Int32.toNatClampNeg 1)), .int (xs (Int32.toNatClampNeg 2)), .int (xs (Int32.toNatClampNeg 3))]) (rest := []) ⟨hx, hb, hml, hown, hts⟩ (c_match l dC dI x q bk d0 p0 cT cD cP cB cU r H.size (xs (Int32.toNatClampNeg 1)) (xs (Int32.toNatClampNeg 2)) (xs (Int32.toNatClampNeg 3))) (cwV 3 hts mg_L_law_X9_match_78 rfl rfl rfl (by decide +kernel) ⟨Nat.le_of_ble_eq_true rfl, Nat.le_of_ble_eq_true rfl⟩) ⟨fun a U g mk q => by obtain ⟨q0, q1, qP, qK, qD⟩ := q; exact ⟨q0, q1, qP, va_K.moved (u := U) (U := U.calling g mk a) (Vm.Alike.refl U.vm) qK, qD⟩, va_recv hKc hPc (ci := 9) (q0 := 0) rfl rfl, fun U hU hW => ⟨rfl, by rw [hU], by rw [hU]; exact hPc, va_K.moved hW.alike hKc, hDc.weaken (fun _ _ _ _ => trivial)⟩⟩ rfl rfl hl.1 rfl (lv_room (Nat.le_of_ble_eq_true rfl)) dL_law_669 ⟨Nat.le_of_ble_eq_true rfl, Nat.le_of_ble_eq_true rfl⟩) hS (fun q _ h => hFc q h) hFc (fun r_5 u t H1 locs ht hvm hw hB hz1 hk1 hS => ?_)
  have hw_6 := hw
  obtain ⟨hP, hD⟩ := va_join (wr := [(y, .inr (10, mF z 0 0 0 0 0 0 0 0 0 (-1) (-1))), (z 0, .inl (mA, 101660, .inl (fun _ => 0))), (z 1, .inl (mT, 900, .inl (fun _ => 0))), (z 2, .inl (mX, 900, .inl (fun _ => 0))), (z 23, .inl (mC, 17576, .inl (fun _ => 0)))]) (w1 := []) hP hD [0, 1, 2, 3, 4, 5, 6, 7] [8, 9, 10, 11, 12] rfl rfl (by decide) (by decide) hk1 hFc (fun k q h => by simp at h) ⟨fun i j p q h => by simp at h, fun k q h => by simp at h⟩
  generalize H1 = H at hP hS ⊢
  have hP : va_P (dC, dI) vwCl [(y, .inr (10, mF z 0 0 0 0 0 0 0 0 0 (-1) (-1))), (z 0, .inl (mA, 101660, .inl (fun _ => 0))), (z 1, .inl (mT, 900, .inl (fun _ => 0))), (z 2, .inl (mX, 900, .inl (fun _ => 0))), (z 23, .inl (mC, 17576, .inl (fun _ => 0)))] H := hP
  have hD : va_D (fun q : Nat => s.heap.size ≤ q) [(y, .inr (10, mF z 0 0 0 0 0 0 0 0 0 (-1) (-1))), (z 0, .inl (mA, 101660, .inl (fun _ => 0))), (z 1, .inl (mT, 900, .inl (fun _ => 0))), (z 2, .inl (mX, 900, .inl (fun _ => 0))), (z 23, .inl (mC, 17576, .inl (fun _ => 0)))] := hD
  refine W.widen (k := 1222) (n := 311064) (by omega) (by omega) ?_
  refine lv_aload_n hx hb dL_law_672 rfl (lv_at hl 1 rfl) ?_
  refine lv_aload_n hx hb dL_law_673 rfl (lv_at hl 3 rfl) ?_
  refine lv_iload_n hx hb dL_law_674 rfl (lv_at hl 0 rfl) ?_
  refine lv_iconst (v := 1) hx hb dL_law_675 (by decide) ?_
  refine lv_iadd hx hb dL_law_676 ?_
  refine lv_topi (fun y_7 ey_7 => ?_)
  obtain rfl : y_7 = 1 := ey_7.trans (by first | rfl | decide)
  refine va_sld hx hb hX hbl hbA hS (i := 1) (by unfold vp_in; decide) dL_law_677 ?_
  refine lv_aload_n hx hb dL_law_678 rfl (lv_at hl 3 rfl) ?_
  refine lv_iload_n hx hb dL_law_679 rfl (lv_at hl 0 rfl) ?_
  refine lv_iconst (v := 2) hx hb dL_law_680 (by decide) ?_
  refine lv_iadd hx hb dL_law_681 ?_
  refine lv_topi (fun y_8 ey_8 => ?_)
  obtain rfl : y_8 = 2 := ey_8.trans (by first | rfl | decide)
  refine va_sld hx hb hX hbl hbA hS (i := 2) (by unfold vp_in; decide) dL_law_682 ?_
  refine lv_aload_n hx hb dL_law_683 rfl (lv_at hl 3 rfl) ?_
  refine lv_iload_n hx hb dL_law_684 rfl (lv_at hl 0 rfl) ?_
  refine lv_iconst (v := 3) hx hb dL_law_685 (by decide) ?_
  refine lv_iadd hx hb dL_law_686 ?_
  refine lv_topi (fun y_9 ey_9 => ?_)
  obtain rfl : y_9 = 3 := ey_9.trans (by first | rfl | decide)
  refine va_sld hx hb hX hbl hbA hS (i := 3) (by unfold vp_in; decide) dL_law_687 ?_
  have hPc := hP.sub (ws' := [(y, .inr (10, mF z 0 0 0 0 0 0 0 0 0 (-1) (-1))), (z 0, .inl (mA, 101660, .inl (fun _ => 0))), (z 1, .inl (mT, 900, .inl (fun _ => 0))), (z 2, .inl (mX, 900, .inl (fun _ => 0))), (z 23, .inl (mC, 17576, .inl (fun _ => 0)))]) [0, 1, 2, 3, 4] rfl
  have hKc := hK.sub (tys' := [(mA, .int), (mT, .byte), (mX, .byte), (mC, .boolean)]) [5, 6, 7, 8] rfl
  have hDc := hD.sub (ws' := [(y, .inr (10, mF z 0 0 0 0 0 0 0 0 0 (-1) (-1))), (z 0, .inl (mA, 101660, .inl (fun _ => 0))), (z 1, .inl (mT, 900, .inl (fun _ => 0))), (z 2, .inl (mX, 900, .inl (fun _ => 0))), (z 23, .inl (mC, 17576, .inl (fun _ => 0)))]) [0, 1, 2, 3, 4] (by decide) rfl
  have hFc := va_free (wc := [(y, .inr (10, mF z 0 0 0 0 0 0 0 0 0 (-1) (-1))), (z 0, .inl (mA, 101660, .inl (fun _ => 0))), (z 1, .inl (mT, 900, .inl (fun _ => 0))), (z 2, .inl (mX, 900, .inl (fun _ => 0))), (z 23, .inl (mC, 17576, .inl (fun _ => 0)))]) hD hS hA [0, 1, 2, 3, 4] rfl
  refine va_calli (va_runV (As := [.int (xs (Int32.toNatClampNeg 1)), .int (xs (Int32.toNatClampNeg 2)), .int (xs (Int32.toNatClampNeg 3))]) (rest := [.int r_5]) ⟨hx, hb, hml, hown, hts⟩ (m_match l dC dI y z mA mT mX mC H.size (xs (Int32.toNatClampNeg 1)) (xs (Int32.toNatClampNeg 2)) (xs (Int32.toNatClampNeg 3))) (cwV 3 hts mg_L_law_X10_match_81 rfl rfl rfl (by decide +kernel) ⟨Nat.le_of_ble_eq_true rfl, Nat.le_of_ble_eq_true rfl⟩) ⟨fun a U g mk q => by obtain ⟨q0, q1, qP, qK, qD⟩ := q; exact ⟨q0, q1, qP, va_K.moved (u := U) (U := U.calling g mk a) (Vm.Alike.refl U.vm) qK, qD⟩, va_recv hKc hPc (ci := 10) (q0 := 0) rfl rfl, fun U hU hW => ⟨rfl, by rw [hU], by rw [hU]; exact hPc, va_K.moved hW.alike hKc, hDc.weaken (fun _ _ _ _ => trivial)⟩⟩ rfl rfl hl.1 rfl (lv_room (Nat.le_of_ble_eq_true rfl)) dL_law_688 ⟨Nat.le_of_ble_eq_true rfl, Nat.le_of_ble_eq_true rfl⟩) hS (fun q _ h => hFc q h) hFc (fun r_11 u t H1 locs ht hvm hw hB hz1 hk1 hS => ?_)
  have hw_12 := hw
  obtain ⟨hP, hD⟩ := va_join (wr := []) (w1 := []) hP hD [0, 1, 2, 3, 4] [] rfl rfl (by decide) (by decide) hk1 hFc (fun k q h => by simp at h) ⟨fun i j p q h => by simp at h, fun k q h => by simp at h⟩
  generalize H1 = H at hP hS ⊢
  have hP : va_P (dC, dI) vwCl [] H := hP
  have hD : va_D (fun q : Nat => s.heap.size ≤ q) [] := hD
  refine W.widen (k := 1222) (n := 311064) (by omega) (by omega) ?_
  refine lv_icmp_eq (tgt := 1128) hx hb dL_law_691 (by decide) (fun k_13 => ?_) (fun k_13 => absurd (hw_6.trans hw_12.symm) k_13)
  exact law_end C0 (Nat.le_of_ble_eq_true rfl) (Nat.le_of_ble_eq_true rfl) hS hl
theorem dL_law_696 : decode cL_law 696 = .ok (.aload_n 1, 1) := by decide +kernel
theorem dL_law_697 : decode cL_law 697 = .ok (.aload_n 0, 1) := by decide +kernel
theorem dL_law_698 : decode cL_law 698 = .ok (.iload_n 3, 1) := by decide +kernel
theorem dL_law_699 : decode cL_law 699 = .ok (.iconst 1, 1) := by decide +kernel
theorem dL_law_700 : decode cL_law 700 = .ok (.iadd, 1) := by decide +kernel
theorem dL_law_701 : decode cL_law 701 = .ok (.iaload, 1) := by decide +kernel
theorem dL_law_702 : decode cL_law 702 = .ok (.aload_n 0, 1) := by decide +kernel
theorem dL_law_703 : decode cL_law 703 = .ok (.iload_n 3, 1) := by decide +kernel
theorem dL_law_704 : decode cL_law 704 = .ok (.iconst 2, 1) := by decide +kernel
theorem dL_law_705 : decode cL_law 705 = .ok (.iadd, 1) := by decide +kernel
theorem dL_law_706 : decode cL_law 706 = .ok (.iaload, 1) := by decide +kernel
theorem dL_law_707 : decode cL_law 707 = .ok (.aload_n 0, 1) := by decide +kernel
theorem dL_law_708 : decode cL_law 708 = .ok (.iload_n 3, 1) := by decide +kernel
theorem dL_law_709 : decode cL_law 709 = .ok (.iconst 3, 1) := by decide +kernel
theorem dL_law_710 : decode cL_law 710 = .ok (.iadd, 1) := by decide +kernel
theorem dL_law_711 : decode cL_law 711 = .ok (.iaload, 1) := by decide +kernel
theorem dL_law_712 : decode cL_law 712 = .ok (.invokevirtual 82, 3) := by decide +kernel
theorem dL_law_715 : decode cL_law 715 = .ok (.aload_n 2, 1) := by decide +kernel
theorem dL_law_716 : decode cL_law 716 = .ok (.aload_n 0, 1) := by decide +kernel
theorem dL_law_717 : decode cL_law 717 = .ok (.iload_n 3, 1) := by decide +kernel
theorem dL_law_718 : decode cL_law 718 = .ok (.iconst 1, 1) := by decide +kernel
theorem dL_law_719 : decode cL_law 719 = .ok (.iadd, 1) := by decide +kernel
theorem dL_law_720 : decode cL_law 720 = .ok (.iaload, 1) := by decide +kernel
theorem dL_law_721 : decode cL_law 721 = .ok (.aload_n 0, 1) := by decide +kernel
theorem dL_law_722 : decode cL_law 722 = .ok (.iload_n 3, 1) := by decide +kernel
theorem dL_law_723 : decode cL_law 723 = .ok (.iconst 2, 1) := by decide +kernel
theorem dL_law_724 : decode cL_law 724 = .ok (.iadd, 1) := by decide +kernel
theorem dL_law_725 : decode cL_law 725 = .ok (.iaload, 1) := by decide +kernel
theorem dL_law_726 : decode cL_law 726 = .ok (.aload_n 0, 1) := by decide +kernel
theorem dL_law_727 : decode cL_law 727 = .ok (.iload_n 3, 1) := by decide +kernel
theorem dL_law_728 : decode cL_law 728 = .ok (.iconst 3, 1) := by decide +kernel
theorem dL_law_729 : decode cL_law 729 = .ok (.iadd, 1) := by decide +kernel
theorem dL_law_730 : decode cL_law 730 = .ok (.iaload, 1) := by decide +kernel
theorem dL_law_731 : decode cL_law 731 = .ok (.invokevirtual 85, 3) := by decide +kernel
theorem dL_law_734 : decode cL_law 734 = .ok (.if_icmp .eq 394, 3) := by decide +kernel
set_option maxRecDepth 20000 in
theorem mg_L_law_X9_alive_82 : GoodIn lw_tbl (wsV RL 82 RX9 yX9_alive mwX9_alive) := goodIn_r _ [1001, 1002, 1003, 106, 1004, 361, 892, 148, 889, 890, 891, 107, 884, 145, 881, 882, 883, 424, 356, 421, 423, 1, 106, 372, 374, 376, 378, 380, 382, 384, 386, 388, 390, 392, 394, 396, 398, 400, 402, 152, 154, 156] (by decide +kernel) (by decide +kernel)
set_option maxRecDepth 20000 in
theorem mg_L_law_X10_alive_85 : GoodIn lw_tbl (wsV RL 85 RX10 yX10_alive mwX10_alive) := goodIn_r _ [1666, 1667, 1668, 115, 1669, 1626, 1123, 1623, 1625, 99, 115, 1290, 1124, 1287, 1289, 33, 1171, 1173, 1175, 1177, 1179, 1181, 1183, 1185, 1187, 1189, 1191, 1193, 1195, 1197, 1199, 1201, 1203, 1205, 1207, 1209, 1211, 1213, 1215, 1217, 1219, 1221, 1223, 1225, 1227, 1229, 1231, 1233, 1235, 1237, 1239, 1241, 1243, 1245, 1247, 1249, 1251, 1253, 1255, 1257, 1259, 1261, 1263, 1265] (by decide +kernel) (by decide +kernel)
set_option maxHeartbeats 4000000 in
set_option maxRecDepth 100000 in
theorem law_case16 {p : Program} {l : Launch} {e : Env} {s : State} {m : MethodId} {below : List Frame} {meth : Method} {c : Code} {dC : Nat → ClassId} {dI : Nat → Nat → Nat} {b : Nat} {xs : Nat → Int32} (C0 : lw_At p s m meth c b 6 xs) {x : Nat} {q : Nat → Nat} {bk d0 p0 : Nat} {cT cD cP cB cU : ClassId} {r : Nat → Nat} {y : Nat} {z : Nat → Nat} {mA mT mX mC : ClassId} {H : Heap} {locs : List Loc} (hK : va_K (dC, dI) vwCl [(cT, .int), (cD, .object "PatternGate$Doc"), (cP, .object "PatternGate$Pattern"), (cB, .object "PatternGate$Book"), (cU, .int), (mA, .int), (mT, .byte), (mX, .byte), (mC, .boolean)] s) (hP : va_P (dC, dI) vwCl [(x, .inr (9, gF q 0 0 (-1) (-1) bk 0 0)), (q 0, .inl (cT, 900, .inl (fun _ => 0))), (bk, .inr (0, [.ref d0, .ref p0, .null])), (d0, .inl (cD, 0, .inr (.inr (.inr (.inr (fun _ => none)))))), (p0, .inl (cP, 0, .inr (.inr (.inr (.inr (fun _ => none)))))), (q 1, .inl (cB, 3, .inr (.inr (.inr (.inr (fun _ => none)))))), (q 2, .inl (cU, 3, .inl (fun _ => 0))), (q 3, .inr (6, rF r 0 0 0 0 0 0 0 0)), (y, .inr (10, mF z 0 0 0 0 0 0 0 0 0 (-1) (-1))), (z 0, .inl (mA, 101660, .inl (fun _ => 0))), (z 1, .inl (mT, 900, .inl (fun _ => 0))), (z 2, .inl (mX, 900, .inl (fun _ => 0))), (z 23, .inl (mC, 17576, .inl (fun _ => 0)))] H) (hD : va_D (fun q : Nat => s.heap.size ≤ q) [(x, .inr (9, gF q 0 0 (-1) (-1) bk 0 0)), (q 0, .inl (cT, 900, .inl (fun _ => 0))), (bk, .inr (0, [.ref d0, .ref p0, .null])), (d0, .inl (cD, 0, .inr (.inr (.inr (.inr (fun _ => none)))))), (p0, .inl (cP, 0, .inr (.inr (.inr (.inr (fun _ => none)))))), (q 1, .inl (cB, 3, .inr (.inr (.inr (.inr (fun _ => none)))))), (q 2, .inl (cU, 3, .inl (fun _ => 0))), (q 3, .inr (6, rF r 0 0 0 0 0 0 0 0)), (y, .inr (10, mF z 0 0 0 0 0 0 0 0 0 (-1) (-1))), (z 0, .inl (mA, 101660, .inl (fun _ => 0))), (z 1, .inl (mT, 900, .inl (fun _ => 0))), (z 2, .inl (mX, 900, .inl (fun _ => 0))), (z 23, .inl (mC, 17576, .inl (fun _ => 0)))]) (hS : va_S (fun q : Nat => s.heap.size ≤ q) s.heap H locs) (hAO2 : va_AO "PatternGate$Doc" s) (hAO5 : va_AO "PatternGate$Pattern" s) {ls : Array Slot} (hl : lv_has ls 4 [(3, .int 0), (2, .ref y), (1, .ref x), (0, .ref b)]) : W p l e room_1 s m #[Value.ref b] below meth c H locs 1222 311064 (lw_Z below #[Value.ref b] s) (F0 m 696 ls []) := by
  obtain ⟨hx, hb, hr, hml, hown, hts, hX, hbl, hlocks, hgv⟩ := id C0
  have hown : s.vm.findClass RL = some m.cls := hown
  have hA : ∀ q : Nat, s.heap.size ≤ q → (fun q : Nat => s.heap.size ≤ q) q := fun _ h => h
  have hbA : ¬ (fun q : Nat => s.heap.size ≤ q) b := Nat.not_le.mpr hbl
  refine lv_aload_n hx hb dL_law_696 rfl (lv_at hl 2 rfl) ?_
  refine lv_aload_n hx hb dL_law_697 rfl (lv_at hl 3 rfl) ?_
  refine lv_iload_n hx hb dL_law_698 rfl (lv_at hl 0 rfl) ?_
  refine lv_iconst (v := 1) hx hb dL_law_699 (by decide) ?_
  refine lv_iadd hx hb dL_law_700 ?_
  refine lv_topi (fun y_1 ey_1 => ?_)
  obtain rfl : y_1 = 1 := ey_1.trans (by first | rfl | decide)
  refine va_sld hx hb hX hbl hbA hS (i := 1) (by unfold vp_in; decide) dL_law_701 ?_
  refine lv_aload_n hx hb dL_law_702 rfl (lv_at hl 3 rfl) ?_
  refine lv_iload_n hx hb dL_law_703 rfl (lv_at hl 0 rfl) ?_
  refine lv_iconst (v := 2) hx hb dL_law_704 (by decide) ?_
  refine lv_iadd hx hb dL_law_705 ?_
  refine lv_topi (fun y_2 ey_2 => ?_)
  obtain rfl : y_2 = 2 := ey_2.trans (by first | rfl | decide)
  refine va_sld hx hb hX hbl hbA hS (i := 2) (by unfold vp_in; decide) dL_law_706 ?_
  refine lv_aload_n hx hb dL_law_707 rfl (lv_at hl 3 rfl) ?_
  refine lv_iload_n hx hb dL_law_708 rfl (lv_at hl 0 rfl) ?_
  refine lv_iconst (v := 3) hx hb dL_law_709 (by decide) ?_
  refine lv_iadd hx hb dL_law_710 ?_
  refine lv_topi (fun y_3 ey_3 => ?_)
  obtain rfl : y_3 = 3 := ey_3.trans (by first | rfl | decide)
  refine va_sld hx hb hX hbl hbA hS (i := 3) (by unfold vp_in; decide) dL_law_711 ?_
  have hPc := hP.sub (ws' := [(x, .inr (9, gF q 0 0 (-1) (-1) bk 0 0)), (q 0, .inl (cT, 900, .inl (fun _ => 0))), (bk, .inr (0, [.ref d0, .ref p0, .null])), (d0, .inl (cD, 0, .inr (.inr (.inr (.inr (fun _ => none)))))), (p0, .inl (cP, 0, .inr (.inr (.inr (.inr (fun _ => none)))))), (q 1, .inl (cB, 3, .inr (.inr (.inr (.inr (fun _ => none)))))), (q 2, .inl (cU, 3, .inl (fun _ => 0))), (q 3, .inr (6, rF r 0 0 0 0 0 0 0 0))]) [0, 1, 2, 3, 4, 5, 6, 7] rfl
  have hKc := hK.sub (tys' := [(cT, .int), (cD, .object "PatternGate$Doc"), (cP, .object "PatternGate$Pattern"), (cB, .object "PatternGate$Book"), (cU, .int)]) [0, 1, 2, 3, 4] rfl
  have hDc := hD.sub (ws' := [(x, .inr (9, gF q 0 0 (-1) (-1) bk 0 0)), (q 0, .inl (cT, 900, .inl (fun _ => 0))), (bk, .inr (0, [.ref d0, .ref p0, .null])), (d0, .inl (cD, 0, .inr (.inr (.inr (.inr (fun _ => none)))))), (p0, .inl (cP, 0, .inr (.inr (.inr (.inr (fun _ => none)))))), (q 1, .inl (cB, 3, .inr (.inr (.inr (.inr (fun _ => none)))))), (q 2, .inl (cU, 3, .inl (fun _ => 0))), (q 3, .inr (6, rF r 0 0 0 0 0 0 0 0))]) [0, 1, 2, 3, 4, 5, 6, 7] (by decide) rfl
  have hFc := va_free (wc := [(x, .inr (9, gF q 0 0 (-1) (-1) bk 0 0)), (q 0, .inl (cT, 900, .inl (fun _ => 0))), (bk, .inr (0, [.ref d0, .ref p0, .null])), (d0, .inl (cD, 0, .inr (.inr (.inr (.inr (fun _ => none)))))), (p0, .inl (cP, 0, .inr (.inr (.inr (.inr (fun _ => none)))))), (q 1, .inl (cB, 3, .inr (.inr (.inr (.inr (fun _ => none)))))), (q 2, .inl (cU, 3, .inl (fun _ => 0))), (q 3, .inr (6, rF r 0 0 0 0 0 0 0 0))]) hD hS hA [0, 1, 2, 3, 4, 5, 6, 7] rfl
  refine va_calli (va_runV (As := [.int (xs (Int32.toNatClampNeg 1)), .int (xs (Int32.toNatClampNeg 2)), .int (xs (Int32.toNatClampNeg 3))]) (rest := []) ⟨hx, hb, hml, hown, hts⟩ (c_alive l dC dI x q bk d0 p0 cT cD cP cB cU r H.size (xs (Int32.toNatClampNeg 1)) (xs (Int32.toNatClampNeg 2)) (xs (Int32.toNatClampNeg 3))) (cwV 3 hts mg_L_law_X9_alive_82 rfl rfl rfl (by decide +kernel) ⟨Nat.le_of_ble_eq_true rfl, Nat.le_of_ble_eq_true rfl⟩) ⟨fun a U g mk q => by obtain ⟨q0, q1, qP, qK, qD⟩ := q; exact ⟨q0, q1, qP, va_K.moved (u := U) (U := U.calling g mk a) (Vm.Alike.refl U.vm) qK, qD⟩, va_recv hKc hPc (ci := 9) (q0 := 0) rfl rfl, fun U hU hW => ⟨rfl, by rw [hU], by rw [hU]; exact hPc, va_K.moved hW.alike hKc, hDc.weaken (fun _ _ _ _ => trivial)⟩⟩ rfl rfl hl.1 rfl (lv_room (Nat.le_of_ble_eq_true rfl)) dL_law_712 ⟨Nat.le_of_ble_eq_true rfl, Nat.le_of_ble_eq_true rfl⟩) hS (fun q _ h => hFc q h) hFc (fun r_5 u t H1 locs ht hvm hw hB hz1 hk1 hS => ?_)
  have hw_6 := hw
  obtain ⟨hP, hD⟩ := va_join (wr := [(y, .inr (10, mF z 0 0 0 0 0 0 0 0 0 (-1) (-1))), (z 0, .inl (mA, 101660, .inl (fun _ => 0))), (z 1, .inl (mT, 900, .inl (fun _ => 0))), (z 2, .inl (mX, 900, .inl (fun _ => 0))), (z 23, .inl (mC, 17576, .inl (fun _ => 0)))]) (w1 := []) hP hD [0, 1, 2, 3, 4, 5, 6, 7] [8, 9, 10, 11, 12] rfl rfl (by decide) (by decide) hk1 hFc (fun k q h => by simp at h) ⟨fun i j p q h => by simp at h, fun k q h => by simp at h⟩
  generalize H1 = H at hP hS ⊢
  have hP : va_P (dC, dI) vwCl [(y, .inr (10, mF z 0 0 0 0 0 0 0 0 0 (-1) (-1))), (z 0, .inl (mA, 101660, .inl (fun _ => 0))), (z 1, .inl (mT, 900, .inl (fun _ => 0))), (z 2, .inl (mX, 900, .inl (fun _ => 0))), (z 23, .inl (mC, 17576, .inl (fun _ => 0)))] H := hP
  have hD : va_D (fun q : Nat => s.heap.size ≤ q) [(y, .inr (10, mF z 0 0 0 0 0 0 0 0 0 (-1) (-1))), (z 0, .inl (mA, 101660, .inl (fun _ => 0))), (z 1, .inl (mT, 900, .inl (fun _ => 0))), (z 2, .inl (mX, 900, .inl (fun _ => 0))), (z 23, .inl (mC, 17576, .inl (fun _ => 0)))] := hD
  refine W.widen (k := 1222) (n := 311064) (by omega) (by omega) ?_
  refine lv_aload_n hx hb dL_law_715 rfl (lv_at hl 1 rfl) ?_
  refine lv_aload_n hx hb dL_law_716 rfl (lv_at hl 3 rfl) ?_
  refine lv_iload_n hx hb dL_law_717 rfl (lv_at hl 0 rfl) ?_
  refine lv_iconst (v := 1) hx hb dL_law_718 (by decide) ?_
  refine lv_iadd hx hb dL_law_719 ?_
  refine lv_topi (fun y_7 ey_7 => ?_)
  obtain rfl : y_7 = 1 := ey_7.trans (by first | rfl | decide)
  refine va_sld hx hb hX hbl hbA hS (i := 1) (by unfold vp_in; decide) dL_law_720 ?_
  refine lv_aload_n hx hb dL_law_721 rfl (lv_at hl 3 rfl) ?_
  refine lv_iload_n hx hb dL_law_722 rfl (lv_at hl 0 rfl) ?_
  refine lv_iconst (v := 2) hx hb dL_law_723 (by decide) ?_
  refine lv_iadd hx hb dL_law_724 ?_
  refine lv_topi (fun y_8 ey_8 => ?_)
  obtain rfl : y_8 = 2 := ey_8.trans (by first | rfl | decide)
  refine va_sld hx hb hX hbl hbA hS (i := 2) (by unfold vp_in; decide) dL_law_725 ?_
  refine lv_aload_n hx hb dL_law_726 rfl (lv_at hl 3 rfl) ?_
  refine lv_iload_n hx hb dL_law_727 rfl (lv_at hl 0 rfl) ?_
  refine lv_iconst (v := 3) hx hb dL_law_728 (by decide) ?_
  refine lv_iadd hx hb dL_law_729 ?_
  refine lv_topi (fun y_9 ey_9 => ?_)
  obtain rfl : y_9 = 3 := ey_9.trans (by first | rfl | decide)
  refine va_sld hx hb hX hbl hbA hS (i := 3) (by unfold vp_in; decide) dL_law_730 ?_
  have hPc := hP.sub (ws' := [(y, .inr (10, mF z 0 0 0 0 0 0 0 0 0 (-1) (-1))), (z 0, .inl (mA, 101660, .inl (fun _ => 0))), (z 1, .inl (mT, 900, .inl (fun _ => 0))), (z 2, .inl (mX, 900, .inl (fun _ => 0))), (z 23, .inl (mC, 17576, .inl (fun _ => 0)))]) [0, 1, 2, 3, 4] rfl
  have hKc := hK.sub (tys' := [(mA, .int), (mT, .byte), (mX, .byte), (mC, .boolean)]) [5, 6, 7, 8] rfl
  have hDc := hD.sub (ws' := [(y, .inr (10, mF z 0 0 0 0 0 0 0 0 0 (-1) (-1))), (z 0, .inl (mA, 101660, .inl (fun _ => 0))), (z 1, .inl (mT, 900, .inl (fun _ => 0))), (z 2, .inl (mX, 900, .inl (fun _ => 0))), (z 23, .inl (mC, 17576, .inl (fun _ => 0)))]) [0, 1, 2, 3, 4] (by decide) rfl
  have hFc := va_free (wc := [(y, .inr (10, mF z 0 0 0 0 0 0 0 0 0 (-1) (-1))), (z 0, .inl (mA, 101660, .inl (fun _ => 0))), (z 1, .inl (mT, 900, .inl (fun _ => 0))), (z 2, .inl (mX, 900, .inl (fun _ => 0))), (z 23, .inl (mC, 17576, .inl (fun _ => 0)))]) hD hS hA [0, 1, 2, 3, 4] rfl
  refine va_calli (va_runV (As := [.int (xs (Int32.toNatClampNeg 1)), .int (xs (Int32.toNatClampNeg 2)), .int (xs (Int32.toNatClampNeg 3))]) (rest := [.int r_5]) ⟨hx, hb, hml, hown, hts⟩ (m_alive l dC dI y z mA mT mX mC H.size (xs (Int32.toNatClampNeg 1)) (xs (Int32.toNatClampNeg 2)) (xs (Int32.toNatClampNeg 3))) (cwV 3 hts mg_L_law_X10_alive_85 rfl rfl rfl (by decide +kernel) ⟨Nat.le_of_ble_eq_true rfl, Nat.le_of_ble_eq_true rfl⟩) ⟨fun a U g mk q => by obtain ⟨q0, q1, qP, qK, qD⟩ := q; exact ⟨q0, q1, qP, va_K.moved (u := U) (U := U.calling g mk a) (Vm.Alike.refl U.vm) qK, qD⟩, va_recv hKc hPc (ci := 10) (q0 := 0) rfl rfl, fun U hU hW => ⟨rfl, by rw [hU], by rw [hU]; exact hPc, va_K.moved hW.alike hKc, hDc.weaken (fun _ _ _ _ => trivial)⟩⟩ rfl rfl hl.1 rfl (lv_room (Nat.le_of_ble_eq_true rfl)) dL_law_731 ⟨Nat.le_of_ble_eq_true rfl, Nat.le_of_ble_eq_true rfl⟩) hS (fun q _ h => hFc q h) hFc (fun r_11 u t H1 locs ht hvm hw hB hz1 hk1 hS => ?_)
  have hw_12 := hw
  obtain ⟨hP, hD⟩ := va_join (wr := []) (w1 := []) hP hD [0, 1, 2, 3, 4] [] rfl rfl (by decide) (by decide) hk1 hFc (fun k q h => by simp at h) ⟨fun i j p q h => by simp at h, fun k q h => by simp at h⟩
  generalize H1 = H at hP hS ⊢
  have hP : va_P (dC, dI) vwCl [] H := hP
  have hD : va_D (fun q : Nat => s.heap.size ≤ q) [] := hD
  refine W.widen (k := 1222) (n := 311064) (by omega) (by omega) ?_
  refine lv_icmp_eq (tgt := 1128) hx hb dL_law_734 (by decide) (fun k_13 => ?_) (fun k_13 => absurd (hw_6.trans hw_12.symm) k_13)
  exact law_end C0 (Nat.le_of_ble_eq_true rfl) (Nat.le_of_ble_eq_true rfl) hS hl
theorem dL_law_739 : decode cL_law 739 = .ok (.aload_n 1, 1) := by decide +kernel
theorem dL_law_740 : decode cL_law 740 = .ok (.aload_n 0, 1) := by decide +kernel
theorem dL_law_741 : decode cL_law 741 = .ok (.iload_n 3, 1) := by decide +kernel
theorem dL_law_742 : decode cL_law 742 = .ok (.iconst 1, 1) := by decide +kernel
theorem dL_law_743 : decode cL_law 743 = .ok (.iadd, 1) := by decide +kernel
theorem dL_law_744 : decode cL_law 744 = .ok (.iaload, 1) := by decide +kernel
theorem dL_law_745 : decode cL_law 745 = .ok (.invokevirtual 86, 3) := by decide +kernel
theorem dL_law_748 : decode cL_law 748 = .ok (.aload_n 2, 1) := by decide +kernel
theorem dL_law_749 : decode cL_law 749 = .ok (.aload_n 0, 1) := by decide +kernel
theorem dL_law_750 : decode cL_law 750 = .ok (.iload_n 3, 1) := by decide +kernel
theorem dL_law_751 : decode cL_law 751 = .ok (.iconst 1, 1) := by decide +kernel
theorem dL_law_752 : decode cL_law 752 = .ok (.iadd, 1) := by decide +kernel
theorem dL_law_753 : decode cL_law 753 = .ok (.iaload, 1) := by decide +kernel
theorem dL_law_754 : decode cL_law 754 = .ok (.invokevirtual 89, 3) := by decide +kernel
theorem dL_law_757 : decode cL_law 757 = .ok (.if_icmp .eq 371, 3) := by decide +kernel
set_option maxRecDepth 20000 in
theorem mg_L_law_X9_rarest_86 : GoodIn lw_tbl (wsV RL 86 RX9 yX9_rarest mwX9_rarest) := goodIn_r _ [1009, 1010, 1011, 106, 1012, 361, 892, 148, 889, 890, 891, 107, 424, 356, 421, 423, 1, 106, 372, 374, 376, 378, 380, 382, 384, 386, 388, 390, 392, 394, 396, 398, 400, 402, 152, 154, 156] (by decide +kernel) (by decide +kernel)
set_option maxRecDepth 20000 in
theorem mg_L_law_X10_rarest_89 : GoodIn lw_tbl (wsV RL 89 RX10 yX10_rarest mwX10_rarest) := goodIn_r _ [1670, 1671, 1672, 115, 1673, 1626, 1123, 1623, 1625, 99, 115, 1290, 1124, 1287, 1289, 33, 1171, 1173, 1175, 1177, 1179, 1181, 1183, 1185, 1187, 1189, 1191, 1193, 1195, 1197, 1199, 1201, 1203, 1205, 1207, 1209, 1211, 1213, 1215, 1217, 1219, 1221, 1223, 1225, 1227, 1229, 1231, 1233, 1235, 1237, 1239, 1241, 1243, 1245, 1247, 1249, 1251, 1253, 1255, 1257, 1259, 1261, 1263, 1265] (by decide +kernel) (by decide +kernel)
set_option maxHeartbeats 4000000 in
set_option maxRecDepth 100000 in
theorem law_case17 {p : Program} {l : Launch} {e : Env} {s : State} {m : MethodId} {below : List Frame} {meth : Method} {c : Code} {dC : Nat → ClassId} {dI : Nat → Nat → Nat} {b : Nat} {xs : Nat → Int32} (C0 : lw_At p s m meth c b 6 xs) {x : Nat} {q : Nat → Nat} {bk d0 p0 : Nat} {cT cD cP cB cU : ClassId} {r : Nat → Nat} {y : Nat} {z : Nat → Nat} {mA mT mX mC : ClassId} {H : Heap} {locs : List Loc} (hK : va_K (dC, dI) vwCl [(cT, .int), (cD, .object "PatternGate$Doc"), (cP, .object "PatternGate$Pattern"), (cB, .object "PatternGate$Book"), (cU, .int), (mA, .int), (mT, .byte), (mX, .byte), (mC, .boolean)] s) (hP : va_P (dC, dI) vwCl [(x, .inr (9, gF q 0 0 (-1) (-1) bk 0 0)), (q 0, .inl (cT, 900, .inl (fun _ => 0))), (bk, .inr (0, [.ref d0, .ref p0, .null])), (d0, .inl (cD, 0, .inr (.inr (.inr (.inr (fun _ => none)))))), (p0, .inl (cP, 0, .inr (.inr (.inr (.inr (fun _ => none)))))), (q 1, .inl (cB, 3, .inr (.inr (.inr (.inr (fun _ => none)))))), (q 2, .inl (cU, 3, .inl (fun _ => 0))), (q 3, .inr (6, rF r 0 0 0 0 0 0 0 0)), (y, .inr (10, mF z 0 0 0 0 0 0 0 0 0 (-1) (-1))), (z 0, .inl (mA, 101660, .inl (fun _ => 0))), (z 1, .inl (mT, 900, .inl (fun _ => 0))), (z 2, .inl (mX, 900, .inl (fun _ => 0))), (z 23, .inl (mC, 17576, .inl (fun _ => 0)))] H) (hD : va_D (fun q : Nat => s.heap.size ≤ q) [(x, .inr (9, gF q 0 0 (-1) (-1) bk 0 0)), (q 0, .inl (cT, 900, .inl (fun _ => 0))), (bk, .inr (0, [.ref d0, .ref p0, .null])), (d0, .inl (cD, 0, .inr (.inr (.inr (.inr (fun _ => none)))))), (p0, .inl (cP, 0, .inr (.inr (.inr (.inr (fun _ => none)))))), (q 1, .inl (cB, 3, .inr (.inr (.inr (.inr (fun _ => none)))))), (q 2, .inl (cU, 3, .inl (fun _ => 0))), (q 3, .inr (6, rF r 0 0 0 0 0 0 0 0)), (y, .inr (10, mF z 0 0 0 0 0 0 0 0 0 (-1) (-1))), (z 0, .inl (mA, 101660, .inl (fun _ => 0))), (z 1, .inl (mT, 900, .inl (fun _ => 0))), (z 2, .inl (mX, 900, .inl (fun _ => 0))), (z 23, .inl (mC, 17576, .inl (fun _ => 0)))]) (hS : va_S (fun q : Nat => s.heap.size ≤ q) s.heap H locs) (hAO2 : va_AO "PatternGate$Doc" s) (hAO5 : va_AO "PatternGate$Pattern" s) {ls : Array Slot} (hl : lv_has ls 4 [(3, .int 0), (2, .ref y), (1, .ref x), (0, .ref b)]) : W p l e room_1 s m #[Value.ref b] below meth c H locs 1222 311064 (lw_Z below #[Value.ref b] s) (F0 m 739 ls []) := by
  obtain ⟨hx, hb, hr, hml, hown, hts, hX, hbl, hlocks, hgv⟩ := id C0
  have hown : s.vm.findClass RL = some m.cls := hown
  have hA : ∀ q : Nat, s.heap.size ≤ q → (fun q : Nat => s.heap.size ≤ q) q := fun _ h => h
  have hbA : ¬ (fun q : Nat => s.heap.size ≤ q) b := Nat.not_le.mpr hbl
  refine lv_aload_n hx hb dL_law_739 rfl (lv_at hl 2 rfl) ?_
  refine lv_aload_n hx hb dL_law_740 rfl (lv_at hl 3 rfl) ?_
  refine lv_iload_n hx hb dL_law_741 rfl (lv_at hl 0 rfl) ?_
  refine lv_iconst (v := 1) hx hb dL_law_742 (by decide) ?_
  refine lv_iadd hx hb dL_law_743 ?_
  refine lv_topi (fun y_1 ey_1 => ?_)
  obtain rfl : y_1 = 1 := ey_1.trans (by first | rfl | decide)
  refine va_sld hx hb hX hbl hbA hS (i := 1) (by unfold vp_in; decide) dL_law_744 ?_
  have hPc := hP.sub (ws' := [(x, .inr (9, gF q 0 0 (-1) (-1) bk 0 0)), (q 0, .inl (cT, 900, .inl (fun _ => 0))), (bk, .inr (0, [.ref d0, .ref p0, .null])), (d0, .inl (cD, 0, .inr (.inr (.inr (.inr (fun _ => none)))))), (p0, .inl (cP, 0, .inr (.inr (.inr (.inr (fun _ => none)))))), (q 1, .inl (cB, 3, .inr (.inr (.inr (.inr (fun _ => none)))))), (q 2, .inl (cU, 3, .inl (fun _ => 0))), (q 3, .inr (6, rF r 0 0 0 0 0 0 0 0))]) [0, 1, 2, 3, 4, 5, 6, 7] rfl
  have hKc := hK.sub (tys' := [(cT, .int), (cD, .object "PatternGate$Doc"), (cP, .object "PatternGate$Pattern"), (cB, .object "PatternGate$Book"), (cU, .int)]) [0, 1, 2, 3, 4] rfl
  have hDc := hD.sub (ws' := [(x, .inr (9, gF q 0 0 (-1) (-1) bk 0 0)), (q 0, .inl (cT, 900, .inl (fun _ => 0))), (bk, .inr (0, [.ref d0, .ref p0, .null])), (d0, .inl (cD, 0, .inr (.inr (.inr (.inr (fun _ => none)))))), (p0, .inl (cP, 0, .inr (.inr (.inr (.inr (fun _ => none)))))), (q 1, .inl (cB, 3, .inr (.inr (.inr (.inr (fun _ => none)))))), (q 2, .inl (cU, 3, .inl (fun _ => 0))), (q 3, .inr (6, rF r 0 0 0 0 0 0 0 0))]) [0, 1, 2, 3, 4, 5, 6, 7] (by decide) rfl
  have hFc := va_free (wc := [(x, .inr (9, gF q 0 0 (-1) (-1) bk 0 0)), (q 0, .inl (cT, 900, .inl (fun _ => 0))), (bk, .inr (0, [.ref d0, .ref p0, .null])), (d0, .inl (cD, 0, .inr (.inr (.inr (.inr (fun _ => none)))))), (p0, .inl (cP, 0, .inr (.inr (.inr (.inr (fun _ => none)))))), (q 1, .inl (cB, 3, .inr (.inr (.inr (.inr (fun _ => none)))))), (q 2, .inl (cU, 3, .inl (fun _ => 0))), (q 3, .inr (6, rF r 0 0 0 0 0 0 0 0))]) hD hS hA [0, 1, 2, 3, 4, 5, 6, 7] rfl
  refine va_calli (va_runV (As := [.int (xs (Int32.toNatClampNeg 1))]) (rest := []) ⟨hx, hb, hml, hown, hts⟩ (c_rarest l dC dI x q bk d0 p0 cT cD cP cB cU r H.size (xs (Int32.toNatClampNeg 1))) (cwV 1 hts mg_L_law_X9_rarest_86 rfl rfl rfl (by decide +kernel) ⟨Nat.le_of_ble_eq_true rfl, Nat.le_of_ble_eq_true rfl⟩) ⟨fun a U g mk q => by obtain ⟨q0, q1, qP, qK, qD⟩ := q; exact ⟨q0, q1, qP, va_K.moved (u := U) (U := U.calling g mk a) (Vm.Alike.refl U.vm) qK, qD⟩, va_recv hKc hPc (ci := 9) (q0 := 0) rfl rfl, fun U hU hW => ⟨rfl, by rw [hU], by rw [hU]; exact hPc, va_K.moved hW.alike hKc, hDc.weaken (fun _ _ _ _ => trivial)⟩⟩ rfl rfl hl.1 rfl (lv_room (Nat.le_of_ble_eq_true rfl)) dL_law_745 ⟨Nat.le_of_ble_eq_true rfl, Nat.le_of_ble_eq_true rfl⟩) hS (fun q _ h => hFc q h) hFc (fun r_3 u t H1 locs ht hvm hw hB hz1 hk1 hS => ?_)
  have hw_4 := hw
  obtain ⟨hP, hD⟩ := va_join (wr := [(y, .inr (10, mF z 0 0 0 0 0 0 0 0 0 (-1) (-1))), (z 0, .inl (mA, 101660, .inl (fun _ => 0))), (z 1, .inl (mT, 900, .inl (fun _ => 0))), (z 2, .inl (mX, 900, .inl (fun _ => 0))), (z 23, .inl (mC, 17576, .inl (fun _ => 0)))]) (w1 := []) hP hD [0, 1, 2, 3, 4, 5, 6, 7] [8, 9, 10, 11, 12] rfl rfl (by decide) (by decide) hk1 hFc (fun k q h => by simp at h) ⟨fun i j p q h => by simp at h, fun k q h => by simp at h⟩
  generalize H1 = H at hP hS ⊢
  have hP : va_P (dC, dI) vwCl [(y, .inr (10, mF z 0 0 0 0 0 0 0 0 0 (-1) (-1))), (z 0, .inl (mA, 101660, .inl (fun _ => 0))), (z 1, .inl (mT, 900, .inl (fun _ => 0))), (z 2, .inl (mX, 900, .inl (fun _ => 0))), (z 23, .inl (mC, 17576, .inl (fun _ => 0)))] H := hP
  have hD : va_D (fun q : Nat => s.heap.size ≤ q) [(y, .inr (10, mF z 0 0 0 0 0 0 0 0 0 (-1) (-1))), (z 0, .inl (mA, 101660, .inl (fun _ => 0))), (z 1, .inl (mT, 900, .inl (fun _ => 0))), (z 2, .inl (mX, 900, .inl (fun _ => 0))), (z 23, .inl (mC, 17576, .inl (fun _ => 0)))] := hD
  refine W.widen (k := 1222) (n := 311064) (by omega) (by omega) ?_
  refine lv_aload_n hx hb dL_law_748 rfl (lv_at hl 1 rfl) ?_
  refine lv_aload_n hx hb dL_law_749 rfl (lv_at hl 3 rfl) ?_
  refine lv_iload_n hx hb dL_law_750 rfl (lv_at hl 0 rfl) ?_
  refine lv_iconst (v := 1) hx hb dL_law_751 (by decide) ?_
  refine lv_iadd hx hb dL_law_752 ?_
  refine lv_topi (fun y_5 ey_5 => ?_)
  obtain rfl : y_5 = 1 := ey_5.trans (by first | rfl | decide)
  refine va_sld hx hb hX hbl hbA hS (i := 1) (by unfold vp_in; decide) dL_law_753 ?_
  have hPc := hP.sub (ws' := [(y, .inr (10, mF z 0 0 0 0 0 0 0 0 0 (-1) (-1))), (z 0, .inl (mA, 101660, .inl (fun _ => 0))), (z 1, .inl (mT, 900, .inl (fun _ => 0))), (z 2, .inl (mX, 900, .inl (fun _ => 0))), (z 23, .inl (mC, 17576, .inl (fun _ => 0)))]) [0, 1, 2, 3, 4] rfl
  have hKc := hK.sub (tys' := [(mA, .int), (mT, .byte), (mX, .byte), (mC, .boolean)]) [5, 6, 7, 8] rfl
  have hDc := hD.sub (ws' := [(y, .inr (10, mF z 0 0 0 0 0 0 0 0 0 (-1) (-1))), (z 0, .inl (mA, 101660, .inl (fun _ => 0))), (z 1, .inl (mT, 900, .inl (fun _ => 0))), (z 2, .inl (mX, 900, .inl (fun _ => 0))), (z 23, .inl (mC, 17576, .inl (fun _ => 0)))]) [0, 1, 2, 3, 4] (by decide) rfl
  have hFc := va_free (wc := [(y, .inr (10, mF z 0 0 0 0 0 0 0 0 0 (-1) (-1))), (z 0, .inl (mA, 101660, .inl (fun _ => 0))), (z 1, .inl (mT, 900, .inl (fun _ => 0))), (z 2, .inl (mX, 900, .inl (fun _ => 0))), (z 23, .inl (mC, 17576, .inl (fun _ => 0)))]) hD hS hA [0, 1, 2, 3, 4] rfl
  refine va_calli (va_runV (As := [.int (xs (Int32.toNatClampNeg 1))]) (rest := [.int r_3]) ⟨hx, hb, hml, hown, hts⟩ (m_rarest l dC dI y z mA mT mX mC H.size (xs (Int32.toNatClampNeg 1))) (cwV 1 hts mg_L_law_X10_rarest_89 rfl rfl rfl (by decide +kernel) ⟨Nat.le_of_ble_eq_true rfl, Nat.le_of_ble_eq_true rfl⟩) ⟨fun a U g mk q => by obtain ⟨q0, q1, qP, qK, qD⟩ := q; exact ⟨q0, q1, qP, va_K.moved (u := U) (U := U.calling g mk a) (Vm.Alike.refl U.vm) qK, qD⟩, va_recv hKc hPc (ci := 10) (q0 := 0) rfl rfl, fun U hU hW => ⟨rfl, by rw [hU], by rw [hU]; exact hPc, va_K.moved hW.alike hKc, hDc.weaken (fun _ _ _ _ => trivial)⟩⟩ rfl rfl hl.1 rfl (lv_room (Nat.le_of_ble_eq_true rfl)) dL_law_754 ⟨Nat.le_of_ble_eq_true rfl, Nat.le_of_ble_eq_true rfl⟩) hS (fun q _ h => hFc q h) hFc (fun r_7 u t H1 locs ht hvm hw hB hz1 hk1 hS => ?_)
  have hw_8 := hw
  obtain ⟨hP, hD⟩ := va_join (wr := []) (w1 := []) hP hD [0, 1, 2, 3, 4] [] rfl rfl (by decide) (by decide) hk1 hFc (fun k q h => by simp at h) ⟨fun i j p q h => by simp at h, fun k q h => by simp at h⟩
  generalize H1 = H at hP hS ⊢
  have hP : va_P (dC, dI) vwCl [] H := hP
  have hD : va_D (fun q : Nat => s.heap.size ≤ q) [] := hD
  refine W.widen (k := 1222) (n := 311064) (by omega) (by omega) ?_
  refine lv_icmp_eq (tgt := 1128) hx hb dL_law_757 (by decide) (fun k_9 => ?_) (fun k_9 => absurd (hw_4.trans hw_8.symm) k_9)
  exact law_end C0 (Nat.le_of_ble_eq_true rfl) (Nat.le_of_ble_eq_true rfl) hS hl
theorem dL_law_762 : decode cL_law 762 = .ok (.aload_n 1, 1) := by decide +kernel
theorem dL_law_763 : decode cL_law 763 = .ok (.aload_n 0, 1) := by decide +kernel
theorem dL_law_764 : decode cL_law 764 = .ok (.iload_n 3, 1) := by decide +kernel
theorem dL_law_765 : decode cL_law 765 = .ok (.iconst 1, 1) := by decide +kernel
theorem dL_law_766 : decode cL_law 766 = .ok (.iadd, 1) := by decide +kernel
theorem dL_law_767 : decode cL_law 767 = .ok (.iaload, 1) := by decide +kernel
theorem dL_law_768 : decode cL_law 768 = .ok (.aload_n 0, 1) := by decide +kernel
theorem dL_law_769 : decode cL_law 769 = .ok (.iload_n 3, 1) := by decide +kernel
theorem dL_law_770 : decode cL_law 770 = .ok (.iconst 2, 1) := by decide +kernel
theorem dL_law_771 : decode cL_law 771 = .ok (.iadd, 1) := by decide +kernel
theorem dL_law_772 : decode cL_law 772 = .ok (.iaload, 1) := by decide +kernel
theorem dL_law_773 : decode cL_law 773 = .ok (.invokevirtual 90, 3) := by decide +kernel
theorem dL_law_776 : decode cL_law 776 = .ok (.aload_n 2, 1) := by decide +kernel
theorem dL_law_777 : decode cL_law 777 = .ok (.aload_n 0, 1) := by decide +kernel
theorem dL_law_778 : decode cL_law 778 = .ok (.iload_n 3, 1) := by decide +kernel
theorem dL_law_779 : decode cL_law 779 = .ok (.iconst 1, 1) := by decide +kernel
theorem dL_law_780 : decode cL_law 780 = .ok (.iadd, 1) := by decide +kernel
theorem dL_law_781 : decode cL_law 781 = .ok (.iaload, 1) := by decide +kernel
theorem dL_law_782 : decode cL_law 782 = .ok (.aload_n 0, 1) := by decide +kernel
theorem dL_law_783 : decode cL_law 783 = .ok (.iload_n 3, 1) := by decide +kernel
theorem dL_law_784 : decode cL_law 784 = .ok (.iconst 2, 1) := by decide +kernel
theorem dL_law_785 : decode cL_law 785 = .ok (.iadd, 1) := by decide +kernel
theorem dL_law_786 : decode cL_law 786 = .ok (.iaload, 1) := by decide +kernel
theorem dL_law_787 : decode cL_law 787 = .ok (.invokevirtual 93, 3) := by decide +kernel
theorem dL_law_790 : decode cL_law 790 = .ok (.if_icmp .eq 338, 3) := by decide +kernel
set_option maxRecDepth 20000 in
theorem mg_L_law_X9_within_90 : GoodIn lw_tbl (wsV RL 90 RX9 yX9_within mwX9_within) := goodIn_r _ [1013, 1014, 1015, 106, 1016, 361, 892, 148, 889, 890, 891, 107, 424, 356, 421, 423, 1, 106, 372, 374, 376, 378, 380, 382, 384, 386, 388, 390, 392, 394, 396, 398, 400, 402, 152, 154, 156] (by decide +kernel) (by decide +kernel)
set_option maxRecDepth 20000 in
theorem mg_L_law_X10_within_93 : GoodIn lw_tbl (wsV RL 93 RX10 yX10_within mwX10_within) := goodIn_r _ [1674, 1675, 1676, 115, 1677, 1626, 1123, 1623, 1625, 99, 115, 1290, 1124, 1287, 1289, 33, 1171, 1173, 1175, 1177, 1179, 1181, 1183, 1185, 1187, 1189, 1191, 1193, 1195, 1197, 1199, 1201, 1203, 1205, 1207, 1209, 1211, 1213, 1215, 1217, 1219, 1221, 1223, 1225, 1227, 1229, 1231, 1233, 1235, 1237, 1239, 1241, 1243, 1245, 1247, 1249, 1251, 1253, 1255, 1257, 1259, 1261, 1263, 1265] (by decide +kernel) (by decide +kernel)
set_option maxHeartbeats 4000000 in
set_option maxRecDepth 100000 in
theorem law_case18 {p : Program} {l : Launch} {e : Env} {s : State} {m : MethodId} {below : List Frame} {meth : Method} {c : Code} {dC : Nat → ClassId} {dI : Nat → Nat → Nat} {b : Nat} {xs : Nat → Int32} (C0 : lw_At p s m meth c b 6 xs) {x : Nat} {q : Nat → Nat} {bk d0 p0 : Nat} {cT cD cP cB cU : ClassId} {r : Nat → Nat} {y : Nat} {z : Nat → Nat} {mA mT mX mC : ClassId} {H : Heap} {locs : List Loc} (hK : va_K (dC, dI) vwCl [(cT, .int), (cD, .object "PatternGate$Doc"), (cP, .object "PatternGate$Pattern"), (cB, .object "PatternGate$Book"), (cU, .int), (mA, .int), (mT, .byte), (mX, .byte), (mC, .boolean)] s) (hP : va_P (dC, dI) vwCl [(x, .inr (9, gF q 0 0 (-1) (-1) bk 0 0)), (q 0, .inl (cT, 900, .inl (fun _ => 0))), (bk, .inr (0, [.ref d0, .ref p0, .null])), (d0, .inl (cD, 0, .inr (.inr (.inr (.inr (fun _ => none)))))), (p0, .inl (cP, 0, .inr (.inr (.inr (.inr (fun _ => none)))))), (q 1, .inl (cB, 3, .inr (.inr (.inr (.inr (fun _ => none)))))), (q 2, .inl (cU, 3, .inl (fun _ => 0))), (q 3, .inr (6, rF r 0 0 0 0 0 0 0 0)), (y, .inr (10, mF z 0 0 0 0 0 0 0 0 0 (-1) (-1))), (z 0, .inl (mA, 101660, .inl (fun _ => 0))), (z 1, .inl (mT, 900, .inl (fun _ => 0))), (z 2, .inl (mX, 900, .inl (fun _ => 0))), (z 23, .inl (mC, 17576, .inl (fun _ => 0)))] H) (hD : va_D (fun q : Nat => s.heap.size ≤ q) [(x, .inr (9, gF q 0 0 (-1) (-1) bk 0 0)), (q 0, .inl (cT, 900, .inl (fun _ => 0))), (bk, .inr (0, [.ref d0, .ref p0, .null])), (d0, .inl (cD, 0, .inr (.inr (.inr (.inr (fun _ => none)))))), (p0, .inl (cP, 0, .inr (.inr (.inr (.inr (fun _ => none)))))), (q 1, .inl (cB, 3, .inr (.inr (.inr (.inr (fun _ => none)))))), (q 2, .inl (cU, 3, .inl (fun _ => 0))), (q 3, .inr (6, rF r 0 0 0 0 0 0 0 0)), (y, .inr (10, mF z 0 0 0 0 0 0 0 0 0 (-1) (-1))), (z 0, .inl (mA, 101660, .inl (fun _ => 0))), (z 1, .inl (mT, 900, .inl (fun _ => 0))), (z 2, .inl (mX, 900, .inl (fun _ => 0))), (z 23, .inl (mC, 17576, .inl (fun _ => 0)))]) (hS : va_S (fun q : Nat => s.heap.size ≤ q) s.heap H locs) (hAO2 : va_AO "PatternGate$Doc" s) (hAO5 : va_AO "PatternGate$Pattern" s) {ls : Array Slot} (hl : lv_has ls 4 [(3, .int 0), (2, .ref y), (1, .ref x), (0, .ref b)]) : W p l e room_1 s m #[Value.ref b] below meth c H locs 1222 311064 (lw_Z below #[Value.ref b] s) (F0 m 762 ls []) := by
  obtain ⟨hx, hb, hr, hml, hown, hts, hX, hbl, hlocks, hgv⟩ := id C0
  have hown : s.vm.findClass RL = some m.cls := hown
  have hA : ∀ q : Nat, s.heap.size ≤ q → (fun q : Nat => s.heap.size ≤ q) q := fun _ h => h
  have hbA : ¬ (fun q : Nat => s.heap.size ≤ q) b := Nat.not_le.mpr hbl
  refine lv_aload_n hx hb dL_law_762 rfl (lv_at hl 2 rfl) ?_
  refine lv_aload_n hx hb dL_law_763 rfl (lv_at hl 3 rfl) ?_
  refine lv_iload_n hx hb dL_law_764 rfl (lv_at hl 0 rfl) ?_
  refine lv_iconst (v := 1) hx hb dL_law_765 (by decide) ?_
  refine lv_iadd hx hb dL_law_766 ?_
  refine lv_topi (fun y_1 ey_1 => ?_)
  obtain rfl : y_1 = 1 := ey_1.trans (by first | rfl | decide)
  refine va_sld hx hb hX hbl hbA hS (i := 1) (by unfold vp_in; decide) dL_law_767 ?_
  refine lv_aload_n hx hb dL_law_768 rfl (lv_at hl 3 rfl) ?_
  refine lv_iload_n hx hb dL_law_769 rfl (lv_at hl 0 rfl) ?_
  refine lv_iconst (v := 2) hx hb dL_law_770 (by decide) ?_
  refine lv_iadd hx hb dL_law_771 ?_
  refine lv_topi (fun y_2 ey_2 => ?_)
  obtain rfl : y_2 = 2 := ey_2.trans (by first | rfl | decide)
  refine va_sld hx hb hX hbl hbA hS (i := 2) (by unfold vp_in; decide) dL_law_772 ?_
  have hPc := hP.sub (ws' := [(x, .inr (9, gF q 0 0 (-1) (-1) bk 0 0)), (q 0, .inl (cT, 900, .inl (fun _ => 0))), (bk, .inr (0, [.ref d0, .ref p0, .null])), (d0, .inl (cD, 0, .inr (.inr (.inr (.inr (fun _ => none)))))), (p0, .inl (cP, 0, .inr (.inr (.inr (.inr (fun _ => none)))))), (q 1, .inl (cB, 3, .inr (.inr (.inr (.inr (fun _ => none)))))), (q 2, .inl (cU, 3, .inl (fun _ => 0))), (q 3, .inr (6, rF r 0 0 0 0 0 0 0 0))]) [0, 1, 2, 3, 4, 5, 6, 7] rfl
  have hKc := hK.sub (tys' := [(cT, .int), (cD, .object "PatternGate$Doc"), (cP, .object "PatternGate$Pattern"), (cB, .object "PatternGate$Book"), (cU, .int)]) [0, 1, 2, 3, 4] rfl
  have hDc := hD.sub (ws' := [(x, .inr (9, gF q 0 0 (-1) (-1) bk 0 0)), (q 0, .inl (cT, 900, .inl (fun _ => 0))), (bk, .inr (0, [.ref d0, .ref p0, .null])), (d0, .inl (cD, 0, .inr (.inr (.inr (.inr (fun _ => none)))))), (p0, .inl (cP, 0, .inr (.inr (.inr (.inr (fun _ => none)))))), (q 1, .inl (cB, 3, .inr (.inr (.inr (.inr (fun _ => none)))))), (q 2, .inl (cU, 3, .inl (fun _ => 0))), (q 3, .inr (6, rF r 0 0 0 0 0 0 0 0))]) [0, 1, 2, 3, 4, 5, 6, 7] (by decide) rfl
  have hFc := va_free (wc := [(x, .inr (9, gF q 0 0 (-1) (-1) bk 0 0)), (q 0, .inl (cT, 900, .inl (fun _ => 0))), (bk, .inr (0, [.ref d0, .ref p0, .null])), (d0, .inl (cD, 0, .inr (.inr (.inr (.inr (fun _ => none)))))), (p0, .inl (cP, 0, .inr (.inr (.inr (.inr (fun _ => none)))))), (q 1, .inl (cB, 3, .inr (.inr (.inr (.inr (fun _ => none)))))), (q 2, .inl (cU, 3, .inl (fun _ => 0))), (q 3, .inr (6, rF r 0 0 0 0 0 0 0 0))]) hD hS hA [0, 1, 2, 3, 4, 5, 6, 7] rfl
  refine va_calli (va_runV (As := [.int (xs (Int32.toNatClampNeg 1)), .int (xs (Int32.toNatClampNeg 2))]) (rest := []) ⟨hx, hb, hml, hown, hts⟩ (c_within l dC dI x q bk d0 p0 cT cD cP cB cU r H.size (xs (Int32.toNatClampNeg 1)) (xs (Int32.toNatClampNeg 2))) (cwV 2 hts mg_L_law_X9_within_90 rfl rfl rfl (by decide +kernel) ⟨Nat.le_of_ble_eq_true rfl, Nat.le_of_ble_eq_true rfl⟩) ⟨fun a U g mk q => by obtain ⟨q0, q1, qP, qK, qD⟩ := q; exact ⟨q0, q1, qP, va_K.moved (u := U) (U := U.calling g mk a) (Vm.Alike.refl U.vm) qK, qD⟩, va_recv hKc hPc (ci := 9) (q0 := 0) rfl rfl, fun U hU hW => ⟨rfl, by rw [hU], by rw [hU]; exact hPc, va_K.moved hW.alike hKc, hDc.weaken (fun _ _ _ _ => trivial)⟩⟩ rfl rfl hl.1 rfl (lv_room (Nat.le_of_ble_eq_true rfl)) dL_law_773 ⟨Nat.le_of_ble_eq_true rfl, Nat.le_of_ble_eq_true rfl⟩) hS (fun q _ h => hFc q h) hFc (fun r_4 u t H1 locs ht hvm hw hB hz1 hk1 hS => ?_)
  have hw_5 := hw
  obtain ⟨hP, hD⟩ := va_join (wr := [(y, .inr (10, mF z 0 0 0 0 0 0 0 0 0 (-1) (-1))), (z 0, .inl (mA, 101660, .inl (fun _ => 0))), (z 1, .inl (mT, 900, .inl (fun _ => 0))), (z 2, .inl (mX, 900, .inl (fun _ => 0))), (z 23, .inl (mC, 17576, .inl (fun _ => 0)))]) (w1 := []) hP hD [0, 1, 2, 3, 4, 5, 6, 7] [8, 9, 10, 11, 12] rfl rfl (by decide) (by decide) hk1 hFc (fun k q h => by simp at h) ⟨fun i j p q h => by simp at h, fun k q h => by simp at h⟩
  generalize H1 = H at hP hS ⊢
  have hP : va_P (dC, dI) vwCl [(y, .inr (10, mF z 0 0 0 0 0 0 0 0 0 (-1) (-1))), (z 0, .inl (mA, 101660, .inl (fun _ => 0))), (z 1, .inl (mT, 900, .inl (fun _ => 0))), (z 2, .inl (mX, 900, .inl (fun _ => 0))), (z 23, .inl (mC, 17576, .inl (fun _ => 0)))] H := hP
  have hD : va_D (fun q : Nat => s.heap.size ≤ q) [(y, .inr (10, mF z 0 0 0 0 0 0 0 0 0 (-1) (-1))), (z 0, .inl (mA, 101660, .inl (fun _ => 0))), (z 1, .inl (mT, 900, .inl (fun _ => 0))), (z 2, .inl (mX, 900, .inl (fun _ => 0))), (z 23, .inl (mC, 17576, .inl (fun _ => 0)))] := hD
  refine W.widen (k := 1222) (n := 311064) (by omega) (by omega) ?_
  refine lv_aload_n hx hb dL_law_776 rfl (lv_at hl 1 rfl) ?_
  refine lv_aload_n hx hb dL_law_777 rfl (lv_at hl 3 rfl) ?_
  refine lv_iload_n hx hb dL_law_778 rfl (lv_at hl 0 rfl) ?_
  refine lv_iconst (v := 1) hx hb dL_law_779 (by decide) ?_
  refine lv_iadd hx hb dL_law_780 ?_
  refine lv_topi (fun y_6 ey_6 => ?_)
  obtain rfl : y_6 = 1 := ey_6.trans (by first | rfl | decide)
  refine va_sld hx hb hX hbl hbA hS (i := 1) (by unfold vp_in; decide) dL_law_781 ?_
  refine lv_aload_n hx hb dL_law_782 rfl (lv_at hl 3 rfl) ?_
  refine lv_iload_n hx hb dL_law_783 rfl (lv_at hl 0 rfl) ?_
  refine lv_iconst (v := 2) hx hb dL_law_784 (by decide) ?_
  refine lv_iadd hx hb dL_law_785 ?_
  refine lv_topi (fun y_7 ey_7 => ?_)
  obtain rfl : y_7 = 2 := ey_7.trans (by first | rfl | decide)
  refine va_sld hx hb hX hbl hbA hS (i := 2) (by unfold vp_in; decide) dL_law_786 ?_
  have hPc := hP.sub (ws' := [(y, .inr (10, mF z 0 0 0 0 0 0 0 0 0 (-1) (-1))), (z 0, .inl (mA, 101660, .inl (fun _ => 0))), (z 1, .inl (mT, 900, .inl (fun _ => 0))), (z 2, .inl (mX, 900, .inl (fun _ => 0))), (z 23, .inl (mC, 17576, .inl (fun _ => 0)))]) [0, 1, 2, 3, 4] rfl
  have hKc := hK.sub (tys' := [(mA, .int), (mT, .byte), (mX, .byte), (mC, .boolean)]) [5, 6, 7, 8] rfl
  have hDc := hD.sub (ws' := [(y, .inr (10, mF z 0 0 0 0 0 0 0 0 0 (-1) (-1))), (z 0, .inl (mA, 101660, .inl (fun _ => 0))), (z 1, .inl (mT, 900, .inl (fun _ => 0))), (z 2, .inl (mX, 900, .inl (fun _ => 0))), (z 23, .inl (mC, 17576, .inl (fun _ => 0)))]) [0, 1, 2, 3, 4] (by decide) rfl
  have hFc := va_free (wc := [(y, .inr (10, mF z 0 0 0 0 0 0 0 0 0 (-1) (-1))), (z 0, .inl (mA, 101660, .inl (fun _ => 0))), (z 1, .inl (mT, 900, .inl (fun _ => 0))), (z 2, .inl (mX, 900, .inl (fun _ => 0))), (z 23, .inl (mC, 17576, .inl (fun _ => 0)))]) hD hS hA [0, 1, 2, 3, 4] rfl
  refine va_calli (va_runV (As := [.int (xs (Int32.toNatClampNeg 1)), .int (xs (Int32.toNatClampNeg 2))]) (rest := [.int r_4]) ⟨hx, hb, hml, hown, hts⟩ (m_within l dC dI y z mA mT mX mC H.size (xs (Int32.toNatClampNeg 1)) (xs (Int32.toNatClampNeg 2))) (cwV 2 hts mg_L_law_X10_within_93 rfl rfl rfl (by decide +kernel) ⟨Nat.le_of_ble_eq_true rfl, Nat.le_of_ble_eq_true rfl⟩) ⟨fun a U g mk q => by obtain ⟨q0, q1, qP, qK, qD⟩ := q; exact ⟨q0, q1, qP, va_K.moved (u := U) (U := U.calling g mk a) (Vm.Alike.refl U.vm) qK, qD⟩, va_recv hKc hPc (ci := 10) (q0 := 0) rfl rfl, fun U hU hW => ⟨rfl, by rw [hU], by rw [hU]; exact hPc, va_K.moved hW.alike hKc, hDc.weaken (fun _ _ _ _ => trivial)⟩⟩ rfl rfl hl.1 rfl (lv_room (Nat.le_of_ble_eq_true rfl)) dL_law_787 ⟨Nat.le_of_ble_eq_true rfl, Nat.le_of_ble_eq_true rfl⟩) hS (fun q _ h => hFc q h) hFc (fun r_9 u t H1 locs ht hvm hw hB hz1 hk1 hS => ?_)
  have hw_10 := hw
  obtain ⟨hP, hD⟩ := va_join (wr := []) (w1 := []) hP hD [0, 1, 2, 3, 4] [] rfl rfl (by decide) (by decide) hk1 hFc (fun k q h => by simp at h) ⟨fun i j p q h => by simp at h, fun k q h => by simp at h⟩
  generalize H1 = H at hP hS ⊢
  have hP : va_P (dC, dI) vwCl [] H := hP
  have hD : va_D (fun q : Nat => s.heap.size ≤ q) [] := hD
  refine W.widen (k := 1222) (n := 311064) (by omega) (by omega) ?_
  refine lv_icmp_eq (tgt := 1128) hx hb dL_law_790 (by decide) (fun k_11 => ?_) (fun k_11 => absurd (hw_5.trans hw_10.symm) k_11)
  exact law_end C0 (Nat.le_of_ble_eq_true rfl) (Nat.le_of_ble_eq_true rfl) hS hl
theorem dL_law_795 : decode cL_law 795 = .ok (.aload_n 1, 1) := by decide +kernel
theorem dL_law_796 : decode cL_law 796 = .ok (.aload_n 0, 1) := by decide +kernel
theorem dL_law_797 : decode cL_law 797 = .ok (.iload_n 3, 1) := by decide +kernel
theorem dL_law_798 : decode cL_law 798 = .ok (.iconst 1, 1) := by decide +kernel
theorem dL_law_799 : decode cL_law 799 = .ok (.iadd, 1) := by decide +kernel
theorem dL_law_800 : decode cL_law 800 = .ok (.iaload, 1) := by decide +kernel
theorem dL_law_801 : decode cL_law 801 = .ok (.aload_n 0, 1) := by decide +kernel
theorem dL_law_802 : decode cL_law 802 = .ok (.iload_n 3, 1) := by decide +kernel
theorem dL_law_803 : decode cL_law 803 = .ok (.iconst 2, 1) := by decide +kernel
theorem dL_law_804 : decode cL_law 804 = .ok (.iadd, 1) := by decide +kernel
theorem dL_law_805 : decode cL_law 805 = .ok (.iaload, 1) := by decide +kernel
theorem dL_law_806 : decode cL_law 806 = .ok (.aload_n 0, 1) := by decide +kernel
theorem dL_law_807 : decode cL_law 807 = .ok (.iload_n 3, 1) := by decide +kernel
theorem dL_law_808 : decode cL_law 808 = .ok (.iconst 3, 1) := by decide +kernel
theorem dL_law_809 : decode cL_law 809 = .ok (.iadd, 1) := by decide +kernel
theorem dL_law_810 : decode cL_law 810 = .ok (.iaload, 1) := by decide +kernel
theorem dL_law_811 : decode cL_law 811 = .ok (.invokevirtual 94, 3) := by decide +kernel
theorem dL_law_814 : decode cL_law 814 = .ok (.aload_n 2, 1) := by decide +kernel
theorem dL_law_815 : decode cL_law 815 = .ok (.aload_n 0, 1) := by decide +kernel
theorem dL_law_816 : decode cL_law 816 = .ok (.iload_n 3, 1) := by decide +kernel
theorem dL_law_817 : decode cL_law 817 = .ok (.iconst 1, 1) := by decide +kernel
theorem dL_law_818 : decode cL_law 818 = .ok (.iadd, 1) := by decide +kernel
theorem dL_law_819 : decode cL_law 819 = .ok (.iaload, 1) := by decide +kernel
theorem dL_law_820 : decode cL_law 820 = .ok (.aload_n 0, 1) := by decide +kernel
theorem dL_law_821 : decode cL_law 821 = .ok (.iload_n 3, 1) := by decide +kernel
theorem dL_law_822 : decode cL_law 822 = .ok (.iconst 2, 1) := by decide +kernel
theorem dL_law_823 : decode cL_law 823 = .ok (.iadd, 1) := by decide +kernel
theorem dL_law_824 : decode cL_law 824 = .ok (.iaload, 1) := by decide +kernel
theorem dL_law_825 : decode cL_law 825 = .ok (.aload_n 0, 1) := by decide +kernel
theorem dL_law_826 : decode cL_law 826 = .ok (.iload_n 3, 1) := by decide +kernel
theorem dL_law_827 : decode cL_law 827 = .ok (.iconst 3, 1) := by decide +kernel
theorem dL_law_828 : decode cL_law 828 = .ok (.iadd, 1) := by decide +kernel
theorem dL_law_829 : decode cL_law 829 = .ok (.iaload, 1) := by decide +kernel
theorem dL_law_830 : decode cL_law 830 = .ok (.invokevirtual 97, 3) := by decide +kernel
theorem dL_law_833 : decode cL_law 833 = .ok (.if_icmp .eq 295, 3) := by decide +kernel
set_option maxRecDepth 20000 in
theorem mg_L_law_X9_put_94 : GoodIn lw_tbl (wsV RL 94 RX9 yX9_put mwX9_put) := goodIn_r _ [1023, 1024, 1025, 106, 1026, 1029, 1027, 1028, 106, 424, 356, 421, 423, 1, 361, 884, 145, 881, 882, 883, 107, 372, 374, 376, 378, 380, 382, 384, 386, 388, 390, 392, 394, 396, 398, 400, 402, 152, 154, 156] (by decide +kernel) (by decide +kernel)
set_option maxRecDepth 20000 in
theorem mg_L_law_X10_put_97 : GoodIn lw_tbl (wsV RL 97 RX10 yX10_put mwX10_put) := goodIn_r _ [1678, 1679, 1680, 115, 1681, 1685, 1286, 1284, 1285, 115, 1408, 1123, 1405, 1407, 56, 1682, 1684, 102, 1290, 1124, 1287, 1289, 33, 1171, 1173, 1175, 1177, 1179, 1181, 1183, 1185, 1187, 1189, 1191, 1193, 1195, 1197, 1199, 1201, 1203, 1205, 1207, 1209, 1211, 1213, 1215, 1217, 1219, 1221, 1223, 1225, 1227, 1229, 1231, 1233, 1235, 1237, 1239, 1241, 1243, 1245, 1247, 1249, 1251, 1253, 1255, 1257, 1259, 1261, 1263, 1265] (by decide +kernel) (by decide +kernel)
set_option maxHeartbeats 4000000 in
set_option maxRecDepth 100000 in
theorem law_case19 {p : Program} {l : Launch} {e : Env} {s : State} {m : MethodId} {below : List Frame} {meth : Method} {c : Code} {dC : Nat → ClassId} {dI : Nat → Nat → Nat} {b : Nat} {xs : Nat → Int32} (C0 : lw_At p s m meth c b 6 xs) {x : Nat} {q : Nat → Nat} {bk d0 p0 : Nat} {cT cD cP cB cU : ClassId} {r : Nat → Nat} {y : Nat} {z : Nat → Nat} {mA mT mX mC : ClassId} {H : Heap} {locs : List Loc} (hK : va_K (dC, dI) vwCl [(cT, .int), (cD, .object "PatternGate$Doc"), (cP, .object "PatternGate$Pattern"), (cB, .object "PatternGate$Book"), (cU, .int), (mA, .int), (mT, .byte), (mX, .byte), (mC, .boolean)] s) (hP : va_P (dC, dI) vwCl [(x, .inr (9, gF q 0 0 (-1) (-1) bk 0 0)), (q 0, .inl (cT, 900, .inl (fun _ => 0))), (bk, .inr (0, [.ref d0, .ref p0, .null])), (d0, .inl (cD, 0, .inr (.inr (.inr (.inr (fun _ => none)))))), (p0, .inl (cP, 0, .inr (.inr (.inr (.inr (fun _ => none)))))), (q 1, .inl (cB, 3, .inr (.inr (.inr (.inr (fun _ => none)))))), (q 2, .inl (cU, 3, .inl (fun _ => 0))), (q 3, .inr (6, rF r 0 0 0 0 0 0 0 0)), (y, .inr (10, mF z 0 0 0 0 0 0 0 0 0 (-1) (-1))), (z 0, .inl (mA, 101660, .inl (fun _ => 0))), (z 1, .inl (mT, 900, .inl (fun _ => 0))), (z 2, .inl (mX, 900, .inl (fun _ => 0))), (z 23, .inl (mC, 17576, .inl (fun _ => 0)))] H) (hD : va_D (fun q : Nat => s.heap.size ≤ q) [(x, .inr (9, gF q 0 0 (-1) (-1) bk 0 0)), (q 0, .inl (cT, 900, .inl (fun _ => 0))), (bk, .inr (0, [.ref d0, .ref p0, .null])), (d0, .inl (cD, 0, .inr (.inr (.inr (.inr (fun _ => none)))))), (p0, .inl (cP, 0, .inr (.inr (.inr (.inr (fun _ => none)))))), (q 1, .inl (cB, 3, .inr (.inr (.inr (.inr (fun _ => none)))))), (q 2, .inl (cU, 3, .inl (fun _ => 0))), (q 3, .inr (6, rF r 0 0 0 0 0 0 0 0)), (y, .inr (10, mF z 0 0 0 0 0 0 0 0 0 (-1) (-1))), (z 0, .inl (mA, 101660, .inl (fun _ => 0))), (z 1, .inl (mT, 900, .inl (fun _ => 0))), (z 2, .inl (mX, 900, .inl (fun _ => 0))), (z 23, .inl (mC, 17576, .inl (fun _ => 0)))]) (hS : va_S (fun q : Nat => s.heap.size ≤ q) s.heap H locs) (hAO2 : va_AO "PatternGate$Doc" s) (hAO5 : va_AO "PatternGate$Pattern" s) {ls : Array Slot} (hl : lv_has ls 4 [(3, .int 0), (2, .ref y), (1, .ref x), (0, .ref b)]) : W p l e room_1 s m #[Value.ref b] below meth c H locs 1222 311064 (lw_Z below #[Value.ref b] s) (F0 m 795 ls []) := by
  obtain ⟨hx, hb, hr, hml, hown, hts, hX, hbl, hlocks, hgv⟩ := id C0
  have hown : s.vm.findClass RL = some m.cls := hown
  have hA : ∀ q : Nat, s.heap.size ≤ q → (fun q : Nat => s.heap.size ≤ q) q := fun _ h => h
  have hbA : ¬ (fun q : Nat => s.heap.size ≤ q) b := Nat.not_le.mpr hbl
  refine lv_aload_n hx hb dL_law_795 rfl (lv_at hl 2 rfl) ?_
  refine lv_aload_n hx hb dL_law_796 rfl (lv_at hl 3 rfl) ?_
  refine lv_iload_n hx hb dL_law_797 rfl (lv_at hl 0 rfl) ?_
  refine lv_iconst (v := 1) hx hb dL_law_798 (by decide) ?_
  refine lv_iadd hx hb dL_law_799 ?_
  refine lv_topi (fun y_1 ey_1 => ?_)
  obtain rfl : y_1 = 1 := ey_1.trans (by first | rfl | decide)
  refine va_sld hx hb hX hbl hbA hS (i := 1) (by unfold vp_in; decide) dL_law_800 ?_
  refine lv_aload_n hx hb dL_law_801 rfl (lv_at hl 3 rfl) ?_
  refine lv_iload_n hx hb dL_law_802 rfl (lv_at hl 0 rfl) ?_
  refine lv_iconst (v := 2) hx hb dL_law_803 (by decide) ?_
  refine lv_iadd hx hb dL_law_804 ?_
  refine lv_topi (fun y_2 ey_2 => ?_)
  obtain rfl : y_2 = 2 := ey_2.trans (by first | rfl | decide)
  refine va_sld hx hb hX hbl hbA hS (i := 2) (by unfold vp_in; decide) dL_law_805 ?_
  refine lv_aload_n hx hb dL_law_806 rfl (lv_at hl 3 rfl) ?_
  refine lv_iload_n hx hb dL_law_807 rfl (lv_at hl 0 rfl) ?_
  refine lv_iconst (v := 3) hx hb dL_law_808 (by decide) ?_
  refine lv_iadd hx hb dL_law_809 ?_
  refine lv_topi (fun y_3 ey_3 => ?_)
  obtain rfl : y_3 = 3 := ey_3.trans (by first | rfl | decide)
  refine va_sld hx hb hX hbl hbA hS (i := 3) (by unfold vp_in; decide) dL_law_810 ?_
  have hPc := hP.sub (ws' := [(x, .inr (9, gF q 0 0 (-1) (-1) bk 0 0)), (q 0, .inl (cT, 900, .inl (fun _ => 0))), (bk, .inr (0, [.ref d0, .ref p0, .null])), (d0, .inl (cD, 0, .inr (.inr (.inr (.inr (fun _ => none)))))), (p0, .inl (cP, 0, .inr (.inr (.inr (.inr (fun _ => none)))))), (q 1, .inl (cB, 3, .inr (.inr (.inr (.inr (fun _ => none)))))), (q 2, .inl (cU, 3, .inl (fun _ => 0))), (q 3, .inr (6, rF r 0 0 0 0 0 0 0 0))]) [0, 1, 2, 3, 4, 5, 6, 7] rfl
  have hKc := hK.sub (tys' := [(cT, .int), (cD, .object "PatternGate$Doc"), (cP, .object "PatternGate$Pattern"), (cB, .object "PatternGate$Book"), (cU, .int)]) [0, 1, 2, 3, 4] rfl
  have hDc := hD.sub (ws' := [(x, .inr (9, gF q 0 0 (-1) (-1) bk 0 0)), (q 0, .inl (cT, 900, .inl (fun _ => 0))), (bk, .inr (0, [.ref d0, .ref p0, .null])), (d0, .inl (cD, 0, .inr (.inr (.inr (.inr (fun _ => none)))))), (p0, .inl (cP, 0, .inr (.inr (.inr (.inr (fun _ => none)))))), (q 1, .inl (cB, 3, .inr (.inr (.inr (.inr (fun _ => none)))))), (q 2, .inl (cU, 3, .inl (fun _ => 0))), (q 3, .inr (6, rF r 0 0 0 0 0 0 0 0))]) [0, 1, 2, 3, 4, 5, 6, 7] (by decide) rfl
  have hFc := va_free (wc := [(x, .inr (9, gF q 0 0 (-1) (-1) bk 0 0)), (q 0, .inl (cT, 900, .inl (fun _ => 0))), (bk, .inr (0, [.ref d0, .ref p0, .null])), (d0, .inl (cD, 0, .inr (.inr (.inr (.inr (fun _ => none)))))), (p0, .inl (cP, 0, .inr (.inr (.inr (.inr (fun _ => none)))))), (q 1, .inl (cB, 3, .inr (.inr (.inr (.inr (fun _ => none)))))), (q 2, .inl (cU, 3, .inl (fun _ => 0))), (q 3, .inr (6, rF r 0 0 0 0 0 0 0 0))]) hD hS hA [0, 1, 2, 3, 4, 5, 6, 7] rfl
  refine va_calli (va_runV (As := [.int (xs (Int32.toNatClampNeg 1)), .int (xs (Int32.toNatClampNeg 2)), .int (xs (Int32.toNatClampNeg 3))]) (rest := []) ⟨hx, hb, hml, hown, hts⟩ (c_put l dC dI x q bk d0 p0 cT cD cP cB cU r H.size (xs (Int32.toNatClampNeg 1)) (xs (Int32.toNatClampNeg 2)) (xs (Int32.toNatClampNeg 3))) (cwV 3 hts mg_L_law_X9_put_94 rfl rfl rfl (by decide +kernel) ⟨Nat.le_of_ble_eq_true rfl, Nat.le_of_ble_eq_true rfl⟩) ⟨fun a U g mk q => by obtain ⟨q0, q1, qP, qK, qD⟩ := q; exact ⟨q0, q1, qP, va_K.moved (u := U) (U := U.calling g mk a) (Vm.Alike.refl U.vm) qK, qD⟩, va_recv hKc hPc (ci := 9) (q0 := 0) rfl rfl, fun U hU hW => ⟨rfl, by rw [hU], by rw [hU]; exact hPc, va_K.moved hW.alike hKc, hDc.weaken (fun _ _ _ _ => trivial)⟩⟩ rfl rfl hl.1 rfl (lv_room (Nat.le_of_ble_eq_true rfl)) dL_law_811 ⟨Nat.le_of_ble_eq_true rfl, Nat.le_of_ble_eq_true rfl⟩) hS (fun q _ h => hFc q h) hFc (fun r_5 u t H1 locs ht hvm hw hB hz1 hk1 hS => ?_)
  have hw_6 := hw
  obtain ⟨hP, hD⟩ := va_join (wr := [(y, .inr (10, mF z 0 0 0 0 0 0 0 0 0 (-1) (-1))), (z 0, .inl (mA, 101660, .inl (fun _ => 0))), (z 1, .inl (mT, 900, .inl (fun _ => 0))), (z 2, .inl (mX, 900, .inl (fun _ => 0))), (z 23, .inl (mC, 17576, .inl (fun _ => 0)))]) (w1 := []) hP hD [0, 1, 2, 3, 4, 5, 6, 7] [8, 9, 10, 11, 12] rfl rfl (by decide) (by decide) hk1 hFc (fun k q h => by simp at h) ⟨fun i j p q h => by simp at h, fun k q h => by simp at h⟩
  generalize H1 = H at hP hS ⊢
  have hP : va_P (dC, dI) vwCl [(y, .inr (10, mF z 0 0 0 0 0 0 0 0 0 (-1) (-1))), (z 0, .inl (mA, 101660, .inl (fun _ => 0))), (z 1, .inl (mT, 900, .inl (fun _ => 0))), (z 2, .inl (mX, 900, .inl (fun _ => 0))), (z 23, .inl (mC, 17576, .inl (fun _ => 0)))] H := hP
  have hD : va_D (fun q : Nat => s.heap.size ≤ q) [(y, .inr (10, mF z 0 0 0 0 0 0 0 0 0 (-1) (-1))), (z 0, .inl (mA, 101660, .inl (fun _ => 0))), (z 1, .inl (mT, 900, .inl (fun _ => 0))), (z 2, .inl (mX, 900, .inl (fun _ => 0))), (z 23, .inl (mC, 17576, .inl (fun _ => 0)))] := hD
  refine W.widen (k := 1222) (n := 311064) (by omega) (by omega) ?_
  refine lv_aload_n hx hb dL_law_814 rfl (lv_at hl 1 rfl) ?_
  refine lv_aload_n hx hb dL_law_815 rfl (lv_at hl 3 rfl) ?_
  refine lv_iload_n hx hb dL_law_816 rfl (lv_at hl 0 rfl) ?_
  refine lv_iconst (v := 1) hx hb dL_law_817 (by decide) ?_
  refine lv_iadd hx hb dL_law_818 ?_
  refine lv_topi (fun y_7 ey_7 => ?_)
  obtain rfl : y_7 = 1 := ey_7.trans (by first | rfl | decide)
  refine va_sld hx hb hX hbl hbA hS (i := 1) (by unfold vp_in; decide) dL_law_819 ?_
  refine lv_aload_n hx hb dL_law_820 rfl (lv_at hl 3 rfl) ?_
  refine lv_iload_n hx hb dL_law_821 rfl (lv_at hl 0 rfl) ?_
  refine lv_iconst (v := 2) hx hb dL_law_822 (by decide) ?_
  refine lv_iadd hx hb dL_law_823 ?_
  refine lv_topi (fun y_8 ey_8 => ?_)
  obtain rfl : y_8 = 2 := ey_8.trans (by first | rfl | decide)
  refine va_sld hx hb hX hbl hbA hS (i := 2) (by unfold vp_in; decide) dL_law_824 ?_
  refine lv_aload_n hx hb dL_law_825 rfl (lv_at hl 3 rfl) ?_
  refine lv_iload_n hx hb dL_law_826 rfl (lv_at hl 0 rfl) ?_
  refine lv_iconst (v := 3) hx hb dL_law_827 (by decide) ?_
  refine lv_iadd hx hb dL_law_828 ?_
  refine lv_topi (fun y_9 ey_9 => ?_)
  obtain rfl : y_9 = 3 := ey_9.trans (by first | rfl | decide)
  refine va_sld hx hb hX hbl hbA hS (i := 3) (by unfold vp_in; decide) dL_law_829 ?_
  have hPc := hP.sub (ws' := [(y, .inr (10, mF z 0 0 0 0 0 0 0 0 0 (-1) (-1))), (z 0, .inl (mA, 101660, .inl (fun _ => 0))), (z 1, .inl (mT, 900, .inl (fun _ => 0))), (z 2, .inl (mX, 900, .inl (fun _ => 0))), (z 23, .inl (mC, 17576, .inl (fun _ => 0)))]) [0, 1, 2, 3, 4] rfl
  have hKc := hK.sub (tys' := [(mA, .int), (mT, .byte), (mX, .byte), (mC, .boolean)]) [5, 6, 7, 8] rfl
  have hDc := hD.sub (ws' := [(y, .inr (10, mF z 0 0 0 0 0 0 0 0 0 (-1) (-1))), (z 0, .inl (mA, 101660, .inl (fun _ => 0))), (z 1, .inl (mT, 900, .inl (fun _ => 0))), (z 2, .inl (mX, 900, .inl (fun _ => 0))), (z 23, .inl (mC, 17576, .inl (fun _ => 0)))]) [0, 1, 2, 3, 4] (by decide) rfl
  have hFc := va_free (wc := [(y, .inr (10, mF z 0 0 0 0 0 0 0 0 0 (-1) (-1))), (z 0, .inl (mA, 101660, .inl (fun _ => 0))), (z 1, .inl (mT, 900, .inl (fun _ => 0))), (z 2, .inl (mX, 900, .inl (fun _ => 0))), (z 23, .inl (mC, 17576, .inl (fun _ => 0)))]) hD hS hA [0, 1, 2, 3, 4] rfl
  refine va_calli (va_runV (As := [.int (xs (Int32.toNatClampNeg 1)), .int (xs (Int32.toNatClampNeg 2)), .int (xs (Int32.toNatClampNeg 3))]) (rest := [.int r_5]) ⟨hx, hb, hml, hown, hts⟩ (m_put l dC dI y z mA mT mX mC H.size (xs (Int32.toNatClampNeg 1)) (xs (Int32.toNatClampNeg 2)) (xs (Int32.toNatClampNeg 3))) (cwV 3 hts mg_L_law_X10_put_97 rfl rfl rfl (by decide +kernel) ⟨Nat.le_of_ble_eq_true rfl, Nat.le_of_ble_eq_true rfl⟩) ⟨fun a U g mk q => by obtain ⟨q0, q1, qP, qK, qD⟩ := q; exact ⟨q0, q1, qP, va_K.moved (u := U) (U := U.calling g mk a) (Vm.Alike.refl U.vm) qK, qD⟩, va_recv hKc hPc (ci := 10) (q0 := 0) rfl rfl, fun U hU hW => ⟨rfl, by rw [hU], by rw [hU]; exact hPc, va_K.moved hW.alike hKc, hDc.weaken (fun _ _ _ _ => trivial)⟩⟩ rfl rfl hl.1 rfl (lv_room (Nat.le_of_ble_eq_true rfl)) dL_law_830 ⟨Nat.le_of_ble_eq_true rfl, Nat.le_of_ble_eq_true rfl⟩) hS (fun q _ h => hFc q h) hFc (fun r_11 u t H1 locs ht hvm hw hB hz1 hk1 hS => ?_)
  have hw_12 := hw
  obtain ⟨hP, hD⟩ := va_join (wr := []) (w1 := []) hP hD [0, 1, 2, 3, 4] [] rfl rfl (by decide) (by decide) hk1 hFc (fun k q h => by simp at h) ⟨fun i j p q h => by simp at h, fun k q h => by simp at h⟩
  generalize H1 = H at hP hS ⊢
  have hP : va_P (dC, dI) vwCl [] H := hP
  have hD : va_D (fun q : Nat => s.heap.size ≤ q) [] := hD
  refine W.widen (k := 1222) (n := 311064) (by omega) (by omega) ?_
  refine lv_icmp_eq (tgt := 1128) hx hb dL_law_833 (by decide) (fun k_13 => ?_) (fun k_13 => absurd (hw_6.trans hw_12.symm) k_13)
  exact law_end C0 (Nat.le_of_ble_eq_true rfl) (Nat.le_of_ble_eq_true rfl) hS hl
theorem dL_law_838 : decode cL_law 838 = .ok (.aload_n 1, 1) := by decide +kernel
theorem dL_law_839 : decode cL_law 839 = .ok (.aload_n 0, 1) := by decide +kernel
theorem dL_law_840 : decode cL_law 840 = .ok (.iload_n 3, 1) := by decide +kernel
theorem dL_law_841 : decode cL_law 841 = .ok (.iconst 1, 1) := by decide +kernel
theorem dL_law_842 : decode cL_law 842 = .ok (.iadd, 1) := by decide +kernel
theorem dL_law_843 : decode cL_law 843 = .ok (.iaload, 1) := by decide +kernel
theorem dL_law_844 : decode cL_law 844 = .ok (.aload_n 0, 1) := by decide +kernel
theorem dL_law_845 : decode cL_law 845 = .ok (.iload_n 3, 1) := by decide +kernel
theorem dL_law_846 : decode cL_law 846 = .ok (.iconst 2, 1) := by decide +kernel
theorem dL_law_847 : decode cL_law 847 = .ok (.iadd, 1) := by decide +kernel
theorem dL_law_848 : decode cL_law 848 = .ok (.iaload, 1) := by decide +kernel
theorem dL_law_849 : decode cL_law 849 = .ok (.aload_n 0, 1) := by decide +kernel
theorem dL_law_850 : decode cL_law 850 = .ok (.iload_n 3, 1) := by decide +kernel
theorem dL_law_851 : decode cL_law 851 = .ok (.iconst 3, 1) := by decide +kernel
theorem dL_law_852 : decode cL_law 852 = .ok (.iadd, 1) := by decide +kernel
theorem dL_law_853 : decode cL_law 853 = .ok (.iaload, 1) := by decide +kernel
theorem dL_law_854 : decode cL_law 854 = .ok (.invokevirtual 98, 3) := by decide +kernel
theorem dL_law_857 : decode cL_law 857 = .ok (.aload_n 2, 1) := by decide +kernel
theorem dL_law_858 : decode cL_law 858 = .ok (.aload_n 0, 1) := by decide +kernel
theorem dL_law_859 : decode cL_law 859 = .ok (.iload_n 3, 1) := by decide +kernel
theorem dL_law_860 : decode cL_law 860 = .ok (.iconst 1, 1) := by decide +kernel
theorem dL_law_861 : decode cL_law 861 = .ok (.iadd, 1) := by decide +kernel
theorem dL_law_862 : decode cL_law 862 = .ok (.iaload, 1) := by decide +kernel
theorem dL_law_863 : decode cL_law 863 = .ok (.aload_n 0, 1) := by decide +kernel
theorem dL_law_864 : decode cL_law 864 = .ok (.iload_n 3, 1) := by decide +kernel
theorem dL_law_865 : decode cL_law 865 = .ok (.iconst 2, 1) := by decide +kernel
theorem dL_law_866 : decode cL_law 866 = .ok (.iadd, 1) := by decide +kernel
theorem dL_law_867 : decode cL_law 867 = .ok (.iaload, 1) := by decide +kernel
theorem dL_law_868 : decode cL_law 868 = .ok (.aload_n 0, 1) := by decide +kernel
theorem dL_law_869 : decode cL_law 869 = .ok (.iload_n 3, 1) := by decide +kernel
theorem dL_law_870 : decode cL_law 870 = .ok (.iconst 3, 1) := by decide +kernel
theorem dL_law_871 : decode cL_law 871 = .ok (.iadd, 1) := by decide +kernel
theorem dL_law_872 : decode cL_law 872 = .ok (.iaload, 1) := by decide +kernel
theorem dL_law_873 : decode cL_law 873 = .ok (.invokevirtual 101, 3) := by decide +kernel
theorem dL_law_876 : decode cL_law 876 = .ok (.if_icmp .eq 252, 3) := by decide +kernel
set_option maxRecDepth 20000 in
theorem mg_L_law_X9_let_98 : GoodIn lw_tbl (wsV RL 98 RX9 yX9_let mwX9_let) := goodIn_r _ [1044, 1045, 1046, 106, 1047, 1029, 1027, 1028, 106, 424, 356, 421, 423, 1, 361, 884, 145, 881, 882, 883, 107, 372, 374, 376, 378, 380, 382, 384, 386, 388, 390, 392, 394, 396, 398, 400, 402, 152, 154, 156] (by decide +kernel) (by decide +kernel)
set_option maxRecDepth 20000 in
theorem mg_L_law_X10_let_101 : GoodIn lw_tbl (wsV RL 101 RX10 yX10_let mwX10_let) := goodIn_r _ [1694, 1695, 1696, 115, 1697, 1290, 1124, 1287, 1289, 33, 115, 1286, 1284, 1285, 1408, 1123, 1405, 1407, 56, 1171, 1173, 1175, 1177, 1179, 1181, 1183, 1185, 1187, 1189, 1191, 1193, 1195, 1197, 1199, 1201, 1203, 1205, 1207, 1209, 1211, 1213, 1215, 1217, 1219, 1221, 1223, 1225, 1227, 1229, 1231, 1233, 1235, 1237, 1239, 1241, 1243, 1245, 1247, 1249, 1251, 1253, 1255, 1257, 1259, 1261, 1263, 1265] (by decide +kernel) (by decide +kernel)
set_option maxHeartbeats 4000000 in
set_option maxRecDepth 100000 in
theorem law_case20 {p : Program} {l : Launch} {e : Env} {s : State} {m : MethodId} {below : List Frame} {meth : Method} {c : Code} {dC : Nat → ClassId} {dI : Nat → Nat → Nat} {b : Nat} {xs : Nat → Int32} (C0 : lw_At p s m meth c b 6 xs) {x : Nat} {q : Nat → Nat} {bk d0 p0 : Nat} {cT cD cP cB cU : ClassId} {r : Nat → Nat} {y : Nat} {z : Nat → Nat} {mA mT mX mC : ClassId} {H : Heap} {locs : List Loc} (hK : va_K (dC, dI) vwCl [(cT, .int), (cD, .object "PatternGate$Doc"), (cP, .object "PatternGate$Pattern"), (cB, .object "PatternGate$Book"), (cU, .int), (mA, .int), (mT, .byte), (mX, .byte), (mC, .boolean)] s) (hP : va_P (dC, dI) vwCl [(x, .inr (9, gF q 0 0 (-1) (-1) bk 0 0)), (q 0, .inl (cT, 900, .inl (fun _ => 0))), (bk, .inr (0, [.ref d0, .ref p0, .null])), (d0, .inl (cD, 0, .inr (.inr (.inr (.inr (fun _ => none)))))), (p0, .inl (cP, 0, .inr (.inr (.inr (.inr (fun _ => none)))))), (q 1, .inl (cB, 3, .inr (.inr (.inr (.inr (fun _ => none)))))), (q 2, .inl (cU, 3, .inl (fun _ => 0))), (q 3, .inr (6, rF r 0 0 0 0 0 0 0 0)), (y, .inr (10, mF z 0 0 0 0 0 0 0 0 0 (-1) (-1))), (z 0, .inl (mA, 101660, .inl (fun _ => 0))), (z 1, .inl (mT, 900, .inl (fun _ => 0))), (z 2, .inl (mX, 900, .inl (fun _ => 0))), (z 23, .inl (mC, 17576, .inl (fun _ => 0)))] H) (hD : va_D (fun q : Nat => s.heap.size ≤ q) [(x, .inr (9, gF q 0 0 (-1) (-1) bk 0 0)), (q 0, .inl (cT, 900, .inl (fun _ => 0))), (bk, .inr (0, [.ref d0, .ref p0, .null])), (d0, .inl (cD, 0, .inr (.inr (.inr (.inr (fun _ => none)))))), (p0, .inl (cP, 0, .inr (.inr (.inr (.inr (fun _ => none)))))), (q 1, .inl (cB, 3, .inr (.inr (.inr (.inr (fun _ => none)))))), (q 2, .inl (cU, 3, .inl (fun _ => 0))), (q 3, .inr (6, rF r 0 0 0 0 0 0 0 0)), (y, .inr (10, mF z 0 0 0 0 0 0 0 0 0 (-1) (-1))), (z 0, .inl (mA, 101660, .inl (fun _ => 0))), (z 1, .inl (mT, 900, .inl (fun _ => 0))), (z 2, .inl (mX, 900, .inl (fun _ => 0))), (z 23, .inl (mC, 17576, .inl (fun _ => 0)))]) (hS : va_S (fun q : Nat => s.heap.size ≤ q) s.heap H locs) (hAO2 : va_AO "PatternGate$Doc" s) (hAO5 : va_AO "PatternGate$Pattern" s) {ls : Array Slot} (hl : lv_has ls 4 [(3, .int 0), (2, .ref y), (1, .ref x), (0, .ref b)]) : W p l e room_1 s m #[Value.ref b] below meth c H locs 1222 311064 (lw_Z below #[Value.ref b] s) (F0 m 838 ls []) := by
  obtain ⟨hx, hb, hr, hml, hown, hts, hX, hbl, hlocks, hgv⟩ := id C0
  have hown : s.vm.findClass RL = some m.cls := hown
  have hA : ∀ q : Nat, s.heap.size ≤ q → (fun q : Nat => s.heap.size ≤ q) q := fun _ h => h
  have hbA : ¬ (fun q : Nat => s.heap.size ≤ q) b := Nat.not_le.mpr hbl
  refine lv_aload_n hx hb dL_law_838 rfl (lv_at hl 2 rfl) ?_
  refine lv_aload_n hx hb dL_law_839 rfl (lv_at hl 3 rfl) ?_
  refine lv_iload_n hx hb dL_law_840 rfl (lv_at hl 0 rfl) ?_
  refine lv_iconst (v := 1) hx hb dL_law_841 (by decide) ?_
  refine lv_iadd hx hb dL_law_842 ?_
  refine lv_topi (fun y_1 ey_1 => ?_)
  obtain rfl : y_1 = 1 := ey_1.trans (by first | rfl | decide)
  refine va_sld hx hb hX hbl hbA hS (i := 1) (by unfold vp_in; decide) dL_law_843 ?_
  refine lv_aload_n hx hb dL_law_844 rfl (lv_at hl 3 rfl) ?_
  refine lv_iload_n hx hb dL_law_845 rfl (lv_at hl 0 rfl) ?_
  refine lv_iconst (v := 2) hx hb dL_law_846 (by decide) ?_
  refine lv_iadd hx hb dL_law_847 ?_
  refine lv_topi (fun y_2 ey_2 => ?_)
  obtain rfl : y_2 = 2 := ey_2.trans (by first | rfl | decide)
  refine va_sld hx hb hX hbl hbA hS (i := 2) (by unfold vp_in; decide) dL_law_848 ?_
  refine lv_aload_n hx hb dL_law_849 rfl (lv_at hl 3 rfl) ?_
  refine lv_iload_n hx hb dL_law_850 rfl (lv_at hl 0 rfl) ?_
  refine lv_iconst (v := 3) hx hb dL_law_851 (by decide) ?_
  refine lv_iadd hx hb dL_law_852 ?_
  refine lv_topi (fun y_3 ey_3 => ?_)
  obtain rfl : y_3 = 3 := ey_3.trans (by first | rfl | decide)
  refine va_sld hx hb hX hbl hbA hS (i := 3) (by unfold vp_in; decide) dL_law_853 ?_
  have hPc := hP.sub (ws' := [(x, .inr (9, gF q 0 0 (-1) (-1) bk 0 0)), (q 0, .inl (cT, 900, .inl (fun _ => 0))), (bk, .inr (0, [.ref d0, .ref p0, .null])), (d0, .inl (cD, 0, .inr (.inr (.inr (.inr (fun _ => none)))))), (p0, .inl (cP, 0, .inr (.inr (.inr (.inr (fun _ => none)))))), (q 1, .inl (cB, 3, .inr (.inr (.inr (.inr (fun _ => none)))))), (q 2, .inl (cU, 3, .inl (fun _ => 0))), (q 3, .inr (6, rF r 0 0 0 0 0 0 0 0))]) [0, 1, 2, 3, 4, 5, 6, 7] rfl
  have hKc := hK.sub (tys' := [(cT, .int), (cD, .object "PatternGate$Doc"), (cP, .object "PatternGate$Pattern"), (cB, .object "PatternGate$Book"), (cU, .int)]) [0, 1, 2, 3, 4] rfl
  have hDc := hD.sub (ws' := [(x, .inr (9, gF q 0 0 (-1) (-1) bk 0 0)), (q 0, .inl (cT, 900, .inl (fun _ => 0))), (bk, .inr (0, [.ref d0, .ref p0, .null])), (d0, .inl (cD, 0, .inr (.inr (.inr (.inr (fun _ => none)))))), (p0, .inl (cP, 0, .inr (.inr (.inr (.inr (fun _ => none)))))), (q 1, .inl (cB, 3, .inr (.inr (.inr (.inr (fun _ => none)))))), (q 2, .inl (cU, 3, .inl (fun _ => 0))), (q 3, .inr (6, rF r 0 0 0 0 0 0 0 0))]) [0, 1, 2, 3, 4, 5, 6, 7] (by decide) rfl
  have hFc := va_free (wc := [(x, .inr (9, gF q 0 0 (-1) (-1) bk 0 0)), (q 0, .inl (cT, 900, .inl (fun _ => 0))), (bk, .inr (0, [.ref d0, .ref p0, .null])), (d0, .inl (cD, 0, .inr (.inr (.inr (.inr (fun _ => none)))))), (p0, .inl (cP, 0, .inr (.inr (.inr (.inr (fun _ => none)))))), (q 1, .inl (cB, 3, .inr (.inr (.inr (.inr (fun _ => none)))))), (q 2, .inl (cU, 3, .inl (fun _ => 0))), (q 3, .inr (6, rF r 0 0 0 0 0 0 0 0))]) hD hS hA [0, 1, 2, 3, 4, 5, 6, 7] rfl
  refine va_calli (va_runV (As := [.int (xs (Int32.toNatClampNeg 1)), .int (xs (Int32.toNatClampNeg 2)), .int (xs (Int32.toNatClampNeg 3))]) (rest := []) ⟨hx, hb, hml, hown, hts⟩ (c_let l dC dI x q bk d0 p0 cT cD cP cB cU r H.size (xs (Int32.toNatClampNeg 1)) (xs (Int32.toNatClampNeg 2)) (xs (Int32.toNatClampNeg 3))) (cwV 3 hts mg_L_law_X9_let_98 rfl rfl rfl (by decide +kernel) ⟨Nat.le_of_ble_eq_true rfl, Nat.le_of_ble_eq_true rfl⟩) ⟨fun a U g mk q => by obtain ⟨q0, q1, qP, qK, qD⟩ := q; exact ⟨q0, q1, qP, va_K.moved (u := U) (U := U.calling g mk a) (Vm.Alike.refl U.vm) qK, qD⟩, va_recv hKc hPc (ci := 9) (q0 := 0) rfl rfl, fun U hU hW => ⟨rfl, by rw [hU], by rw [hU]; exact hPc, va_K.moved hW.alike hKc, hDc.weaken (fun _ _ _ _ => trivial)⟩⟩ rfl rfl hl.1 rfl (lv_room (Nat.le_of_ble_eq_true rfl)) dL_law_854 ⟨Nat.le_of_ble_eq_true rfl, Nat.le_of_ble_eq_true rfl⟩) hS (fun q _ h => hFc q h) hFc (fun r_5 u t H1 locs ht hvm hw hB hz1 hk1 hS => ?_)
  have hw_6 := hw
  obtain ⟨hP, hD⟩ := va_join (wr := [(y, .inr (10, mF z 0 0 0 0 0 0 0 0 0 (-1) (-1))), (z 0, .inl (mA, 101660, .inl (fun _ => 0))), (z 1, .inl (mT, 900, .inl (fun _ => 0))), (z 2, .inl (mX, 900, .inl (fun _ => 0))), (z 23, .inl (mC, 17576, .inl (fun _ => 0)))]) (w1 := []) hP hD [0, 1, 2, 3, 4, 5, 6, 7] [8, 9, 10, 11, 12] rfl rfl (by decide) (by decide) hk1 hFc (fun k q h => by simp at h) ⟨fun i j p q h => by simp at h, fun k q h => by simp at h⟩
  generalize H1 = H at hP hS ⊢
  have hP : va_P (dC, dI) vwCl [(y, .inr (10, mF z 0 0 0 0 0 0 0 0 0 (-1) (-1))), (z 0, .inl (mA, 101660, .inl (fun _ => 0))), (z 1, .inl (mT, 900, .inl (fun _ => 0))), (z 2, .inl (mX, 900, .inl (fun _ => 0))), (z 23, .inl (mC, 17576, .inl (fun _ => 0)))] H := hP
  have hD : va_D (fun q : Nat => s.heap.size ≤ q) [(y, .inr (10, mF z 0 0 0 0 0 0 0 0 0 (-1) (-1))), (z 0, .inl (mA, 101660, .inl (fun _ => 0))), (z 1, .inl (mT, 900, .inl (fun _ => 0))), (z 2, .inl (mX, 900, .inl (fun _ => 0))), (z 23, .inl (mC, 17576, .inl (fun _ => 0)))] := hD
  refine W.widen (k := 1222) (n := 311064) (by omega) (by omega) ?_
  refine lv_aload_n hx hb dL_law_857 rfl (lv_at hl 1 rfl) ?_
  refine lv_aload_n hx hb dL_law_858 rfl (lv_at hl 3 rfl) ?_
  refine lv_iload_n hx hb dL_law_859 rfl (lv_at hl 0 rfl) ?_
  refine lv_iconst (v := 1) hx hb dL_law_860 (by decide) ?_
  refine lv_iadd hx hb dL_law_861 ?_
  refine lv_topi (fun y_7 ey_7 => ?_)
  obtain rfl : y_7 = 1 := ey_7.trans (by first | rfl | decide)
  refine va_sld hx hb hX hbl hbA hS (i := 1) (by unfold vp_in; decide) dL_law_862 ?_
  refine lv_aload_n hx hb dL_law_863 rfl (lv_at hl 3 rfl) ?_
  refine lv_iload_n hx hb dL_law_864 rfl (lv_at hl 0 rfl) ?_
  refine lv_iconst (v := 2) hx hb dL_law_865 (by decide) ?_
  refine lv_iadd hx hb dL_law_866 ?_
  refine lv_topi (fun y_8 ey_8 => ?_)
  obtain rfl : y_8 = 2 := ey_8.trans (by first | rfl | decide)
  refine va_sld hx hb hX hbl hbA hS (i := 2) (by unfold vp_in; decide) dL_law_867 ?_
  refine lv_aload_n hx hb dL_law_868 rfl (lv_at hl 3 rfl) ?_
  refine lv_iload_n hx hb dL_law_869 rfl (lv_at hl 0 rfl) ?_
  refine lv_iconst (v := 3) hx hb dL_law_870 (by decide) ?_
  refine lv_iadd hx hb dL_law_871 ?_
  refine lv_topi (fun y_9 ey_9 => ?_)
  obtain rfl : y_9 = 3 := ey_9.trans (by first | rfl | decide)
  refine va_sld hx hb hX hbl hbA hS (i := 3) (by unfold vp_in; decide) dL_law_872 ?_
  have hPc := hP.sub (ws' := [(y, .inr (10, mF z 0 0 0 0 0 0 0 0 0 (-1) (-1))), (z 0, .inl (mA, 101660, .inl (fun _ => 0))), (z 1, .inl (mT, 900, .inl (fun _ => 0))), (z 2, .inl (mX, 900, .inl (fun _ => 0))), (z 23, .inl (mC, 17576, .inl (fun _ => 0)))]) [0, 1, 2, 3, 4] rfl
  have hKc := hK.sub (tys' := [(mA, .int), (mT, .byte), (mX, .byte), (mC, .boolean)]) [5, 6, 7, 8] rfl
  have hDc := hD.sub (ws' := [(y, .inr (10, mF z 0 0 0 0 0 0 0 0 0 (-1) (-1))), (z 0, .inl (mA, 101660, .inl (fun _ => 0))), (z 1, .inl (mT, 900, .inl (fun _ => 0))), (z 2, .inl (mX, 900, .inl (fun _ => 0))), (z 23, .inl (mC, 17576, .inl (fun _ => 0)))]) [0, 1, 2, 3, 4] (by decide) rfl
  have hFc := va_free (wc := [(y, .inr (10, mF z 0 0 0 0 0 0 0 0 0 (-1) (-1))), (z 0, .inl (mA, 101660, .inl (fun _ => 0))), (z 1, .inl (mT, 900, .inl (fun _ => 0))), (z 2, .inl (mX, 900, .inl (fun _ => 0))), (z 23, .inl (mC, 17576, .inl (fun _ => 0)))]) hD hS hA [0, 1, 2, 3, 4] rfl
  refine va_calli (va_runV (As := [.int (xs (Int32.toNatClampNeg 1)), .int (xs (Int32.toNatClampNeg 2)), .int (xs (Int32.toNatClampNeg 3))]) (rest := [.int r_5]) ⟨hx, hb, hml, hown, hts⟩ (m_let l dC dI y z mA mT mX mC H.size (xs (Int32.toNatClampNeg 1)) (xs (Int32.toNatClampNeg 2)) (xs (Int32.toNatClampNeg 3))) (cwV 3 hts mg_L_law_X10_let_101 rfl rfl rfl (by decide +kernel) ⟨Nat.le_of_ble_eq_true rfl, Nat.le_of_ble_eq_true rfl⟩) ⟨fun a U g mk q => by obtain ⟨q0, q1, qP, qK, qD⟩ := q; exact ⟨q0, q1, qP, va_K.moved (u := U) (U := U.calling g mk a) (Vm.Alike.refl U.vm) qK, qD⟩, va_recv hKc hPc (ci := 10) (q0 := 0) rfl rfl, fun U hU hW => ⟨rfl, by rw [hU], by rw [hU]; exact hPc, va_K.moved hW.alike hKc, hDc.weaken (fun _ _ _ _ => trivial)⟩⟩ rfl rfl hl.1 rfl (lv_room (Nat.le_of_ble_eq_true rfl)) dL_law_873 ⟨Nat.le_of_ble_eq_true rfl, Nat.le_of_ble_eq_true rfl⟩) hS (fun q _ h => hFc q h) hFc (fun r_11 u t H1 locs ht hvm hw hB hz1 hk1 hS => ?_)
  have hw_12 := hw
  obtain ⟨hP, hD⟩ := va_join (wr := []) (w1 := []) hP hD [0, 1, 2, 3, 4] [] rfl rfl (by decide) (by decide) hk1 hFc (fun k q h => by simp at h) ⟨fun i j p q h => by simp at h, fun k q h => by simp at h⟩
  generalize H1 = H at hP hS ⊢
  have hP : va_P (dC, dI) vwCl [] H := hP
  have hD : va_D (fun q : Nat => s.heap.size ≤ q) [] := hD
  refine W.widen (k := 1222) (n := 311064) (by omega) (by omega) ?_
  refine lv_icmp_eq (tgt := 1128) hx hb dL_law_876 (by decide) (fun k_13 => ?_) (fun k_13 => absurd (hw_6.trans hw_12.symm) k_13)
  exact law_end C0 (Nat.le_of_ble_eq_true rfl) (Nat.le_of_ble_eq_true rfl) hS hl
theorem dL_law_881 : decode cL_law 881 = .ok (.aload_n 1, 1) := by decide +kernel
theorem dL_law_882 : decode cL_law 882 = .ok (.aload_n 0, 1) := by decide +kernel
theorem dL_law_883 : decode cL_law 883 = .ok (.iload_n 3, 1) := by decide +kernel
theorem dL_law_884 : decode cL_law 884 = .ok (.iconst 1, 1) := by decide +kernel
theorem dL_law_885 : decode cL_law 885 = .ok (.iadd, 1) := by decide +kernel
theorem dL_law_886 : decode cL_law 886 = .ok (.iaload, 1) := by decide +kernel
theorem dL_law_887 : decode cL_law 887 = .ok (.aload_n 0, 1) := by decide +kernel
theorem dL_law_888 : decode cL_law 888 = .ok (.iload_n 3, 1) := by decide +kernel
theorem dL_law_889 : decode cL_law 889 = .ok (.iconst 2, 1) := by decide +kernel
theorem dL_law_890 : decode cL_law 890 = .ok (.iadd, 1) := by decide +kernel
theorem dL_law_891 : decode cL_law 891 = .ok (.iaload, 1) := by decide +kernel
theorem dL_law_892 : decode cL_law 892 = .ok (.aload_n 0, 1) := by decide +kernel
theorem dL_law_893 : decode cL_law 893 = .ok (.iload_n 3, 1) := by decide +kernel
theorem dL_law_894 : decode cL_law 894 = .ok (.iconst 3, 1) := by decide +kernel
theorem dL_law_895 : decode cL_law 895 = .ok (.iadd, 1) := by decide +kernel
theorem dL_law_896 : decode cL_law 896 = .ok (.iaload, 1) := by decide +kernel
theorem dL_law_897 : decode cL_law 897 = .ok (.invokevirtual 102, 3) := by decide +kernel
theorem dL_law_900 : decode cL_law 900 = .ok (.aload_n 2, 1) := by decide +kernel
theorem dL_law_901 : decode cL_law 901 = .ok (.aload_n 0, 1) := by decide +kernel
theorem dL_law_902 : decode cL_law 902 = .ok (.iload_n 3, 1) := by decide +kernel
theorem dL_law_903 : decode cL_law 903 = .ok (.iconst 1, 1) := by decide +kernel
theorem dL_law_904 : decode cL_law 904 = .ok (.iadd, 1) := by decide +kernel
theorem dL_law_905 : decode cL_law 905 = .ok (.iaload, 1) := by decide +kernel
theorem dL_law_906 : decode cL_law 906 = .ok (.aload_n 0, 1) := by decide +kernel
theorem dL_law_907 : decode cL_law 907 = .ok (.iload_n 3, 1) := by decide +kernel
theorem dL_law_908 : decode cL_law 908 = .ok (.iconst 2, 1) := by decide +kernel
theorem dL_law_909 : decode cL_law 909 = .ok (.iadd, 1) := by decide +kernel
theorem dL_law_910 : decode cL_law 910 = .ok (.iaload, 1) := by decide +kernel
theorem dL_law_911 : decode cL_law 911 = .ok (.aload_n 0, 1) := by decide +kernel
theorem dL_law_912 : decode cL_law 912 = .ok (.iload_n 3, 1) := by decide +kernel
theorem dL_law_913 : decode cL_law 913 = .ok (.iconst 3, 1) := by decide +kernel
theorem dL_law_914 : decode cL_law 914 = .ok (.iadd, 1) := by decide +kernel
theorem dL_law_915 : decode cL_law 915 = .ok (.iaload, 1) := by decide +kernel
theorem dL_law_916 : decode cL_law 916 = .ok (.invokevirtual 105, 3) := by decide +kernel
theorem dL_law_919 : decode cL_law 919 = .ok (.if_icmp .eq 209, 3) := by decide +kernel
set_option maxRecDepth 20000 in
theorem mg_L_law_X9_cut_102 : GoodIn lw_tbl (wsV RL 102 RX9 yX9_cut mwX9_cut) := goodIn_r _ [1048, 1049, 1050, 106, 1051, 424, 356, 421, 423, 1, 106, 361, 884, 145, 881, 882, 883, 107, 372, 374, 376, 378, 380, 382, 384, 386, 388, 390, 392, 394, 396, 398, 400, 402, 152, 154, 156] (by decide +kernel) (by decide +kernel)
set_option maxRecDepth 20000 in
theorem mg_L_law_X10_cut_105 : GoodIn lw_tbl (wsV RL 105 RX10 yX10_cut mwX10_cut) := goodIn_r _ [1698, 1699, 1700, 115, 1701, 1290, 1124, 1287, 1289, 33, 115, 1408, 1123, 1405, 1407, 56, 1171, 1173, 1175, 1177, 1179, 1181, 1183, 1185, 1187, 1189, 1191, 1193, 1195, 1197, 1199, 1201, 1203, 1205, 1207, 1209, 1211, 1213, 1215, 1217, 1219, 1221, 1223, 1225, 1227, 1229, 1231, 1233, 1235, 1237, 1239, 1241, 1243, 1245, 1247, 1249, 1251, 1253, 1255, 1257, 1259, 1261, 1263, 1265] (by decide +kernel) (by decide +kernel)
set_option maxHeartbeats 4000000 in
set_option maxRecDepth 100000 in
theorem law_case21 {p : Program} {l : Launch} {e : Env} {s : State} {m : MethodId} {below : List Frame} {meth : Method} {c : Code} {dC : Nat → ClassId} {dI : Nat → Nat → Nat} {b : Nat} {xs : Nat → Int32} (C0 : lw_At p s m meth c b 6 xs) {x : Nat} {q : Nat → Nat} {bk d0 p0 : Nat} {cT cD cP cB cU : ClassId} {r : Nat → Nat} {y : Nat} {z : Nat → Nat} {mA mT mX mC : ClassId} {H : Heap} {locs : List Loc} (hK : va_K (dC, dI) vwCl [(cT, .int), (cD, .object "PatternGate$Doc"), (cP, .object "PatternGate$Pattern"), (cB, .object "PatternGate$Book"), (cU, .int), (mA, .int), (mT, .byte), (mX, .byte), (mC, .boolean)] s) (hP : va_P (dC, dI) vwCl [(x, .inr (9, gF q 0 0 (-1) (-1) bk 0 0)), (q 0, .inl (cT, 900, .inl (fun _ => 0))), (bk, .inr (0, [.ref d0, .ref p0, .null])), (d0, .inl (cD, 0, .inr (.inr (.inr (.inr (fun _ => none)))))), (p0, .inl (cP, 0, .inr (.inr (.inr (.inr (fun _ => none)))))), (q 1, .inl (cB, 3, .inr (.inr (.inr (.inr (fun _ => none)))))), (q 2, .inl (cU, 3, .inl (fun _ => 0))), (q 3, .inr (6, rF r 0 0 0 0 0 0 0 0)), (y, .inr (10, mF z 0 0 0 0 0 0 0 0 0 (-1) (-1))), (z 0, .inl (mA, 101660, .inl (fun _ => 0))), (z 1, .inl (mT, 900, .inl (fun _ => 0))), (z 2, .inl (mX, 900, .inl (fun _ => 0))), (z 23, .inl (mC, 17576, .inl (fun _ => 0)))] H) (hD : va_D (fun q : Nat => s.heap.size ≤ q) [(x, .inr (9, gF q 0 0 (-1) (-1) bk 0 0)), (q 0, .inl (cT, 900, .inl (fun _ => 0))), (bk, .inr (0, [.ref d0, .ref p0, .null])), (d0, .inl (cD, 0, .inr (.inr (.inr (.inr (fun _ => none)))))), (p0, .inl (cP, 0, .inr (.inr (.inr (.inr (fun _ => none)))))), (q 1, .inl (cB, 3, .inr (.inr (.inr (.inr (fun _ => none)))))), (q 2, .inl (cU, 3, .inl (fun _ => 0))), (q 3, .inr (6, rF r 0 0 0 0 0 0 0 0)), (y, .inr (10, mF z 0 0 0 0 0 0 0 0 0 (-1) (-1))), (z 0, .inl (mA, 101660, .inl (fun _ => 0))), (z 1, .inl (mT, 900, .inl (fun _ => 0))), (z 2, .inl (mX, 900, .inl (fun _ => 0))), (z 23, .inl (mC, 17576, .inl (fun _ => 0)))]) (hS : va_S (fun q : Nat => s.heap.size ≤ q) s.heap H locs) (hAO2 : va_AO "PatternGate$Doc" s) (hAO5 : va_AO "PatternGate$Pattern" s) {ls : Array Slot} (hl : lv_has ls 4 [(3, .int 0), (2, .ref y), (1, .ref x), (0, .ref b)]) : W p l e room_1 s m #[Value.ref b] below meth c H locs 1222 311064 (lw_Z below #[Value.ref b] s) (F0 m 881 ls []) := by
  obtain ⟨hx, hb, hr, hml, hown, hts, hX, hbl, hlocks, hgv⟩ := id C0
  have hown : s.vm.findClass RL = some m.cls := hown
  have hA : ∀ q : Nat, s.heap.size ≤ q → (fun q : Nat => s.heap.size ≤ q) q := fun _ h => h
  have hbA : ¬ (fun q : Nat => s.heap.size ≤ q) b := Nat.not_le.mpr hbl
  refine lv_aload_n hx hb dL_law_881 rfl (lv_at hl 2 rfl) ?_
  refine lv_aload_n hx hb dL_law_882 rfl (lv_at hl 3 rfl) ?_
  refine lv_iload_n hx hb dL_law_883 rfl (lv_at hl 0 rfl) ?_
  refine lv_iconst (v := 1) hx hb dL_law_884 (by decide) ?_
  refine lv_iadd hx hb dL_law_885 ?_
  refine lv_topi (fun y_1 ey_1 => ?_)
  obtain rfl : y_1 = 1 := ey_1.trans (by first | rfl | decide)
  refine va_sld hx hb hX hbl hbA hS (i := 1) (by unfold vp_in; decide) dL_law_886 ?_
  refine lv_aload_n hx hb dL_law_887 rfl (lv_at hl 3 rfl) ?_
  refine lv_iload_n hx hb dL_law_888 rfl (lv_at hl 0 rfl) ?_
  refine lv_iconst (v := 2) hx hb dL_law_889 (by decide) ?_
  refine lv_iadd hx hb dL_law_890 ?_
  refine lv_topi (fun y_2 ey_2 => ?_)
  obtain rfl : y_2 = 2 := ey_2.trans (by first | rfl | decide)
  refine va_sld hx hb hX hbl hbA hS (i := 2) (by unfold vp_in; decide) dL_law_891 ?_
  refine lv_aload_n hx hb dL_law_892 rfl (lv_at hl 3 rfl) ?_
  refine lv_iload_n hx hb dL_law_893 rfl (lv_at hl 0 rfl) ?_
  refine lv_iconst (v := 3) hx hb dL_law_894 (by decide) ?_
  refine lv_iadd hx hb dL_law_895 ?_
  refine lv_topi (fun y_3 ey_3 => ?_)
  obtain rfl : y_3 = 3 := ey_3.trans (by first | rfl | decide)
  refine va_sld hx hb hX hbl hbA hS (i := 3) (by unfold vp_in; decide) dL_law_896 ?_
  have hPc := hP.sub (ws' := [(x, .inr (9, gF q 0 0 (-1) (-1) bk 0 0)), (q 0, .inl (cT, 900, .inl (fun _ => 0))), (bk, .inr (0, [.ref d0, .ref p0, .null])), (d0, .inl (cD, 0, .inr (.inr (.inr (.inr (fun _ => none)))))), (p0, .inl (cP, 0, .inr (.inr (.inr (.inr (fun _ => none)))))), (q 1, .inl (cB, 3, .inr (.inr (.inr (.inr (fun _ => none)))))), (q 2, .inl (cU, 3, .inl (fun _ => 0))), (q 3, .inr (6, rF r 0 0 0 0 0 0 0 0))]) [0, 1, 2, 3, 4, 5, 6, 7] rfl
  have hKc := hK.sub (tys' := [(cT, .int), (cD, .object "PatternGate$Doc"), (cP, .object "PatternGate$Pattern"), (cB, .object "PatternGate$Book"), (cU, .int)]) [0, 1, 2, 3, 4] rfl
  have hDc := hD.sub (ws' := [(x, .inr (9, gF q 0 0 (-1) (-1) bk 0 0)), (q 0, .inl (cT, 900, .inl (fun _ => 0))), (bk, .inr (0, [.ref d0, .ref p0, .null])), (d0, .inl (cD, 0, .inr (.inr (.inr (.inr (fun _ => none)))))), (p0, .inl (cP, 0, .inr (.inr (.inr (.inr (fun _ => none)))))), (q 1, .inl (cB, 3, .inr (.inr (.inr (.inr (fun _ => none)))))), (q 2, .inl (cU, 3, .inl (fun _ => 0))), (q 3, .inr (6, rF r 0 0 0 0 0 0 0 0))]) [0, 1, 2, 3, 4, 5, 6, 7] (by decide) rfl
  have hFc := va_free (wc := [(x, .inr (9, gF q 0 0 (-1) (-1) bk 0 0)), (q 0, .inl (cT, 900, .inl (fun _ => 0))), (bk, .inr (0, [.ref d0, .ref p0, .null])), (d0, .inl (cD, 0, .inr (.inr (.inr (.inr (fun _ => none)))))), (p0, .inl (cP, 0, .inr (.inr (.inr (.inr (fun _ => none)))))), (q 1, .inl (cB, 3, .inr (.inr (.inr (.inr (fun _ => none)))))), (q 2, .inl (cU, 3, .inl (fun _ => 0))), (q 3, .inr (6, rF r 0 0 0 0 0 0 0 0))]) hD hS hA [0, 1, 2, 3, 4, 5, 6, 7] rfl
  refine va_calli (va_runV (As := [.int (xs (Int32.toNatClampNeg 1)), .int (xs (Int32.toNatClampNeg 2)), .int (xs (Int32.toNatClampNeg 3))]) (rest := []) ⟨hx, hb, hml, hown, hts⟩ (c_cut l dC dI x q bk d0 p0 cT cD cP cB cU r H.size (xs (Int32.toNatClampNeg 1)) (xs (Int32.toNatClampNeg 2)) (xs (Int32.toNatClampNeg 3))) (cwV 3 hts mg_L_law_X9_cut_102 rfl rfl rfl (by decide +kernel) ⟨Nat.le_of_ble_eq_true rfl, Nat.le_of_ble_eq_true rfl⟩) ⟨fun a U g mk q => by obtain ⟨q0, q1, qP, qK, qD⟩ := q; exact ⟨q0, q1, qP, va_K.moved (u := U) (U := U.calling g mk a) (Vm.Alike.refl U.vm) qK, qD⟩, va_recv hKc hPc (ci := 9) (q0 := 0) rfl rfl, fun U hU hW => ⟨rfl, by rw [hU], by rw [hU]; exact hPc, va_K.moved hW.alike hKc, hDc.weaken (fun _ _ _ _ => trivial)⟩⟩ rfl rfl hl.1 rfl (lv_room (Nat.le_of_ble_eq_true rfl)) dL_law_897 ⟨Nat.le_of_ble_eq_true rfl, Nat.le_of_ble_eq_true rfl⟩) hS (fun q _ h => hFc q h) hFc (fun r_5 u t H1 locs ht hvm hw hB hz1 hk1 hS => ?_)
  have hw_6 := hw
  obtain ⟨hP, hD⟩ := va_join (wr := [(y, .inr (10, mF z 0 0 0 0 0 0 0 0 0 (-1) (-1))), (z 0, .inl (mA, 101660, .inl (fun _ => 0))), (z 1, .inl (mT, 900, .inl (fun _ => 0))), (z 2, .inl (mX, 900, .inl (fun _ => 0))), (z 23, .inl (mC, 17576, .inl (fun _ => 0)))]) (w1 := []) hP hD [0, 1, 2, 3, 4, 5, 6, 7] [8, 9, 10, 11, 12] rfl rfl (by decide) (by decide) hk1 hFc (fun k q h => by simp at h) ⟨fun i j p q h => by simp at h, fun k q h => by simp at h⟩
  generalize H1 = H at hP hS ⊢
  have hP : va_P (dC, dI) vwCl [(y, .inr (10, mF z 0 0 0 0 0 0 0 0 0 (-1) (-1))), (z 0, .inl (mA, 101660, .inl (fun _ => 0))), (z 1, .inl (mT, 900, .inl (fun _ => 0))), (z 2, .inl (mX, 900, .inl (fun _ => 0))), (z 23, .inl (mC, 17576, .inl (fun _ => 0)))] H := hP
  have hD : va_D (fun q : Nat => s.heap.size ≤ q) [(y, .inr (10, mF z 0 0 0 0 0 0 0 0 0 (-1) (-1))), (z 0, .inl (mA, 101660, .inl (fun _ => 0))), (z 1, .inl (mT, 900, .inl (fun _ => 0))), (z 2, .inl (mX, 900, .inl (fun _ => 0))), (z 23, .inl (mC, 17576, .inl (fun _ => 0)))] := hD
  refine W.widen (k := 1222) (n := 311064) (by omega) (by omega) ?_
  refine lv_aload_n hx hb dL_law_900 rfl (lv_at hl 1 rfl) ?_
  refine lv_aload_n hx hb dL_law_901 rfl (lv_at hl 3 rfl) ?_
  refine lv_iload_n hx hb dL_law_902 rfl (lv_at hl 0 rfl) ?_
  refine lv_iconst (v := 1) hx hb dL_law_903 (by decide) ?_
  refine lv_iadd hx hb dL_law_904 ?_
  refine lv_topi (fun y_7 ey_7 => ?_)
  obtain rfl : y_7 = 1 := ey_7.trans (by first | rfl | decide)
  refine va_sld hx hb hX hbl hbA hS (i := 1) (by unfold vp_in; decide) dL_law_905 ?_
  refine lv_aload_n hx hb dL_law_906 rfl (lv_at hl 3 rfl) ?_
  refine lv_iload_n hx hb dL_law_907 rfl (lv_at hl 0 rfl) ?_
  refine lv_iconst (v := 2) hx hb dL_law_908 (by decide) ?_
  refine lv_iadd hx hb dL_law_909 ?_
  refine lv_topi (fun y_8 ey_8 => ?_)
  obtain rfl : y_8 = 2 := ey_8.trans (by first | rfl | decide)
  refine va_sld hx hb hX hbl hbA hS (i := 2) (by unfold vp_in; decide) dL_law_910 ?_
  refine lv_aload_n hx hb dL_law_911 rfl (lv_at hl 3 rfl) ?_
  refine lv_iload_n hx hb dL_law_912 rfl (lv_at hl 0 rfl) ?_
  refine lv_iconst (v := 3) hx hb dL_law_913 (by decide) ?_
  refine lv_iadd hx hb dL_law_914 ?_
  refine lv_topi (fun y_9 ey_9 => ?_)
  obtain rfl : y_9 = 3 := ey_9.trans (by first | rfl | decide)
  refine va_sld hx hb hX hbl hbA hS (i := 3) (by unfold vp_in; decide) dL_law_915 ?_
  have hPc := hP.sub (ws' := [(y, .inr (10, mF z 0 0 0 0 0 0 0 0 0 (-1) (-1))), (z 0, .inl (mA, 101660, .inl (fun _ => 0))), (z 1, .inl (mT, 900, .inl (fun _ => 0))), (z 2, .inl (mX, 900, .inl (fun _ => 0))), (z 23, .inl (mC, 17576, .inl (fun _ => 0)))]) [0, 1, 2, 3, 4] rfl
  have hKc := hK.sub (tys' := [(mA, .int), (mT, .byte), (mX, .byte), (mC, .boolean)]) [5, 6, 7, 8] rfl
  have hDc := hD.sub (ws' := [(y, .inr (10, mF z 0 0 0 0 0 0 0 0 0 (-1) (-1))), (z 0, .inl (mA, 101660, .inl (fun _ => 0))), (z 1, .inl (mT, 900, .inl (fun _ => 0))), (z 2, .inl (mX, 900, .inl (fun _ => 0))), (z 23, .inl (mC, 17576, .inl (fun _ => 0)))]) [0, 1, 2, 3, 4] (by decide) rfl
  have hFc := va_free (wc := [(y, .inr (10, mF z 0 0 0 0 0 0 0 0 0 (-1) (-1))), (z 0, .inl (mA, 101660, .inl (fun _ => 0))), (z 1, .inl (mT, 900, .inl (fun _ => 0))), (z 2, .inl (mX, 900, .inl (fun _ => 0))), (z 23, .inl (mC, 17576, .inl (fun _ => 0)))]) hD hS hA [0, 1, 2, 3, 4] rfl
  refine va_calli (va_runV (As := [.int (xs (Int32.toNatClampNeg 1)), .int (xs (Int32.toNatClampNeg 2)), .int (xs (Int32.toNatClampNeg 3))]) (rest := [.int r_5]) ⟨hx, hb, hml, hown, hts⟩ (m_cut l dC dI y z mA mT mX mC H.size (xs (Int32.toNatClampNeg 1)) (xs (Int32.toNatClampNeg 2)) (xs (Int32.toNatClampNeg 3))) (cwV 3 hts mg_L_law_X10_cut_105 rfl rfl rfl (by decide +kernel) ⟨Nat.le_of_ble_eq_true rfl, Nat.le_of_ble_eq_true rfl⟩) ⟨fun a U g mk q => by obtain ⟨q0, q1, qP, qK, qD⟩ := q; exact ⟨q0, q1, qP, va_K.moved (u := U) (U := U.calling g mk a) (Vm.Alike.refl U.vm) qK, qD⟩, va_recv hKc hPc (ci := 10) (q0 := 0) rfl rfl, fun U hU hW => ⟨rfl, by rw [hU], by rw [hU]; exact hPc, va_K.moved hW.alike hKc, hDc.weaken (fun _ _ _ _ => trivial)⟩⟩ rfl rfl hl.1 rfl (lv_room (Nat.le_of_ble_eq_true rfl)) dL_law_916 ⟨Nat.le_of_ble_eq_true rfl, Nat.le_of_ble_eq_true rfl⟩) hS (fun q _ h => hFc q h) hFc (fun r_11 u t H1 locs ht hvm hw hB hz1 hk1 hS => ?_)
  have hw_12 := hw
  obtain ⟨hP, hD⟩ := va_join (wr := []) (w1 := []) hP hD [0, 1, 2, 3, 4] [] rfl rfl (by decide) (by decide) hk1 hFc (fun k q h => by simp at h) ⟨fun i j p q h => by simp at h, fun k q h => by simp at h⟩
  generalize H1 = H at hP hS ⊢
  have hP : va_P (dC, dI) vwCl [] H := hP
  have hD : va_D (fun q : Nat => s.heap.size ≤ q) [] := hD
  refine W.widen (k := 1222) (n := 311064) (by omega) (by omega) ?_
  refine lv_icmp_eq (tgt := 1128) hx hb dL_law_919 (by decide) (fun k_13 => ?_) (fun k_13 => absurd (hw_6.trans hw_12.symm) k_13)
  exact law_end C0 (Nat.le_of_ble_eq_true rfl) (Nat.le_of_ble_eq_true rfl) hS hl
theorem dL_law_924 : decode cL_law 924 = .ok (.aload_n 1, 1) := by decide +kernel
theorem dL_law_925 : decode cL_law 925 = .ok (.aload_n 0, 1) := by decide +kernel
theorem dL_law_926 : decode cL_law 926 = .ok (.iload_n 3, 1) := by decide +kernel
theorem dL_law_927 : decode cL_law 927 = .ok (.iconst 1, 1) := by decide +kernel
theorem dL_law_928 : decode cL_law 928 = .ok (.iadd, 1) := by decide +kernel
theorem dL_law_929 : decode cL_law 929 = .ok (.iaload, 1) := by decide +kernel
theorem dL_law_930 : decode cL_law 930 = .ok (.aload_n 0, 1) := by decide +kernel
theorem dL_law_931 : decode cL_law 931 = .ok (.iload_n 3, 1) := by decide +kernel
theorem dL_law_932 : decode cL_law 932 = .ok (.iconst 2, 1) := by decide +kernel
theorem dL_law_933 : decode cL_law 933 = .ok (.iadd, 1) := by decide +kernel
theorem dL_law_934 : decode cL_law 934 = .ok (.iaload, 1) := by decide +kernel
theorem dL_law_935 : decode cL_law 935 = .ok (.aload_n 0, 1) := by decide +kernel
theorem dL_law_936 : decode cL_law 936 = .ok (.iload_n 3, 1) := by decide +kernel
theorem dL_law_937 : decode cL_law 937 = .ok (.iconst 3, 1) := by decide +kernel
theorem dL_law_938 : decode cL_law 938 = .ok (.iadd, 1) := by decide +kernel
theorem dL_law_939 : decode cL_law 939 = .ok (.iaload, 1) := by decide +kernel
theorem dL_law_940 : decode cL_law 940 = .ok (.invokevirtual 106, 3) := by decide +kernel
theorem dL_law_943 : decode cL_law 943 = .ok (.aload_n 2, 1) := by decide +kernel
theorem dL_law_944 : decode cL_law 944 = .ok (.aload_n 0, 1) := by decide +kernel
theorem dL_law_945 : decode cL_law 945 = .ok (.iload_n 3, 1) := by decide +kernel
theorem dL_law_946 : decode cL_law 946 = .ok (.iconst 1, 1) := by decide +kernel
theorem dL_law_947 : decode cL_law 947 = .ok (.iadd, 1) := by decide +kernel
theorem dL_law_948 : decode cL_law 948 = .ok (.iaload, 1) := by decide +kernel
theorem dL_law_949 : decode cL_law 949 = .ok (.aload_n 0, 1) := by decide +kernel
theorem dL_law_950 : decode cL_law 950 = .ok (.iload_n 3, 1) := by decide +kernel
theorem dL_law_951 : decode cL_law 951 = .ok (.iconst 2, 1) := by decide +kernel
theorem dL_law_952 : decode cL_law 952 = .ok (.iadd, 1) := by decide +kernel
theorem dL_law_953 : decode cL_law 953 = .ok (.iaload, 1) := by decide +kernel
theorem dL_law_954 : decode cL_law 954 = .ok (.aload_n 0, 1) := by decide +kernel
theorem dL_law_955 : decode cL_law 955 = .ok (.iload_n 3, 1) := by decide +kernel
theorem dL_law_956 : decode cL_law 956 = .ok (.iconst 3, 1) := by decide +kernel
theorem dL_law_957 : decode cL_law 957 = .ok (.iadd, 1) := by decide +kernel
theorem dL_law_958 : decode cL_law 958 = .ok (.iaload, 1) := by decide +kernel
theorem dL_law_959 : decode cL_law 959 = .ok (.invokevirtual 109, 3) := by decide +kernel
theorem dL_law_962 : decode cL_law 962 = .ok (.if_icmp .eq 166, 3) := by decide +kernel
set_option maxRecDepth 20000 in
theorem mg_L_law_X9_copy_106 : GoodIn lw_tbl (wsV RL 106 RX9 yX9_copy mwX9_copy) := goodIn_r _ [1052, 1053, 1054, 106, 1055, 424, 356, 421, 423, 1, 106, 361, 884, 145, 881, 882, 883, 107, 372, 374, 376, 378, 380, 382, 384, 386, 388, 390, 392, 394, 396, 398, 400, 402, 152, 154, 156] (by decide +kernel) (by decide +kernel)
set_option maxRecDepth 20000 in
theorem mg_L_law_X10_copy_109 : GoodIn lw_tbl (wsV RL 109 RX10 yX10_copy mwX10_copy) := goodIn_r _ [1702, 1703, 1704, 115, 1705, 1290, 1124, 1287, 1289, 33, 115, 1408, 1123, 1405, 1407, 56, 1171, 1173, 1175, 1177, 1179, 1181, 1183, 1185, 1187, 1189, 1191, 1193, 1195, 1197, 1199, 1201, 1203, 1205, 1207, 1209, 1211, 1213, 1215, 1217, 1219, 1221, 1223, 1225, 1227, 1229, 1231, 1233, 1235, 1237, 1239, 1241, 1243, 1245, 1247, 1249, 1251, 1253, 1255, 1257, 1259, 1261, 1263, 1265] (by decide +kernel) (by decide +kernel)
set_option maxHeartbeats 4000000 in
set_option maxRecDepth 100000 in
theorem law_case22 {p : Program} {l : Launch} {e : Env} {s : State} {m : MethodId} {below : List Frame} {meth : Method} {c : Code} {dC : Nat → ClassId} {dI : Nat → Nat → Nat} {b : Nat} {xs : Nat → Int32} (C0 : lw_At p s m meth c b 6 xs) {x : Nat} {q : Nat → Nat} {bk d0 p0 : Nat} {cT cD cP cB cU : ClassId} {r : Nat → Nat} {y : Nat} {z : Nat → Nat} {mA mT mX mC : ClassId} {H : Heap} {locs : List Loc} (hK : va_K (dC, dI) vwCl [(cT, .int), (cD, .object "PatternGate$Doc"), (cP, .object "PatternGate$Pattern"), (cB, .object "PatternGate$Book"), (cU, .int), (mA, .int), (mT, .byte), (mX, .byte), (mC, .boolean)] s) (hP : va_P (dC, dI) vwCl [(x, .inr (9, gF q 0 0 (-1) (-1) bk 0 0)), (q 0, .inl (cT, 900, .inl (fun _ => 0))), (bk, .inr (0, [.ref d0, .ref p0, .null])), (d0, .inl (cD, 0, .inr (.inr (.inr (.inr (fun _ => none)))))), (p0, .inl (cP, 0, .inr (.inr (.inr (.inr (fun _ => none)))))), (q 1, .inl (cB, 3, .inr (.inr (.inr (.inr (fun _ => none)))))), (q 2, .inl (cU, 3, .inl (fun _ => 0))), (q 3, .inr (6, rF r 0 0 0 0 0 0 0 0)), (y, .inr (10, mF z 0 0 0 0 0 0 0 0 0 (-1) (-1))), (z 0, .inl (mA, 101660, .inl (fun _ => 0))), (z 1, .inl (mT, 900, .inl (fun _ => 0))), (z 2, .inl (mX, 900, .inl (fun _ => 0))), (z 23, .inl (mC, 17576, .inl (fun _ => 0)))] H) (hD : va_D (fun q : Nat => s.heap.size ≤ q) [(x, .inr (9, gF q 0 0 (-1) (-1) bk 0 0)), (q 0, .inl (cT, 900, .inl (fun _ => 0))), (bk, .inr (0, [.ref d0, .ref p0, .null])), (d0, .inl (cD, 0, .inr (.inr (.inr (.inr (fun _ => none)))))), (p0, .inl (cP, 0, .inr (.inr (.inr (.inr (fun _ => none)))))), (q 1, .inl (cB, 3, .inr (.inr (.inr (.inr (fun _ => none)))))), (q 2, .inl (cU, 3, .inl (fun _ => 0))), (q 3, .inr (6, rF r 0 0 0 0 0 0 0 0)), (y, .inr (10, mF z 0 0 0 0 0 0 0 0 0 (-1) (-1))), (z 0, .inl (mA, 101660, .inl (fun _ => 0))), (z 1, .inl (mT, 900, .inl (fun _ => 0))), (z 2, .inl (mX, 900, .inl (fun _ => 0))), (z 23, .inl (mC, 17576, .inl (fun _ => 0)))]) (hS : va_S (fun q : Nat => s.heap.size ≤ q) s.heap H locs) (hAO2 : va_AO "PatternGate$Doc" s) (hAO5 : va_AO "PatternGate$Pattern" s) {ls : Array Slot} (hl : lv_has ls 4 [(3, .int 0), (2, .ref y), (1, .ref x), (0, .ref b)]) : W p l e room_1 s m #[Value.ref b] below meth c H locs 1222 311064 (lw_Z below #[Value.ref b] s) (F0 m 924 ls []) := by
  obtain ⟨hx, hb, hr, hml, hown, hts, hX, hbl, hlocks, hgv⟩ := id C0
  have hown : s.vm.findClass RL = some m.cls := hown
  have hA : ∀ q : Nat, s.heap.size ≤ q → (fun q : Nat => s.heap.size ≤ q) q := fun _ h => h
  have hbA : ¬ (fun q : Nat => s.heap.size ≤ q) b := Nat.not_le.mpr hbl
  refine lv_aload_n hx hb dL_law_924 rfl (lv_at hl 2 rfl) ?_
  refine lv_aload_n hx hb dL_law_925 rfl (lv_at hl 3 rfl) ?_
  refine lv_iload_n hx hb dL_law_926 rfl (lv_at hl 0 rfl) ?_
  refine lv_iconst (v := 1) hx hb dL_law_927 (by decide) ?_
  refine lv_iadd hx hb dL_law_928 ?_
  refine lv_topi (fun y_1 ey_1 => ?_)
  obtain rfl : y_1 = 1 := ey_1.trans (by first | rfl | decide)
  refine va_sld hx hb hX hbl hbA hS (i := 1) (by unfold vp_in; decide) dL_law_929 ?_
  refine lv_aload_n hx hb dL_law_930 rfl (lv_at hl 3 rfl) ?_
  refine lv_iload_n hx hb dL_law_931 rfl (lv_at hl 0 rfl) ?_
  refine lv_iconst (v := 2) hx hb dL_law_932 (by decide) ?_
  refine lv_iadd hx hb dL_law_933 ?_
  refine lv_topi (fun y_2 ey_2 => ?_)
  obtain rfl : y_2 = 2 := ey_2.trans (by first | rfl | decide)
  refine va_sld hx hb hX hbl hbA hS (i := 2) (by unfold vp_in; decide) dL_law_934 ?_
  refine lv_aload_n hx hb dL_law_935 rfl (lv_at hl 3 rfl) ?_
  refine lv_iload_n hx hb dL_law_936 rfl (lv_at hl 0 rfl) ?_
  refine lv_iconst (v := 3) hx hb dL_law_937 (by decide) ?_
  refine lv_iadd hx hb dL_law_938 ?_
  refine lv_topi (fun y_3 ey_3 => ?_)
  obtain rfl : y_3 = 3 := ey_3.trans (by first | rfl | decide)
  refine va_sld hx hb hX hbl hbA hS (i := 3) (by unfold vp_in; decide) dL_law_939 ?_
  have hPc := hP.sub (ws' := [(x, .inr (9, gF q 0 0 (-1) (-1) bk 0 0)), (q 0, .inl (cT, 900, .inl (fun _ => 0))), (bk, .inr (0, [.ref d0, .ref p0, .null])), (d0, .inl (cD, 0, .inr (.inr (.inr (.inr (fun _ => none)))))), (p0, .inl (cP, 0, .inr (.inr (.inr (.inr (fun _ => none)))))), (q 1, .inl (cB, 3, .inr (.inr (.inr (.inr (fun _ => none)))))), (q 2, .inl (cU, 3, .inl (fun _ => 0))), (q 3, .inr (6, rF r 0 0 0 0 0 0 0 0))]) [0, 1, 2, 3, 4, 5, 6, 7] rfl
  have hKc := hK.sub (tys' := [(cT, .int), (cD, .object "PatternGate$Doc"), (cP, .object "PatternGate$Pattern"), (cB, .object "PatternGate$Book"), (cU, .int)]) [0, 1, 2, 3, 4] rfl
  have hDc := hD.sub (ws' := [(x, .inr (9, gF q 0 0 (-1) (-1) bk 0 0)), (q 0, .inl (cT, 900, .inl (fun _ => 0))), (bk, .inr (0, [.ref d0, .ref p0, .null])), (d0, .inl (cD, 0, .inr (.inr (.inr (.inr (fun _ => none)))))), (p0, .inl (cP, 0, .inr (.inr (.inr (.inr (fun _ => none)))))), (q 1, .inl (cB, 3, .inr (.inr (.inr (.inr (fun _ => none)))))), (q 2, .inl (cU, 3, .inl (fun _ => 0))), (q 3, .inr (6, rF r 0 0 0 0 0 0 0 0))]) [0, 1, 2, 3, 4, 5, 6, 7] (by decide) rfl
  have hFc := va_free (wc := [(x, .inr (9, gF q 0 0 (-1) (-1) bk 0 0)), (q 0, .inl (cT, 900, .inl (fun _ => 0))), (bk, .inr (0, [.ref d0, .ref p0, .null])), (d0, .inl (cD, 0, .inr (.inr (.inr (.inr (fun _ => none)))))), (p0, .inl (cP, 0, .inr (.inr (.inr (.inr (fun _ => none)))))), (q 1, .inl (cB, 3, .inr (.inr (.inr (.inr (fun _ => none)))))), (q 2, .inl (cU, 3, .inl (fun _ => 0))), (q 3, .inr (6, rF r 0 0 0 0 0 0 0 0))]) hD hS hA [0, 1, 2, 3, 4, 5, 6, 7] rfl
  refine va_calli (va_runV (As := [.int (xs (Int32.toNatClampNeg 1)), .int (xs (Int32.toNatClampNeg 2)), .int (xs (Int32.toNatClampNeg 3))]) (rest := []) ⟨hx, hb, hml, hown, hts⟩ (c_copy l dC dI x q bk d0 p0 cT cD cP cB cU r H.size (xs (Int32.toNatClampNeg 1)) (xs (Int32.toNatClampNeg 2)) (xs (Int32.toNatClampNeg 3))) (cwV 3 hts mg_L_law_X9_copy_106 rfl rfl rfl (by decide +kernel) ⟨Nat.le_of_ble_eq_true rfl, Nat.le_of_ble_eq_true rfl⟩) ⟨fun a U g mk q => by obtain ⟨q0, q1, qP, qK, qD⟩ := q; exact ⟨q0, q1, qP, va_K.moved (u := U) (U := U.calling g mk a) (Vm.Alike.refl U.vm) qK, qD⟩, va_recv hKc hPc (ci := 9) (q0 := 0) rfl rfl, fun U hU hW => ⟨rfl, by rw [hU], by rw [hU]; exact hPc, va_K.moved hW.alike hKc, hDc.weaken (fun _ _ _ _ => trivial)⟩⟩ rfl rfl hl.1 rfl (lv_room (Nat.le_of_ble_eq_true rfl)) dL_law_940 ⟨Nat.le_of_ble_eq_true rfl, Nat.le_of_ble_eq_true rfl⟩) hS (fun q _ h => hFc q h) hFc (fun r_5 u t H1 locs ht hvm hw hB hz1 hk1 hS => ?_)
  have hw_6 := hw
  obtain ⟨hP, hD⟩ := va_join (wr := [(y, .inr (10, mF z 0 0 0 0 0 0 0 0 0 (-1) (-1))), (z 0, .inl (mA, 101660, .inl (fun _ => 0))), (z 1, .inl (mT, 900, .inl (fun _ => 0))), (z 2, .inl (mX, 900, .inl (fun _ => 0))), (z 23, .inl (mC, 17576, .inl (fun _ => 0)))]) (w1 := []) hP hD [0, 1, 2, 3, 4, 5, 6, 7] [8, 9, 10, 11, 12] rfl rfl (by decide) (by decide) hk1 hFc (fun k q h => by simp at h) ⟨fun i j p q h => by simp at h, fun k q h => by simp at h⟩
  generalize H1 = H at hP hS ⊢
  have hP : va_P (dC, dI) vwCl [(y, .inr (10, mF z 0 0 0 0 0 0 0 0 0 (-1) (-1))), (z 0, .inl (mA, 101660, .inl (fun _ => 0))), (z 1, .inl (mT, 900, .inl (fun _ => 0))), (z 2, .inl (mX, 900, .inl (fun _ => 0))), (z 23, .inl (mC, 17576, .inl (fun _ => 0)))] H := hP
  have hD : va_D (fun q : Nat => s.heap.size ≤ q) [(y, .inr (10, mF z 0 0 0 0 0 0 0 0 0 (-1) (-1))), (z 0, .inl (mA, 101660, .inl (fun _ => 0))), (z 1, .inl (mT, 900, .inl (fun _ => 0))), (z 2, .inl (mX, 900, .inl (fun _ => 0))), (z 23, .inl (mC, 17576, .inl (fun _ => 0)))] := hD
  refine W.widen (k := 1222) (n := 311064) (by omega) (by omega) ?_
  refine lv_aload_n hx hb dL_law_943 rfl (lv_at hl 1 rfl) ?_
  refine lv_aload_n hx hb dL_law_944 rfl (lv_at hl 3 rfl) ?_
  refine lv_iload_n hx hb dL_law_945 rfl (lv_at hl 0 rfl) ?_
  refine lv_iconst (v := 1) hx hb dL_law_946 (by decide) ?_
  refine lv_iadd hx hb dL_law_947 ?_
  refine lv_topi (fun y_7 ey_7 => ?_)
  obtain rfl : y_7 = 1 := ey_7.trans (by first | rfl | decide)
  refine va_sld hx hb hX hbl hbA hS (i := 1) (by unfold vp_in; decide) dL_law_948 ?_
  refine lv_aload_n hx hb dL_law_949 rfl (lv_at hl 3 rfl) ?_
  refine lv_iload_n hx hb dL_law_950 rfl (lv_at hl 0 rfl) ?_
  refine lv_iconst (v := 2) hx hb dL_law_951 (by decide) ?_
  refine lv_iadd hx hb dL_law_952 ?_
  refine lv_topi (fun y_8 ey_8 => ?_)
  obtain rfl : y_8 = 2 := ey_8.trans (by first | rfl | decide)
  refine va_sld hx hb hX hbl hbA hS (i := 2) (by unfold vp_in; decide) dL_law_953 ?_
  refine lv_aload_n hx hb dL_law_954 rfl (lv_at hl 3 rfl) ?_
  refine lv_iload_n hx hb dL_law_955 rfl (lv_at hl 0 rfl) ?_
  refine lv_iconst (v := 3) hx hb dL_law_956 (by decide) ?_
  refine lv_iadd hx hb dL_law_957 ?_
  refine lv_topi (fun y_9 ey_9 => ?_)
  obtain rfl : y_9 = 3 := ey_9.trans (by first | rfl | decide)
  refine va_sld hx hb hX hbl hbA hS (i := 3) (by unfold vp_in; decide) dL_law_958 ?_
  have hPc := hP.sub (ws' := [(y, .inr (10, mF z 0 0 0 0 0 0 0 0 0 (-1) (-1))), (z 0, .inl (mA, 101660, .inl (fun _ => 0))), (z 1, .inl (mT, 900, .inl (fun _ => 0))), (z 2, .inl (mX, 900, .inl (fun _ => 0))), (z 23, .inl (mC, 17576, .inl (fun _ => 0)))]) [0, 1, 2, 3, 4] rfl
  have hKc := hK.sub (tys' := [(mA, .int), (mT, .byte), (mX, .byte), (mC, .boolean)]) [5, 6, 7, 8] rfl
  have hDc := hD.sub (ws' := [(y, .inr (10, mF z 0 0 0 0 0 0 0 0 0 (-1) (-1))), (z 0, .inl (mA, 101660, .inl (fun _ => 0))), (z 1, .inl (mT, 900, .inl (fun _ => 0))), (z 2, .inl (mX, 900, .inl (fun _ => 0))), (z 23, .inl (mC, 17576, .inl (fun _ => 0)))]) [0, 1, 2, 3, 4] (by decide) rfl
  have hFc := va_free (wc := [(y, .inr (10, mF z 0 0 0 0 0 0 0 0 0 (-1) (-1))), (z 0, .inl (mA, 101660, .inl (fun _ => 0))), (z 1, .inl (mT, 900, .inl (fun _ => 0))), (z 2, .inl (mX, 900, .inl (fun _ => 0))), (z 23, .inl (mC, 17576, .inl (fun _ => 0)))]) hD hS hA [0, 1, 2, 3, 4] rfl
  refine va_calli (va_runV (As := [.int (xs (Int32.toNatClampNeg 1)), .int (xs (Int32.toNatClampNeg 2)), .int (xs (Int32.toNatClampNeg 3))]) (rest := [.int r_5]) ⟨hx, hb, hml, hown, hts⟩ (m_copy l dC dI y z mA mT mX mC H.size (xs (Int32.toNatClampNeg 1)) (xs (Int32.toNatClampNeg 2)) (xs (Int32.toNatClampNeg 3))) (cwV 3 hts mg_L_law_X10_copy_109 rfl rfl rfl (by decide +kernel) ⟨Nat.le_of_ble_eq_true rfl, Nat.le_of_ble_eq_true rfl⟩) ⟨fun a U g mk q => by obtain ⟨q0, q1, qP, qK, qD⟩ := q; exact ⟨q0, q1, qP, va_K.moved (u := U) (U := U.calling g mk a) (Vm.Alike.refl U.vm) qK, qD⟩, va_recv hKc hPc (ci := 10) (q0 := 0) rfl rfl, fun U hU hW => ⟨rfl, by rw [hU], by rw [hU]; exact hPc, va_K.moved hW.alike hKc, hDc.weaken (fun _ _ _ _ => trivial)⟩⟩ rfl rfl hl.1 rfl (lv_room (Nat.le_of_ble_eq_true rfl)) dL_law_959 ⟨Nat.le_of_ble_eq_true rfl, Nat.le_of_ble_eq_true rfl⟩) hS (fun q _ h => hFc q h) hFc (fun r_11 u t H1 locs ht hvm hw hB hz1 hk1 hS => ?_)
  have hw_12 := hw
  obtain ⟨hP, hD⟩ := va_join (wr := []) (w1 := []) hP hD [0, 1, 2, 3, 4] [] rfl rfl (by decide) (by decide) hk1 hFc (fun k q h => by simp at h) ⟨fun i j p q h => by simp at h, fun k q h => by simp at h⟩
  generalize H1 = H at hP hS ⊢
  have hP : va_P (dC, dI) vwCl [] H := hP
  have hD : va_D (fun q : Nat => s.heap.size ≤ q) [] := hD
  refine W.widen (k := 1222) (n := 311064) (by omega) (by omega) ?_
  refine lv_icmp_eq (tgt := 1128) hx hb dL_law_962 (by decide) (fun k_13 => ?_) (fun k_13 => absurd (hw_6.trans hw_12.symm) k_13)
  exact law_end C0 (Nat.le_of_ble_eq_true rfl) (Nat.le_of_ble_eq_true rfl) hS hl
theorem dL_law_967 : decode cL_law 967 = .ok (.aload_n 1, 1) := by decide +kernel
theorem dL_law_968 : decode cL_law 968 = .ok (.aload_n 0, 1) := by decide +kernel
theorem dL_law_969 : decode cL_law 969 = .ok (.iload_n 3, 1) := by decide +kernel
theorem dL_law_970 : decode cL_law 970 = .ok (.iconst 1, 1) := by decide +kernel
theorem dL_law_971 : decode cL_law 971 = .ok (.iadd, 1) := by decide +kernel
theorem dL_law_972 : decode cL_law 972 = .ok (.iaload, 1) := by decide +kernel
theorem dL_law_973 : decode cL_law 973 = .ok (.invokevirtual 110, 3) := by decide +kernel
theorem dL_law_976 : decode cL_law 976 = .ok (.aload_n 2, 1) := by decide +kernel
theorem dL_law_977 : decode cL_law 977 = .ok (.aload_n 0, 1) := by decide +kernel
theorem dL_law_978 : decode cL_law 978 = .ok (.iload_n 3, 1) := by decide +kernel
theorem dL_law_979 : decode cL_law 979 = .ok (.iconst 1, 1) := by decide +kernel
theorem dL_law_980 : decode cL_law 980 = .ok (.iadd, 1) := by decide +kernel
theorem dL_law_981 : decode cL_law 981 = .ok (.iaload, 1) := by decide +kernel
theorem dL_law_982 : decode cL_law 982 = .ok (.invokevirtual 113, 3) := by decide +kernel
theorem dL_law_985 : decode cL_law 985 = .ok (.if_icmp .eq 143, 3) := by decide +kernel
set_option maxRecDepth 20000 in
theorem mg_L_law_X9_drop_110 : GoodIn lw_tbl (wsV RL 110 RX9 yX9_drop mwX9_drop) := goodIn_r _ [1063, 1064, 1065, 106, 1066, 361, 884, 145, 881, 882, 883, 107, 424, 356, 421, 423, 1, 106, 372, 374, 376, 378, 380, 382, 384, 386, 388, 390, 392, 394, 396, 398, 400, 402, 152, 154, 156] (by decide +kernel) (by decide +kernel)
set_option maxRecDepth 20000 in
theorem mg_L_law_X10_drop_113 : GoodIn lw_tbl (wsV RL 113 RX10 yX10_drop mwX10_drop) := goodIn_r _ [1706, 1707, 1708, 115, 1709, 1408, 1123, 1405, 1407, 56, 115, 1290, 1124, 1287, 1289, 33, 1171, 1173, 1175, 1177, 1179, 1181, 1183, 1185, 1187, 1189, 1191, 1193, 1195, 1197, 1199, 1201, 1203, 1205, 1207, 1209, 1211, 1213, 1215, 1217, 1219, 1221, 1223, 1225, 1227, 1229, 1231, 1233, 1235, 1237, 1239, 1241, 1243, 1245, 1247, 1249, 1251, 1253, 1255, 1257, 1259, 1261, 1263, 1265] (by decide +kernel) (by decide +kernel)
set_option maxHeartbeats 4000000 in
set_option maxRecDepth 100000 in
theorem law_case23 {p : Program} {l : Launch} {e : Env} {s : State} {m : MethodId} {below : List Frame} {meth : Method} {c : Code} {dC : Nat → ClassId} {dI : Nat → Nat → Nat} {b : Nat} {xs : Nat → Int32} (C0 : lw_At p s m meth c b 6 xs) {x : Nat} {q : Nat → Nat} {bk d0 p0 : Nat} {cT cD cP cB cU : ClassId} {r : Nat → Nat} {y : Nat} {z : Nat → Nat} {mA mT mX mC : ClassId} {H : Heap} {locs : List Loc} (hK : va_K (dC, dI) vwCl [(cT, .int), (cD, .object "PatternGate$Doc"), (cP, .object "PatternGate$Pattern"), (cB, .object "PatternGate$Book"), (cU, .int), (mA, .int), (mT, .byte), (mX, .byte), (mC, .boolean)] s) (hP : va_P (dC, dI) vwCl [(x, .inr (9, gF q 0 0 (-1) (-1) bk 0 0)), (q 0, .inl (cT, 900, .inl (fun _ => 0))), (bk, .inr (0, [.ref d0, .ref p0, .null])), (d0, .inl (cD, 0, .inr (.inr (.inr (.inr (fun _ => none)))))), (p0, .inl (cP, 0, .inr (.inr (.inr (.inr (fun _ => none)))))), (q 1, .inl (cB, 3, .inr (.inr (.inr (.inr (fun _ => none)))))), (q 2, .inl (cU, 3, .inl (fun _ => 0))), (q 3, .inr (6, rF r 0 0 0 0 0 0 0 0)), (y, .inr (10, mF z 0 0 0 0 0 0 0 0 0 (-1) (-1))), (z 0, .inl (mA, 101660, .inl (fun _ => 0))), (z 1, .inl (mT, 900, .inl (fun _ => 0))), (z 2, .inl (mX, 900, .inl (fun _ => 0))), (z 23, .inl (mC, 17576, .inl (fun _ => 0)))] H) (hD : va_D (fun q : Nat => s.heap.size ≤ q) [(x, .inr (9, gF q 0 0 (-1) (-1) bk 0 0)), (q 0, .inl (cT, 900, .inl (fun _ => 0))), (bk, .inr (0, [.ref d0, .ref p0, .null])), (d0, .inl (cD, 0, .inr (.inr (.inr (.inr (fun _ => none)))))), (p0, .inl (cP, 0, .inr (.inr (.inr (.inr (fun _ => none)))))), (q 1, .inl (cB, 3, .inr (.inr (.inr (.inr (fun _ => none)))))), (q 2, .inl (cU, 3, .inl (fun _ => 0))), (q 3, .inr (6, rF r 0 0 0 0 0 0 0 0)), (y, .inr (10, mF z 0 0 0 0 0 0 0 0 0 (-1) (-1))), (z 0, .inl (mA, 101660, .inl (fun _ => 0))), (z 1, .inl (mT, 900, .inl (fun _ => 0))), (z 2, .inl (mX, 900, .inl (fun _ => 0))), (z 23, .inl (mC, 17576, .inl (fun _ => 0)))]) (hS : va_S (fun q : Nat => s.heap.size ≤ q) s.heap H locs) (hAO2 : va_AO "PatternGate$Doc" s) (hAO5 : va_AO "PatternGate$Pattern" s) {ls : Array Slot} (hl : lv_has ls 4 [(3, .int 0), (2, .ref y), (1, .ref x), (0, .ref b)]) : W p l e room_1 s m #[Value.ref b] below meth c H locs 1222 311064 (lw_Z below #[Value.ref b] s) (F0 m 967 ls []) := by
  obtain ⟨hx, hb, hr, hml, hown, hts, hX, hbl, hlocks, hgv⟩ := id C0
  have hown : s.vm.findClass RL = some m.cls := hown
  have hA : ∀ q : Nat, s.heap.size ≤ q → (fun q : Nat => s.heap.size ≤ q) q := fun _ h => h
  have hbA : ¬ (fun q : Nat => s.heap.size ≤ q) b := Nat.not_le.mpr hbl
  refine lv_aload_n hx hb dL_law_967 rfl (lv_at hl 2 rfl) ?_
  refine lv_aload_n hx hb dL_law_968 rfl (lv_at hl 3 rfl) ?_
  refine lv_iload_n hx hb dL_law_969 rfl (lv_at hl 0 rfl) ?_
  refine lv_iconst (v := 1) hx hb dL_law_970 (by decide) ?_
  refine lv_iadd hx hb dL_law_971 ?_
  refine lv_topi (fun y_1 ey_1 => ?_)
  obtain rfl : y_1 = 1 := ey_1.trans (by first | rfl | decide)
  refine va_sld hx hb hX hbl hbA hS (i := 1) (by unfold vp_in; decide) dL_law_972 ?_
  have hPc := hP.sub (ws' := [(x, .inr (9, gF q 0 0 (-1) (-1) bk 0 0)), (q 0, .inl (cT, 900, .inl (fun _ => 0))), (bk, .inr (0, [.ref d0, .ref p0, .null])), (d0, .inl (cD, 0, .inr (.inr (.inr (.inr (fun _ => none)))))), (p0, .inl (cP, 0, .inr (.inr (.inr (.inr (fun _ => none)))))), (q 1, .inl (cB, 3, .inr (.inr (.inr (.inr (fun _ => none)))))), (q 2, .inl (cU, 3, .inl (fun _ => 0))), (q 3, .inr (6, rF r 0 0 0 0 0 0 0 0))]) [0, 1, 2, 3, 4, 5, 6, 7] rfl
  have hKc := hK.sub (tys' := [(cT, .int), (cD, .object "PatternGate$Doc"), (cP, .object "PatternGate$Pattern"), (cB, .object "PatternGate$Book"), (cU, .int)]) [0, 1, 2, 3, 4] rfl
  have hDc := hD.sub (ws' := [(x, .inr (9, gF q 0 0 (-1) (-1) bk 0 0)), (q 0, .inl (cT, 900, .inl (fun _ => 0))), (bk, .inr (0, [.ref d0, .ref p0, .null])), (d0, .inl (cD, 0, .inr (.inr (.inr (.inr (fun _ => none)))))), (p0, .inl (cP, 0, .inr (.inr (.inr (.inr (fun _ => none)))))), (q 1, .inl (cB, 3, .inr (.inr (.inr (.inr (fun _ => none)))))), (q 2, .inl (cU, 3, .inl (fun _ => 0))), (q 3, .inr (6, rF r 0 0 0 0 0 0 0 0))]) [0, 1, 2, 3, 4, 5, 6, 7] (by decide) rfl
  have hFc := va_free (wc := [(x, .inr (9, gF q 0 0 (-1) (-1) bk 0 0)), (q 0, .inl (cT, 900, .inl (fun _ => 0))), (bk, .inr (0, [.ref d0, .ref p0, .null])), (d0, .inl (cD, 0, .inr (.inr (.inr (.inr (fun _ => none)))))), (p0, .inl (cP, 0, .inr (.inr (.inr (.inr (fun _ => none)))))), (q 1, .inl (cB, 3, .inr (.inr (.inr (.inr (fun _ => none)))))), (q 2, .inl (cU, 3, .inl (fun _ => 0))), (q 3, .inr (6, rF r 0 0 0 0 0 0 0 0))]) hD hS hA [0, 1, 2, 3, 4, 5, 6, 7] rfl
  refine va_calli (va_runV (As := [.int (xs (Int32.toNatClampNeg 1))]) (rest := []) ⟨hx, hb, hml, hown, hts⟩ (c_drop l dC dI x q bk d0 p0 cT cD cP cB cU r H.size (xs (Int32.toNatClampNeg 1))) (cwV 1 hts mg_L_law_X9_drop_110 rfl rfl rfl (by decide +kernel) ⟨Nat.le_of_ble_eq_true rfl, Nat.le_of_ble_eq_true rfl⟩) ⟨fun a U g mk q => by obtain ⟨q0, q1, qP, qK, qD⟩ := q; exact ⟨q0, q1, qP, va_K.moved (u := U) (U := U.calling g mk a) (Vm.Alike.refl U.vm) qK, qD⟩, va_recv hKc hPc (ci := 9) (q0 := 0) rfl rfl, fun U hU hW => ⟨rfl, by rw [hU], by rw [hU]; exact hPc, va_K.moved hW.alike hKc, hDc.weaken (fun _ _ _ _ => trivial)⟩⟩ rfl rfl hl.1 rfl (lv_room (Nat.le_of_ble_eq_true rfl)) dL_law_973 ⟨Nat.le_of_ble_eq_true rfl, Nat.le_of_ble_eq_true rfl⟩) hS (fun q _ h => hFc q h) hFc (fun r_3 u t H1 locs ht hvm hw hB hz1 hk1 hS => ?_)
  have hw_4 := hw
  obtain ⟨hP, hD⟩ := va_join (wr := [(y, .inr (10, mF z 0 0 0 0 0 0 0 0 0 (-1) (-1))), (z 0, .inl (mA, 101660, .inl (fun _ => 0))), (z 1, .inl (mT, 900, .inl (fun _ => 0))), (z 2, .inl (mX, 900, .inl (fun _ => 0))), (z 23, .inl (mC, 17576, .inl (fun _ => 0)))]) (w1 := []) hP hD [0, 1, 2, 3, 4, 5, 6, 7] [8, 9, 10, 11, 12] rfl rfl (by decide) (by decide) hk1 hFc (fun k q h => by simp at h) ⟨fun i j p q h => by simp at h, fun k q h => by simp at h⟩
  generalize H1 = H at hP hS ⊢
  have hP : va_P (dC, dI) vwCl [(y, .inr (10, mF z 0 0 0 0 0 0 0 0 0 (-1) (-1))), (z 0, .inl (mA, 101660, .inl (fun _ => 0))), (z 1, .inl (mT, 900, .inl (fun _ => 0))), (z 2, .inl (mX, 900, .inl (fun _ => 0))), (z 23, .inl (mC, 17576, .inl (fun _ => 0)))] H := hP
  have hD : va_D (fun q : Nat => s.heap.size ≤ q) [(y, .inr (10, mF z 0 0 0 0 0 0 0 0 0 (-1) (-1))), (z 0, .inl (mA, 101660, .inl (fun _ => 0))), (z 1, .inl (mT, 900, .inl (fun _ => 0))), (z 2, .inl (mX, 900, .inl (fun _ => 0))), (z 23, .inl (mC, 17576, .inl (fun _ => 0)))] := hD
  refine W.widen (k := 1222) (n := 311064) (by omega) (by omega) ?_
  refine lv_aload_n hx hb dL_law_976 rfl (lv_at hl 1 rfl) ?_
  refine lv_aload_n hx hb dL_law_977 rfl (lv_at hl 3 rfl) ?_
  refine lv_iload_n hx hb dL_law_978 rfl (lv_at hl 0 rfl) ?_
  refine lv_iconst (v := 1) hx hb dL_law_979 (by decide) ?_
  refine lv_iadd hx hb dL_law_980 ?_
  refine lv_topi (fun y_5 ey_5 => ?_)
  obtain rfl : y_5 = 1 := ey_5.trans (by first | rfl | decide)
  refine va_sld hx hb hX hbl hbA hS (i := 1) (by unfold vp_in; decide) dL_law_981 ?_
  have hPc := hP.sub (ws' := [(y, .inr (10, mF z 0 0 0 0 0 0 0 0 0 (-1) (-1))), (z 0, .inl (mA, 101660, .inl (fun _ => 0))), (z 1, .inl (mT, 900, .inl (fun _ => 0))), (z 2, .inl (mX, 900, .inl (fun _ => 0))), (z 23, .inl (mC, 17576, .inl (fun _ => 0)))]) [0, 1, 2, 3, 4] rfl
  have hKc := hK.sub (tys' := [(mA, .int), (mT, .byte), (mX, .byte), (mC, .boolean)]) [5, 6, 7, 8] rfl
  have hDc := hD.sub (ws' := [(y, .inr (10, mF z 0 0 0 0 0 0 0 0 0 (-1) (-1))), (z 0, .inl (mA, 101660, .inl (fun _ => 0))), (z 1, .inl (mT, 900, .inl (fun _ => 0))), (z 2, .inl (mX, 900, .inl (fun _ => 0))), (z 23, .inl (mC, 17576, .inl (fun _ => 0)))]) [0, 1, 2, 3, 4] (by decide) rfl
  have hFc := va_free (wc := [(y, .inr (10, mF z 0 0 0 0 0 0 0 0 0 (-1) (-1))), (z 0, .inl (mA, 101660, .inl (fun _ => 0))), (z 1, .inl (mT, 900, .inl (fun _ => 0))), (z 2, .inl (mX, 900, .inl (fun _ => 0))), (z 23, .inl (mC, 17576, .inl (fun _ => 0)))]) hD hS hA [0, 1, 2, 3, 4] rfl
  refine va_calli (va_runV (As := [.int (xs (Int32.toNatClampNeg 1))]) (rest := [.int r_3]) ⟨hx, hb, hml, hown, hts⟩ (m_drop l dC dI y z mA mT mX mC H.size (xs (Int32.toNatClampNeg 1))) (cwV 1 hts mg_L_law_X10_drop_113 rfl rfl rfl (by decide +kernel) ⟨Nat.le_of_ble_eq_true rfl, Nat.le_of_ble_eq_true rfl⟩) ⟨fun a U g mk q => by obtain ⟨q0, q1, qP, qK, qD⟩ := q; exact ⟨q0, q1, qP, va_K.moved (u := U) (U := U.calling g mk a) (Vm.Alike.refl U.vm) qK, qD⟩, va_recv hKc hPc (ci := 10) (q0 := 0) rfl rfl, fun U hU hW => ⟨rfl, by rw [hU], by rw [hU]; exact hPc, va_K.moved hW.alike hKc, hDc.weaken (fun _ _ _ _ => trivial)⟩⟩ rfl rfl hl.1 rfl (lv_room (Nat.le_of_ble_eq_true rfl)) dL_law_982 ⟨Nat.le_of_ble_eq_true rfl, Nat.le_of_ble_eq_true rfl⟩) hS (fun q _ h => hFc q h) hFc (fun r_7 u t H1 locs ht hvm hw hB hz1 hk1 hS => ?_)
  have hw_8 := hw
  obtain ⟨hP, hD⟩ := va_join (wr := []) (w1 := []) hP hD [0, 1, 2, 3, 4] [] rfl rfl (by decide) (by decide) hk1 hFc (fun k q h => by simp at h) ⟨fun i j p q h => by simp at h, fun k q h => by simp at h⟩
  generalize H1 = H at hP hS ⊢
  have hP : va_P (dC, dI) vwCl [] H := hP
  have hD : va_D (fun q : Nat => s.heap.size ≤ q) [] := hD
  refine W.widen (k := 1222) (n := 311064) (by omega) (by omega) ?_
  refine lv_icmp_eq (tgt := 1128) hx hb dL_law_985 (by decide) (fun k_9 => ?_) (fun k_9 => absurd (hw_4.trans hw_8.symm) k_9)
  exact law_end C0 (Nat.le_of_ble_eq_true rfl) (Nat.le_of_ble_eq_true rfl) hS hl
theorem dL_law_990 : decode cL_law 990 = .ok (.aload_n 1, 1) := by decide +kernel
theorem dL_law_991 : decode cL_law 991 = .ok (.aload_n 0, 1) := by decide +kernel
theorem dL_law_992 : decode cL_law 992 = .ok (.iload_n 3, 1) := by decide +kernel
theorem dL_law_993 : decode cL_law 993 = .ok (.iconst 1, 1) := by decide +kernel
theorem dL_law_994 : decode cL_law 994 = .ok (.iadd, 1) := by decide +kernel
theorem dL_law_995 : decode cL_law 995 = .ok (.iaload, 1) := by decide +kernel
theorem dL_law_996 : decode cL_law 996 = .ok (.invokevirtual 114, 3) := by decide +kernel
theorem dL_law_999 : decode cL_law 999 = .ok (.aload_n 2, 1) := by decide +kernel
theorem dL_law_1000 : decode cL_law 1000 = .ok (.aload_n 0, 1) := by decide +kernel
theorem dL_law_1001 : decode cL_law 1001 = .ok (.iload_n 3, 1) := by decide +kernel
theorem dL_law_1002 : decode cL_law 1002 = .ok (.iconst 1, 1) := by decide +kernel
theorem dL_law_1003 : decode cL_law 1003 = .ok (.iadd, 1) := by decide +kernel
theorem dL_law_1004 : decode cL_law 1004 = .ok (.iaload, 1) := by decide +kernel
theorem dL_law_1005 : decode cL_law 1005 = .ok (.invokevirtual 117, 3) := by decide +kernel
theorem dL_law_1008 : decode cL_law 1008 = .ok (.if_icmp .eq 120, 3) := by decide +kernel
set_option maxRecDepth 20000 in
theorem mg_L_law_X9_forget_114 : GoodIn lw_tbl (wsV RL 114 RX9 yX9_forget mwX9_forget) := goodIn_r _ [1071, 1072, 1073, 106, 1074, 361, 892, 148, 889, 890, 891, 107, 424, 356, 421, 423, 1, 106, 372, 374, 376, 378, 380, 382, 384, 386, 388, 390, 392, 394, 396, 398, 400, 402, 152, 154, 156] (by decide +kernel) (by decide +kernel)
set_option maxRecDepth 20000 in
theorem mg_L_law_X10_forget_117 : GoodIn lw_tbl (wsV RL 117 RX10 yX10_forget mwX10_forget) := goodIn_r _ [1710, 1711, 1712, 115, 1713, 1626, 1123, 1623, 1625, 99, 115, 1290, 1124, 1287, 1289, 33, 1171, 1173, 1175, 1177, 1179, 1181, 1183, 1185, 1187, 1189, 1191, 1193, 1195, 1197, 1199, 1201, 1203, 1205, 1207, 1209, 1211, 1213, 1215, 1217, 1219, 1221, 1223, 1225, 1227, 1229, 1231, 1233, 1235, 1237, 1239, 1241, 1243, 1245, 1247, 1249, 1251, 1253, 1255, 1257, 1259, 1261, 1263, 1265] (by decide +kernel) (by decide +kernel)
set_option maxHeartbeats 4000000 in
set_option maxRecDepth 100000 in
theorem law_case24 {p : Program} {l : Launch} {e : Env} {s : State} {m : MethodId} {below : List Frame} {meth : Method} {c : Code} {dC : Nat → ClassId} {dI : Nat → Nat → Nat} {b : Nat} {xs : Nat → Int32} (C0 : lw_At p s m meth c b 6 xs) {x : Nat} {q : Nat → Nat} {bk d0 p0 : Nat} {cT cD cP cB cU : ClassId} {r : Nat → Nat} {y : Nat} {z : Nat → Nat} {mA mT mX mC : ClassId} {H : Heap} {locs : List Loc} (hK : va_K (dC, dI) vwCl [(cT, .int), (cD, .object "PatternGate$Doc"), (cP, .object "PatternGate$Pattern"), (cB, .object "PatternGate$Book"), (cU, .int), (mA, .int), (mT, .byte), (mX, .byte), (mC, .boolean)] s) (hP : va_P (dC, dI) vwCl [(x, .inr (9, gF q 0 0 (-1) (-1) bk 0 0)), (q 0, .inl (cT, 900, .inl (fun _ => 0))), (bk, .inr (0, [.ref d0, .ref p0, .null])), (d0, .inl (cD, 0, .inr (.inr (.inr (.inr (fun _ => none)))))), (p0, .inl (cP, 0, .inr (.inr (.inr (.inr (fun _ => none)))))), (q 1, .inl (cB, 3, .inr (.inr (.inr (.inr (fun _ => none)))))), (q 2, .inl (cU, 3, .inl (fun _ => 0))), (q 3, .inr (6, rF r 0 0 0 0 0 0 0 0)), (y, .inr (10, mF z 0 0 0 0 0 0 0 0 0 (-1) (-1))), (z 0, .inl (mA, 101660, .inl (fun _ => 0))), (z 1, .inl (mT, 900, .inl (fun _ => 0))), (z 2, .inl (mX, 900, .inl (fun _ => 0))), (z 23, .inl (mC, 17576, .inl (fun _ => 0)))] H) (hD : va_D (fun q : Nat => s.heap.size ≤ q) [(x, .inr (9, gF q 0 0 (-1) (-1) bk 0 0)), (q 0, .inl (cT, 900, .inl (fun _ => 0))), (bk, .inr (0, [.ref d0, .ref p0, .null])), (d0, .inl (cD, 0, .inr (.inr (.inr (.inr (fun _ => none)))))), (p0, .inl (cP, 0, .inr (.inr (.inr (.inr (fun _ => none)))))), (q 1, .inl (cB, 3, .inr (.inr (.inr (.inr (fun _ => none)))))), (q 2, .inl (cU, 3, .inl (fun _ => 0))), (q 3, .inr (6, rF r 0 0 0 0 0 0 0 0)), (y, .inr (10, mF z 0 0 0 0 0 0 0 0 0 (-1) (-1))), (z 0, .inl (mA, 101660, .inl (fun _ => 0))), (z 1, .inl (mT, 900, .inl (fun _ => 0))), (z 2, .inl (mX, 900, .inl (fun _ => 0))), (z 23, .inl (mC, 17576, .inl (fun _ => 0)))]) (hS : va_S (fun q : Nat => s.heap.size ≤ q) s.heap H locs) (hAO2 : va_AO "PatternGate$Doc" s) (hAO5 : va_AO "PatternGate$Pattern" s) {ls : Array Slot} (hl : lv_has ls 4 [(3, .int 0), (2, .ref y), (1, .ref x), (0, .ref b)]) : W p l e room_1 s m #[Value.ref b] below meth c H locs 1222 311064 (lw_Z below #[Value.ref b] s) (F0 m 990 ls []) := by
  obtain ⟨hx, hb, hr, hml, hown, hts, hX, hbl, hlocks, hgv⟩ := id C0
  have hown : s.vm.findClass RL = some m.cls := hown
  have hA : ∀ q : Nat, s.heap.size ≤ q → (fun q : Nat => s.heap.size ≤ q) q := fun _ h => h
  have hbA : ¬ (fun q : Nat => s.heap.size ≤ q) b := Nat.not_le.mpr hbl
  refine lv_aload_n hx hb dL_law_990 rfl (lv_at hl 2 rfl) ?_
  refine lv_aload_n hx hb dL_law_991 rfl (lv_at hl 3 rfl) ?_
  refine lv_iload_n hx hb dL_law_992 rfl (lv_at hl 0 rfl) ?_
  refine lv_iconst (v := 1) hx hb dL_law_993 (by decide) ?_
  refine lv_iadd hx hb dL_law_994 ?_
  refine lv_topi (fun y_1 ey_1 => ?_)
  obtain rfl : y_1 = 1 := ey_1.trans (by first | rfl | decide)
  refine va_sld hx hb hX hbl hbA hS (i := 1) (by unfold vp_in; decide) dL_law_995 ?_
  have hPc := hP.sub (ws' := [(x, .inr (9, gF q 0 0 (-1) (-1) bk 0 0)), (q 0, .inl (cT, 900, .inl (fun _ => 0))), (bk, .inr (0, [.ref d0, .ref p0, .null])), (d0, .inl (cD, 0, .inr (.inr (.inr (.inr (fun _ => none)))))), (p0, .inl (cP, 0, .inr (.inr (.inr (.inr (fun _ => none)))))), (q 1, .inl (cB, 3, .inr (.inr (.inr (.inr (fun _ => none)))))), (q 2, .inl (cU, 3, .inl (fun _ => 0))), (q 3, .inr (6, rF r 0 0 0 0 0 0 0 0))]) [0, 1, 2, 3, 4, 5, 6, 7] rfl
  have hKc := hK.sub (tys' := [(cT, .int), (cD, .object "PatternGate$Doc"), (cP, .object "PatternGate$Pattern"), (cB, .object "PatternGate$Book"), (cU, .int)]) [0, 1, 2, 3, 4] rfl
  have hDc := hD.sub (ws' := [(x, .inr (9, gF q 0 0 (-1) (-1) bk 0 0)), (q 0, .inl (cT, 900, .inl (fun _ => 0))), (bk, .inr (0, [.ref d0, .ref p0, .null])), (d0, .inl (cD, 0, .inr (.inr (.inr (.inr (fun _ => none)))))), (p0, .inl (cP, 0, .inr (.inr (.inr (.inr (fun _ => none)))))), (q 1, .inl (cB, 3, .inr (.inr (.inr (.inr (fun _ => none)))))), (q 2, .inl (cU, 3, .inl (fun _ => 0))), (q 3, .inr (6, rF r 0 0 0 0 0 0 0 0))]) [0, 1, 2, 3, 4, 5, 6, 7] (by decide) rfl
  have hFc := va_free (wc := [(x, .inr (9, gF q 0 0 (-1) (-1) bk 0 0)), (q 0, .inl (cT, 900, .inl (fun _ => 0))), (bk, .inr (0, [.ref d0, .ref p0, .null])), (d0, .inl (cD, 0, .inr (.inr (.inr (.inr (fun _ => none)))))), (p0, .inl (cP, 0, .inr (.inr (.inr (.inr (fun _ => none)))))), (q 1, .inl (cB, 3, .inr (.inr (.inr (.inr (fun _ => none)))))), (q 2, .inl (cU, 3, .inl (fun _ => 0))), (q 3, .inr (6, rF r 0 0 0 0 0 0 0 0))]) hD hS hA [0, 1, 2, 3, 4, 5, 6, 7] rfl
  refine va_calli (va_runV (As := [.int (xs (Int32.toNatClampNeg 1))]) (rest := []) ⟨hx, hb, hml, hown, hts⟩ (c_forget l dC dI x q bk d0 p0 cT cD cP cB cU r H.size (xs (Int32.toNatClampNeg 1))) (cwV 1 hts mg_L_law_X9_forget_114 rfl rfl rfl (by decide +kernel) ⟨Nat.le_of_ble_eq_true rfl, Nat.le_of_ble_eq_true rfl⟩) ⟨fun a U g mk q => by obtain ⟨q0, q1, qP, qK, qD⟩ := q; exact ⟨q0, q1, qP, va_K.moved (u := U) (U := U.calling g mk a) (Vm.Alike.refl U.vm) qK, qD⟩, va_recv hKc hPc (ci := 9) (q0 := 0) rfl rfl, fun U hU hW => ⟨rfl, by rw [hU], by rw [hU]; exact hPc, va_K.moved hW.alike hKc, hDc.weaken (fun _ _ _ _ => trivial)⟩⟩ rfl rfl hl.1 rfl (lv_room (Nat.le_of_ble_eq_true rfl)) dL_law_996 ⟨Nat.le_of_ble_eq_true rfl, Nat.le_of_ble_eq_true rfl⟩) hS (fun q _ h => hFc q h) hFc (fun r_3 u t H1 locs ht hvm hw hB hz1 hk1 hS => ?_)
  have hw_4 := hw
  obtain ⟨hP, hD⟩ := va_join (wr := [(y, .inr (10, mF z 0 0 0 0 0 0 0 0 0 (-1) (-1))), (z 0, .inl (mA, 101660, .inl (fun _ => 0))), (z 1, .inl (mT, 900, .inl (fun _ => 0))), (z 2, .inl (mX, 900, .inl (fun _ => 0))), (z 23, .inl (mC, 17576, .inl (fun _ => 0)))]) (w1 := []) hP hD [0, 1, 2, 3, 4, 5, 6, 7] [8, 9, 10, 11, 12] rfl rfl (by decide) (by decide) hk1 hFc (fun k q h => by simp at h) ⟨fun i j p q h => by simp at h, fun k q h => by simp at h⟩
  generalize H1 = H at hP hS ⊢
  have hP : va_P (dC, dI) vwCl [(y, .inr (10, mF z 0 0 0 0 0 0 0 0 0 (-1) (-1))), (z 0, .inl (mA, 101660, .inl (fun _ => 0))), (z 1, .inl (mT, 900, .inl (fun _ => 0))), (z 2, .inl (mX, 900, .inl (fun _ => 0))), (z 23, .inl (mC, 17576, .inl (fun _ => 0)))] H := hP
  have hD : va_D (fun q : Nat => s.heap.size ≤ q) [(y, .inr (10, mF z 0 0 0 0 0 0 0 0 0 (-1) (-1))), (z 0, .inl (mA, 101660, .inl (fun _ => 0))), (z 1, .inl (mT, 900, .inl (fun _ => 0))), (z 2, .inl (mX, 900, .inl (fun _ => 0))), (z 23, .inl (mC, 17576, .inl (fun _ => 0)))] := hD
  refine W.widen (k := 1222) (n := 311064) (by omega) (by omega) ?_
  refine lv_aload_n hx hb dL_law_999 rfl (lv_at hl 1 rfl) ?_
  refine lv_aload_n hx hb dL_law_1000 rfl (lv_at hl 3 rfl) ?_
  refine lv_iload_n hx hb dL_law_1001 rfl (lv_at hl 0 rfl) ?_
  refine lv_iconst (v := 1) hx hb dL_law_1002 (by decide) ?_
  refine lv_iadd hx hb dL_law_1003 ?_
  refine lv_topi (fun y_5 ey_5 => ?_)
  obtain rfl : y_5 = 1 := ey_5.trans (by first | rfl | decide)
  refine va_sld hx hb hX hbl hbA hS (i := 1) (by unfold vp_in; decide) dL_law_1004 ?_
  have hPc := hP.sub (ws' := [(y, .inr (10, mF z 0 0 0 0 0 0 0 0 0 (-1) (-1))), (z 0, .inl (mA, 101660, .inl (fun _ => 0))), (z 1, .inl (mT, 900, .inl (fun _ => 0))), (z 2, .inl (mX, 900, .inl (fun _ => 0))), (z 23, .inl (mC, 17576, .inl (fun _ => 0)))]) [0, 1, 2, 3, 4] rfl
  have hKc := hK.sub (tys' := [(mA, .int), (mT, .byte), (mX, .byte), (mC, .boolean)]) [5, 6, 7, 8] rfl
  have hDc := hD.sub (ws' := [(y, .inr (10, mF z 0 0 0 0 0 0 0 0 0 (-1) (-1))), (z 0, .inl (mA, 101660, .inl (fun _ => 0))), (z 1, .inl (mT, 900, .inl (fun _ => 0))), (z 2, .inl (mX, 900, .inl (fun _ => 0))), (z 23, .inl (mC, 17576, .inl (fun _ => 0)))]) [0, 1, 2, 3, 4] (by decide) rfl
  have hFc := va_free (wc := [(y, .inr (10, mF z 0 0 0 0 0 0 0 0 0 (-1) (-1))), (z 0, .inl (mA, 101660, .inl (fun _ => 0))), (z 1, .inl (mT, 900, .inl (fun _ => 0))), (z 2, .inl (mX, 900, .inl (fun _ => 0))), (z 23, .inl (mC, 17576, .inl (fun _ => 0)))]) hD hS hA [0, 1, 2, 3, 4] rfl
  refine va_calli (va_runV (As := [.int (xs (Int32.toNatClampNeg 1))]) (rest := [.int r_3]) ⟨hx, hb, hml, hown, hts⟩ (m_forget l dC dI y z mA mT mX mC H.size (xs (Int32.toNatClampNeg 1))) (cwV 1 hts mg_L_law_X10_forget_117 rfl rfl rfl (by decide +kernel) ⟨Nat.le_of_ble_eq_true rfl, Nat.le_of_ble_eq_true rfl⟩) ⟨fun a U g mk q => by obtain ⟨q0, q1, qP, qK, qD⟩ := q; exact ⟨q0, q1, qP, va_K.moved (u := U) (U := U.calling g mk a) (Vm.Alike.refl U.vm) qK, qD⟩, va_recv hKc hPc (ci := 10) (q0 := 0) rfl rfl, fun U hU hW => ⟨rfl, by rw [hU], by rw [hU]; exact hPc, va_K.moved hW.alike hKc, hDc.weaken (fun _ _ _ _ => trivial)⟩⟩ rfl rfl hl.1 rfl (lv_room (Nat.le_of_ble_eq_true rfl)) dL_law_1005 ⟨Nat.le_of_ble_eq_true rfl, Nat.le_of_ble_eq_true rfl⟩) hS (fun q _ h => hFc q h) hFc (fun r_7 u t H1 locs ht hvm hw hB hz1 hk1 hS => ?_)
  have hw_8 := hw
  obtain ⟨hP, hD⟩ := va_join (wr := []) (w1 := []) hP hD [0, 1, 2, 3, 4] [] rfl rfl (by decide) (by decide) hk1 hFc (fun k q h => by simp at h) ⟨fun i j p q h => by simp at h, fun k q h => by simp at h⟩
  generalize H1 = H at hP hS ⊢
  have hP : va_P (dC, dI) vwCl [] H := hP
  have hD : va_D (fun q : Nat => s.heap.size ≤ q) [] := hD
  refine W.widen (k := 1222) (n := 311064) (by omega) (by omega) ?_
  refine lv_icmp_eq (tgt := 1128) hx hb dL_law_1008 (by decide) (fun k_9 => ?_) (fun k_9 => absurd (hw_4.trans hw_8.symm) k_9)
  exact law_end C0 (Nat.le_of_ble_eq_true rfl) (Nat.le_of_ble_eq_true rfl) hS hl
theorem dL_law_1013 : decode cL_law 1013 = .ok (.aload_n 1, 1) := by decide +kernel
theorem dL_law_1014 : decode cL_law 1014 = .ok (.invokevirtual 118, 3) := by decide +kernel
theorem dL_law_1017 : decode cL_law 1017 = .ok (.aload_n 2, 1) := by decide +kernel
theorem dL_law_1018 : decode cL_law 1018 = .ok (.invokevirtual 121, 3) := by decide +kernel
theorem dL_law_1021 : decode cL_law 1021 = .ok (.if_icmp .eq 107, 3) := by decide +kernel
set_option maxRecDepth 20000 in
theorem mg_L_law_X9_undo_118 : GoodIn lw_tbl (wsV RL 118 RX9 yX9_undo mwX9_undo) := goodIn_r _ [1080, 1081, 1082, 106, 1083, 361, 151, 362, 424, 356, 421, 423, 1, 106, 372, 374, 376, 378, 380, 382, 384, 386, 388, 390, 392, 394, 396, 398, 400, 402, 152, 154, 156] (by decide +kernel) (by decide +kernel)
set_option maxRecDepth 20000 in
theorem mg_L_law_X10_undo_121 : GoodIn lw_tbl (wsV RL 121 RX10 yX10_undo mwX10_undo) := goodIn_r _ [1714, 1715, 1716, 115, 1717, 1125, 1290, 1124, 1287, 1289, 33, 115, 1171, 1173, 1175, 1177, 1179, 1181, 1183, 1185, 1187, 1189, 1191, 1193, 1195, 1197, 1199, 1201, 1203, 1205, 1207, 1209, 1211, 1213, 1215, 1217, 1219, 1221, 1223, 1225, 1227, 1229, 1231, 1233, 1235, 1237, 1239, 1241, 1243, 1245, 1247, 1249, 1251, 1253, 1255, 1257, 1259, 1261, 1263, 1265] (by decide +kernel) (by decide +kernel)
set_option maxHeartbeats 4000000 in
set_option maxRecDepth 100000 in
theorem law_case25 {p : Program} {l : Launch} {e : Env} {s : State} {m : MethodId} {below : List Frame} {meth : Method} {c : Code} {dC : Nat → ClassId} {dI : Nat → Nat → Nat} {b : Nat} {xs : Nat → Int32} (C0 : lw_At p s m meth c b 6 xs) {x : Nat} {q : Nat → Nat} {bk d0 p0 : Nat} {cT cD cP cB cU : ClassId} {r : Nat → Nat} {y : Nat} {z : Nat → Nat} {mA mT mX mC : ClassId} {H : Heap} {locs : List Loc} (hK : va_K (dC, dI) vwCl [(cT, .int), (cD, .object "PatternGate$Doc"), (cP, .object "PatternGate$Pattern"), (cB, .object "PatternGate$Book"), (cU, .int), (mA, .int), (mT, .byte), (mX, .byte), (mC, .boolean)] s) (hP : va_P (dC, dI) vwCl [(x, .inr (9, gF q 0 0 (-1) (-1) bk 0 0)), (q 0, .inl (cT, 900, .inl (fun _ => 0))), (bk, .inr (0, [.ref d0, .ref p0, .null])), (d0, .inl (cD, 0, .inr (.inr (.inr (.inr (fun _ => none)))))), (p0, .inl (cP, 0, .inr (.inr (.inr (.inr (fun _ => none)))))), (q 1, .inl (cB, 3, .inr (.inr (.inr (.inr (fun _ => none)))))), (q 2, .inl (cU, 3, .inl (fun _ => 0))), (q 3, .inr (6, rF r 0 0 0 0 0 0 0 0)), (y, .inr (10, mF z 0 0 0 0 0 0 0 0 0 (-1) (-1))), (z 0, .inl (mA, 101660, .inl (fun _ => 0))), (z 1, .inl (mT, 900, .inl (fun _ => 0))), (z 2, .inl (mX, 900, .inl (fun _ => 0))), (z 23, .inl (mC, 17576, .inl (fun _ => 0)))] H) (hD : va_D (fun q : Nat => s.heap.size ≤ q) [(x, .inr (9, gF q 0 0 (-1) (-1) bk 0 0)), (q 0, .inl (cT, 900, .inl (fun _ => 0))), (bk, .inr (0, [.ref d0, .ref p0, .null])), (d0, .inl (cD, 0, .inr (.inr (.inr (.inr (fun _ => none)))))), (p0, .inl (cP, 0, .inr (.inr (.inr (.inr (fun _ => none)))))), (q 1, .inl (cB, 3, .inr (.inr (.inr (.inr (fun _ => none)))))), (q 2, .inl (cU, 3, .inl (fun _ => 0))), (q 3, .inr (6, rF r 0 0 0 0 0 0 0 0)), (y, .inr (10, mF z 0 0 0 0 0 0 0 0 0 (-1) (-1))), (z 0, .inl (mA, 101660, .inl (fun _ => 0))), (z 1, .inl (mT, 900, .inl (fun _ => 0))), (z 2, .inl (mX, 900, .inl (fun _ => 0))), (z 23, .inl (mC, 17576, .inl (fun _ => 0)))]) (hS : va_S (fun q : Nat => s.heap.size ≤ q) s.heap H locs) (hAO2 : va_AO "PatternGate$Doc" s) (hAO5 : va_AO "PatternGate$Pattern" s) {ls : Array Slot} (hl : lv_has ls 4 [(3, .int 0), (2, .ref y), (1, .ref x), (0, .ref b)]) : W p l e room_1 s m #[Value.ref b] below meth c H locs 1222 311064 (lw_Z below #[Value.ref b] s) (F0 m 1013 ls []) := by
  obtain ⟨hx, hb, hr, hml, hown, hts, hX, hbl, hlocks, hgv⟩ := id C0
  have hown : s.vm.findClass RL = some m.cls := hown
  have hA : ∀ q : Nat, s.heap.size ≤ q → (fun q : Nat => s.heap.size ≤ q) q := fun _ h => h
  have hbA : ¬ (fun q : Nat => s.heap.size ≤ q) b := Nat.not_le.mpr hbl
  refine lv_aload_n hx hb dL_law_1013 rfl (lv_at hl 2 rfl) ?_
  have hPc := hP.sub (ws' := [(x, .inr (9, gF q 0 0 (-1) (-1) bk 0 0)), (q 0, .inl (cT, 900, .inl (fun _ => 0))), (bk, .inr (0, [.ref d0, .ref p0, .null])), (d0, .inl (cD, 0, .inr (.inr (.inr (.inr (fun _ => none)))))), (p0, .inl (cP, 0, .inr (.inr (.inr (.inr (fun _ => none)))))), (q 1, .inl (cB, 3, .inr (.inr (.inr (.inr (fun _ => none)))))), (q 2, .inl (cU, 3, .inl (fun _ => 0))), (q 3, .inr (6, rF r 0 0 0 0 0 0 0 0))]) [0, 1, 2, 3, 4, 5, 6, 7] rfl
  have hKc := hK.sub (tys' := [(cT, .int), (cD, .object "PatternGate$Doc"), (cP, .object "PatternGate$Pattern"), (cB, .object "PatternGate$Book"), (cU, .int)]) [0, 1, 2, 3, 4] rfl
  have hDc := hD.sub (ws' := [(x, .inr (9, gF q 0 0 (-1) (-1) bk 0 0)), (q 0, .inl (cT, 900, .inl (fun _ => 0))), (bk, .inr (0, [.ref d0, .ref p0, .null])), (d0, .inl (cD, 0, .inr (.inr (.inr (.inr (fun _ => none)))))), (p0, .inl (cP, 0, .inr (.inr (.inr (.inr (fun _ => none)))))), (q 1, .inl (cB, 3, .inr (.inr (.inr (.inr (fun _ => none)))))), (q 2, .inl (cU, 3, .inl (fun _ => 0))), (q 3, .inr (6, rF r 0 0 0 0 0 0 0 0))]) [0, 1, 2, 3, 4, 5, 6, 7] (by decide) rfl
  have hFc := va_free (wc := [(x, .inr (9, gF q 0 0 (-1) (-1) bk 0 0)), (q 0, .inl (cT, 900, .inl (fun _ => 0))), (bk, .inr (0, [.ref d0, .ref p0, .null])), (d0, .inl (cD, 0, .inr (.inr (.inr (.inr (fun _ => none)))))), (p0, .inl (cP, 0, .inr (.inr (.inr (.inr (fun _ => none)))))), (q 1, .inl (cB, 3, .inr (.inr (.inr (.inr (fun _ => none)))))), (q 2, .inl (cU, 3, .inl (fun _ => 0))), (q 3, .inr (6, rF r 0 0 0 0 0 0 0 0))]) hD hS hA [0, 1, 2, 3, 4, 5, 6, 7] rfl
  refine va_calli (va_runV (As := []) (rest := []) ⟨hx, hb, hml, hown, hts⟩ (c_undo l dC dI x q bk d0 p0 cT cD cP cB cU r H.size) (cwV 0 hts mg_L_law_X9_undo_118 rfl rfl rfl (by decide +kernel) ⟨Nat.le_of_ble_eq_true rfl, Nat.le_of_ble_eq_true rfl⟩) ⟨fun a U g mk q => by obtain ⟨q0, q1, qP, qK, qD⟩ := q; exact ⟨q0, q1, qP, va_K.moved (u := U) (U := U.calling g mk a) (Vm.Alike.refl U.vm) qK, qD⟩, va_recv hKc hPc (ci := 9) (q0 := 0) rfl rfl, fun U hU hW => ⟨rfl, by rw [hU], by rw [hU]; exact hPc, va_K.moved hW.alike hKc, hDc.weaken (fun _ _ _ _ => trivial)⟩⟩ rfl rfl hl.1 rfl (lv_room (Nat.le_of_ble_eq_true rfl)) dL_law_1014 ⟨Nat.le_of_ble_eq_true rfl, Nat.le_of_ble_eq_true rfl⟩) hS (fun q _ h => hFc q h) hFc (fun r_2 u t H1 locs ht hvm hw hB hz1 hk1 hS => ?_)
  have hw_3 := hw
  obtain ⟨hP, hD⟩ := va_join (wr := [(y, .inr (10, mF z 0 0 0 0 0 0 0 0 0 (-1) (-1))), (z 0, .inl (mA, 101660, .inl (fun _ => 0))), (z 1, .inl (mT, 900, .inl (fun _ => 0))), (z 2, .inl (mX, 900, .inl (fun _ => 0))), (z 23, .inl (mC, 17576, .inl (fun _ => 0)))]) (w1 := []) hP hD [0, 1, 2, 3, 4, 5, 6, 7] [8, 9, 10, 11, 12] rfl rfl (by decide) (by decide) hk1 hFc (fun k q h => by simp at h) ⟨fun i j p q h => by simp at h, fun k q h => by simp at h⟩
  generalize H1 = H at hP hS ⊢
  have hP : va_P (dC, dI) vwCl [(y, .inr (10, mF z 0 0 0 0 0 0 0 0 0 (-1) (-1))), (z 0, .inl (mA, 101660, .inl (fun _ => 0))), (z 1, .inl (mT, 900, .inl (fun _ => 0))), (z 2, .inl (mX, 900, .inl (fun _ => 0))), (z 23, .inl (mC, 17576, .inl (fun _ => 0)))] H := hP
  have hD : va_D (fun q : Nat => s.heap.size ≤ q) [(y, .inr (10, mF z 0 0 0 0 0 0 0 0 0 (-1) (-1))), (z 0, .inl (mA, 101660, .inl (fun _ => 0))), (z 1, .inl (mT, 900, .inl (fun _ => 0))), (z 2, .inl (mX, 900, .inl (fun _ => 0))), (z 23, .inl (mC, 17576, .inl (fun _ => 0)))] := hD
  refine W.widen (k := 1222) (n := 311064) (by omega) (by omega) ?_
  refine lv_aload_n hx hb dL_law_1017 rfl (lv_at hl 1 rfl) ?_
  have hPc := hP.sub (ws' := [(y, .inr (10, mF z 0 0 0 0 0 0 0 0 0 (-1) (-1))), (z 0, .inl (mA, 101660, .inl (fun _ => 0))), (z 1, .inl (mT, 900, .inl (fun _ => 0))), (z 2, .inl (mX, 900, .inl (fun _ => 0))), (z 23, .inl (mC, 17576, .inl (fun _ => 0)))]) [0, 1, 2, 3, 4] rfl
  have hKc := hK.sub (tys' := [(mA, .int), (mT, .byte), (mX, .byte), (mC, .boolean)]) [5, 6, 7, 8] rfl
  have hDc := hD.sub (ws' := [(y, .inr (10, mF z 0 0 0 0 0 0 0 0 0 (-1) (-1))), (z 0, .inl (mA, 101660, .inl (fun _ => 0))), (z 1, .inl (mT, 900, .inl (fun _ => 0))), (z 2, .inl (mX, 900, .inl (fun _ => 0))), (z 23, .inl (mC, 17576, .inl (fun _ => 0)))]) [0, 1, 2, 3, 4] (by decide) rfl
  have hFc := va_free (wc := [(y, .inr (10, mF z 0 0 0 0 0 0 0 0 0 (-1) (-1))), (z 0, .inl (mA, 101660, .inl (fun _ => 0))), (z 1, .inl (mT, 900, .inl (fun _ => 0))), (z 2, .inl (mX, 900, .inl (fun _ => 0))), (z 23, .inl (mC, 17576, .inl (fun _ => 0)))]) hD hS hA [0, 1, 2, 3, 4] rfl
  refine va_calli (va_runV (As := []) (rest := [.int r_2]) ⟨hx, hb, hml, hown, hts⟩ (m_undo l dC dI y z mA mT mX mC H.size) (cwV 0 hts mg_L_law_X10_undo_121 rfl rfl rfl (by decide +kernel) ⟨Nat.le_of_ble_eq_true rfl, Nat.le_of_ble_eq_true rfl⟩) ⟨fun a U g mk q => by obtain ⟨q0, q1, qP, qK, qD⟩ := q; exact ⟨q0, q1, qP, va_K.moved (u := U) (U := U.calling g mk a) (Vm.Alike.refl U.vm) qK, qD⟩, va_recv hKc hPc (ci := 10) (q0 := 0) rfl rfl, fun U hU hW => ⟨rfl, by rw [hU], by rw [hU]; exact hPc, va_K.moved hW.alike hKc, hDc.weaken (fun _ _ _ _ => trivial)⟩⟩ rfl rfl hl.1 rfl (lv_room (Nat.le_of_ble_eq_true rfl)) dL_law_1018 ⟨Nat.le_of_ble_eq_true rfl, Nat.le_of_ble_eq_true rfl⟩) hS (fun q _ h => hFc q h) hFc (fun r_5 u t H1 locs ht hvm hw hB hz1 hk1 hS => ?_)
  have hw_6 := hw
  obtain ⟨hP, hD⟩ := va_join (wr := []) (w1 := []) hP hD [0, 1, 2, 3, 4] [] rfl rfl (by decide) (by decide) hk1 hFc (fun k q h => by simp at h) ⟨fun i j p q h => by simp at h, fun k q h => by simp at h⟩
  generalize H1 = H at hP hS ⊢
  have hP : va_P (dC, dI) vwCl [] H := hP
  have hD : va_D (fun q : Nat => s.heap.size ≤ q) [] := hD
  refine W.widen (k := 1222) (n := 311064) (by omega) (by omega) ?_
  refine lv_icmp_eq (tgt := 1128) hx hb dL_law_1021 (by decide) (fun k_7 => ?_) (fun k_7 => absurd (hw_3.trans hw_6.symm) k_7)
  exact law_end C0 (Nat.le_of_ble_eq_true rfl) (Nat.le_of_ble_eq_true rfl) hS hl
theorem dL_law_1026 : decode cL_law 1026 = .ok (.aload_n 1, 1) := by decide +kernel
theorem dL_law_1027 : decode cL_law 1027 = .ok (.invokevirtual 122, 3) := by decide +kernel
theorem dL_law_1030 : decode cL_law 1030 = .ok (.aload_n 2, 1) := by decide +kernel
theorem dL_law_1031 : decode cL_law 1031 = .ok (.invokevirtual 125, 3) := by decide +kernel
theorem dL_law_1034 : decode cL_law 1034 = .ok (.if_icmp .eq 94, 3) := by decide +kernel
set_option maxRecDepth 20000 in
theorem mg_L_law_X9_mark_122 : GoodIn lw_tbl (wsV RL 122 RX9 yX9_mark mwX9_mark) := goodIn_r _ [1084, 1085, 1086, 106, 1087, 365, 363, 361, 364, 362, 847, 356, 844, 846, 24, 106, 372, 374, 376, 378, 380, 382, 384, 386, 388, 390, 392, 394, 396, 398, 400, 402] (by decide +kernel) (by decide +kernel)
set_option maxRecDepth 20000 in
theorem mg_L_law_X10_mark_125 : GoodIn lw_tbl (wsV RL 125 RX10 yX10_mark mwX10_mark) := goodIn_r _ [1718, 1719, 1720, 115, 1721, 1126, 1722, 1298, 1123, 1295, 1297, 35, 115, 1368, 1124, 1365, 1367, 50, 1171, 1173, 1175, 1177, 1179, 1181, 1183, 1185, 1187, 1189, 1191, 1193, 1195, 1197, 1199, 1201, 1203, 1205, 1207, 1209, 1211, 1213, 1215, 1217, 1219, 1221, 1223, 1225, 1227, 1229, 1231, 1233, 1235, 1237, 1239, 1241, 1243, 1245, 1247, 1249, 1251, 1253, 1255, 1257, 1259, 1261, 1263, 1265] (by decide +kernel) (by decide +kernel)
set_option maxHeartbeats 4000000 in
set_option maxRecDepth 100000 in
theorem law_case26 {p : Program} {l : Launch} {e : Env} {s : State} {m : MethodId} {below : List Frame} {meth : Method} {c : Code} {dC : Nat → ClassId} {dI : Nat → Nat → Nat} {b : Nat} {xs : Nat → Int32} (C0 : lw_At p s m meth c b 6 xs) {x : Nat} {q : Nat → Nat} {bk d0 p0 : Nat} {cT cD cP cB cU : ClassId} {r : Nat → Nat} {y : Nat} {z : Nat → Nat} {mA mT mX mC : ClassId} {H : Heap} {locs : List Loc} (hK : va_K (dC, dI) vwCl [(cT, .int), (cD, .object "PatternGate$Doc"), (cP, .object "PatternGate$Pattern"), (cB, .object "PatternGate$Book"), (cU, .int), (mA, .int), (mT, .byte), (mX, .byte), (mC, .boolean)] s) (hP : va_P (dC, dI) vwCl [(x, .inr (9, gF q 0 0 (-1) (-1) bk 0 0)), (q 0, .inl (cT, 900, .inl (fun _ => 0))), (bk, .inr (0, [.ref d0, .ref p0, .null])), (d0, .inl (cD, 0, .inr (.inr (.inr (.inr (fun _ => none)))))), (p0, .inl (cP, 0, .inr (.inr (.inr (.inr (fun _ => none)))))), (q 1, .inl (cB, 3, .inr (.inr (.inr (.inr (fun _ => none)))))), (q 2, .inl (cU, 3, .inl (fun _ => 0))), (q 3, .inr (6, rF r 0 0 0 0 0 0 0 0)), (y, .inr (10, mF z 0 0 0 0 0 0 0 0 0 (-1) (-1))), (z 0, .inl (mA, 101660, .inl (fun _ => 0))), (z 1, .inl (mT, 900, .inl (fun _ => 0))), (z 2, .inl (mX, 900, .inl (fun _ => 0))), (z 23, .inl (mC, 17576, .inl (fun _ => 0)))] H) (hD : va_D (fun q : Nat => s.heap.size ≤ q) [(x, .inr (9, gF q 0 0 (-1) (-1) bk 0 0)), (q 0, .inl (cT, 900, .inl (fun _ => 0))), (bk, .inr (0, [.ref d0, .ref p0, .null])), (d0, .inl (cD, 0, .inr (.inr (.inr (.inr (fun _ => none)))))), (p0, .inl (cP, 0, .inr (.inr (.inr (.inr (fun _ => none)))))), (q 1, .inl (cB, 3, .inr (.inr (.inr (.inr (fun _ => none)))))), (q 2, .inl (cU, 3, .inl (fun _ => 0))), (q 3, .inr (6, rF r 0 0 0 0 0 0 0 0)), (y, .inr (10, mF z 0 0 0 0 0 0 0 0 0 (-1) (-1))), (z 0, .inl (mA, 101660, .inl (fun _ => 0))), (z 1, .inl (mT, 900, .inl (fun _ => 0))), (z 2, .inl (mX, 900, .inl (fun _ => 0))), (z 23, .inl (mC, 17576, .inl (fun _ => 0)))]) (hS : va_S (fun q : Nat => s.heap.size ≤ q) s.heap H locs) (hAO2 : va_AO "PatternGate$Doc" s) (hAO5 : va_AO "PatternGate$Pattern" s) {ls : Array Slot} (hl : lv_has ls 4 [(3, .int 0), (2, .ref y), (1, .ref x), (0, .ref b)]) : W p l e room_1 s m #[Value.ref b] below meth c H locs 1222 311064 (lw_Z below #[Value.ref b] s) (F0 m 1026 ls []) := by
  obtain ⟨hx, hb, hr, hml, hown, hts, hX, hbl, hlocks, hgv⟩ := id C0
  have hown : s.vm.findClass RL = some m.cls := hown
  have hA : ∀ q : Nat, s.heap.size ≤ q → (fun q : Nat => s.heap.size ≤ q) q := fun _ h => h
  have hbA : ¬ (fun q : Nat => s.heap.size ≤ q) b := Nat.not_le.mpr hbl
  refine lv_aload_n hx hb dL_law_1026 rfl (lv_at hl 2 rfl) ?_
  have hPc := hP.sub (ws' := [(x, .inr (9, gF q 0 0 (-1) (-1) bk 0 0)), (q 0, .inl (cT, 900, .inl (fun _ => 0))), (bk, .inr (0, [.ref d0, .ref p0, .null])), (d0, .inl (cD, 0, .inr (.inr (.inr (.inr (fun _ => none)))))), (p0, .inl (cP, 0, .inr (.inr (.inr (.inr (fun _ => none)))))), (q 1, .inl (cB, 3, .inr (.inr (.inr (.inr (fun _ => none)))))), (q 2, .inl (cU, 3, .inl (fun _ => 0))), (q 3, .inr (6, rF r 0 0 0 0 0 0 0 0))]) [0, 1, 2, 3, 4, 5, 6, 7] rfl
  have hKc := hK.sub (tys' := [(cT, .int), (cD, .object "PatternGate$Doc"), (cP, .object "PatternGate$Pattern"), (cB, .object "PatternGate$Book"), (cU, .int)]) [0, 1, 2, 3, 4] rfl
  have hDc := hD.sub (ws' := [(x, .inr (9, gF q 0 0 (-1) (-1) bk 0 0)), (q 0, .inl (cT, 900, .inl (fun _ => 0))), (bk, .inr (0, [.ref d0, .ref p0, .null])), (d0, .inl (cD, 0, .inr (.inr (.inr (.inr (fun _ => none)))))), (p0, .inl (cP, 0, .inr (.inr (.inr (.inr (fun _ => none)))))), (q 1, .inl (cB, 3, .inr (.inr (.inr (.inr (fun _ => none)))))), (q 2, .inl (cU, 3, .inl (fun _ => 0))), (q 3, .inr (6, rF r 0 0 0 0 0 0 0 0))]) [0, 1, 2, 3, 4, 5, 6, 7] (by decide) rfl
  have hFc := va_free (wc := [(x, .inr (9, gF q 0 0 (-1) (-1) bk 0 0)), (q 0, .inl (cT, 900, .inl (fun _ => 0))), (bk, .inr (0, [.ref d0, .ref p0, .null])), (d0, .inl (cD, 0, .inr (.inr (.inr (.inr (fun _ => none)))))), (p0, .inl (cP, 0, .inr (.inr (.inr (.inr (fun _ => none)))))), (q 1, .inl (cB, 3, .inr (.inr (.inr (.inr (fun _ => none)))))), (q 2, .inl (cU, 3, .inl (fun _ => 0))), (q 3, .inr (6, rF r 0 0 0 0 0 0 0 0))]) hD hS hA [0, 1, 2, 3, 4, 5, 6, 7] rfl
  refine va_calli (va_runV (As := []) (rest := []) ⟨hx, hb, hml, hown, hts⟩ (c_mark l dC dI x q bk d0 p0 cT cD cP cB cU r H.size) (cwV 0 hts mg_L_law_X9_mark_122 rfl rfl rfl (by decide +kernel) ⟨Nat.le_of_ble_eq_true rfl, Nat.le_of_ble_eq_true rfl⟩) ⟨fun a U g mk q => by obtain ⟨q0, q1, qP, qK, qD⟩ := q; exact ⟨q0, q1, qP, va_K.moved (u := U) (U := U.calling g mk a) (Vm.Alike.refl U.vm) qK, qD⟩, va_recv hKc hPc (ci := 9) (q0 := 0) rfl rfl, fun U hU hW => ⟨rfl, by rw [hU], by rw [hU]; exact hPc, va_K.moved hW.alike hKc, hDc.weaken (fun _ _ _ _ => trivial)⟩⟩ rfl rfl hl.1 rfl (lv_room (Nat.le_of_ble_eq_true rfl)) dL_law_1027 ⟨Nat.le_of_ble_eq_true rfl, Nat.le_of_ble_eq_true rfl⟩) hS (fun q _ h => hFc q h) hFc (fun r_2 u t H1 locs ht hvm hw hB hz1 hk1 hS => ?_)
  have hw_3 := hw
  obtain ⟨hP, hD⟩ := va_join (wr := [(y, .inr (10, mF z 0 0 0 0 0 0 0 0 0 (-1) (-1))), (z 0, .inl (mA, 101660, .inl (fun _ => 0))), (z 1, .inl (mT, 900, .inl (fun _ => 0))), (z 2, .inl (mX, 900, .inl (fun _ => 0))), (z 23, .inl (mC, 17576, .inl (fun _ => 0)))]) (w1 := []) hP hD [0, 1, 2, 3, 4, 5, 6, 7] [8, 9, 10, 11, 12] rfl rfl (by decide) (by decide) hk1 hFc (fun k q h => by simp at h) ⟨fun i j p q h => by simp at h, fun k q h => by simp at h⟩
  generalize H1 = H at hP hS ⊢
  have hP : va_P (dC, dI) vwCl [(y, .inr (10, mF z 0 0 0 0 0 0 0 0 0 (-1) (-1))), (z 0, .inl (mA, 101660, .inl (fun _ => 0))), (z 1, .inl (mT, 900, .inl (fun _ => 0))), (z 2, .inl (mX, 900, .inl (fun _ => 0))), (z 23, .inl (mC, 17576, .inl (fun _ => 0)))] H := hP
  have hD : va_D (fun q : Nat => s.heap.size ≤ q) [(y, .inr (10, mF z 0 0 0 0 0 0 0 0 0 (-1) (-1))), (z 0, .inl (mA, 101660, .inl (fun _ => 0))), (z 1, .inl (mT, 900, .inl (fun _ => 0))), (z 2, .inl (mX, 900, .inl (fun _ => 0))), (z 23, .inl (mC, 17576, .inl (fun _ => 0)))] := hD
  refine W.widen (k := 1222) (n := 311064) (by omega) (by omega) ?_
  refine lv_aload_n hx hb dL_law_1030 rfl (lv_at hl 1 rfl) ?_
  have hPc := hP.sub (ws' := [(y, .inr (10, mF z 0 0 0 0 0 0 0 0 0 (-1) (-1))), (z 0, .inl (mA, 101660, .inl (fun _ => 0))), (z 1, .inl (mT, 900, .inl (fun _ => 0))), (z 2, .inl (mX, 900, .inl (fun _ => 0))), (z 23, .inl (mC, 17576, .inl (fun _ => 0)))]) [0, 1, 2, 3, 4] rfl
  have hKc := hK.sub (tys' := [(mA, .int), (mT, .byte), (mX, .byte), (mC, .boolean)]) [5, 6, 7, 8] rfl
  have hDc := hD.sub (ws' := [(y, .inr (10, mF z 0 0 0 0 0 0 0 0 0 (-1) (-1))), (z 0, .inl (mA, 101660, .inl (fun _ => 0))), (z 1, .inl (mT, 900, .inl (fun _ => 0))), (z 2, .inl (mX, 900, .inl (fun _ => 0))), (z 23, .inl (mC, 17576, .inl (fun _ => 0)))]) [0, 1, 2, 3, 4] (by decide) rfl
  have hFc := va_free (wc := [(y, .inr (10, mF z 0 0 0 0 0 0 0 0 0 (-1) (-1))), (z 0, .inl (mA, 101660, .inl (fun _ => 0))), (z 1, .inl (mT, 900, .inl (fun _ => 0))), (z 2, .inl (mX, 900, .inl (fun _ => 0))), (z 23, .inl (mC, 17576, .inl (fun _ => 0)))]) hD hS hA [0, 1, 2, 3, 4] rfl
  refine va_calli (va_runV (As := []) (rest := [.int r_2]) ⟨hx, hb, hml, hown, hts⟩ (m_mark l dC dI y z mA mT mX mC H.size) (cwV 0 hts mg_L_law_X10_mark_125 rfl rfl rfl (by decide +kernel) ⟨Nat.le_of_ble_eq_true rfl, Nat.le_of_ble_eq_true rfl⟩) ⟨fun a U g mk q => by obtain ⟨q0, q1, qP, qK, qD⟩ := q; exact ⟨q0, q1, qP, va_K.moved (u := U) (U := U.calling g mk a) (Vm.Alike.refl U.vm) qK, qD⟩, va_recv hKc hPc (ci := 10) (q0 := 0) rfl rfl, fun U hU hW => ⟨rfl, by rw [hU], by rw [hU]; exact hPc, va_K.moved hW.alike hKc, hDc.weaken (fun _ _ _ _ => trivial)⟩⟩ rfl rfl hl.1 rfl (lv_room (Nat.le_of_ble_eq_true rfl)) dL_law_1031 ⟨Nat.le_of_ble_eq_true rfl, Nat.le_of_ble_eq_true rfl⟩) hS (fun q _ h => hFc q h) hFc (fun r_5 u t H1 locs ht hvm hw hB hz1 hk1 hS => ?_)
  have hw_6 := hw
  obtain ⟨hP, hD⟩ := va_join (wr := []) (w1 := []) hP hD [0, 1, 2, 3, 4] [] rfl rfl (by decide) (by decide) hk1 hFc (fun k q h => by simp at h) ⟨fun i j p q h => by simp at h, fun k q h => by simp at h⟩
  generalize H1 = H at hP hS ⊢
  have hP : va_P (dC, dI) vwCl [] H := hP
  have hD : va_D (fun q : Nat => s.heap.size ≤ q) [] := hD
  refine W.widen (k := 1222) (n := 311064) (by omega) (by omega) ?_
  refine lv_icmp_eq (tgt := 1128) hx hb dL_law_1034 (by decide) (fun k_7 => ?_) (fun k_7 => absurd (hw_3.trans hw_6.symm) k_7)
  exact law_end C0 (Nat.le_of_ble_eq_true rfl) (Nat.le_of_ble_eq_true rfl) hS hl
theorem dL_law_1039 : decode cL_law 1039 = .ok (.aload_n 1, 1) := by decide +kernel
theorem dL_law_1040 : decode cL_law 1040 = .ok (.invokevirtual 126, 3) := by decide +kernel
theorem dL_law_1043 : decode cL_law 1043 = .ok (.aload_n 2, 1) := by decide +kernel
theorem dL_law_1044 : decode cL_law 1044 = .ok (.invokevirtual 129, 3) := by decide +kernel
theorem dL_law_1047 : decode cL_law 1047 = .ok (.if_icmp .eq 81, 3) := by decide +kernel
set_option maxRecDepth 20000 in
theorem mg_L_law_X9_back_126 : GoodIn lw_tbl (wsV RL 126 RX9 yX9_back mwX9_back) := goodIn_r _ [1088, 1089, 1090, 106, 1091, 365, 424, 356, 421, 423, 1, 106, 372, 374, 376, 378, 380, 382, 384, 386, 388, 390, 392, 394, 396, 398, 400, 402] (by decide +kernel) (by decide +kernel)
set_option maxRecDepth 20000 in
theorem mg_L_law_X10_back_129 : GoodIn lw_tbl (wsV RL 129 RX10 yX10_back mwX10_back) := goodIn_r _ [1723, 1724, 1725, 115, 1726, 1126, 1290, 1124, 1287, 1289, 33, 115, 1171, 1173, 1175, 1177, 1179, 1181, 1183, 1185, 1187, 1189, 1191, 1193, 1195, 1197, 1199, 1201, 1203, 1205, 1207, 1209, 1211, 1213, 1215, 1217, 1219, 1221, 1223, 1225, 1227, 1229, 1231, 1233, 1235, 1237, 1239, 1241, 1243, 1245, 1247, 1249, 1251, 1253, 1255, 1257, 1259, 1261, 1263, 1265] (by decide +kernel) (by decide +kernel)
set_option maxHeartbeats 4000000 in
set_option maxRecDepth 100000 in
theorem law_case27 {p : Program} {l : Launch} {e : Env} {s : State} {m : MethodId} {below : List Frame} {meth : Method} {c : Code} {dC : Nat → ClassId} {dI : Nat → Nat → Nat} {b : Nat} {xs : Nat → Int32} (C0 : lw_At p s m meth c b 6 xs) {x : Nat} {q : Nat → Nat} {bk d0 p0 : Nat} {cT cD cP cB cU : ClassId} {r : Nat → Nat} {y : Nat} {z : Nat → Nat} {mA mT mX mC : ClassId} {H : Heap} {locs : List Loc} (hK : va_K (dC, dI) vwCl [(cT, .int), (cD, .object "PatternGate$Doc"), (cP, .object "PatternGate$Pattern"), (cB, .object "PatternGate$Book"), (cU, .int), (mA, .int), (mT, .byte), (mX, .byte), (mC, .boolean)] s) (hP : va_P (dC, dI) vwCl [(x, .inr (9, gF q 0 0 (-1) (-1) bk 0 0)), (q 0, .inl (cT, 900, .inl (fun _ => 0))), (bk, .inr (0, [.ref d0, .ref p0, .null])), (d0, .inl (cD, 0, .inr (.inr (.inr (.inr (fun _ => none)))))), (p0, .inl (cP, 0, .inr (.inr (.inr (.inr (fun _ => none)))))), (q 1, .inl (cB, 3, .inr (.inr (.inr (.inr (fun _ => none)))))), (q 2, .inl (cU, 3, .inl (fun _ => 0))), (q 3, .inr (6, rF r 0 0 0 0 0 0 0 0)), (y, .inr (10, mF z 0 0 0 0 0 0 0 0 0 (-1) (-1))), (z 0, .inl (mA, 101660, .inl (fun _ => 0))), (z 1, .inl (mT, 900, .inl (fun _ => 0))), (z 2, .inl (mX, 900, .inl (fun _ => 0))), (z 23, .inl (mC, 17576, .inl (fun _ => 0)))] H) (hD : va_D (fun q : Nat => s.heap.size ≤ q) [(x, .inr (9, gF q 0 0 (-1) (-1) bk 0 0)), (q 0, .inl (cT, 900, .inl (fun _ => 0))), (bk, .inr (0, [.ref d0, .ref p0, .null])), (d0, .inl (cD, 0, .inr (.inr (.inr (.inr (fun _ => none)))))), (p0, .inl (cP, 0, .inr (.inr (.inr (.inr (fun _ => none)))))), (q 1, .inl (cB, 3, .inr (.inr (.inr (.inr (fun _ => none)))))), (q 2, .inl (cU, 3, .inl (fun _ => 0))), (q 3, .inr (6, rF r 0 0 0 0 0 0 0 0)), (y, .inr (10, mF z 0 0 0 0 0 0 0 0 0 (-1) (-1))), (z 0, .inl (mA, 101660, .inl (fun _ => 0))), (z 1, .inl (mT, 900, .inl (fun _ => 0))), (z 2, .inl (mX, 900, .inl (fun _ => 0))), (z 23, .inl (mC, 17576, .inl (fun _ => 0)))]) (hS : va_S (fun q : Nat => s.heap.size ≤ q) s.heap H locs) (hAO2 : va_AO "PatternGate$Doc" s) (hAO5 : va_AO "PatternGate$Pattern" s) {ls : Array Slot} (hl : lv_has ls 4 [(3, .int 0), (2, .ref y), (1, .ref x), (0, .ref b)]) : W p l e room_1 s m #[Value.ref b] below meth c H locs 1222 311064 (lw_Z below #[Value.ref b] s) (F0 m 1039 ls []) := by
  obtain ⟨hx, hb, hr, hml, hown, hts, hX, hbl, hlocks, hgv⟩ := id C0
  have hown : s.vm.findClass RL = some m.cls := hown
  have hA : ∀ q : Nat, s.heap.size ≤ q → (fun q : Nat => s.heap.size ≤ q) q := fun _ h => h
  have hbA : ¬ (fun q : Nat => s.heap.size ≤ q) b := Nat.not_le.mpr hbl
  refine lv_aload_n hx hb dL_law_1039 rfl (lv_at hl 2 rfl) ?_
  have hPc := hP.sub (ws' := [(x, .inr (9, gF q 0 0 (-1) (-1) bk 0 0)), (q 0, .inl (cT, 900, .inl (fun _ => 0))), (bk, .inr (0, [.ref d0, .ref p0, .null])), (d0, .inl (cD, 0, .inr (.inr (.inr (.inr (fun _ => none)))))), (p0, .inl (cP, 0, .inr (.inr (.inr (.inr (fun _ => none)))))), (q 1, .inl (cB, 3, .inr (.inr (.inr (.inr (fun _ => none)))))), (q 2, .inl (cU, 3, .inl (fun _ => 0))), (q 3, .inr (6, rF r 0 0 0 0 0 0 0 0))]) [0, 1, 2, 3, 4, 5, 6, 7] rfl
  have hKc := hK.sub (tys' := [(cT, .int), (cD, .object "PatternGate$Doc"), (cP, .object "PatternGate$Pattern"), (cB, .object "PatternGate$Book"), (cU, .int)]) [0, 1, 2, 3, 4] rfl
  have hDc := hD.sub (ws' := [(x, .inr (9, gF q 0 0 (-1) (-1) bk 0 0)), (q 0, .inl (cT, 900, .inl (fun _ => 0))), (bk, .inr (0, [.ref d0, .ref p0, .null])), (d0, .inl (cD, 0, .inr (.inr (.inr (.inr (fun _ => none)))))), (p0, .inl (cP, 0, .inr (.inr (.inr (.inr (fun _ => none)))))), (q 1, .inl (cB, 3, .inr (.inr (.inr (.inr (fun _ => none)))))), (q 2, .inl (cU, 3, .inl (fun _ => 0))), (q 3, .inr (6, rF r 0 0 0 0 0 0 0 0))]) [0, 1, 2, 3, 4, 5, 6, 7] (by decide) rfl
  have hFc := va_free (wc := [(x, .inr (9, gF q 0 0 (-1) (-1) bk 0 0)), (q 0, .inl (cT, 900, .inl (fun _ => 0))), (bk, .inr (0, [.ref d0, .ref p0, .null])), (d0, .inl (cD, 0, .inr (.inr (.inr (.inr (fun _ => none)))))), (p0, .inl (cP, 0, .inr (.inr (.inr (.inr (fun _ => none)))))), (q 1, .inl (cB, 3, .inr (.inr (.inr (.inr (fun _ => none)))))), (q 2, .inl (cU, 3, .inl (fun _ => 0))), (q 3, .inr (6, rF r 0 0 0 0 0 0 0 0))]) hD hS hA [0, 1, 2, 3, 4, 5, 6, 7] rfl
  refine va_calli (va_runV (As := []) (rest := []) ⟨hx, hb, hml, hown, hts⟩ (c_back l dC dI x q bk d0 p0 cT cD cP cB cU r H.size) (cwV 0 hts mg_L_law_X9_back_126 rfl rfl rfl (by decide +kernel) ⟨Nat.le_of_ble_eq_true rfl, Nat.le_of_ble_eq_true rfl⟩) ⟨fun a U g mk q => by obtain ⟨q0, q1, qP, qK, qD⟩ := q; exact ⟨q0, q1, qP, va_K.moved (u := U) (U := U.calling g mk a) (Vm.Alike.refl U.vm) qK, qD⟩, va_recv hKc hPc (ci := 9) (q0 := 0) rfl rfl, fun U hU hW => ⟨rfl, by rw [hU], by rw [hU]; exact hPc, va_K.moved hW.alike hKc, hDc.weaken (fun _ _ _ _ => trivial)⟩⟩ rfl rfl hl.1 rfl (lv_room (Nat.le_of_ble_eq_true rfl)) dL_law_1040 ⟨Nat.le_of_ble_eq_true rfl, Nat.le_of_ble_eq_true rfl⟩) hS (fun q _ h => hFc q h) hFc (fun r_2 u t H1 locs ht hvm hw hB hz1 hk1 hS => ?_)
  have hw_3 := hw
  obtain ⟨hP, hD⟩ := va_join (wr := [(y, .inr (10, mF z 0 0 0 0 0 0 0 0 0 (-1) (-1))), (z 0, .inl (mA, 101660, .inl (fun _ => 0))), (z 1, .inl (mT, 900, .inl (fun _ => 0))), (z 2, .inl (mX, 900, .inl (fun _ => 0))), (z 23, .inl (mC, 17576, .inl (fun _ => 0)))]) (w1 := []) hP hD [0, 1, 2, 3, 4, 5, 6, 7] [8, 9, 10, 11, 12] rfl rfl (by decide) (by decide) hk1 hFc (fun k q h => by simp at h) ⟨fun i j p q h => by simp at h, fun k q h => by simp at h⟩
  generalize H1 = H at hP hS ⊢
  have hP : va_P (dC, dI) vwCl [(y, .inr (10, mF z 0 0 0 0 0 0 0 0 0 (-1) (-1))), (z 0, .inl (mA, 101660, .inl (fun _ => 0))), (z 1, .inl (mT, 900, .inl (fun _ => 0))), (z 2, .inl (mX, 900, .inl (fun _ => 0))), (z 23, .inl (mC, 17576, .inl (fun _ => 0)))] H := hP
  have hD : va_D (fun q : Nat => s.heap.size ≤ q) [(y, .inr (10, mF z 0 0 0 0 0 0 0 0 0 (-1) (-1))), (z 0, .inl (mA, 101660, .inl (fun _ => 0))), (z 1, .inl (mT, 900, .inl (fun _ => 0))), (z 2, .inl (mX, 900, .inl (fun _ => 0))), (z 23, .inl (mC, 17576, .inl (fun _ => 0)))] := hD
  refine W.widen (k := 1222) (n := 311064) (by omega) (by omega) ?_
  refine lv_aload_n hx hb dL_law_1043 rfl (lv_at hl 1 rfl) ?_
  have hPc := hP.sub (ws' := [(y, .inr (10, mF z 0 0 0 0 0 0 0 0 0 (-1) (-1))), (z 0, .inl (mA, 101660, .inl (fun _ => 0))), (z 1, .inl (mT, 900, .inl (fun _ => 0))), (z 2, .inl (mX, 900, .inl (fun _ => 0))), (z 23, .inl (mC, 17576, .inl (fun _ => 0)))]) [0, 1, 2, 3, 4] rfl
  have hKc := hK.sub (tys' := [(mA, .int), (mT, .byte), (mX, .byte), (mC, .boolean)]) [5, 6, 7, 8] rfl
  have hDc := hD.sub (ws' := [(y, .inr (10, mF z 0 0 0 0 0 0 0 0 0 (-1) (-1))), (z 0, .inl (mA, 101660, .inl (fun _ => 0))), (z 1, .inl (mT, 900, .inl (fun _ => 0))), (z 2, .inl (mX, 900, .inl (fun _ => 0))), (z 23, .inl (mC, 17576, .inl (fun _ => 0)))]) [0, 1, 2, 3, 4] (by decide) rfl
  have hFc := va_free (wc := [(y, .inr (10, mF z 0 0 0 0 0 0 0 0 0 (-1) (-1))), (z 0, .inl (mA, 101660, .inl (fun _ => 0))), (z 1, .inl (mT, 900, .inl (fun _ => 0))), (z 2, .inl (mX, 900, .inl (fun _ => 0))), (z 23, .inl (mC, 17576, .inl (fun _ => 0)))]) hD hS hA [0, 1, 2, 3, 4] rfl
  refine va_calli (va_runV (As := []) (rest := [.int r_2]) ⟨hx, hb, hml, hown, hts⟩ (m_back l dC dI y z mA mT mX mC H.size) (cwV 0 hts mg_L_law_X10_back_129 rfl rfl rfl (by decide +kernel) ⟨Nat.le_of_ble_eq_true rfl, Nat.le_of_ble_eq_true rfl⟩) ⟨fun a U g mk q => by obtain ⟨q0, q1, qP, qK, qD⟩ := q; exact ⟨q0, q1, qP, va_K.moved (u := U) (U := U.calling g mk a) (Vm.Alike.refl U.vm) qK, qD⟩, va_recv hKc hPc (ci := 10) (q0 := 0) rfl rfl, fun U hU hW => ⟨rfl, by rw [hU], by rw [hU]; exact hPc, va_K.moved hW.alike hKc, hDc.weaken (fun _ _ _ _ => trivial)⟩⟩ rfl rfl hl.1 rfl (lv_room (Nat.le_of_ble_eq_true rfl)) dL_law_1044 ⟨Nat.le_of_ble_eq_true rfl, Nat.le_of_ble_eq_true rfl⟩) hS (fun q _ h => hFc q h) hFc (fun r_5 u t H1 locs ht hvm hw hB hz1 hk1 hS => ?_)
  have hw_6 := hw
  obtain ⟨hP, hD⟩ := va_join (wr := []) (w1 := []) hP hD [0, 1, 2, 3, 4] [] rfl rfl (by decide) (by decide) hk1 hFc (fun k q h => by simp at h) ⟨fun i j p q h => by simp at h, fun k q h => by simp at h⟩
  generalize H1 = H at hP hS ⊢
  have hP : va_P (dC, dI) vwCl [] H := hP
  have hD : va_D (fun q : Nat => s.heap.size ≤ q) [] := hD
  refine W.widen (k := 1222) (n := 311064) (by omega) (by omega) ?_
  refine lv_icmp_eq (tgt := 1128) hx hb dL_law_1047 (by decide) (fun k_7 => ?_) (fun k_7 => absurd (hw_3.trans hw_6.symm) k_7)
  exact law_end C0 (Nat.le_of_ble_eq_true rfl) (Nat.le_of_ble_eq_true rfl) hS hl
theorem dL_law_1052 : decode cL_law 1052 = .ok (.aload_n 1, 1) := by decide +kernel
theorem dL_law_1053 : decode cL_law 1053 = .ok (.aload_n 0, 1) := by decide +kernel
theorem dL_law_1054 : decode cL_law 1054 = .ok (.iload_n 3, 1) := by decide +kernel
theorem dL_law_1055 : decode cL_law 1055 = .ok (.iconst 1, 1) := by decide +kernel
theorem dL_law_1056 : decode cL_law 1056 = .ok (.iadd, 1) := by decide +kernel
theorem dL_law_1057 : decode cL_law 1057 = .ok (.iaload, 1) := by decide +kernel
theorem dL_law_1058 : decode cL_law 1058 = .ok (.aload_n 0, 1) := by decide +kernel
theorem dL_law_1059 : decode cL_law 1059 = .ok (.iload_n 3, 1) := by decide +kernel
theorem dL_law_1060 : decode cL_law 1060 = .ok (.iconst 2, 1) := by decide +kernel
theorem dL_law_1061 : decode cL_law 1061 = .ok (.iadd, 1) := by decide +kernel
theorem dL_law_1062 : decode cL_law 1062 = .ok (.iaload, 1) := by decide +kernel
theorem dL_law_1063 : decode cL_law 1063 = .ok (.aload_n 0, 1) := by decide +kernel
theorem dL_law_1064 : decode cL_law 1064 = .ok (.iload_n 3, 1) := by decide +kernel
theorem dL_law_1065 : decode cL_law 1065 = .ok (.iconst 3, 1) := by decide +kernel
theorem dL_law_1066 : decode cL_law 1066 = .ok (.iadd, 1) := by decide +kernel
theorem dL_law_1067 : decode cL_law 1067 = .ok (.iaload, 1) := by decide +kernel
theorem dL_law_1068 : decode cL_law 1068 = .ok (.invokevirtual 130, 3) := by decide +kernel
theorem dL_law_1071 : decode cL_law 1071 = .ok (.aload_n 2, 1) := by decide +kernel
theorem dL_law_1072 : decode cL_law 1072 = .ok (.aload_n 0, 1) := by decide +kernel
theorem dL_law_1073 : decode cL_law 1073 = .ok (.iload_n 3, 1) := by decide +kernel
theorem dL_law_1074 : decode cL_law 1074 = .ok (.iconst 1, 1) := by decide +kernel
theorem dL_law_1075 : decode cL_law 1075 = .ok (.iadd, 1) := by decide +kernel
theorem dL_law_1076 : decode cL_law 1076 = .ok (.iaload, 1) := by decide +kernel
theorem dL_law_1077 : decode cL_law 1077 = .ok (.aload_n 0, 1) := by decide +kernel
theorem dL_law_1078 : decode cL_law 1078 = .ok (.iload_n 3, 1) := by decide +kernel
theorem dL_law_1079 : decode cL_law 1079 = .ok (.iconst 2, 1) := by decide +kernel
theorem dL_law_1080 : decode cL_law 1080 = .ok (.iadd, 1) := by decide +kernel
theorem dL_law_1081 : decode cL_law 1081 = .ok (.iaload, 1) := by decide +kernel
theorem dL_law_1082 : decode cL_law 1082 = .ok (.aload_n 0, 1) := by decide +kernel
theorem dL_law_1083 : decode cL_law 1083 = .ok (.iload_n 3, 1) := by decide +kernel
theorem dL_law_1084 : decode cL_law 1084 = .ok (.iconst 3, 1) := by decide +kernel
theorem dL_law_1085 : decode cL_law 1085 = .ok (.iadd, 1) := by decide +kernel
theorem dL_law_1086 : decode cL_law 1086 = .ok (.iaload, 1) := by decide +kernel
theorem dL_law_1087 : decode cL_law 1087 = .ok (.invokevirtual 133, 3) := by decide +kernel
theorem dL_law_1090 : decode cL_law 1090 = .ok (.if_icmp .eq 38, 3) := by decide +kernel
set_option maxRecDepth 20000 in
theorem mg_L_law_X9_would_130 : GoodIn lw_tbl (wsV RL 130 RX9 yX9_would mwX9_would) := goodIn_r _ [1092, 1093, 1094, 106, 1095, 1029, 1027, 1028, 106, 424, 356, 421, 423, 1, 361, 884, 145, 881, 882, 883, 107, 372, 374, 376, 378, 380, 382, 384, 386, 388, 390, 392, 394, 396, 398, 400, 402, 152, 154, 156] (by decide +kernel) (by decide +kernel)
set_option maxRecDepth 20000 in
theorem mg_L_law_X10_would_133 : GoodIn lw_tbl (wsV RL 133 RX10 yX10_would mwX10_would) := goodIn_r _ [1727, 1728, 1729, 115, 1730, 1685, 1286, 1284, 1285, 115, 1408, 1123, 1405, 1407, 56, 1682, 1684, 102, 1290, 1124, 1287, 1289, 33, 1171, 1173, 1175, 1177, 1179, 1181, 1183, 1185, 1187, 1189, 1191, 1193, 1195, 1197, 1199, 1201, 1203, 1205, 1207, 1209, 1211, 1213, 1215, 1217, 1219, 1221, 1223, 1225, 1227, 1229, 1231, 1233, 1235, 1237, 1239, 1241, 1243, 1245, 1247, 1249, 1251, 1253, 1255, 1257, 1259, 1261, 1263, 1265] (by decide +kernel) (by decide +kernel)
set_option maxHeartbeats 4000000 in
set_option maxRecDepth 100000 in
theorem law_case28 {p : Program} {l : Launch} {e : Env} {s : State} {m : MethodId} {below : List Frame} {meth : Method} {c : Code} {dC : Nat → ClassId} {dI : Nat → Nat → Nat} {b : Nat} {xs : Nat → Int32} (C0 : lw_At p s m meth c b 6 xs) {x : Nat} {q : Nat → Nat} {bk d0 p0 : Nat} {cT cD cP cB cU : ClassId} {r : Nat → Nat} {y : Nat} {z : Nat → Nat} {mA mT mX mC : ClassId} {H : Heap} {locs : List Loc} (hK : va_K (dC, dI) vwCl [(cT, .int), (cD, .object "PatternGate$Doc"), (cP, .object "PatternGate$Pattern"), (cB, .object "PatternGate$Book"), (cU, .int), (mA, .int), (mT, .byte), (mX, .byte), (mC, .boolean)] s) (hP : va_P (dC, dI) vwCl [(x, .inr (9, gF q 0 0 (-1) (-1) bk 0 0)), (q 0, .inl (cT, 900, .inl (fun _ => 0))), (bk, .inr (0, [.ref d0, .ref p0, .null])), (d0, .inl (cD, 0, .inr (.inr (.inr (.inr (fun _ => none)))))), (p0, .inl (cP, 0, .inr (.inr (.inr (.inr (fun _ => none)))))), (q 1, .inl (cB, 3, .inr (.inr (.inr (.inr (fun _ => none)))))), (q 2, .inl (cU, 3, .inl (fun _ => 0))), (q 3, .inr (6, rF r 0 0 0 0 0 0 0 0)), (y, .inr (10, mF z 0 0 0 0 0 0 0 0 0 (-1) (-1))), (z 0, .inl (mA, 101660, .inl (fun _ => 0))), (z 1, .inl (mT, 900, .inl (fun _ => 0))), (z 2, .inl (mX, 900, .inl (fun _ => 0))), (z 23, .inl (mC, 17576, .inl (fun _ => 0)))] H) (hD : va_D (fun q : Nat => s.heap.size ≤ q) [(x, .inr (9, gF q 0 0 (-1) (-1) bk 0 0)), (q 0, .inl (cT, 900, .inl (fun _ => 0))), (bk, .inr (0, [.ref d0, .ref p0, .null])), (d0, .inl (cD, 0, .inr (.inr (.inr (.inr (fun _ => none)))))), (p0, .inl (cP, 0, .inr (.inr (.inr (.inr (fun _ => none)))))), (q 1, .inl (cB, 3, .inr (.inr (.inr (.inr (fun _ => none)))))), (q 2, .inl (cU, 3, .inl (fun _ => 0))), (q 3, .inr (6, rF r 0 0 0 0 0 0 0 0)), (y, .inr (10, mF z 0 0 0 0 0 0 0 0 0 (-1) (-1))), (z 0, .inl (mA, 101660, .inl (fun _ => 0))), (z 1, .inl (mT, 900, .inl (fun _ => 0))), (z 2, .inl (mX, 900, .inl (fun _ => 0))), (z 23, .inl (mC, 17576, .inl (fun _ => 0)))]) (hS : va_S (fun q : Nat => s.heap.size ≤ q) s.heap H locs) (hAO2 : va_AO "PatternGate$Doc" s) (hAO5 : va_AO "PatternGate$Pattern" s) {ls : Array Slot} (hl : lv_has ls 4 [(3, .int 0), (2, .ref y), (1, .ref x), (0, .ref b)]) : W p l e room_1 s m #[Value.ref b] below meth c H locs 1222 311064 (lw_Z below #[Value.ref b] s) (F0 m 1052 ls []) := by
  obtain ⟨hx, hb, hr, hml, hown, hts, hX, hbl, hlocks, hgv⟩ := id C0
  have hown : s.vm.findClass RL = some m.cls := hown
  have hA : ∀ q : Nat, s.heap.size ≤ q → (fun q : Nat => s.heap.size ≤ q) q := fun _ h => h
  have hbA : ¬ (fun q : Nat => s.heap.size ≤ q) b := Nat.not_le.mpr hbl
  refine lv_aload_n hx hb dL_law_1052 rfl (lv_at hl 2 rfl) ?_
  refine lv_aload_n hx hb dL_law_1053 rfl (lv_at hl 3 rfl) ?_
  refine lv_iload_n hx hb dL_law_1054 rfl (lv_at hl 0 rfl) ?_
  refine lv_iconst (v := 1) hx hb dL_law_1055 (by decide) ?_
  refine lv_iadd hx hb dL_law_1056 ?_
  refine lv_topi (fun y_1 ey_1 => ?_)
  obtain rfl : y_1 = 1 := ey_1.trans (by first | rfl | decide)
  refine va_sld hx hb hX hbl hbA hS (i := 1) (by unfold vp_in; decide) dL_law_1057 ?_
  refine lv_aload_n hx hb dL_law_1058 rfl (lv_at hl 3 rfl) ?_
  refine lv_iload_n hx hb dL_law_1059 rfl (lv_at hl 0 rfl) ?_
  refine lv_iconst (v := 2) hx hb dL_law_1060 (by decide) ?_
  refine lv_iadd hx hb dL_law_1061 ?_
  refine lv_topi (fun y_2 ey_2 => ?_)
  obtain rfl : y_2 = 2 := ey_2.trans (by first | rfl | decide)
  refine va_sld hx hb hX hbl hbA hS (i := 2) (by unfold vp_in; decide) dL_law_1062 ?_
  refine lv_aload_n hx hb dL_law_1063 rfl (lv_at hl 3 rfl) ?_
  refine lv_iload_n hx hb dL_law_1064 rfl (lv_at hl 0 rfl) ?_
  refine lv_iconst (v := 3) hx hb dL_law_1065 (by decide) ?_
  refine lv_iadd hx hb dL_law_1066 ?_
  refine lv_topi (fun y_3 ey_3 => ?_)
  obtain rfl : y_3 = 3 := ey_3.trans (by first | rfl | decide)
  refine va_sld hx hb hX hbl hbA hS (i := 3) (by unfold vp_in; decide) dL_law_1067 ?_
  have hPc := hP.sub (ws' := [(x, .inr (9, gF q 0 0 (-1) (-1) bk 0 0)), (q 0, .inl (cT, 900, .inl (fun _ => 0))), (bk, .inr (0, [.ref d0, .ref p0, .null])), (d0, .inl (cD, 0, .inr (.inr (.inr (.inr (fun _ => none)))))), (p0, .inl (cP, 0, .inr (.inr (.inr (.inr (fun _ => none)))))), (q 1, .inl (cB, 3, .inr (.inr (.inr (.inr (fun _ => none)))))), (q 2, .inl (cU, 3, .inl (fun _ => 0))), (q 3, .inr (6, rF r 0 0 0 0 0 0 0 0))]) [0, 1, 2, 3, 4, 5, 6, 7] rfl
  have hKc := hK.sub (tys' := [(cT, .int), (cD, .object "PatternGate$Doc"), (cP, .object "PatternGate$Pattern"), (cB, .object "PatternGate$Book"), (cU, .int)]) [0, 1, 2, 3, 4] rfl
  have hDc := hD.sub (ws' := [(x, .inr (9, gF q 0 0 (-1) (-1) bk 0 0)), (q 0, .inl (cT, 900, .inl (fun _ => 0))), (bk, .inr (0, [.ref d0, .ref p0, .null])), (d0, .inl (cD, 0, .inr (.inr (.inr (.inr (fun _ => none)))))), (p0, .inl (cP, 0, .inr (.inr (.inr (.inr (fun _ => none)))))), (q 1, .inl (cB, 3, .inr (.inr (.inr (.inr (fun _ => none)))))), (q 2, .inl (cU, 3, .inl (fun _ => 0))), (q 3, .inr (6, rF r 0 0 0 0 0 0 0 0))]) [0, 1, 2, 3, 4, 5, 6, 7] (by decide) rfl
  have hFc := va_free (wc := [(x, .inr (9, gF q 0 0 (-1) (-1) bk 0 0)), (q 0, .inl (cT, 900, .inl (fun _ => 0))), (bk, .inr (0, [.ref d0, .ref p0, .null])), (d0, .inl (cD, 0, .inr (.inr (.inr (.inr (fun _ => none)))))), (p0, .inl (cP, 0, .inr (.inr (.inr (.inr (fun _ => none)))))), (q 1, .inl (cB, 3, .inr (.inr (.inr (.inr (fun _ => none)))))), (q 2, .inl (cU, 3, .inl (fun _ => 0))), (q 3, .inr (6, rF r 0 0 0 0 0 0 0 0))]) hD hS hA [0, 1, 2, 3, 4, 5, 6, 7] rfl
  refine va_calli (va_runV (As := [.int (xs (Int32.toNatClampNeg 1)), .int (xs (Int32.toNatClampNeg 2)), .int (xs (Int32.toNatClampNeg 3))]) (rest := []) ⟨hx, hb, hml, hown, hts⟩ (c_would l dC dI x q bk d0 p0 cT cD cP cB cU r H.size (xs (Int32.toNatClampNeg 1)) (xs (Int32.toNatClampNeg 2)) (xs (Int32.toNatClampNeg 3))) (cwV 3 hts mg_L_law_X9_would_130 rfl rfl rfl (by decide +kernel) ⟨Nat.le_of_ble_eq_true rfl, Nat.le_of_ble_eq_true rfl⟩) ⟨fun a U g mk q => by obtain ⟨q0, q1, qP, qK, qD⟩ := q; exact ⟨q0, q1, qP, va_K.moved (u := U) (U := U.calling g mk a) (Vm.Alike.refl U.vm) qK, qD⟩, va_recv hKc hPc (ci := 9) (q0 := 0) rfl rfl, fun U hU hW => ⟨rfl, by rw [hU], by rw [hU]; exact hPc, va_K.moved hW.alike hKc, hDc.weaken (fun _ _ _ _ => trivial)⟩⟩ rfl rfl hl.1 rfl (lv_room (Nat.le_of_ble_eq_true rfl)) dL_law_1068 ⟨Nat.le_of_ble_eq_true rfl, Nat.le_of_ble_eq_true rfl⟩) hS (fun q _ h => hFc q h) hFc (fun r_5 u t H1 locs ht hvm hw hB hz1 hk1 hS => ?_)
  have hw_6 := hw
  obtain ⟨hP, hD⟩ := va_join (wr := [(y, .inr (10, mF z 0 0 0 0 0 0 0 0 0 (-1) (-1))), (z 0, .inl (mA, 101660, .inl (fun _ => 0))), (z 1, .inl (mT, 900, .inl (fun _ => 0))), (z 2, .inl (mX, 900, .inl (fun _ => 0))), (z 23, .inl (mC, 17576, .inl (fun _ => 0)))]) (w1 := []) hP hD [0, 1, 2, 3, 4, 5, 6, 7] [8, 9, 10, 11, 12] rfl rfl (by decide) (by decide) hk1 hFc (fun k q h => by simp at h) ⟨fun i j p q h => by simp at h, fun k q h => by simp at h⟩
  generalize H1 = H at hP hS ⊢
  have hP : va_P (dC, dI) vwCl [(y, .inr (10, mF z 0 0 0 0 0 0 0 0 0 (-1) (-1))), (z 0, .inl (mA, 101660, .inl (fun _ => 0))), (z 1, .inl (mT, 900, .inl (fun _ => 0))), (z 2, .inl (mX, 900, .inl (fun _ => 0))), (z 23, .inl (mC, 17576, .inl (fun _ => 0)))] H := hP
  have hD : va_D (fun q : Nat => s.heap.size ≤ q) [(y, .inr (10, mF z 0 0 0 0 0 0 0 0 0 (-1) (-1))), (z 0, .inl (mA, 101660, .inl (fun _ => 0))), (z 1, .inl (mT, 900, .inl (fun _ => 0))), (z 2, .inl (mX, 900, .inl (fun _ => 0))), (z 23, .inl (mC, 17576, .inl (fun _ => 0)))] := hD
  refine W.widen (k := 1222) (n := 311064) (by omega) (by omega) ?_
  refine lv_aload_n hx hb dL_law_1071 rfl (lv_at hl 1 rfl) ?_
  refine lv_aload_n hx hb dL_law_1072 rfl (lv_at hl 3 rfl) ?_
  refine lv_iload_n hx hb dL_law_1073 rfl (lv_at hl 0 rfl) ?_
  refine lv_iconst (v := 1) hx hb dL_law_1074 (by decide) ?_
  refine lv_iadd hx hb dL_law_1075 ?_
  refine lv_topi (fun y_7 ey_7 => ?_)
  obtain rfl : y_7 = 1 := ey_7.trans (by first | rfl | decide)
  refine va_sld hx hb hX hbl hbA hS (i := 1) (by unfold vp_in; decide) dL_law_1076 ?_
  refine lv_aload_n hx hb dL_law_1077 rfl (lv_at hl 3 rfl) ?_
  refine lv_iload_n hx hb dL_law_1078 rfl (lv_at hl 0 rfl) ?_
  refine lv_iconst (v := 2) hx hb dL_law_1079 (by decide) ?_
  refine lv_iadd hx hb dL_law_1080 ?_
  refine lv_topi (fun y_8 ey_8 => ?_)
  obtain rfl : y_8 = 2 := ey_8.trans (by first | rfl | decide)
  refine va_sld hx hb hX hbl hbA hS (i := 2) (by unfold vp_in; decide) dL_law_1081 ?_
  refine lv_aload_n hx hb dL_law_1082 rfl (lv_at hl 3 rfl) ?_
  refine lv_iload_n hx hb dL_law_1083 rfl (lv_at hl 0 rfl) ?_
  refine lv_iconst (v := 3) hx hb dL_law_1084 (by decide) ?_
  refine lv_iadd hx hb dL_law_1085 ?_
  refine lv_topi (fun y_9 ey_9 => ?_)
  obtain rfl : y_9 = 3 := ey_9.trans (by first | rfl | decide)
  refine va_sld hx hb hX hbl hbA hS (i := 3) (by unfold vp_in; decide) dL_law_1086 ?_
  have hPc := hP.sub (ws' := [(y, .inr (10, mF z 0 0 0 0 0 0 0 0 0 (-1) (-1))), (z 0, .inl (mA, 101660, .inl (fun _ => 0))), (z 1, .inl (mT, 900, .inl (fun _ => 0))), (z 2, .inl (mX, 900, .inl (fun _ => 0))), (z 23, .inl (mC, 17576, .inl (fun _ => 0)))]) [0, 1, 2, 3, 4] rfl
  have hKc := hK.sub (tys' := [(mA, .int), (mT, .byte), (mX, .byte), (mC, .boolean)]) [5, 6, 7, 8] rfl
  have hDc := hD.sub (ws' := [(y, .inr (10, mF z 0 0 0 0 0 0 0 0 0 (-1) (-1))), (z 0, .inl (mA, 101660, .inl (fun _ => 0))), (z 1, .inl (mT, 900, .inl (fun _ => 0))), (z 2, .inl (mX, 900, .inl (fun _ => 0))), (z 23, .inl (mC, 17576, .inl (fun _ => 0)))]) [0, 1, 2, 3, 4] (by decide) rfl
  have hFc := va_free (wc := [(y, .inr (10, mF z 0 0 0 0 0 0 0 0 0 (-1) (-1))), (z 0, .inl (mA, 101660, .inl (fun _ => 0))), (z 1, .inl (mT, 900, .inl (fun _ => 0))), (z 2, .inl (mX, 900, .inl (fun _ => 0))), (z 23, .inl (mC, 17576, .inl (fun _ => 0)))]) hD hS hA [0, 1, 2, 3, 4] rfl
  refine va_calli (va_runV (As := [.int (xs (Int32.toNatClampNeg 1)), .int (xs (Int32.toNatClampNeg 2)), .int (xs (Int32.toNatClampNeg 3))]) (rest := [.int r_5]) ⟨hx, hb, hml, hown, hts⟩ (m_would l dC dI y z mA mT mX mC H.size (xs (Int32.toNatClampNeg 1)) (xs (Int32.toNatClampNeg 2)) (xs (Int32.toNatClampNeg 3))) (cwV 3 hts mg_L_law_X10_would_133 rfl rfl rfl (by decide +kernel) ⟨Nat.le_of_ble_eq_true rfl, Nat.le_of_ble_eq_true rfl⟩) ⟨fun a U g mk q => by obtain ⟨q0, q1, qP, qK, qD⟩ := q; exact ⟨q0, q1, qP, va_K.moved (u := U) (U := U.calling g mk a) (Vm.Alike.refl U.vm) qK, qD⟩, va_recv hKc hPc (ci := 10) (q0 := 0) rfl rfl, fun U hU hW => ⟨rfl, by rw [hU], by rw [hU]; exact hPc, va_K.moved hW.alike hKc, hDc.weaken (fun _ _ _ _ => trivial)⟩⟩ rfl rfl hl.1 rfl (lv_room (Nat.le_of_ble_eq_true rfl)) dL_law_1087 ⟨Nat.le_of_ble_eq_true rfl, Nat.le_of_ble_eq_true rfl⟩) hS (fun q _ h => hFc q h) hFc (fun r_11 u t H1 locs ht hvm hw hB hz1 hk1 hS => ?_)
  have hw_12 := hw
  obtain ⟨hP, hD⟩ := va_join (wr := []) (w1 := []) hP hD [0, 1, 2, 3, 4] [] rfl rfl (by decide) (by decide) hk1 hFc (fun k q h => by simp at h) ⟨fun i j p q h => by simp at h, fun k q h => by simp at h⟩
  generalize H1 = H at hP hS ⊢
  have hP : va_P (dC, dI) vwCl [] H := hP
  have hD : va_D (fun q : Nat => s.heap.size ≤ q) [] := hD
  refine W.widen (k := 1222) (n := 311064) (by omega) (by omega) ?_
  refine lv_icmp_eq (tgt := 1128) hx hb dL_law_1090 (by decide) (fun k_13 => ?_) (fun k_13 => absurd (hw_6.trans hw_12.symm) k_13)
  exact law_end C0 (Nat.le_of_ble_eq_true rfl) (Nat.le_of_ble_eq_true rfl) hS hl
theorem dL_law_1095 : decode cL_law 1095 = .ok (.aload_n 1, 1) := by decide +kernel
theorem dL_law_1096 : decode cL_law 1096 = .ok (.aload_n 0, 1) := by decide +kernel
theorem dL_law_1097 : decode cL_law 1097 = .ok (.iload_n 3, 1) := by decide +kernel
theorem dL_law_1098 : decode cL_law 1098 = .ok (.iconst 1, 1) := by decide +kernel
theorem dL_law_1099 : decode cL_law 1099 = .ok (.iadd, 1) := by decide +kernel
theorem dL_law_1100 : decode cL_law 1100 = .ok (.iaload, 1) := by decide +kernel
theorem dL_law_1101 : decode cL_law 1101 = .ok (.aload_n 0, 1) := by decide +kernel
theorem dL_law_1102 : decode cL_law 1102 = .ok (.iload_n 3, 1) := by decide +kernel
theorem dL_law_1103 : decode cL_law 1103 = .ok (.iconst 2, 1) := by decide +kernel
theorem dL_law_1104 : decode cL_law 1104 = .ok (.iadd, 1) := by decide +kernel
theorem dL_law_1105 : decode cL_law 1105 = .ok (.iaload, 1) := by decide +kernel
theorem dL_law_1106 : decode cL_law 1106 = .ok (.invokevirtual 134, 3) := by decide +kernel
theorem dL_law_1109 : decode cL_law 1109 = .ok (.aload_n 2, 1) := by decide +kernel
theorem dL_law_1110 : decode cL_law 1110 = .ok (.aload_n 0, 1) := by decide +kernel
theorem dL_law_1111 : decode cL_law 1111 = .ok (.iload_n 3, 1) := by decide +kernel
theorem dL_law_1112 : decode cL_law 1112 = .ok (.iconst 1, 1) := by decide +kernel
theorem dL_law_1113 : decode cL_law 1113 = .ok (.iadd, 1) := by decide +kernel
theorem dL_law_1114 : decode cL_law 1114 = .ok (.iaload, 1) := by decide +kernel
theorem dL_law_1115 : decode cL_law 1115 = .ok (.aload_n 0, 1) := by decide +kernel
theorem dL_law_1116 : decode cL_law 1116 = .ok (.iload_n 3, 1) := by decide +kernel
theorem dL_law_1117 : decode cL_law 1117 = .ok (.iconst 2, 1) := by decide +kernel
theorem dL_law_1118 : decode cL_law 1118 = .ok (.iadd, 1) := by decide +kernel
theorem dL_law_1119 : decode cL_law 1119 = .ok (.iaload, 1) := by decide +kernel
theorem dL_law_1120 : decode cL_law 1120 = .ok (.invokevirtual 137, 3) := by decide +kernel
theorem dL_law_1123 : decode cL_law 1123 = .ok (.if_icmp .eq 5, 3) := by decide +kernel
set_option maxRecDepth 20000 in
theorem mg_L_law_X9_best_134 : GoodIn lw_tbl (wsV RL 134 RX9 yX9_best mwX9_best) := goodIn_r _ [1097, 1098, 1099, 106, 1100, 361, 884, 145, 881, 882, 883, 107, 424, 356, 421, 423, 1, 106, 372, 374, 376, 378, 380, 382, 384, 386, 388, 390, 392, 394, 396, 398, 400, 402, 152, 154, 156] (by decide +kernel) (by decide +kernel)
set_option maxRecDepth 20000 in
theorem mg_L_law_X10_best_137 : GoodIn lw_tbl (wsV RL 137 RX10 yX10_best mwX10_best) := goodIn_r _ [1731, 1732, 1733, 115, 1734, 1685, 1286, 1284, 1285, 115, 1408, 1123, 1405, 1407, 56, 1682, 1684, 102, 1290, 1124, 1287, 1289, 33, 1171, 1173, 1175, 1177, 1179, 1181, 1183, 1185, 1187, 1189, 1191, 1193, 1195, 1197, 1199, 1201, 1203, 1205, 1207, 1209, 1211, 1213, 1215, 1217, 1219, 1221, 1223, 1225, 1227, 1229, 1231, 1233, 1235, 1237, 1239, 1241, 1243, 1245, 1247, 1249, 1251, 1253, 1255, 1257, 1259, 1261, 1263, 1265] (by decide +kernel) (by decide +kernel)
set_option maxHeartbeats 4000000 in
set_option maxRecDepth 100000 in
theorem law_case29 {p : Program} {l : Launch} {e : Env} {s : State} {m : MethodId} {below : List Frame} {meth : Method} {c : Code} {dC : Nat → ClassId} {dI : Nat → Nat → Nat} {b : Nat} {xs : Nat → Int32} (C0 : lw_At p s m meth c b 6 xs) {x : Nat} {q : Nat → Nat} {bk d0 p0 : Nat} {cT cD cP cB cU : ClassId} {r : Nat → Nat} {y : Nat} {z : Nat → Nat} {mA mT mX mC : ClassId} {H : Heap} {locs : List Loc} (hK : va_K (dC, dI) vwCl [(cT, .int), (cD, .object "PatternGate$Doc"), (cP, .object "PatternGate$Pattern"), (cB, .object "PatternGate$Book"), (cU, .int), (mA, .int), (mT, .byte), (mX, .byte), (mC, .boolean)] s) (hP : va_P (dC, dI) vwCl [(x, .inr (9, gF q 0 0 (-1) (-1) bk 0 0)), (q 0, .inl (cT, 900, .inl (fun _ => 0))), (bk, .inr (0, [.ref d0, .ref p0, .null])), (d0, .inl (cD, 0, .inr (.inr (.inr (.inr (fun _ => none)))))), (p0, .inl (cP, 0, .inr (.inr (.inr (.inr (fun _ => none)))))), (q 1, .inl (cB, 3, .inr (.inr (.inr (.inr (fun _ => none)))))), (q 2, .inl (cU, 3, .inl (fun _ => 0))), (q 3, .inr (6, rF r 0 0 0 0 0 0 0 0)), (y, .inr (10, mF z 0 0 0 0 0 0 0 0 0 (-1) (-1))), (z 0, .inl (mA, 101660, .inl (fun _ => 0))), (z 1, .inl (mT, 900, .inl (fun _ => 0))), (z 2, .inl (mX, 900, .inl (fun _ => 0))), (z 23, .inl (mC, 17576, .inl (fun _ => 0)))] H) (hD : va_D (fun q : Nat => s.heap.size ≤ q) [(x, .inr (9, gF q 0 0 (-1) (-1) bk 0 0)), (q 0, .inl (cT, 900, .inl (fun _ => 0))), (bk, .inr (0, [.ref d0, .ref p0, .null])), (d0, .inl (cD, 0, .inr (.inr (.inr (.inr (fun _ => none)))))), (p0, .inl (cP, 0, .inr (.inr (.inr (.inr (fun _ => none)))))), (q 1, .inl (cB, 3, .inr (.inr (.inr (.inr (fun _ => none)))))), (q 2, .inl (cU, 3, .inl (fun _ => 0))), (q 3, .inr (6, rF r 0 0 0 0 0 0 0 0)), (y, .inr (10, mF z 0 0 0 0 0 0 0 0 0 (-1) (-1))), (z 0, .inl (mA, 101660, .inl (fun _ => 0))), (z 1, .inl (mT, 900, .inl (fun _ => 0))), (z 2, .inl (mX, 900, .inl (fun _ => 0))), (z 23, .inl (mC, 17576, .inl (fun _ => 0)))]) (hS : va_S (fun q : Nat => s.heap.size ≤ q) s.heap H locs) (hAO2 : va_AO "PatternGate$Doc" s) (hAO5 : va_AO "PatternGate$Pattern" s) {ls : Array Slot} (hl : lv_has ls 4 [(3, .int 0), (2, .ref y), (1, .ref x), (0, .ref b)]) : W p l e room_1 s m #[Value.ref b] below meth c H locs 1222 311064 (lw_Z below #[Value.ref b] s) (F0 m 1095 ls []) := by
  obtain ⟨hx, hb, hr, hml, hown, hts, hX, hbl, hlocks, hgv⟩ := id C0
  have hown : s.vm.findClass RL = some m.cls := hown
  have hA : ∀ q : Nat, s.heap.size ≤ q → (fun q : Nat => s.heap.size ≤ q) q := fun _ h => h
  have hbA : ¬ (fun q : Nat => s.heap.size ≤ q) b := Nat.not_le.mpr hbl
  refine lv_aload_n hx hb dL_law_1095 rfl (lv_at hl 2 rfl) ?_
  refine lv_aload_n hx hb dL_law_1096 rfl (lv_at hl 3 rfl) ?_
  refine lv_iload_n hx hb dL_law_1097 rfl (lv_at hl 0 rfl) ?_
  refine lv_iconst (v := 1) hx hb dL_law_1098 (by decide) ?_
  refine lv_iadd hx hb dL_law_1099 ?_
  refine lv_topi (fun y_1 ey_1 => ?_)
  obtain rfl : y_1 = 1 := ey_1.trans (by first | rfl | decide)
  refine va_sld hx hb hX hbl hbA hS (i := 1) (by unfold vp_in; decide) dL_law_1100 ?_
  refine lv_aload_n hx hb dL_law_1101 rfl (lv_at hl 3 rfl) ?_
  refine lv_iload_n hx hb dL_law_1102 rfl (lv_at hl 0 rfl) ?_
  refine lv_iconst (v := 2) hx hb dL_law_1103 (by decide) ?_
  refine lv_iadd hx hb dL_law_1104 ?_
  refine lv_topi (fun y_2 ey_2 => ?_)
  obtain rfl : y_2 = 2 := ey_2.trans (by first | rfl | decide)
  refine va_sld hx hb hX hbl hbA hS (i := 2) (by unfold vp_in; decide) dL_law_1105 ?_
  have hPc := hP.sub (ws' := [(x, .inr (9, gF q 0 0 (-1) (-1) bk 0 0)), (q 0, .inl (cT, 900, .inl (fun _ => 0))), (bk, .inr (0, [.ref d0, .ref p0, .null])), (d0, .inl (cD, 0, .inr (.inr (.inr (.inr (fun _ => none)))))), (p0, .inl (cP, 0, .inr (.inr (.inr (.inr (fun _ => none)))))), (q 1, .inl (cB, 3, .inr (.inr (.inr (.inr (fun _ => none)))))), (q 2, .inl (cU, 3, .inl (fun _ => 0))), (q 3, .inr (6, rF r 0 0 0 0 0 0 0 0))]) [0, 1, 2, 3, 4, 5, 6, 7] rfl
  have hKc := hK.sub (tys' := [(cT, .int), (cD, .object "PatternGate$Doc"), (cP, .object "PatternGate$Pattern"), (cB, .object "PatternGate$Book"), (cU, .int)]) [0, 1, 2, 3, 4] rfl
  have hDc := hD.sub (ws' := [(x, .inr (9, gF q 0 0 (-1) (-1) bk 0 0)), (q 0, .inl (cT, 900, .inl (fun _ => 0))), (bk, .inr (0, [.ref d0, .ref p0, .null])), (d0, .inl (cD, 0, .inr (.inr (.inr (.inr (fun _ => none)))))), (p0, .inl (cP, 0, .inr (.inr (.inr (.inr (fun _ => none)))))), (q 1, .inl (cB, 3, .inr (.inr (.inr (.inr (fun _ => none)))))), (q 2, .inl (cU, 3, .inl (fun _ => 0))), (q 3, .inr (6, rF r 0 0 0 0 0 0 0 0))]) [0, 1, 2, 3, 4, 5, 6, 7] (by decide) rfl
  have hFc := va_free (wc := [(x, .inr (9, gF q 0 0 (-1) (-1) bk 0 0)), (q 0, .inl (cT, 900, .inl (fun _ => 0))), (bk, .inr (0, [.ref d0, .ref p0, .null])), (d0, .inl (cD, 0, .inr (.inr (.inr (.inr (fun _ => none)))))), (p0, .inl (cP, 0, .inr (.inr (.inr (.inr (fun _ => none)))))), (q 1, .inl (cB, 3, .inr (.inr (.inr (.inr (fun _ => none)))))), (q 2, .inl (cU, 3, .inl (fun _ => 0))), (q 3, .inr (6, rF r 0 0 0 0 0 0 0 0))]) hD hS hA [0, 1, 2, 3, 4, 5, 6, 7] rfl
  refine va_calli (va_runV (As := [.int (xs (Int32.toNatClampNeg 1)), .int (xs (Int32.toNatClampNeg 2))]) (rest := []) ⟨hx, hb, hml, hown, hts⟩ (c_best l dC dI x q bk d0 p0 cT cD cP cB cU r H.size (xs (Int32.toNatClampNeg 1)) (xs (Int32.toNatClampNeg 2))) (cwV 2 hts mg_L_law_X9_best_134 rfl rfl rfl (by decide +kernel) ⟨Nat.le_of_ble_eq_true rfl, Nat.le_of_ble_eq_true rfl⟩) ⟨fun a U g mk q => by obtain ⟨q0, q1, qP, qK, qD⟩ := q; exact ⟨q0, q1, qP, va_K.moved (u := U) (U := U.calling g mk a) (Vm.Alike.refl U.vm) qK, qD⟩, va_recv hKc hPc (ci := 9) (q0 := 0) rfl rfl, fun U hU hW => ⟨rfl, by rw [hU], by rw [hU]; exact hPc, va_K.moved hW.alike hKc, hDc.weaken (fun _ _ _ _ => trivial)⟩⟩ rfl rfl hl.1 rfl (lv_room (Nat.le_of_ble_eq_true rfl)) dL_law_1106 ⟨Nat.le_of_ble_eq_true rfl, Nat.le_of_ble_eq_true rfl⟩) hS (fun q _ h => hFc q h) hFc (fun r_4 u t H1 locs ht hvm hw hB hz1 hk1 hS => ?_)
  have hw_5 := hw
  obtain ⟨hP, hD⟩ := va_join (wr := [(y, .inr (10, mF z 0 0 0 0 0 0 0 0 0 (-1) (-1))), (z 0, .inl (mA, 101660, .inl (fun _ => 0))), (z 1, .inl (mT, 900, .inl (fun _ => 0))), (z 2, .inl (mX, 900, .inl (fun _ => 0))), (z 23, .inl (mC, 17576, .inl (fun _ => 0)))]) (w1 := []) hP hD [0, 1, 2, 3, 4, 5, 6, 7] [8, 9, 10, 11, 12] rfl rfl (by decide) (by decide) hk1 hFc (fun k q h => by simp at h) ⟨fun i j p q h => by simp at h, fun k q h => by simp at h⟩
  generalize H1 = H at hP hS ⊢
  have hP : va_P (dC, dI) vwCl [(y, .inr (10, mF z 0 0 0 0 0 0 0 0 0 (-1) (-1))), (z 0, .inl (mA, 101660, .inl (fun _ => 0))), (z 1, .inl (mT, 900, .inl (fun _ => 0))), (z 2, .inl (mX, 900, .inl (fun _ => 0))), (z 23, .inl (mC, 17576, .inl (fun _ => 0)))] H := hP
  have hD : va_D (fun q : Nat => s.heap.size ≤ q) [(y, .inr (10, mF z 0 0 0 0 0 0 0 0 0 (-1) (-1))), (z 0, .inl (mA, 101660, .inl (fun _ => 0))), (z 1, .inl (mT, 900, .inl (fun _ => 0))), (z 2, .inl (mX, 900, .inl (fun _ => 0))), (z 23, .inl (mC, 17576, .inl (fun _ => 0)))] := hD
  refine W.widen (k := 1222) (n := 311064) (by omega) (by omega) ?_
  refine lv_aload_n hx hb dL_law_1109 rfl (lv_at hl 1 rfl) ?_
  refine lv_aload_n hx hb dL_law_1110 rfl (lv_at hl 3 rfl) ?_
  refine lv_iload_n hx hb dL_law_1111 rfl (lv_at hl 0 rfl) ?_
  refine lv_iconst (v := 1) hx hb dL_law_1112 (by decide) ?_
  refine lv_iadd hx hb dL_law_1113 ?_
  refine lv_topi (fun y_6 ey_6 => ?_)
  obtain rfl : y_6 = 1 := ey_6.trans (by first | rfl | decide)
  refine va_sld hx hb hX hbl hbA hS (i := 1) (by unfold vp_in; decide) dL_law_1114 ?_
  refine lv_aload_n hx hb dL_law_1115 rfl (lv_at hl 3 rfl) ?_
  refine lv_iload_n hx hb dL_law_1116 rfl (lv_at hl 0 rfl) ?_
  refine lv_iconst (v := 2) hx hb dL_law_1117 (by decide) ?_
  refine lv_iadd hx hb dL_law_1118 ?_
  refine lv_topi (fun y_7 ey_7 => ?_)
  obtain rfl : y_7 = 2 := ey_7.trans (by first | rfl | decide)
  refine va_sld hx hb hX hbl hbA hS (i := 2) (by unfold vp_in; decide) dL_law_1119 ?_
  have hPc := hP.sub (ws' := [(y, .inr (10, mF z 0 0 0 0 0 0 0 0 0 (-1) (-1))), (z 0, .inl (mA, 101660, .inl (fun _ => 0))), (z 1, .inl (mT, 900, .inl (fun _ => 0))), (z 2, .inl (mX, 900, .inl (fun _ => 0))), (z 23, .inl (mC, 17576, .inl (fun _ => 0)))]) [0, 1, 2, 3, 4] rfl
  have hKc := hK.sub (tys' := [(mA, .int), (mT, .byte), (mX, .byte), (mC, .boolean)]) [5, 6, 7, 8] rfl
  have hDc := hD.sub (ws' := [(y, .inr (10, mF z 0 0 0 0 0 0 0 0 0 (-1) (-1))), (z 0, .inl (mA, 101660, .inl (fun _ => 0))), (z 1, .inl (mT, 900, .inl (fun _ => 0))), (z 2, .inl (mX, 900, .inl (fun _ => 0))), (z 23, .inl (mC, 17576, .inl (fun _ => 0)))]) [0, 1, 2, 3, 4] (by decide) rfl
  have hFc := va_free (wc := [(y, .inr (10, mF z 0 0 0 0 0 0 0 0 0 (-1) (-1))), (z 0, .inl (mA, 101660, .inl (fun _ => 0))), (z 1, .inl (mT, 900, .inl (fun _ => 0))), (z 2, .inl (mX, 900, .inl (fun _ => 0))), (z 23, .inl (mC, 17576, .inl (fun _ => 0)))]) hD hS hA [0, 1, 2, 3, 4] rfl
  refine va_calli (va_runV (As := [.int (xs (Int32.toNatClampNeg 1)), .int (xs (Int32.toNatClampNeg 2))]) (rest := [.int r_4]) ⟨hx, hb, hml, hown, hts⟩ (m_best l dC dI y z mA mT mX mC H.size (xs (Int32.toNatClampNeg 1)) (xs (Int32.toNatClampNeg 2))) (cwV 2 hts mg_L_law_X10_best_137 rfl rfl rfl (by decide +kernel) ⟨Nat.le_of_ble_eq_true rfl, Nat.le_of_ble_eq_true rfl⟩) ⟨fun a U g mk q => by obtain ⟨q0, q1, qP, qK, qD⟩ := q; exact ⟨q0, q1, qP, va_K.moved (u := U) (U := U.calling g mk a) (Vm.Alike.refl U.vm) qK, qD⟩, va_recv hKc hPc (ci := 10) (q0 := 0) rfl rfl, fun U hU hW => ⟨rfl, by rw [hU], by rw [hU]; exact hPc, va_K.moved hW.alike hKc, hDc.weaken (fun _ _ _ _ => trivial)⟩⟩ rfl rfl hl.1 rfl (lv_room (Nat.le_of_ble_eq_true rfl)) dL_law_1120 ⟨Nat.le_of_ble_eq_true rfl, Nat.le_of_ble_eq_true rfl⟩) hS (fun q _ h => hFc q h) hFc (fun r_9 u t H1 locs ht hvm hw hB hz1 hk1 hS => ?_)
  have hw_10 := hw
  obtain ⟨hP, hD⟩ := va_join (wr := []) (w1 := []) hP hD [0, 1, 2, 3, 4] [] rfl rfl (by decide) (by decide) hk1 hFc (fun k q h => by simp at h) ⟨fun i j p q h => by simp at h, fun k q h => by simp at h⟩
  generalize H1 = H at hP hS ⊢
  have hP : va_P (dC, dI) vwCl [] H := hP
  have hD : va_D (fun q : Nat => s.heap.size ≤ q) [] := hD
  refine W.widen (k := 1222) (n := 311064) (by omega) (by omega) ?_
  refine lv_icmp_eq (tgt := 1128) hx hb dL_law_1123 (by decide) (fun k_11 => ?_) (fun k_11 => absurd (hw_5.trans hw_10.symm) k_11)
  exact law_end C0 (Nat.le_of_ble_eq_true rfl) (Nat.le_of_ble_eq_true rfl) hS hl

theorem dL_law_0 : decode cL_law 0 = .ok (.new 7, 3) := by decide +kernel
theorem dL_law_3 : decode cL_law 3 = .ok (.dup, 1) := by decide +kernel
theorem dL_law_4 : decode cL_law 4 = .ok (.invokespecial 9, 3) := by decide +kernel
theorem dL_law_7 : decode cL_law 7 = .ok (.astore_n 1, 1) := by decide +kernel
theorem dL_law_8 : decode cL_law 8 = .ok (.new 10, 3) := by decide +kernel
theorem dL_law_11 : decode cL_law 11 = .ok (.dup, 1) := by decide +kernel
theorem dL_law_12 : decode cL_law 12 = .ok (.invokespecial 12, 3) := by decide +kernel
theorem dL_law_15 : decode cL_law 15 = .ok (.astore_n 2, 1) := by decide +kernel
theorem dL_law_16 : decode cL_law 16 = .ok (.iconst 0, 1) := by decide +kernel
theorem dL_law_17 : decode cL_law 17 = .ok (.istore_n 3, 1) := by decide +kernel
theorem dL_law_27 : decode cL_law 27 = .ok (.aload_n 0, 1) := by decide +kernel
theorem dL_law_28 : decode cL_law 28 = .ok (.iload_n 3, 1) := by decide +kernel
theorem dL_law_29 : decode cL_law 29 = .ok (.iaload, 1) := by decide +kernel
theorem dL_law_30 : decode cL_law 30 = .ok (.bipush 31, 2) := by decide +kernel
theorem dL_law_32 : decode cL_law 32 = .ok (.iand, 1) := by decide +kernel
theorem dL_law_33 : decode cL_law 33 = .ok (.tableswitch 1095 0 29 #[135, 148, 211, 234, 257, 280, 303, 336, 369, 402, 435, 478, 521, 554, 587, 620, 663, 706, 729, 762, 805, 848, 891, 934, 957, 980, 993, 1006, 1019, 1062], 135) := by decide +kernel
set_option maxRecDepth 20000 in
theorem fin_L_law_X0 : ∀ w ∈ wsX00, w ∈ lw_tbl := fun w h => (goodIn_r wsX00 [152, 154, 156] (by decide +kernel) (by decide +kernel) w h).1
set_option maxRecDepth 20000 in
theorem fin_L_law_X1 : ∀ w ∈ wsX10, w ∈ lw_tbl := fun w h => (goodIn_r wsX10 [315, 317, 319, 321, 323, 325, 327, 329, 331, 333, 335] (by decide +kernel) (by decide +kernel) w h).1
set_option maxRecDepth 20000 in
theorem fin_L_law_X2 : ∀ w ∈ wsX20, w ∈ lw_tbl := fun w h => (goodIn_r wsX20 [834, 836] (by decide +kernel) (by decide +kernel) w h).1
set_option maxRecDepth 20000 in
theorem fin_L_law_X3 : ∀ w ∈ wsX30, w ∈ lw_tbl := fun w h => (goodIn_r wsX30 [250, 252, 254, 256] (by decide +kernel) (by decide +kernel) w h).1
set_option maxRecDepth 20000 in
theorem fin_L_law_X4 : ∀ w ∈ wsX40, w ∈ lw_tbl := fun w h => (goodIn_r wsX40 [283, 285, 287, 289, 291, 293, 295, 297] (by decide +kernel) (by decide +kernel) w h).1
set_option maxRecDepth 20000 in
theorem fin_L_law_X5 : ∀ w ∈ wsX50, w ∈ lw_tbl := fun w h => (goodIn_r wsX50 [777, 779, 781, 783, 785, 787, 789, 791, 793, 795, 797, 799, 801] (by decide +kernel) (by decide +kernel) w h).1
set_option maxRecDepth 20000 in
theorem fin_L_law_X6 : ∀ w ∈ wsX60, w ∈ lw_tbl := fun w h => (goodIn_r wsX60 [186, 188, 190, 192, 194, 196, 198, 200, 202, 204, 206] (by decide +kernel) (by decide +kernel) w h).1
set_option maxRecDepth 20000 in
theorem fin_L_law_X7 : ∀ w ∈ wsX70, w ∈ lw_tbl := fun w h => (goodIn_r wsX70 [231, 233] (by decide +kernel) (by decide +kernel) w h).1
set_option maxRecDepth 20000 in
theorem fin_L_law_X8 : ∀ w ∈ wsX80, w ∈ lw_tbl := fun w h => (goodIn_r wsX80 [349, 351, 353] (by decide +kernel) (by decide +kernel) w h).1
set_option maxRecDepth 20000 in
theorem fin_L_law_X9 : ∀ w ∈ wsX90, w ∈ lw_tbl := fun w h => (goodIn_r wsX90 [372, 374, 376, 378, 380, 382, 384, 386, 388, 390, 392, 394, 396, 398, 400, 402] (by decide +kernel) (by decide +kernel) w h).1
set_option maxRecDepth 20000 in
theorem fin_L_law_X10 : ∀ w ∈ wsX100, w ∈ lw_tbl := fun w h => (goodIn_r wsX100 [1171, 1173, 1175, 1177, 1179, 1181, 1183, 1185, 1187, 1189, 1191, 1193, 1195, 1197, 1199, 1201, 1203, 1205, 1207, 1209, 1211, 1213, 1215, 1217, 1219, 1221, 1223, 1225, 1227, 1229, 1231, 1233, 1235, 1237, 1239, 1241, 1243, 1245, 1247, 1249, 1251, 1253, 1255, 1257, 1259, 1261, 1263, 1265] (by decide +kernel) (by decide +kernel) w h).1
set_option maxRecDepth 20000 in
theorem mg_L_law_X9_init_9 : GoodIn lw_tbl mwX9_init := goodIn_r _ [131, 132, 133, 134, 159, 357, 359, 360, 135, 136, 107, 137, 139, 143, 144, 145, 148, 150, 141, 142, 361, 363, 364, 161, 162, 108, 165, 166, 177, 179, 209, 181, 164, 366, 210, 211, 109, 214, 215, 216, 304, 305, 306, 218, 110, 221, 222, 223, 224, 111, 227, 228, 236, 229, 226, 259, 237, 238, 112, 241, 242, 243, 244, 113, 245, 246, 247, 248, 239, 240, 262, 220, 307, 300, 308, 302, 303, 309, 310, 311, 312, 313, 212, 213, 367, 338, 339, 114, 342, 343, 348, 341, 368, 369, 370, 371, 372, 374, 376, 378, 380, 382, 384, 386, 388, 390, 392, 394, 396, 398, 400, 402, 152, 154, 156, 186, 188, 190, 192, 194, 196, 198, 200, 202, 204, 206, 315, 317, 319, 321, 323, 325, 327, 329, 331, 333, 335, 283, 285, 287, 289, 291, 293, 295, 297, 231, 233, 250, 252, 254, 256, 349, 351, 353] (by decide +kernel) (by decide +kernel)
set_option maxRecDepth 20000 in
theorem mg_L_law_X10_init_12 : GoodIn lw_tbl mwX10_init := goodIn_r _ [1114, 1115, 133, 134, 1116, 159, 1123, 804, 1127, 1128, 1135, 1136, 1138, 1139, 1140, 1141, 1142, 1143, 1117, 1148, 1149, 1119, 1151, 1122, 1152, 1153, 209, 1156, 1158, 1159, 1160, 1161, 1162, 1163, 1164, 1167, 1168, 1169, 1170, 1171, 1173, 1175, 1177, 1179, 1181, 1183, 1185, 1187, 1189, 1191, 1193, 1195, 1197, 1199, 1201, 1203, 1205, 1207, 1209, 1211, 1213, 1215, 1217, 1219, 1221, 1223, 1225, 1227, 1229, 1231, 1233, 1235, 1237, 1239, 1241, 1243, 1245, 1247, 1249, 1251, 1253, 1255, 1257, 1259, 1261, 1263, 1265] (by decide +kernel) (by decide +kernel)
theorem md_M2 {U : State} {args : Array Value} {nm : String} {t : FieldType} {n1 n2 : Int32} (hA : (Cond.arrayOver (.array t)).before args U = true) (hB : (Cond.arrayClass t).before args U = true) (hnm : "[" ++ (FieldType.array t).toString = nm) (h1 : ¬ n1 < 0) (h2 : ¬ n2 < 0) (h3 : n1.toNatClampNeg * 4 ≤ 536870912) (h4 : n2.toNatClampNeg * componentBytes t ≤ 536870912) (h5 : n2.toNatClampNeg ≤ 536870912) (h6 : fits t (defaultValue t) = true) (h7 : (defaultValue t).isDefault = true) : md_M nm [n1, n2] U := by
  subst hnm
  intro l e vm cA a b f
  refine md_step b hA f h1 (by rw [Launch.admits_arrayLengthLimit a]; omega) (by rw [Launch.admits_maxHeapBytes a]; omega) (fun cB fB => ?_)
  exact md_base b hB fB h2 (by rw [Launch.admits_arrayLengthLimit a]; omega) (by rw [Launch.admits_maxHeapBytes a]; omega) h6 h7
theorem md_M3 {U : State} {args : Array Value} {nm : String} {t : FieldType} {n1 n2 n3 : Int32} (hA2 : (Cond.arrayOver (.array (.array t))).before args U = true) (hA : (Cond.arrayOver (.array t)).before args U = true) (hB : (Cond.arrayClass t).before args U = true) (hnm : "[" ++ (FieldType.array (.array t)).toString = nm) (h1 : ¬ n1 < 0) (h2 : ¬ n2 < 0) (h0 : ¬ n3 < 0) (h3 : n1.toNatClampNeg * 4 ≤ 536870912) (h3b : n2.toNatClampNeg * 4 ≤ 536870912) (h4 : n3.toNatClampNeg * componentBytes t ≤ 536870912) (h5 : n3.toNatClampNeg ≤ 536870912) (h6 : fits t (defaultValue t) = true) (h7 : (defaultValue t).isDefault = true) : md_M nm [n1, n2, n3] U := by
  subst hnm
  intro l e vm cA a b f
  refine md_step b hA2 f h1 (by rw [Launch.admits_arrayLengthLimit a]; omega) (by rw [Launch.admits_maxHeapBytes a]; omega) (fun cB fB => ?_)
  refine md_step b hA fB h2 (by rw [Launch.admits_arrayLengthLimit a]; omega) (by rw [Launch.admits_maxHeapBytes a]; omega) (fun cC fC => ?_)
  exact md_base b hB fC h0 (by rw [Launch.admits_arrayLengthLimit a]; omega) (by rw [Launch.admits_maxHeapBytes a]; omega) h6 h7
set_option maxHeartbeats 4000000 in
set_option maxRecDepth 100000 in
/-- the law, from its entry -/
theorem whole_start {p : Program} {e : Env} {s : State} {m : MethodId} {below : List Frame} {meth : Method} {c : Code} (l : Launch) (hflags : l.flags = flags0) {b L : Nat} {xs : Nat → Int32} (hL : L ≤ 6) (C0 : lw_At p s m meth c b L xs) : W p l e room_1 s m #[Value.ref b] below meth c s.heap [] 0 0 (lw_Z below #[Value.ref b] s) (entryFrame m ([Value.ref b] : List Value).toArray 4) := by
  obtain ⟨hx, hb, hr, hml, hown, hts, hX, hbl, hlocks, hgv⟩ := id C0
  have hown : s.vm.findClass RL = some m.cls := hown
  have hA : ∀ q : Nat, s.heap.size ≤ q → (fun q : Nat => s.heap.size ≤ q) q := fun _ h => h
  have hbA : ¬ (fun q : Nat => s.heap.size ≤ q) b := Nat.not_le.mpr hbl
  obtain ⟨c0, iS0, hKn0⟩ := u_known (C := RX0) (T := TX0) (N := 3) (n := 3) hts fin_L_law_X0 (hts (.instantiable RX0 3) (List.mem_of_getElem? (i := 136) (by decide +kernel)))
  obtain ⟨c1, iS1, hKn1⟩ := u_known (C := RX1) (T := TX1) (N := 11) (n := 11) hts fin_L_law_X1 (hts (.instantiable RX1 11) (List.mem_of_getElem? (i := 211) (by decide +kernel)))
  obtain ⟨c2, iS2, hKn2⟩ := u_known (C := RX2) (T := TX2) (N := 2) (n := 2) hts fin_L_law_X2 (hts (.instantiable RX2 2) (List.mem_of_getElem? (i := 821) (by decide +kernel)))
  obtain ⟨c3, iS3, hKn3⟩ := u_known (C := RX3) (T := TX3) (N := 4) (n := 4) hts fin_L_law_X3 (hts (.instantiable RX3 4) (List.mem_of_getElem? (i := 238) (by decide +kernel)))
  obtain ⟨c4, iS4, hKn4⟩ := u_known (C := RX4) (T := TX4) (N := 8) (n := 8) hts fin_L_law_X4 (hts (.instantiable RX4 8) (List.mem_of_getElem? (i := 218) (by decide +kernel)))
  obtain ⟨c5, iS5, hKn5⟩ := u_known (C := RX5) (T := TX5) (N := 13) (n := 13) hts fin_L_law_X5 (hts (.instantiable RX5 13) (List.mem_of_getElem? (i := 722) (by decide +kernel)))
  obtain ⟨c6, iS6, hKn6⟩ := u_known (C := RX6) (T := TX6) (N := 11) (n := 11) hts fin_L_law_X6 (hts (.instantiable RX6 11) (List.mem_of_getElem? (i := 162) (by decide +kernel)))
  obtain ⟨c7, iS7, hKn7⟩ := u_known (C := RX7) (T := TX7) (N := 2) (n := 2) hts fin_L_law_X7 (hts (.instantiable RX7 2) (List.mem_of_getElem? (i := 224) (by decide +kernel)))
  obtain ⟨c8, iS8, hKn8⟩ := u_known (C := RX8) (T := TX8) (N := 3) (n := 3) hts fin_L_law_X8 (hts (.instantiable RX8 3) (List.mem_of_getElem? (i := 339) (by decide +kernel)))
  obtain ⟨c9, iS9, hKn9⟩ := u_known (C := RX9) (T := TX9) (N := 16) (n := 16) hts fin_L_law_X9 (hts (.instantiable RX9 16) (List.mem_of_getElem? (i := 128) (by decide +kernel)))
  obtain ⟨c10, iS10, hKn10⟩ := u_known (C := RX10) (T := TX10) (N := 48) (n := 48) hts fin_L_law_X10 (hts (.instantiable RX10 48) (List.mem_of_getElem? (i := 1111) (by decide +kernel)))
  obtain ⟨dC, dI, hKc⟩ : ∃ (dC : Nat → ClassId) (dI : Nat → Nat → Nat), ∀ (k : Nat) (q : vw_C), vwCl[k]? = some q → u_Kn s q.1 q.2.1 q.2.2 (dC k) (dI k) := by
    refine ⟨fun k => if k = 0 then c0 else if k = 1 then c1 else if k = 2 then c2 else if k = 3 then c3 else if k = 4 then c4 else if k = 5 then c5 else if k = 6 then c6 else if k = 7 then c7 else if k = 8 then c8 else if k = 9 then c9 else c10, fun k => if k = 0 then iS0 else if k = 1 then iS1 else if k = 2 then iS2 else if k = 3 then iS3 else if k = 4 then iS4 else if k = 5 then iS5 else if k = 6 then iS6 else if k = 7 then iS7 else if k = 8 then iS8 else if k = 9 then iS9 else iS10, ?_⟩
    intro k q hq
    match k, hq with
    | 0, hq => cases hq; exact hKn0
    | 1, hq => cases hq; exact hKn1
    | 2, hq => cases hq; exact hKn2
    | 3, hq => cases hq; exact hKn3
    | 4, hq => cases hq; exact hKn4
    | 5, hq => cases hq; exact hKn5
    | 6, hq => cases hq; exact hKn6
    | 7, hq => cases hq; exact hKn7
    | 8, hq => cases hq; exact hKn8
    | 9, hq => cases hq; exact hKn9
    | 10, hq => cases hq; exact hKn10
    | k + 11, hq => simp [vwCl] at hq
  have hAO2 : va_AO "PatternGate$Doc" s := va_AO.of (hts (.arrayOver (.object "PatternGate$Doc")) (List.mem_of_getElem? (i := 138) (by decide +kernel)))
  have hAO5 : va_AO "PatternGate$Pattern" s := va_AO.of (hts (.arrayOver (.object "PatternGate$Pattern")) (List.mem_of_getElem? (i := 140) (by decide +kernel)))
  have hAO0 : va_AO "PatternGate$Book" s := va_AO.of (hts (.arrayOver (.object "PatternGate$Book")) (List.mem_of_getElem? (i := 160) (by decide +kernel)))
  have hAO4 : va_AO "PatternGate$Part" s := va_AO.of (hts (.arrayOver (.object "PatternGate$Part")) (List.mem_of_getElem? (i := 217) (by decide +kernel)))
  have hN42 : va_Nw (.methodLinkNest RX9 42 yX6_init "PatternGate") s := va_Nw.of rfl (hts (.methodLinkNest RX9 42 yX6_init "PatternGate") (List.mem_of_getElem? (i := 163) (by decide +kernel)))
  have hN56 : va_Nw (.methodLinkNest RX9 56 yX8_init "PatternGate") s := va_Nw.of rfl (hts (.methodLinkNest RX9 56 yX8_init "PatternGate") (List.mem_of_getElem? (i := 340) (by decide +kernel)))
  have hN24 : va_Nw (.methodLinkNest RX1 24 yX4_init "PatternGate") s := va_Nw.of rfl (hts (.methodLinkNest RX1 24 yX4_init "PatternGate") (List.mem_of_getElem? (i := 219) (by decide +kernel)))
  have hN31 : va_Nw (.methodLinkNest RX1 31 yX7_init "PatternGate") s := va_Nw.of rfl (hts (.methodLinkNest RX1 31 yX7_init "PatternGate") (List.mem_of_getElem? (i := 301) (by decide +kernel)))
  have hN11 : va_Nw (.methodLinkNest RX4 11 yX7_init "PatternGate") s := va_Nw.of rfl (hts (.methodLinkNest RX4 11 yX7_init "PatternGate") (List.mem_of_getElem? (i := 225) (by decide +kernel)))
  have hM0 : md_M "[[J" [90, 40] s := md_M2 (t := .long) (hts (.arrayOver (.array .long)) (List.mem_of_getElem? (i := 1118) (by decide +kernel))) (hts (.arrayClass .long) (List.mem_of_getElem? (i := 236) (by decide +kernel))) (by decide +kernel) (by decide) (by decide) (by decide +kernel) (by decide +kernel) (by decide +kernel) rfl rfl
  have hM2 : md_M "[[I" [150, 170] s := md_M2 (t := .int) (hts (.arrayOver (.array .int)) (List.mem_of_getElem? (i := 1121) (by decide +kernel))) (hts (.arrayClass .int) (List.mem_of_getElem? (i := 159) (by decide +kernel))) (by decide +kernel) (by decide) (by decide) (by decide +kernel) (by decide +kernel) (by decide +kernel) rfl rfl
  have hM3 : md_M "[[I" [12, 170] s := md_M2 (t := .int) (hts (.arrayOver (.array .int)) (List.mem_of_getElem? (i := 1121) (by decide +kernel))) (hts (.arrayClass .int) (List.mem_of_getElem? (i := 159) (by decide +kernel))) (by decide +kernel) (by decide) (by decide) (by decide +kernel) (by decide +kernel) (by decide +kernel) rfl rfl
  have hM1 : md_M "[[[I" [60, 12, 170] s := md_M3 (t := .int) (hts (.arrayOver (.array (.array .int))) (List.mem_of_getElem? (i := 1120) (by decide +kernel))) (hts (.arrayOver (.array .int)) (List.mem_of_getElem? (i := 1121) (by decide +kernel))) (hts (.arrayClass .int) (List.mem_of_getElem? (i := 159) (by decide +kernel))) (by decide +kernel) (by decide) (by decide) (by decide) (by decide +kernel) (by decide +kernel) (by decide +kernel) (by decide +kernel) rfl rfl
  have hS : va_S (fun q : Nat => s.heap.size ≤ q) s.heap s.heap [] := va_S.rf
  have hK : va_K (dC, dI) vwCl [] s := ⟨hKc, fun k q h => by simp at h⟩
  have hP : va_P (dC, dI) vwCl [] s.heap := fun k q h => by simp at h
  have hD : va_D (fun q : Nat => s.heap.size ≤ q) [] := ⟨fun i j p q h => by simp at h, fun k q h => by simp at h⟩
  have hl := lv_entry ([.ref b]) (n := 4) (Nat.le_of_ble_eq_true rfl)
  rw [lg_entry_eq]
  generalize (lg_sl ([.ref b]) ++ List.replicate (4 - (lg_sl ([.ref b])).length) Slot.unset).toArray = ls at hl ⊢
  have hl : lv_has ls 4 [(0, .ref b)] := hl
  refine va_new (ci := 9) (fs := [.int 0, .null, .int 0, .int 0, .int 0, .null, .int 0, .null, .null, .int 0, .null, .null, .null, .null, .null, .null]) (C := RX9) (T := TX9) (N := 16) hx hb hts fin_L_law_X9 tyX9 tyX9_ok hown (hts (.classLink RL 7 RX9) (List.mem_of_getElem? (i := 127) (by decide +kernel))) (hts (.instantiable RX9 16) (List.mem_of_getElem? (i := 128) (by decide +kernel))) (hts (.initialized RX9) (List.mem_of_getElem? (i := 106) (by decide +kernel))) hK hP hD hS hA rfl (fun j hj => by rcases (show j = 0 ∨ j = 1 ∨ j = 2 ∨ j = 3 ∨ j = 4 ∨ j = 5 ∨ j = 6 ∨ j = 7 ∨ j = 8 ∨ j = 9 ∨ j = 10 ∨ j = 11 ∨ j = 12 ∨ j = 13 ∨ j = 14 ∨ j = 15 by omega) with rfl | rfl | rfl | rfl | rfl | rfl | rfl | rfl | rfl | rfl | rfl | rfl | rfl | rfl | rfl | rfl <;> rfl) (Nat.le_of_ble_eq_true rfl) (Nat.le_of_ble_eq_true rfl) dL_law_0 (fun q_1 H hP hD hS => ?_)
  have hP : va_P (dC, dI) vwCl [(q_1, .inr (9, [.int 0, .null, .int 0, .int 0, .int 0, .null, .int 0, .null, .null, .int 0, .null, .null, .null, .null, .null, .null]))] H := hP
  have hD : va_D (fun q : Nat => s.heap.size ≤ q) [(q_1, .inr (9, [.int 0, .null, .int 0, .int 0, .int 0, .null, .int 0, .null, .null, .int 0, .null, .null, .null, .null, .null, .null]))] := hD
  refine W.widen (k := 1) (n := 16) (by omega) (by omega) ?_
  refine lv_dup hx hb dL_law_3 rfl ?_
  have hPc := hP.sub (ws' := [(q_1, .inr (9, [.int 0, .null, .int 0, .int 0, .int 0, .null, .int 0, .null, .null, .int 0, .null, .null, .null, .null, .null, .null]))]) [0] rfl
  have hKc := hK.sub (tys' := []) [] rfl
  have hDc := hD.sub (ws' := [(q_1, .inr (9, [.int 0, .null, .int 0, .int 0, .int 0, .null, .int 0, .null, .null, .int 0, .null, .null, .null, .null, .null, .null]))]) [0] (by decide) rfl
  have hFc := va_free (wc := [(q_1, .inr (9, [.int 0, .null, .int 0, .int 0, .int 0, .null, .int 0, .null, .null, .int 0, .null, .null, .null, .null, .null, .null]))]) hD hS hA [0] rfl
  refine va_callv (va_runI (As := []) (rest := [.ref q_1]) ⟨hx, hb, hml, hown, hts⟩ (c_Gate l dC dI q_1 H.size) (cwI 0 hts mg_L_law_X9_init_9 rfl rfl rfl (hts (.initialized RX9) (List.mem_of_getElem? (i := 106) (by decide +kernel))) (hts (.methodLink RL 9 yX9_init) (List.mem_of_getElem? (i := 129) (by decide +kernel))) (hts (.instanceMethod yX9_init) (List.mem_of_getElem? (i := 130) (by decide +kernel))) rfl (by decide +kernel) ⟨Nat.le_of_ble_eq_true rfl, Nat.le_of_ble_eq_true rfl⟩) ⟨fun a U g mk q => by obtain ⟨q0, q1, qP, qK, qD, qE0, qE1, qE2, qE3, qE4, qE5, qE6, qE7, qE8⟩ := q; exact ⟨q0, q1, qP, va_K.moved (u := U) (U := U.calling g mk a) (Vm.Alike.refl U.vm) qK, qD, va_AO.moved (u := U) (U := U.calling g mk a) (Vm.Alike.refl U.vm) qE0, va_AO.moved (u := U) (U := U.calling g mk a) (Vm.Alike.refl U.vm) qE1, va_AO.moved (u := U) (U := U.calling g mk a) (Vm.Alike.refl U.vm) qE2, va_AO.moved (u := U) (U := U.calling g mk a) (Vm.Alike.refl U.vm) qE3, va_Nw.same rfl (rfl : U.vm = (U.calling g mk a).vm) qE4, va_Nw.same rfl (rfl : U.vm = (U.calling g mk a).vm) qE5, va_Nw.same rfl (rfl : U.vm = (U.calling g mk a).vm) qE6, va_Nw.same rfl (rfl : U.vm = (U.calling g mk a).vm) qE7, va_Nw.same rfl (rfl : U.vm = (U.calling g mk a).vm) qE8⟩, fun U hU hW => ⟨rfl, by rw [hU], by rw [hU]; exact hPc, va_K.moved hW.alike hKc, hDc.weaken (fun _ _ _ _ => trivial), va_AO.moved hW.alike hAO2, va_AO.moved hW.alike hAO5, va_AO.moved hW.alike hAO0, va_AO.moved hW.alike hAO4, va_Nw.warmM hW hN42, va_Nw.warmM hW hN56, va_Nw.warmM hW hN24, va_Nw.warmM hW hN31, va_Nw.warmM hW hN11⟩⟩ rfl rfl hl.1 rfl (lv_room (Nat.le_of_ble_eq_true rfl)) dL_law_4 ⟨Nat.le_of_ble_eq_true rfl, Nat.le_of_ble_eq_true rfl⟩) hS (fun q _ h => hFc q h) hFc (fun u t H1 locs ht hvm hw hB hz1 hk1 hS => ?_)
  obtain ⟨q, bk, d0, p0, cT, cD, cP, cB, cU, r, hP1, hK1, hD1⟩ := hB
  rw [ht] at hP1
  have hK1 := va_K.moved hvm.symm hK1
  obtain ⟨hP, hD⟩ := va_join (wr := []) (w1 := [(q_1, .inr (9, gF q 0 0 (-1) (-1) bk 0 0)), (q 0, .inl (cT, 900, .inl (fun _ => 0))), (bk, .inr (0, [.ref d0, .ref p0, .null])), (d0, .inl (cD, 0, .inr (.inr (.inr (.inr (fun _ => none)))))), (p0, .inl (cP, 0, .inr (.inr (.inr (.inr (fun _ => none)))))), (q 1, .inl (cB, 3, .inr (.inr (.inr (.inr (fun _ => none)))))), (q 2, .inl (cU, 3, .inl (fun _ => 0))), (q 3, .inr (6, rF r 0 0 0 0 0 0 0 0))]) hP hD [0] [] rfl rfl (by decide) (by decide) hk1 hFc hP1 hD1
  generalize H1 = H at hP hS ⊢
  have hP : va_P (dC, dI) vwCl [(q_1, .inr (9, gF q 0 0 (-1) (-1) bk 0 0)), (q 0, .inl (cT, 900, .inl (fun _ => 0))), (bk, .inr (0, [.ref d0, .ref p0, .null])), (d0, .inl (cD, 0, .inr (.inr (.inr (.inr (fun _ => none)))))), (p0, .inl (cP, 0, .inr (.inr (.inr (.inr (fun _ => none)))))), (q 1, .inl (cB, 3, .inr (.inr (.inr (.inr (fun _ => none)))))), (q 2, .inl (cU, 3, .inl (fun _ => 0))), (q 3, .inr (6, rF r 0 0 0 0 0 0 0 0))] H := hP
  have hD : va_D (fun q : Nat => s.heap.size ≤ q) [(q_1, .inr (9, gF q 0 0 (-1) (-1) bk 0 0)), (q 0, .inl (cT, 900, .inl (fun _ => 0))), (bk, .inr (0, [.ref d0, .ref p0, .null])), (d0, .inl (cD, 0, .inr (.inr (.inr (.inr (fun _ => none)))))), (p0, .inl (cP, 0, .inr (.inr (.inr (.inr (fun _ => none)))))), (q 1, .inl (cB, 3, .inr (.inr (.inr (.inr (fun _ => none)))))), (q 2, .inl (cU, 3, .inl (fun _ => 0))), (q 3, .inr (6, rF r 0 0 0 0 0 0 0 0))] := hD
  have hK := hK.app hK1
  have hK : va_K (dC, dI) vwCl [(cT, .int), (cD, .object "PatternGate$Doc"), (cP, .object "PatternGate$Pattern"), (cB, .object "PatternGate$Book"), (cU, .int)] s := hK
  refine W.widen (k := 121) (n := 11016) (by omega) (by omega) ?_
  refine lv_astore_n (lv' := [(1, .ref q_1), (0, .ref b)]) hx hb dL_law_7 rfl hl (by decide) rfl (fun ls hl => ?_)
  refine va_new (ci := 10) (fs := [.null, .int 0, .int 0, .int 0, .null, .null, .int 0, .int 0, .int 0, .int 0, .int 0, .int 0, .int 0, .int 0, .int 0, .null, .null, .null, .null, .null, .null, .int 0, .int 0, .int 0, .int 0, .null, .null, .int 0, .null, .null, .null, .int 0, .int 0, .null, .int 0, .null, .null, .null, .null, .null, .null, .null, .int 0, .int 0, .null, .null, .null, .null]) (C := RX10) (T := TX10) (N := 48) hx hb hts fin_L_law_X10 tyX10 tyX10_ok hown (hts (.classLink RL 10 RX10) (List.mem_of_getElem? (i := 1110) (by decide +kernel))) (hts (.instantiable RX10 48) (List.mem_of_getElem? (i := 1111) (by decide +kernel))) (hts (.initialized RX10) (List.mem_of_getElem? (i := 115) (by decide +kernel))) hK hP hD hS hA rfl (fun j hj => by rcases (show j = 0 ∨ j = 1 ∨ j = 2 ∨ j = 3 ∨ j = 4 ∨ j = 5 ∨ j = 6 ∨ j = 7 ∨ j = 8 ∨ j = 9 ∨ j = 10 ∨ j = 11 ∨ j = 12 ∨ j = 13 ∨ j = 14 ∨ j = 15 ∨ j = 16 ∨ j = 17 ∨ j = 18 ∨ j = 19 ∨ j = 20 ∨ j = 21 ∨ j = 22 ∨ j = 23 ∨ j = 24 ∨ j = 25 ∨ j = 26 ∨ j = 27 ∨ j = 28 ∨ j = 29 ∨ j = 30 ∨ j = 31 ∨ j = 32 ∨ j = 33 ∨ j = 34 ∨ j = 35 ∨ j = 36 ∨ j = 37 ∨ j = 38 ∨ j = 39 ∨ j = 40 ∨ j = 41 ∨ j = 42 ∨ j = 43 ∨ j = 44 ∨ j = 45 ∨ j = 46 ∨ j = 47 by omega) with rfl | rfl | rfl | rfl | rfl | rfl | rfl | rfl | rfl | rfl | rfl | rfl | rfl | rfl | rfl | rfl | rfl | rfl | rfl | rfl | rfl | rfl | rfl | rfl | rfl | rfl | rfl | rfl | rfl | rfl | rfl | rfl | rfl | rfl | rfl | rfl | rfl | rfl | rfl | rfl | rfl | rfl | rfl | rfl | rfl | rfl | rfl | rfl <;> rfl) (Nat.le_of_ble_eq_true rfl) (Nat.le_of_ble_eq_true rfl) dL_law_8 (fun q_4 H hP hD hS => ?_)
  have hP : va_P (dC, dI) vwCl [(q_1, .inr (9, gF q 0 0 (-1) (-1) bk 0 0)), (q 0, .inl (cT, 900, .inl (fun _ => 0))), (bk, .inr (0, [.ref d0, .ref p0, .null])), (d0, .inl (cD, 0, .inr (.inr (.inr (.inr (fun _ => none)))))), (p0, .inl (cP, 0, .inr (.inr (.inr (.inr (fun _ => none)))))), (q 1, .inl (cB, 3, .inr (.inr (.inr (.inr (fun _ => none)))))), (q 2, .inl (cU, 3, .inl (fun _ => 0))), (q 3, .inr (6, rF r 0 0 0 0 0 0 0 0)), (q_4, .inr (10, [.null, .int 0, .int 0, .int 0, .null, .null, .int 0, .int 0, .int 0, .int 0, .int 0, .int 0, .int 0, .int 0, .int 0, .null, .null, .null, .null, .null, .null, .int 0, .int 0, .int 0, .int 0, .null, .null, .int 0, .null, .null, .null, .int 0, .int 0, .null, .int 0, .null, .null, .null, .null, .null, .null, .null, .int 0, .int 0, .null, .null, .null, .null]))] H := hP
  have hD : va_D (fun q : Nat => s.heap.size ≤ q) [(q_1, .inr (9, gF q 0 0 (-1) (-1) bk 0 0)), (q 0, .inl (cT, 900, .inl (fun _ => 0))), (bk, .inr (0, [.ref d0, .ref p0, .null])), (d0, .inl (cD, 0, .inr (.inr (.inr (.inr (fun _ => none)))))), (p0, .inl (cP, 0, .inr (.inr (.inr (.inr (fun _ => none)))))), (q 1, .inl (cB, 3, .inr (.inr (.inr (.inr (fun _ => none)))))), (q 2, .inl (cU, 3, .inl (fun _ => 0))), (q 3, .inr (6, rF r 0 0 0 0 0 0 0 0)), (q_4, .inr (10, [.null, .int 0, .int 0, .int 0, .null, .null, .int 0, .int 0, .int 0, .int 0, .int 0, .int 0, .int 0, .int 0, .int 0, .null, .null, .null, .null, .null, .null, .int 0, .int 0, .int 0, .int 0, .null, .null, .int 0, .null, .null, .null, .int 0, .int 0, .null, .int 0, .null, .null, .null, .null, .null, .null, .null, .int 0, .int 0, .null, .null, .null, .null]))] := hD
  refine W.widen (k := 122) (n := 11064) (by omega) (by omega) ?_
  refine lv_dup hx hb dL_law_11 rfl ?_
  have hPc := hP.sub (ws' := [(q_4, .inr (10, [.null, .int 0, .int 0, .int 0, .null, .null, .int 0, .int 0, .int 0, .int 0, .int 0, .int 0, .int 0, .int 0, .int 0, .null, .null, .null, .null, .null, .null, .int 0, .int 0, .int 0, .int 0, .null, .null, .int 0, .null, .null, .null, .int 0, .int 0, .null, .int 0, .null, .null, .null, .null, .null, .null, .null, .int 0, .int 0, .null, .null, .null, .null]))]) [8] rfl
  have hKc := hK.sub (tys' := []) [] rfl
  have hDc := hD.sub (ws' := [(q_4, .inr (10, [.null, .int 0, .int 0, .int 0, .null, .null, .int 0, .int 0, .int 0, .int 0, .int 0, .int 0, .int 0, .int 0, .int 0, .null, .null, .null, .null, .null, .null, .int 0, .int 0, .int 0, .int 0, .null, .null, .int 0, .null, .null, .null, .int 0, .int 0, .null, .int 0, .null, .null, .null, .null, .null, .null, .null, .int 0, .int 0, .null, .null, .null, .null]))]) [8] (by decide) rfl
  have hFc := va_free (wc := [(q_4, .inr (10, [.null, .int 0, .int 0, .int 0, .null, .null, .int 0, .int 0, .int 0, .int 0, .int 0, .int 0, .int 0, .int 0, .int 0, .null, .null, .null, .null, .null, .null, .int 0, .int 0, .int 0, .int 0, .null, .null, .int 0, .null, .null, .null, .int 0, .int 0, .null, .int 0, .null, .null, .null, .null, .null, .null, .null, .int 0, .int 0, .null, .null, .null, .null]))]) hD hS hA [8] rfl
  refine va_callv (va_runI (As := []) (rest := [.ref q_4]) ⟨hx, hb, hml, hown, hts⟩ (m_Model l dC dI q_4 H.size) (cwI 0 hts mg_L_law_X10_init_12 rfl rfl rfl (hts (.initialized RX10) (List.mem_of_getElem? (i := 115) (by decide +kernel))) (hts (.methodLink RL 12 yX10_init) (List.mem_of_getElem? (i := 1112) (by decide +kernel))) (hts (.instanceMethod yX10_init) (List.mem_of_getElem? (i := 1113) (by decide +kernel))) rfl (by decide +kernel) ⟨Nat.le_of_ble_eq_true rfl, Nat.le_of_ble_eq_true rfl⟩) ⟨fun a U g mk q => by obtain ⟨q0, q1, qP, qK, qD, qE0, qE1, qE2, qE3⟩ := q; exact ⟨q0, q1, qP, va_K.moved (u := U) (U := U.calling g mk a) (Vm.Alike.refl U.vm) qK, qD, md_M.moved (u := U) (U := U.calling g mk a) (Vm.Alike.refl U.vm) qE0, md_M.moved (u := U) (U := U.calling g mk a) (Vm.Alike.refl U.vm) qE1, md_M.moved (u := U) (U := U.calling g mk a) (Vm.Alike.refl U.vm) qE2, md_M.moved (u := U) (U := U.calling g mk a) (Vm.Alike.refl U.vm) qE3⟩, fun U hU hW => ⟨rfl, by rw [hU], by rw [hU]; exact hPc, va_K.moved hW.alike hKc, hDc.weaken (fun _ _ _ _ => trivial), md_M.moved hW.alike hM0, md_M.moved hW.alike hM1, md_M.moved hW.alike hM2, md_M.moved hW.alike hM3⟩⟩ rfl rfl hl.1 rfl (lv_room (Nat.le_of_ble_eq_true rfl)) dL_law_12 ⟨Nat.le_of_ble_eq_true rfl, Nat.le_of_ble_eq_true rfl⟩) hS (fun q _ h => hFc q h) hFc (fun u t H1 locs ht hvm hw hB hz1 hk1 hS => ?_)
  obtain ⟨z, mA, mT, mX, mC, hP1, hK1, hD1⟩ := hB
  rw [ht] at hP1
  have hK1 := va_K.moved hvm.symm hK1
  obtain ⟨hP, hD⟩ := va_join (wr := [(q_1, .inr (9, gF q 0 0 (-1) (-1) bk 0 0)), (q 0, .inl (cT, 900, .inl (fun _ => 0))), (bk, .inr (0, [.ref d0, .ref p0, .null])), (d0, .inl (cD, 0, .inr (.inr (.inr (.inr (fun _ => none)))))), (p0, .inl (cP, 0, .inr (.inr (.inr (.inr (fun _ => none)))))), (q 1, .inl (cB, 3, .inr (.inr (.inr (.inr (fun _ => none)))))), (q 2, .inl (cU, 3, .inl (fun _ => 0))), (q 3, .inr (6, rF r 0 0 0 0 0 0 0 0))]) (w1 := [(q_4, .inr (10, mF z 0 0 0 0 0 0 0 0 0 (-1) (-1))), (z 0, .inl (mA, 101660, .inl (fun _ => 0))), (z 1, .inl (mT, 900, .inl (fun _ => 0))), (z 2, .inl (mX, 900, .inl (fun _ => 0))), (z 23, .inl (mC, 17576, .inl (fun _ => 0)))]) hP hD [8] [0, 1, 2, 3, 4, 5, 6, 7] rfl rfl (by decide) (by decide) hk1 hFc hP1 hD1
  generalize H1 = H at hP hS ⊢
  have hP : va_P (dC, dI) vwCl [(q_1, .inr (9, gF q 0 0 (-1) (-1) bk 0 0)), (q 0, .inl (cT, 900, .inl (fun _ => 0))), (bk, .inr (0, [.ref d0, .ref p0, .null])), (d0, .inl (cD, 0, .inr (.inr (.inr (.inr (fun _ => none)))))), (p0, .inl (cP, 0, .inr (.inr (.inr (.inr (fun _ => none)))))), (q 1, .inl (cB, 3, .inr (.inr (.inr (.inr (fun _ => none)))))), (q 2, .inl (cU, 3, .inl (fun _ => 0))), (q 3, .inr (6, rF r 0 0 0 0 0 0 0 0)), (q_4, .inr (10, mF z 0 0 0 0 0 0 0 0 0 (-1) (-1))), (z 0, .inl (mA, 101660, .inl (fun _ => 0))), (z 1, .inl (mT, 900, .inl (fun _ => 0))), (z 2, .inl (mX, 900, .inl (fun _ => 0))), (z 23, .inl (mC, 17576, .inl (fun _ => 0)))] H := hP
  have hD : va_D (fun q : Nat => s.heap.size ≤ q) [(q_1, .inr (9, gF q 0 0 (-1) (-1) bk 0 0)), (q 0, .inl (cT, 900, .inl (fun _ => 0))), (bk, .inr (0, [.ref d0, .ref p0, .null])), (d0, .inl (cD, 0, .inr (.inr (.inr (.inr (fun _ => none)))))), (p0, .inl (cP, 0, .inr (.inr (.inr (.inr (fun _ => none)))))), (q 1, .inl (cB, 3, .inr (.inr (.inr (.inr (fun _ => none)))))), (q 2, .inl (cU, 3, .inl (fun _ => 0))), (q 3, .inr (6, rF r 0 0 0 0 0 0 0 0)), (q_4, .inr (10, mF z 0 0 0 0 0 0 0 0 0 (-1) (-1))), (z 0, .inl (mA, 101660, .inl (fun _ => 0))), (z 1, .inl (mT, 900, .inl (fun _ => 0))), (z 2, .inl (mX, 900, .inl (fun _ => 0))), (z 23, .inl (mC, 17576, .inl (fun _ => 0)))] := hD
  have hK := hK.app hK1
  have hK : va_K (dC, dI) vwCl [(cT, .int), (cD, .object "PatternGate$Doc"), (cP, .object "PatternGate$Pattern"), (cB, .object "PatternGate$Book"), (cU, .int), (mA, .int), (mT, .byte), (mX, .byte), (mC, .boolean)] s := hK
  refine W.widen (k := 1222) (n := 311064) (by omega) (by omega) ?_
  refine lv_astore_n (lv' := [(2, .ref q_4), (1, .ref q_1), (0, .ref b)]) hx hb dL_law_15 rfl hl (by decide) rfl (fun ls hl => ?_)
  refine lv_iconst (v := 0) hx hb dL_law_16 (by decide) ?_
  refine lv_istore_n (lv' := [(3, .int 0), (2, .ref q_4), (1, .ref q_1), (0, .ref b)]) hx hb dL_law_17 rfl hl (by decide) rfl (fun ls hl => ?_)
  have hc9 : 1222 ≤ 600000 := Nat.le_of_ble_eq_true rfl
  have hs9 : 311064 ≤ 7302250 := Nat.le_of_ble_eq_true rfl
  rcases (show L = 6 ∨ L < 6 by omega) with rfl | hlt
  · refine lv_iload_n hx hb dL_law_18 rfl (lv_at hl 0 rfl) ?_
    refine lv_aload_n hx hb dL_law_19 rfl (lv_at hl 3 rfl) ?_
    refine va_slen hx hb hX hbl hbA hS dL_law_20 ?_
    refine lv_topi (fun y_7 ey_7 => ?_)
    obtain rfl : y_7 = 6 := ey_7.trans (by first | rfl | decide)
    refine lv_bipush (v := 6) hx hb dL_law_21 (by decide) ?_
    refine lv_isub hx hb dL_law_23 ?_
    refine lv_topi (fun y_8 ey_8 => ?_)
    obtain rfl : y_8 = 0 := ey_8.trans (by first | rfl | decide)
    refine lv_icmp_gt (tgt := 1134) hx hb dL_law_24 (by decide) (fun k_9 => absurd k_9 (by decide)) (fun k_9 => ?_)
    refine lv_aload_n hx hb dL_law_27 rfl (lv_at hl 3 rfl) ?_
    refine lv_iload_n hx hb dL_law_28 rfl (lv_at hl 0 rfl) ?_
    refine va_sld hx hb hX hbl hbA hS (i := 0) (by unfold vp_in; decide) dL_law_29 ?_
    refine lv_bipush (v := 31) hx hb dL_law_30 (by decide) ?_
    refine lv_iand hx hb dL_law_32 ?_
    refine lv_topi (fun y_10 ey_10 => ?_)
    by_cases hA1 : y_10.toInt < 0 ∨ 29 < y_10.toInt
    · refine lv_tableOut (tgt := 1128) hx hb dL_law_33 hA1 (by decide) ?_
      exact law_end C0 (Nat.le_of_ble_eq_true rfl) (Nat.le_of_ble_eq_true rfl) hS hl
    · have hA2 : ¬ y_10.toInt < 0 := fun h => hA1 (Or.inl h)
      have hA3 : ¬ 29 < y_10.toInt := fun h => hA1 (Or.inr h)
      rcases (show y_10.toInt = 0 ∨ y_10.toInt = 1 ∨ y_10.toInt = 2 ∨ y_10.toInt = 3 ∨ y_10.toInt = 4 ∨ y_10.toInt = 5 ∨ y_10.toInt = 6 ∨ y_10.toInt = 7 ∨ y_10.toInt = 8 ∨ y_10.toInt = 9 ∨ y_10.toInt = 10 ∨ y_10.toInt = 11 ∨ y_10.toInt = 12 ∨ y_10.toInt = 13 ∨ y_10.toInt = 14 ∨ y_10.toInt = 15 ∨ y_10.toInt = 16 ∨ y_10.toInt = 17 ∨ y_10.toInt = 18 ∨ y_10.toInt = 19 ∨ y_10.toInt = 20 ∨ y_10.toInt = 21 ∨ y_10.toInt = 22 ∨ y_10.toInt = 23 ∨ y_10.toInt = 24 ∨ y_10.toInt = 25 ∨ y_10.toInt = 26 ∨ y_10.toInt = 27 ∨ y_10.toInt = 28 ∨ y_10.toInt = 29 by omega) with hA4 | hA4 | hA4 | hA4 | hA4 | hA4 | hA4 | hA4 | hA4 | hA4 | hA4 | hA4 | hA4 | hA4 | hA4 | hA4 | hA4 | hA4 | hA4 | hA4 | hA4 | hA4 | hA4 | hA4 | hA4 | hA4 | hA4 | hA4 | hA4 | hA4
      · exact lv_tableIn (off := 135) (tgt := 168) hx hb dL_law_33 hA2 hA3 (by rw [hA4]; rfl) (by decide) (law_case0 C0 hK hP hD hS hAO2 hAO5 hl)
      · exact lv_tableIn (off := 148) (tgt := 181) hx hb dL_law_33 hA2 hA3 (by rw [hA4]; rfl) (by decide) (law_case1 C0 hK hP hD hS hAO2 hAO5 hl)
      · exact lv_tableIn (off := 211) (tgt := 244) hx hb dL_law_33 hA2 hA3 (by rw [hA4]; rfl) (by decide) (law_case2 C0 hK hP hD hS hAO2 hAO5 hl)
      · exact lv_tableIn (off := 234) (tgt := 267) hx hb dL_law_33 hA2 hA3 (by rw [hA4]; rfl) (by decide) (law_case3 C0 hK hP hD hS hAO2 hAO5 hl)
      · exact lv_tableIn (off := 257) (tgt := 290) hx hb dL_law_33 hA2 hA3 (by rw [hA4]; rfl) (by decide) (law_case4 C0 hK hP hD hS hAO2 hAO5 hl)
      · exact lv_tableIn (off := 280) (tgt := 313) hx hb dL_law_33 hA2 hA3 (by rw [hA4]; rfl) (by decide) (law_case5 C0 hK hP hD hS hAO2 hAO5 hl)
      · exact lv_tableIn (off := 303) (tgt := 336) hx hb dL_law_33 hA2 hA3 (by rw [hA4]; rfl) (by decide) (law_case6 C0 hK hP hD hS hAO2 hAO5 hl)
      · exact lv_tableIn (off := 336) (tgt := 369) hx hb dL_law_33 hA2 hA3 (by rw [hA4]; rfl) (by decide) (law_case7 C0 hK hP hD hS hAO2 hAO5 hl)
      · exact lv_tableIn (off := 369) (tgt := 402) hx hb dL_law_33 hA2 hA3 (by rw [hA4]; rfl) (by decide) (law_case8 C0 hK hP hD hS hAO2 hAO5 hl)
      · exact lv_tableIn (off := 402) (tgt := 435) hx hb dL_law_33 hA2 hA3 (by rw [hA4]; rfl) (by decide) (law_case9 C0 hK hP hD hS hAO2 hAO5 hl)
      · exact lv_tableIn (off := 435) (tgt := 468) hx hb dL_law_33 hA2 hA3 (by rw [hA4]; rfl) (by decide) (law_case10 C0 hK hP hD hS hAO2 hAO5 hl)
      · exact lv_tableIn (off := 478) (tgt := 511) hx hb dL_law_33 hA2 hA3 (by rw [hA4]; rfl) (by decide) (law_case11 C0 hK hP hD hS hAO2 hAO5 hl)
      · exact lv_tableIn (off := 521) (tgt := 554) hx hb dL_law_33 hA2 hA3 (by rw [hA4]; rfl) (by decide) (law_case12 C0 hK hP hD hS hAO2 hAO5 hl)
      · exact lv_tableIn (off := 554) (tgt := 587) hx hb dL_law_33 hA2 hA3 (by rw [hA4]; rfl) (by decide) (law_case13 C0 hK hP hD hS hAO2 hAO5 hl)
      · exact lv_tableIn (off := 587) (tgt := 620) hx hb dL_law_33 hA2 hA3 (by rw [hA4]; rfl) (by decide) (law_case14 C0 hK hP hD hS hAO2 hAO5 hl)
      · exact lv_tableIn (off := 620) (tgt := 653) hx hb dL_law_33 hA2 hA3 (by rw [hA4]; rfl) (by decide) (law_case15 C0 hK hP hD hS hAO2 hAO5 hl)
      · exact lv_tableIn (off := 663) (tgt := 696) hx hb dL_law_33 hA2 hA3 (by rw [hA4]; rfl) (by decide) (law_case16 C0 hK hP hD hS hAO2 hAO5 hl)
      · exact lv_tableIn (off := 706) (tgt := 739) hx hb dL_law_33 hA2 hA3 (by rw [hA4]; rfl) (by decide) (law_case17 C0 hK hP hD hS hAO2 hAO5 hl)
      · exact lv_tableIn (off := 729) (tgt := 762) hx hb dL_law_33 hA2 hA3 (by rw [hA4]; rfl) (by decide) (law_case18 C0 hK hP hD hS hAO2 hAO5 hl)
      · exact lv_tableIn (off := 762) (tgt := 795) hx hb dL_law_33 hA2 hA3 (by rw [hA4]; rfl) (by decide) (law_case19 C0 hK hP hD hS hAO2 hAO5 hl)
      · exact lv_tableIn (off := 805) (tgt := 838) hx hb dL_law_33 hA2 hA3 (by rw [hA4]; rfl) (by decide) (law_case20 C0 hK hP hD hS hAO2 hAO5 hl)
      · exact lv_tableIn (off := 848) (tgt := 881) hx hb dL_law_33 hA2 hA3 (by rw [hA4]; rfl) (by decide) (law_case21 C0 hK hP hD hS hAO2 hAO5 hl)
      · exact lv_tableIn (off := 891) (tgt := 924) hx hb dL_law_33 hA2 hA3 (by rw [hA4]; rfl) (by decide) (law_case22 C0 hK hP hD hS hAO2 hAO5 hl)
      · exact lv_tableIn (off := 934) (tgt := 967) hx hb dL_law_33 hA2 hA3 (by rw [hA4]; rfl) (by decide) (law_case23 C0 hK hP hD hS hAO2 hAO5 hl)
      · exact lv_tableIn (off := 957) (tgt := 990) hx hb dL_law_33 hA2 hA3 (by rw [hA4]; rfl) (by decide) (law_case24 C0 hK hP hD hS hAO2 hAO5 hl)
      · exact lv_tableIn (off := 980) (tgt := 1013) hx hb dL_law_33 hA2 hA3 (by rw [hA4]; rfl) (by decide) (law_case25 C0 hK hP hD hS hAO2 hAO5 hl)
      · exact lv_tableIn (off := 993) (tgt := 1026) hx hb dL_law_33 hA2 hA3 (by rw [hA4]; rfl) (by decide) (law_case26 C0 hK hP hD hS hAO2 hAO5 hl)
      · exact lv_tableIn (off := 1006) (tgt := 1039) hx hb dL_law_33 hA2 hA3 (by rw [hA4]; rfl) (by decide) (law_case27 C0 hK hP hD hS hAO2 hAO5 hl)
      · exact lv_tableIn (off := 1019) (tgt := 1052) hx hb dL_law_33 hA2 hA3 (by rw [hA4]; rfl) (by decide) (law_case28 C0 hK hP hD hS hAO2 hAO5 hl)
      · exact lv_tableIn (off := 1062) (tgt := 1095) hx hb dL_law_33 hA2 hA3 (by rw [hA4]; rfl) (by decide) (law_case29 C0 hK hP hD hS hAO2 hAO5 hl)
  · refine lv_iload_n hx hb dL_law_18 rfl (lv_at hl 0 rfl) ?_
    refine lv_aload_n hx hb dL_law_19 rfl (lv_at hl 3 rfl) ?_
    refine va_slen hx hb hX hbl hbA hS dL_law_20 ?_
    refine lv_topi (fun y_11 ey_11 => ?_)
    refine lv_bipush (v := 6) hx hb dL_law_21 (by decide) ?_
    refine lv_isub hx hb dL_law_23 ?_
    refine lv_topi (fun y_12 ey_12 => ?_)
    refine lv_icmp_gt (tgt := 1134) hx hb dL_law_24 (by decide) (fun k_13 => ?_) (fun k_13 => absurd (by subst ey_12; subst ey_11; rcases (show L = 0 ∨ L = 1 ∨ L = 2 ∨ L = 3 ∨ L = 4 ∨ L = 5 by omega) with rfl | rfl | rfl | rfl | rfl | rfl <;> decide) k_13)
    refine lv_iconst (v := 1) hx hb dL_law_1134 (by decide) ?_
    refine va_forget (fun q hq => hS.2.2 q hq) ?_
    refine W.widen (k := 600000) (n := 7302250) hc9 hs9 ?_
    exact lw_ret hx hb hr hlocks dL_law_1135

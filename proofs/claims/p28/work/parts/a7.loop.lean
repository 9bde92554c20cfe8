theorem dL_law_18 : decode cL_law 18 = .ok (.iload_n 3, 1) := by decide +kernel
theorem dL_law_19 : decode cL_law 19 = .ok (.aload_n 0, 1) := by decide +kernel
theorem dL_law_20 : decode cL_law 20 = .ok (.arraylength, 1) := by decide +kernel
theorem dL_law_21 : decode cL_law 21 = .ok (.bipush 6, 2) := by decide +kernel
theorem dL_law_23 : decode cL_law 23 = .ok (.isub, 1) := by decide +kernel
theorem dL_law_24 : decode cL_law 24 = .ok (.if_icmp .gt 1110, 3) := by decide +kernel
theorem dL_law_27 : decode cL_law 27 = .ok (.aload_n 0, 1) := by decide +kernel
theorem dL_law_28 : decode cL_law 28 = .ok (.iload_n 3, 1) := by decide +kernel
theorem dL_law_29 : decode cL_law 29 = .ok (.iaload, 1) := by decide +kernel
theorem dL_law_30 : decode cL_law 30 = .ok (.bipush 31, 2) := by decide +kernel
theorem dL_law_32 : decode cL_law 32 = .ok (.iand, 1) := by decide +kernel
theorem dL_law_33 : decode cL_law 33 = .ok (.tableswitch 1095 0 29 #[135, 148, 211, 234, 257, 280, 303, 336, 369, 402, 435, 478, 521, 554, 587, 620, 663, 706, 729, 762, 805, 848, 891, 934, 957, 980, 993, 1006, 1019, 1062], 135) := by decide +kernel
theorem dL_law_1128 : decode cL_law 1128 = .ok (.iinc 3 6, 3) := by decide +kernel
theorem dL_law_1131 : decode cL_law 1131 = .ok (.goto (-1113), 3) := by decide +kernel
theorem dL_law_1134 : decode cL_law 1134 = .ok (.iconst 1, 1) := by decide +kernel
theorem dL_law_1135 : decode cL_law 1135 = .ok (.ireturn, 1) := by decide +kernel
set_option maxHeartbeats 4000000 in
set_option maxRecDepth 100000 in
/-- the loop of the law -/
theorem law_loop {p : Program} {l : Launch} {e : Env} {s : State} {m : MethodId} {below : List Frame} {meth : Method} {c : Code} {dC : Nat → ClassId} {dI : Nat → Nat → Nat} {b L : Nat} {xs : Nat → Int32} (hLL : L ≤ 3072) (C0 : lw_At p s m meth c b L xs) (hLX : LX s) {gt mo : Nat} : ∀ (n9 : Nat) (ii : Int32) (kc9 ks9 : Nat) (H : Heap) (locs : List Loc) (ls : Array Slot), ((L : Int) - ii.toInt).toNat < n9 → 0 ≤ ii.toInt → ii.toInt ≤ 3072 → 6 * (kc9 : Int) + 195 * (3072 - ii.toInt) ≤ 3600000 → 6 * (ks9 : Int) + 10960 * (3072 - ii.toInt) ≤ 43813500 → LI dC dI s gt mo H → va_S (fun q : Nat => s.heap.size ≤ q) s.heap H locs → lv_has ls 4 [(3, .int ii), (2, .ref mo), (1, .ref gt), (0, .ref b)] → W p l e room_1 s m #[Value.ref b] below meth c H locs kc9 ks9 (lw_Z below #[Value.ref b] s) (F0 m 18 ls []) := by
  obtain ⟨hx, hb, hr, hml, hown, hts, hX, hbl, hlocks, hgv⟩ := id C0
  have hown : s.vm.findClass RL = some m.cls := hown
  have hA : ∀ q : Nat, s.heap.size ≤ q → (fun q : Nat => s.heap.size ≤ q) q := fun _ h => h
  have hbA : ¬ (fun q : Nat => s.heap.size ≤ q) b := Nat.not_le.mpr hbl
  intro n9
  induction n9 with
  | zero => intro ii kc9 ks9 H locs ls hm; exact absurd hm (Nat.not_lt_zero _)
  | succ n9 ih =>
    intro ii kc9 ks9 H locs ls hm9 h0 h1 hk9 hs9 hLI hS hl
    have rg_ii := i_rng ii
    refine lv_iload_n hx hb dL_law_18 rfl (lv_at hl 0 rfl) ?_
    refine lv_aload_n hx hb dL_law_19 rfl (lv_at hl 3 rfl) ?_
    refine va_slen hx hb hX hbl hbA hS dL_law_20 ?_
    refine lv_topi (fun y_1 ey_1 => ?_)
    have ty_1 : y_1.toInt = (L : Int) := by rw [ey_1]; exact nI_toInt (by omega)
    refine lv_bipush (v := 6) hx hb dL_law_21 (by decide) ?_
    refine lv_isub hx hb dL_law_23 ?_
    refine lv_topi (fun y_2 ey_2 => ?_)
    have ty_2 := i_sub (a := y_1.toInt) (b := 6) rfl (by decide) ey_2 (by omega) (by omega)
    refine lv_icmp_gt (tgt := 1134) hx hb dL_law_24 (by decide) (fun k_3 => ?_) (fun k_3 => ?_)
    · refine lv_iconst (v := 1) hx hb dL_law_1134 (by decide) ?_
      refine va_forget (fun q hq => hS.2.2 q hq) ?_
      refine W.widen (k := 600000) (n := 7302250) (by omega) (by omega) ?_
      exact lw_ret hx hb hr hlocks dL_law_1135
    · have tk_3 := c_ngt (a := ii.toInt) (b := y_2.toInt) rfl rfl k_3
      have hii : 0 ≤ ii.toInt ∧ ii.toInt + 6 ≤ L := by omega
      have kk : ∀ (H1 : Heap) (locs1 : List Loc) (ls : Array Slot), LI dC dI s gt mo H1 → va_S (fun q : Nat => s.heap.size ≤ q) s.heap H1 locs1 → lv_has ls 4 [(3, .int ii), (2, .ref mo), (1, .ref gt), (0, .ref b)] → W p l e room_1 s m #[Value.ref b] below meth c H1 locs1 (kc9 + 195) (ks9 + 10960) (lw_Z below #[Value.ref b] s) (F0 m 1128 ls []) := by
        intro H1 locs1 ls hLI hS hl
        obtain ⟨i2, ei2⟩ : ∃ y : Int32, y = ii + 6 := ⟨_, rfl⟩
        have ti2 := i_add (a := ii.toInt) (b := 6) rfl (by decide) ei2 (by omega) (by omega)
        refine lv_iinc (v := i2) (lv' := [(3, .int i2), (2, .ref mo), (1, .ref gt), (0, .ref b)]) hx hb dL_law_1128 hl (k := 0) rfl (by rw [ei2]; rfl) (by decide) rfl (fun ls hl => ?_)
        refine lv_goto (tgt := 18) hx hb dL_law_1131 (by decide) ?_
        exact ih i2 (kc9 + 195) (ks9 + 10960) H1 locs1 ls (by omega) (by omega) (by omega) (by omega) (by omega) hLI hS hl
      refine lv_aload_n hx hb dL_law_27 rfl (lv_at hl 3 rfl) ?_
      refine lv_iload_n hx hb dL_law_28 rfl (lv_at hl 0 rfl) ?_
      refine va_sld hx hb hX hbl hbA hS (i := ii) (vp_of (a := ii.toInt) rfl (by omega) (by omega)) dL_law_29 ?_
      refine lv_topi (fun y_4 ey_4 => ?_)
      refine lv_bipush (v := 31) hx hb dL_law_30 (by decide) ?_
      refine lv_iand hx hb dL_law_32 ?_
      refine lv_topi (fun y_5 ey_5 => ?_)
      by_cases hA1 : y_5.toInt < 0 ∨ 29 < y_5.toInt
      · refine lv_tableOut (tgt := 1128) hx hb dL_law_33 hA1 (by decide) ?_
        refine W.widen (k := kc9 + 195) (n := ks9 + 10960) (by omega) (by omega) ?_
        exact kk H locs ls hLI hS hl
      · have hA2 : ¬ y_5.toInt < 0 := fun h => hA1 (Or.inl h)
        have hA3 : ¬ 29 < y_5.toInt := fun h => hA1 (Or.inr h)
        rcases (show y_5.toInt = 0 ∨ y_5.toInt = 1 ∨ y_5.toInt = 2 ∨ y_5.toInt = 3 ∨ y_5.toInt = 4 ∨ y_5.toInt = 5 ∨ y_5.toInt = 6 ∨ y_5.toInt = 7 ∨ y_5.toInt = 8 ∨ y_5.toInt = 9 ∨ y_5.toInt = 10 ∨ y_5.toInt = 11 ∨ y_5.toInt = 12 ∨ y_5.toInt = 13 ∨ y_5.toInt = 14 ∨ y_5.toInt = 15 ∨ y_5.toInt = 16 ∨ y_5.toInt = 17 ∨ y_5.toInt = 18 ∨ y_5.toInt = 19 ∨ y_5.toInt = 20 ∨ y_5.toInt = 21 ∨ y_5.toInt = 22 ∨ y_5.toInt = 23 ∨ y_5.toInt = 24 ∨ y_5.toInt = 25 ∨ y_5.toInt = 26 ∨ y_5.toInt = 27 ∨ y_5.toInt = 28 ∨ y_5.toInt = 29 by omega) with hA4 | hA4 | hA4 | hA4 | hA4 | hA4 | hA4 | hA4 | hA4 | hA4 | hA4 | hA4 | hA4 | hA4 | hA4 | hA4 | hA4 | hA4 | hA4 | hA4 | hA4 | hA4 | hA4 | hA4 | hA4 | hA4 | hA4 | hA4 | hA4 | hA4
        · exact lv_tableIn (off := 135) (tgt := 168) hx hb dL_law_33 hA2 hA3 (by rw [hA4]; rfl) (by decide) (law_case0 hLL C0 hLX (by omega) (by omega) hLI hS hii hl kk)
        · exact lv_tableIn (off := 148) (tgt := 181) hx hb dL_law_33 hA2 hA3 (by rw [hA4]; rfl) (by decide) (law_case1 hLL C0 hLX (by omega) (by omega) hLI hS hii hl kk)
        · exact lv_tableIn (off := 211) (tgt := 244) hx hb dL_law_33 hA2 hA3 (by rw [hA4]; rfl) (by decide) (law_case2 hLL C0 hLX (by omega) (by omega) hLI hS hii hl kk)
        · exact lv_tableIn (off := 234) (tgt := 267) hx hb dL_law_33 hA2 hA3 (by rw [hA4]; rfl) (by decide) (law_case3 hLL C0 hLX (by omega) (by omega) hLI hS hii hl kk)
        · exact lv_tableIn (off := 257) (tgt := 290) hx hb dL_law_33 hA2 hA3 (by rw [hA4]; rfl) (by decide) (law_case4 hLL C0 hLX (by omega) (by omega) hLI hS hii hl kk)
        · exact lv_tableIn (off := 280) (tgt := 313) hx hb dL_law_33 hA2 hA3 (by rw [hA4]; rfl) (by decide) (law_case5 hLL C0 hLX (by omega) (by omega) hLI hS hii hl kk)
        · exact lv_tableIn (off := 303) (tgt := 336) hx hb dL_law_33 hA2 hA3 (by rw [hA4]; rfl) (by decide) (law_case6 hLL C0 hLX (by omega) (by omega) hLI hS hii hl kk)
        · exact lv_tableIn (off := 336) (tgt := 369) hx hb dL_law_33 hA2 hA3 (by rw [hA4]; rfl) (by decide) (law_case7 hLL C0 hLX (by omega) (by omega) hLI hS hii hl kk)
        · exact lv_tableIn (off := 369) (tgt := 402) hx hb dL_law_33 hA2 hA3 (by rw [hA4]; rfl) (by decide) (law_case8 hLL C0 hLX (by omega) (by omega) hLI hS hii hl kk)
        · exact lv_tableIn (off := 402) (tgt := 435) hx hb dL_law_33 hA2 hA3 (by rw [hA4]; rfl) (by decide) (law_case9 hLL C0 hLX (by omega) (by omega) hLI hS hii hl kk)
        · exact lv_tableIn (off := 435) (tgt := 468) hx hb dL_law_33 hA2 hA3 (by rw [hA4]; rfl) (by decide) (law_case10 hLL C0 hLX (by omega) (by omega) hLI hS hii hl kk)
        · exact lv_tableIn (off := 478) (tgt := 511) hx hb dL_law_33 hA2 hA3 (by rw [hA4]; rfl) (by decide) (law_case11 hLL C0 hLX (by omega) (by omega) hLI hS hii hl kk)
        · exact lv_tableIn (off := 521) (tgt := 554) hx hb dL_law_33 hA2 hA3 (by rw [hA4]; rfl) (by decide) (law_case12 hLL C0 hLX (by omega) (by omega) hLI hS hii hl kk)
        · exact lv_tableIn (off := 554) (tgt := 587) hx hb dL_law_33 hA2 hA3 (by rw [hA4]; rfl) (by decide) (law_case13 hLL C0 hLX (by omega) (by omega) hLI hS hii hl kk)
        · exact lv_tableIn (off := 587) (tgt := 620) hx hb dL_law_33 hA2 hA3 (by rw [hA4]; rfl) (by decide) (law_case14 hLL C0 hLX (by omega) (by omega) hLI hS hii hl kk)
        · exact lv_tableIn (off := 620) (tgt := 653) hx hb dL_law_33 hA2 hA3 (by rw [hA4]; rfl) (by decide) (law_case15 hLL C0 hLX (by omega) (by omega) hLI hS hii hl kk)
        · exact lv_tableIn (off := 663) (tgt := 696) hx hb dL_law_33 hA2 hA3 (by rw [hA4]; rfl) (by decide) (law_case16 hLL C0 hLX (by omega) (by omega) hLI hS hii hl kk)
        · exact lv_tableIn (off := 706) (tgt := 739) hx hb dL_law_33 hA2 hA3 (by rw [hA4]; rfl) (by decide) (law_case17 hLL C0 hLX (by omega) (by omega) hLI hS hii hl kk)
        · exact lv_tableIn (off := 729) (tgt := 762) hx hb dL_law_33 hA2 hA3 (by rw [hA4]; rfl) (by decide) (law_case18 hLL C0 hLX (by omega) (by omega) hLI hS hii hl kk)
        · exact lv_tableIn (off := 762) (tgt := 795) hx hb dL_law_33 hA2 hA3 (by rw [hA4]; rfl) (by decide) (law_case19 hLL C0 hLX (by omega) (by omega) hLI hS hii hl kk)
        · exact lv_tableIn (off := 805) (tgt := 838) hx hb dL_law_33 hA2 hA3 (by rw [hA4]; rfl) (by decide) (law_case20 hLL C0 hLX (by omega) (by omega) hLI hS hii hl kk)
        · exact lv_tableIn (off := 848) (tgt := 881) hx hb dL_law_33 hA2 hA3 (by rw [hA4]; rfl) (by decide) (law_case21 hLL C0 hLX (by omega) (by omega) hLI hS hii hl kk)
        · exact lv_tableIn (off := 891) (tgt := 924) hx hb dL_law_33 hA2 hA3 (by rw [hA4]; rfl) (by decide) (law_case22 hLL C0 hLX (by omega) (by omega) hLI hS hii hl kk)
        · exact lv_tableIn (off := 934) (tgt := 967) hx hb dL_law_33 hA2 hA3 (by rw [hA4]; rfl) (by decide) (law_case23 hLL C0 hLX (by omega) (by omega) hLI hS hii hl kk)
        · exact lv_tableIn (off := 957) (tgt := 990) hx hb dL_law_33 hA2 hA3 (by rw [hA4]; rfl) (by decide) (law_case24 hLL C0 hLX (by omega) (by omega) hLI hS hii hl kk)
        · exact lv_tableIn (off := 980) (tgt := 1013) hx hb dL_law_33 hA2 hA3 (by rw [hA4]; rfl) (by decide) (law_case25 hLL C0 hLX (by omega) (by omega) hLI hS hii hl kk)
        · exact lv_tableIn (off := 993) (tgt := 1026) hx hb dL_law_33 hA2 hA3 (by rw [hA4]; rfl) (by decide) (law_case26 hLL C0 hLX (by omega) (by omega) hLI hS hii hl kk)
        · exact lv_tableIn (off := 1006) (tgt := 1039) hx hb dL_law_33 hA2 hA3 (by rw [hA4]; rfl) (by decide) (law_case27 hLL C0 hLX (by omega) (by omega) hLI hS hii hl kk)
        · exact lv_tableIn (off := 1019) (tgt := 1052) hx hb dL_law_33 hA2 hA3 (by rw [hA4]; rfl) (by decide) (law_case28 hLL C0 hLX (by omega) (by omega) hLI hS hii hl kk)
        · exact lv_tableIn (off := 1062) (tgt := 1095) hx hb dL_law_33 hA2 hA3 (by rw [hA4]; rfl) (by decide) (law_case29 hLL C0 hLX (by omega) (by omega) hLI hS hii hl kk)

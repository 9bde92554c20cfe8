theorem dL_law_762 : decode cL_law 762 = .ok (.aload_n 1, 1) := by decide +kernel
theorem dL_law_763 : decode cL_law 763 = .ok (.aload_n 0, 1) := by decide +kernel
theorem dL_law_764 : decode cL_law 764 = .ok (.iload_n 3, 1) := by decide +kernel
theorem dL_law_765 : decode cL_law 765 = .ok (.iconst 1, 1) := by decide +kernel
theorem dL_law_766 : decode cL_law 766 = .ok (.iadd, 1) := by decide +kernel
theorem dL_law_767 : decode cL_law 767 = .ok (.iaload, 1) := by decide +kernel
theorem dL_law_768 : decode cL_law 768 = .ok (.aload_n 0, 1) := by decide +kernel
theorem dL_law_769 : decode cL_law 769 = .ok (.iload_n 3, 1) := by decide +kernel
theorem dL_law_770 : decode cL_law 770 = .ok (.iconst 2, 1) := by decide +kernel
theorem dL_law_771 : decode cL_law 771 = .ok (.iadd, 1) := by decide +kernel
theorem dL_law_772 : decode cL_law 772 = .ok (.iaload, 1) := by decide +kernel
theorem dL_law_773 : decode cL_law 773 = .ok (.invokevirtual 90, 3) := by decide +kernel
theorem dL_law_776 : decode cL_law 776 = .ok (.pop, 1) := by decide +kernel
theorem dL_law_777 : decode cL_law 777 = .ok (.aload_n 2, 1) := by decide +kernel
theorem dL_law_778 : decode cL_law 778 = .ok (.aload_n 0, 1) := by decide +kernel
theorem dL_law_779 : decode cL_law 779 = .ok (.iload_n 3, 1) := by decide +kernel
theorem dL_law_780 : decode cL_law 780 = .ok (.iconst 1, 1) := by decide +kernel
theorem dL_law_781 : decode cL_law 781 = .ok (.iadd, 1) := by decide +kernel
theorem dL_law_782 : decode cL_law 782 = .ok (.iaload, 1) := by decide +kernel
theorem dL_law_783 : decode cL_law 783 = .ok (.aload_n 0, 1) := by decide +kernel
theorem dL_law_784 : decode cL_law 784 = .ok (.iload_n 3, 1) := by decide +kernel
theorem dL_law_785 : decode cL_law 785 = .ok (.iconst 2, 1) := by decide +kernel
theorem dL_law_786 : decode cL_law 786 = .ok (.iadd, 1) := by decide +kernel
theorem dL_law_787 : decode cL_law 787 = .ok (.iaload, 1) := by decide +kernel
theorem dL_law_788 : decode cL_law 788 = .ok (.invokevirtual 93, 3) := by decide +kernel
theorem dL_law_791 : decode cL_law 791 = .ok (.pop, 1) := by decide +kernel
theorem dL_law_792 : decode cL_law 792 = .ok (.goto 336, 3) := by decide +kernel
set_option maxHeartbeats 4000000 in
set_option maxRecDepth 100000 in
/-- the law: within -/
theorem law_case18 {p : Program} {l : Launch} {e : Env} {s : State} {m : MethodId} {below : List Frame} {meth : Method} {c : Code} {dC : Nat → ClassId} {dI : Nat → Nat → Nat} {b L : Nat} {xs : Nat → Int32} (hLL : L ≤ 3072) (C0 : lw_At p s m meth c b L xs) (hLX : LX s) {gt mo : Nat} {H : Heap} {locs : List Loc} {kc9 ks9 : Nat} (hc9 : kc9 + 195 ≤ 600000) (hs9 : ks9 + 10960 ≤ 7302250) {ii : Int32} (hii : 0 ≤ ii.toInt ∧ ii.toInt + 6 ≤ L) {ls : Array Slot} (kk : ∀ (H1 : Heap) (locs1 : List Loc) (ls : Array Slot), LI dC dI s gt mo H1 (va_S (fun q : Nat => s.heap.size ≤ q) s.heap H1 locs1 → lv_has ls 4 [(3, .int ii), (2, .ref mo), (1, .ref gt), (0, .ref b)] → W p l e room_1 s m #[Value.ref b] below meth c H1 locs1 (kc9 + 195) (ks9 + 10960) (lw_Z below #[Value.ref b] s) (F0 m 1128 ls []))) : LI dC dI s gt mo H (va_S (fun q : Nat => s.heap.size ≤ q) s.heap H locs → lv_has ls 4 [(3, .int ii), (2, .ref mo), (1, .ref gt), (0, .ref b)] → W p l e room_1 s m #[Value.ref b] below meth c H locs kc9 ks9 (lw_Z below #[Value.ref b] s) (F0 m 762 ls [])) := by
  obtain ⟨hx, hb, hr, hml, hown, hts, hX, hbl, hlocks, hgv⟩ := id C0
  have hown : s.vm.findClass RL = some m.cls := hown
  have hA : ∀ q : Nat, s.heap.size ≤ q → (fun q : Nat => s.heap.size ≤ q) q := fun _ h => h
  have hbA : ¬ (fun q : Nat => s.heap.size ≤ q) b := Nat.not_le.mpr hbl
  obtain ⟨hcl, hcld, hAO2, hAO5, hN53, hN160, hSR, hSW, hSR2, hSW2, hOV⟩ := hLX
  unfold LI
  intro tp bk mb mu rd cm wk pp so ty li st9 td fk fpl un mk x0 x1 q0 q1 q2 q3 q4 q5 q6 q7 r ctp cmb cmu cb0 cb1 cb2 cli cpp cso cty ftp fmu fb0 fb1 fb2 fli fpp fso fty fmb spn kG cg9 fG o3 r3 c3 f3 n3 e4 t4 s4 R4 ct4 cs4 ft4 fs4 m4 e5 t5 s5 R5 ct5 cs5 ft5 fs5 m5 kC cC fC kF cF fF kT cT fT kA kB cA9 cB ad ca vi vl vf W9 T9 B9 zad zkc zx0 zx1 zx2 zx3 zx4 zx5 zx6 zx7 zx8 zx9 zx10 zx11 zx12 zx13 zx14 zx15 zx16 zx17 zx18 zx19 zx20 zx21 zf0 zf1 zf2 zf3 zf4 zf5 zf6 zf7 zf8 zf9 zf10 zf11 zf12 zf13 zf14 zf15 zf16 zf17 zf18 zf19 zf20 zf21 zL zN zP zM zO hs1 hs2 ha3 hb3 hR4 hU4 hc4 hd4 hb_fs4 hR5 hU5 hc5 hd5 hb_fs5 hG htd hmk hM hB9 hbk hmo hmi hzk hzt hrt hK hKC hKM hKQ hP hD hQ hQN hS hl
  subst hmo
  have rg_td := i_rng td
  have rg_mk := i_rng mk
  have rg_zx2 := i_rng zx2
  have rg_zx3 := i_rng zx3
  refine lv_aload_n hx hb dL_law_762 rfl (lv_at hl 2 rfl) ?_
  refine lv_aload_n hx hb dL_law_763 rfl (lv_at hl 3 rfl) ?_
  refine lv_iload_n hx hb dL_law_764 rfl (lv_at hl 0 rfl) ?_
  refine lv_iconst (v := 1) hx hb dL_law_765 (by decide) ?_
  refine lv_iadd hx hb dL_law_766 ?_
  refine lv_topi (fun y_1 ey_1 => ?_)
  have ty_1 := i_add (a := ii.toInt) (b := 1) rfl (by decide) ey_1 (by omega) (by omega)
  refine va_sld hx hb hX hbl hbA hS (i := y_1) (vp_of (a := y_1.toInt) rfl (by omega) (by omega)) dL_law_767 ?_
  refine lv_topi (fun y_2 ey_2 => ?_)
  refine lv_aload_n hx hb dL_law_768 rfl (lv_at hl 3 rfl) ?_
  refine lv_iload_n hx hb dL_law_769 rfl (lv_at hl 0 rfl) ?_
  refine lv_iconst (v := 2) hx hb dL_law_770 (by decide) ?_
  refine lv_iadd hx hb dL_law_771 ?_
  refine lv_topi (fun y_3 ey_3 => ?_)
  have ty_3 := i_add (a := ii.toInt) (b := 2) rfl (by decide) ey_3 (by omega) (by omega)
  refine va_sld hx hb hX hbl hbA hS (i := y_3) (vp_of (a := y_3.toInt) rfl (by omega) (by omega)) dL_law_772 ?_
  refine lv_topi (fun y_4 ey_4 => ?_)
  have hPc := hP.sub (ws' := [(gt, .inr (9, [.int st9, .ref tp, .int td, .int fk, .int fpl, .ref bk, .int un, .ref mb, .ref mu, .int mk, .ref rd, .ref cm, .ref wk, .ref pp, .ref so, .ref ty]))]) [0] rfl
  have hKc := hK.sub (tys' := []) [] rfl
  have hDc := hD.sub (ws' := [(gt, .inr (9, [.int st9, .ref tp, .int td, .int fk, .int fpl, .ref bk, .int un, .ref mb, .ref mu, .int mk, .ref rd, .ref cm, .ref wk, .ref pp, .ref so, .ref ty]))]) [0] (by decide) rfl
  have hFc := va_free (wc := [(gt, .inr (9, [.int st9, .ref tp, .int td, .int fk, .int fpl, .ref bk, .int un, .ref mb, .ref mu, .int mk, .ref rd, .ref cm, .ref wk, .ref pp, .ref so, .ref ty]))]) hD hS hA [0] rfl
  have hQAc : ∀ q ∈ W9, ¬ va_A [(gt, .inr (9, [.int st9, .ref tp, .int td, .int fk, .int fpl, .ref bk, .int un, .ref mb, .ref mu, .int mk, .ref rd, .ref cm, .ref wk, .ref pp, .ref so, .ref ty]))] H.size q.1 := qn_A hQ hQN (fun x hx => mem_pl [0] rfl x hx)
  refine va_calli (va_runV (As := [.int y_2, .int y_4]) (rest := []) ⟨hx, hb, hml, hown, hts⟩ (s_g_within l dC dI W9 T9 B9 gt tp bk mb mu rd cm wk pp so ty st9 td fk fpl un mk H.size y_2 y_4 hB9 hbk) (cwV 2 hts mg_L_X9_within rfl rfl rfl (by decide +kernel) ⟨Nat.le_of_ble_eq_true rfl, Nat.le_of_ble_eq_true rfl⟩) ⟨fun a U g mk q => by obtain ⟨q0, q1, qP, qK, qD, qE0, qE1, qE2⟩ := q; exact ⟨q0, q1, qP, va_K.moved (u := U) (U := U.calling g mk a) (Vm.Alike.refl U.vm) qK, qD, qE0, va_K.moved (u := U) (U := U.calling g mk a) (Vm.Alike.refl U.vm) qE1, qE2⟩, va_recv hKc hPc (ci := 9) (q0 := 0) rfl rfl, fun U hU hW => ⟨rfl, by rw [hU], by rw [hU]; exact hPc, va_K.moved hW.alike hKc, hDc.weaken (fun _ _ _ _ => trivial), (by rw [hU]; exact hQ), va_K.moved hW.alike hKQ, hQAc⟩⟩ rfl rfl hl.1 rfl (lv_room (Nat.le_of_ble_eq_true rfl)) dL_law_773 ⟨by show kc9 + 0 ≤ 600000; omega, by show ks9 + 0 ≤ 7302250; omega⟩) hS (fun q _ h => hFc q h) hFc (fun r_5 u_6 t H1 locs ht hvm hw hB hz1 hk1 hS => ?_)
  have hQo := hQ
  have hQ := qn_P hQ hQAc hk1
  obtain ⟨w_7, hP1, hK1, hD1⟩ := hB
  rw [ht] at hP1
  have hQNa := qn_new hQAc hD1
  obtain ⟨hPx, hDx⟩ := va_joinQ (X := [(gt, .inr (9, [.int st9, .ref tp, .int td, .int fk, .int fpl, .ref bk, .int un, .ref mb, .ref mu, .int mk, .ref rd, .ref cm, .ref wk, .ref pp, .ref so, .ref ty])), (tp, .inl (ctp, 900, .inl ftp)), (mb, .inl (cmb, 3, .inr (.inr (.inr (.inr fmb))))), (mu, .inl (cmu, 3, .inl fmu)), (rd, .inr (6, rF r q0 q1 q2 q3 q4 q5 q6 q7)), (r 0, .inl (cb0, 18, .inl fb0)), (r 1, .inl (cb1, 18, .inl fb1)), (r 2, .inl (cb2, 18, .inl fb2)), (wk, .inr (8, [.int x0, .int x1, .ref li])), (li, .inl (cli, 24, .inl fli)), (pp, .inl (cpp, 60, .inl fpp)), (so, .inl (cso, 60, .inl fso)), (ty, .inl (cty, 26, .inl fty)), (cm, .inr (1, [.ref kA, .ref kB, .ref kG, .ref (ad 12 0), .ref o3, .ref e4, .ref e5, .ref kC, .ref kF, .ref kT, .int spn])), (kA, .inl (cA9, 6, .inr (.inr (.inr (.inr (fun i => some (ad i 0))))))), (kB, .inl (cB, 6, .inr (.inr (.inr (.inr (fun i => some (ad (6 + i) 0))))))), (kG, .inl (cg9, 6, .inl fG)), (o3, .inr (7, [.ref r3, .int n3])), (r3, .inl (c3, 6, .inr (.inl f3))), (e4, .inr (3, [.int (nI R4), .ref t4, .ref s4, .int m4])), (t4, .inl (ct4, 24 * R4, .inl ft4)), (s4, .inl (cs4, R4, .inl fs4)), (e5, .inr (3, [.int (nI R5), .ref t5, .ref s5, .int m5])), (t5, .inl (ct5, 24 * R5, .inl ft5)), (s5, .inl (cs5, R5, .inl fs5)), (kC, .inl (cC, 24, .inl fC)), (kF, .inl (cF, 24, .inl fF)), (kT, .inl (cT, 26, .inl fT))]) (cx := [(gt, .inr (9, [.int st9, .ref tp, .int td, .int fk, .int fpl, .ref bk, .int un, .ref mb, .ref mu, .int mk, .ref rd, .ref cm, .ref wk, .ref pp, .ref so, .ref ty]))]) (wr := [(tp, .inl (ctp, 900, .inl ftp)), (mb, .inl (cmb, 3, .inr (.inr (.inr (.inr fmb))))), (mu, .inl (cmu, 3, .inl fmu)), (rd, .inr (6, rF r q0 q1 q2 q3 q4 q5 q6 q7)), (r 0, .inl (cb0, 18, .inl fb0)), (r 1, .inl (cb1, 18, .inl fb1)), (r 2, .inl (cb2, 18, .inl fb2)), (wk, .inr (8, [.int x0, .int x1, .ref li])), (li, .inl (cli, 24, .inl fli)), (pp, .inl (cpp, 60, .inl fpp)), (so, .inl (cso, 60, .inl fso)), (ty, .inl (cty, 26, .inl fty)), (cm, .inr (1, [.ref kA, .ref kB, .ref kG, .ref (ad 12 0), .ref o3, .ref e4, .ref e5, .ref kC, .ref kF, .ref kT, .int spn])), (kA, .inl (cA9, 6, .inr (.inr (.inr (.inr (fun i => some (ad i 0))))))), (kB, .inl (cB, 6, .inr (.inr (.inr (.inr (fun i => some (ad (6 + i) 0))))))), (kG, .inl (cg9, 6, .inl fG)), (o3, .inr (7, [.ref r3, .int n3])), (r3, .inl (c3, 6, .inr (.inl f3))), (e4, .inr (3, [.int (nI R4), .ref t4, .ref s4, .int m4])), (t4, .inl (ct4, 24 * R4, .inl ft4)), (s4, .inl (cs4, R4, .inl fs4)), (e5, .inr (3, [.int (nI R5), .ref t5, .ref s5, .int m5])), (t5, .inl (ct5, 24 * R5, .inl ft5)), (s5, .inl (cs5, R5, .inl fs5)), (kC, .inl (cC, 24, .inl fC)), (kF, .inl (cF, 24, .inl fF)), (kT, .inl (cT, 26, .inl fT))]) (w1 := [(gt, .inr (9, [.int w_7, .ref tp, .int td, .int fk, .int fpl, .ref bk, .int un, .ref mb, .ref mu, .int mk, .ref rd, .ref cm, .ref wk, .ref pp, .ref so, .ref ty]))]) (pl := (cPL ad ca vi vl vf (List.range 13) ++ mW zad zkc zx0 zx1 zx2 zx3 zx4 zx5 zx6 zx7 zx8 zx9 zx10 zx11 zx12 zx13 zx14 zx15 zx16 zx17 zx18 zx19 zx20 zx21 zf0 zf1 zf2 zf3 zf4 zf5 zf6 zf7 zf8 zf9 zf10 zf11 zf12 zf13 zf14 zf15 zf16 zf17 zf18 zf19 zf20 zf21 zL zN zP zM zO)) hP hD [0] [1, 2, 3, 4, 5, 6, 7, 8, 9, 10, 11, 12, 13, 14, 15, 16, 17, 18, 19, 20, 21, 22, 23, 24, 25, 26, 27] rfl rfl (by decide) (by decide) hk1 hFc hP1 hD1
  have hPx := t_P (cx := [(gt, .inr (9, [.int w_7, .ref tp, .int td, .int fk, .int fpl, .ref bk, .int un, .ref mb, .ref mu, .int mk, .ref rd, .ref cm, .ref wk, .ref pp, .ref so, .ref ty])), (tp, .inl (ctp, 900, .inl ftp)), (mb, .inl (cmb, 3, .inr (.inr (.inr (.inr fmb))))), (mu, .inl (cmu, 3, .inl fmu)), (rd, .inr (6, rF r q0 q1 q2 q3 q4 q5 q6 q7)), (r 0, .inl (cb0, 18, .inl fb0)), (r 1, .inl (cb1, 18, .inl fb1)), (r 2, .inl (cb2, 18, .inl fb2)), (wk, .inr (8, [.int x0, .int x1, .ref li])), (li, .inl (cli, 24, .inl fli)), (pp, .inl (cpp, 60, .inl fpp)), (so, .inl (cso, 60, .inl fso)), (ty, .inl (cty, 26, .inl fty)), (cm, .inr (1, [.ref kA, .ref kB, .ref kG, .ref (ad 12 0), .ref o3, .ref e4, .ref e5, .ref kC, .ref kF, .ref kT, .int spn])), (kA, .inl (cA9, 6, .inr (.inr (.inr (.inr (fun i => some (ad i 0))))))), (kB, .inl (cB, 6, .inr (.inr (.inr (.inr (fun i => some (ad (6 + i) 0))))))), (kG, .inl (cg9, 6, .inl fG)), (o3, .inr (7, [.ref r3, .int n3])), (r3, .inl (c3, 6, .inr (.inl f3))), (e4, .inr (3, [.int (nI R4), .ref t4, .ref s4, .int m4])), (t4, .inl (ct4, 24 * R4, .inl ft4)), (s4, .inl (cs4, R4, .inl fs4)), (e5, .inr (3, [.int (nI R5), .ref t5, .ref s5, .int m5])), (t5, .inl (ct5, 24 * R5, .inl ft5)), (s5, .inl (cs5, R5, .inl fs5)), (kC, .inl (cC, 24, .inl fC)), (kF, .inl (cF, 24, .inl fF)), (kT, .inl (cT, 26, .inl fT))]) hPx [27, 0, 1, 2, 3, 4, 5, 6, 7, 8, 9, 10, 11, 12, 13, 14, 15, 16, 17, 18, 19, 20, 21, 22, 23, 24, 25, 26] rfl
  have hDx := va_D.part (cx := [(gt, .inr (9, [.int w_7, .ref tp, .int td, .int fk, .int fpl, .ref bk, .int un, .ref mb, .ref mu, .int mk, .ref rd, .ref cm, .ref wk, .ref pp, .ref so, .ref ty])), (tp, .inl (ctp, 900, .inl ftp)), (mb, .inl (cmb, 3, .inr (.inr (.inr (.inr fmb))))), (mu, .inl (cmu, 3, .inl fmu)), (rd, .inr (6, rF r q0 q1 q2 q3 q4 q5 q6 q7)), (r 0, .inl (cb0, 18, .inl fb0)), (r 1, .inl (cb1, 18, .inl fb1)), (r 2, .inl (cb2, 18, .inl fb2)), (wk, .inr (8, [.int x0, .int x1, .ref li])), (li, .inl (cli, 24, .inl fli)), (pp, .inl (cpp, 60, .inl fpp)), (so, .inl (cso, 60, .inl fso)), (ty, .inl (cty, 26, .inl fty)), (cm, .inr (1, [.ref kA, .ref kB, .ref kG, .ref (ad 12 0), .ref o3, .ref e4, .ref e5, .ref kC, .ref kF, .ref kT, .int spn])), (kA, .inl (cA9, 6, .inr (.inr (.inr (.inr (fun i => some (ad i 0))))))), (kB, .inl (cB, 6, .inr (.inr (.inr (.inr (fun i => some (ad (6 + i) 0))))))), (kG, .inl (cg9, 6, .inl fG)), (o3, .inr (7, [.ref r3, .int n3])), (r3, .inl (c3, 6, .inr (.inl f3))), (e4, .inr (3, [.int (nI R4), .ref t4, .ref s4, .int m4])), (t4, .inl (ct4, 24 * R4, .inl ft4)), (s4, .inl (cs4, R4, .inl fs4)), (e5, .inr (3, [.int (nI R5), .ref t5, .ref s5, .int m5])), (t5, .inl (ct5, 24 * R5, .inl ft5)), (s5, .inl (cs5, R5, .inl fs5)), (kC, .inl (cC, 24, .inl fC)), (kF, .inl (cF, 24, .inl fF)), (kT, .inl (cT, 26, .inl fT))]) hDx [27, 0, 1, 2, 3, 4, 5, 6, 7, 8, 9, 10, 11, 12, 13, 14, 15, 16, 17, 18, 19, 20, 21, 22, 23, 24, 25, 26] (by decide) rfl
  have hm9 : List.map Prod.fst ([(gt, .inr (9, [.int w_7, .ref tp, .int td, .int fk, .int fpl, .ref bk, .int un, .ref mb, .ref mu, .int mk, .ref rd, .ref cm, .ref wk, .ref pp, .ref so, .ref ty])), (tp, .inl (ctp, 900, .inl ftp)), (mb, .inl (cmb, 3, .inr (.inr (.inr (.inr fmb))))), (mu, .inl (cmu, 3, .inl fmu)), (rd, .inr (6, rF r q0 q1 q2 q3 q4 q5 q6 q7)), (r 0, .inl (cb0, 18, .inl fb0)), (r 1, .inl (cb1, 18, .inl fb1)), (r 2, .inl (cb2, 18, .inl fb2)), (wk, .inr (8, [.int x0, .int x1, .ref li])), (li, .inl (cli, 24, .inl fli)), (pp, .inl (cpp, 60, .inl fpp)), (so, .inl (cso, 60, .inl fso)), (ty, .inl (cty, 26, .inl fty)), (cm, .inr (1, [.ref kA, .ref kB, .ref kG, .ref (ad 12 0), .ref o3, .ref e4, .ref e5, .ref kC, .ref kF, .ref kT, .int spn])), (kA, .inl (cA9, 6, .inr (.inr (.inr (.inr (fun i => some (ad i 0))))))), (kB, .inl (cB, 6, .inr (.inr (.inr (.inr (fun i => some (ad (6 + i) 0))))))), (kG, .inl (cg9, 6, .inl fG)), (o3, .inr (7, [.ref r3, .int n3])), (r3, .inl (c3, 6, .inr (.inl f3))), (e4, .inr (3, [.int (nI R4), .ref t4, .ref s4, .int m4])), (t4, .inl (ct4, 24 * R4, .inl ft4)), (s4, .inl (cs4, R4, .inl fs4)), (e5, .inr (3, [.int (nI R5), .ref t5, .ref s5, .int m5])), (t5, .inl (ct5, 24 * R5, .inl ft5)), (s5, .inl (cs5, R5, .inl fs5)), (kC, .inl (cC, 24, .inl fC)), (kF, .inl (cF, 24, .inl fF)), (kT, .inl (cT, 26, .inl fT))] ++ (cPL ad ca vi vl vf (List.range 13) ++ mW zad zkc zx0 zx1 zx2 zx3 zx4 zx5 zx6 zx7 zx8 zx9 zx10 zx11 zx12 zx13 zx14 zx15 zx16 zx17 zx18 zx19 zx20 zx21 zf0 zf1 zf2 zf3 zf4 zf5 zf6 zf7 zf8 zf9 zf10 zf11 zf12 zf13 zf14 zf15 zf16 zf17 zf18 zf19 zf20 zf21 zL zN zP zM zO) : va_W) = List.map Prod.fst ([(gt, .inr (9, [.int st9, .ref tp, .int td, .int fk, .int fpl, .ref bk, .int un, .ref mb, .ref mu, .int mk, .ref rd, .ref cm, .ref wk, .ref pp, .ref so, .ref ty])), (tp, .inl (ctp, 900, .inl ftp)), (mb, .inl (cmb, 3, .inr (.inr (.inr (.inr fmb))))), (mu, .inl (cmu, 3, .inl fmu)), (rd, .inr (6, rF r q0 q1 q2 q3 q4 q5 q6 q7)), (r 0, .inl (cb0, 18, .inl fb0)), (r 1, .inl (cb1, 18, .inl fb1)), (r 2, .inl (cb2, 18, .inl fb2)), (wk, .inr (8, [.int x0, .int x1, .ref li])), (li, .inl (cli, 24, .inl fli)), (pp, .inl (cpp, 60, .inl fpp)), (so, .inl (cso, 60, .inl fso)), (ty, .inl (cty, 26, .inl fty)), (cm, .inr (1, [.ref kA, .ref kB, .ref kG, .ref (ad 12 0), .ref o3, .ref e4, .ref e5, .ref kC, .ref kF, .ref kT, .int spn])), (kA, .inl (cA9, 6, .inr (.inr (.inr (.inr (fun i => some (ad i 0))))))), (kB, .inl (cB, 6, .inr (.inr (.inr (.inr (fun i => some (ad (6 + i) 0))))))), (kG, .inl (cg9, 6, .inl fG)), (o3, .inr (7, [.ref r3, .int n3])), (r3, .inl (c3, 6, .inr (.inl f3))), (e4, .inr (3, [.int (nI R4), .ref t4, .ref s4, .int m4])), (t4, .inl (ct4, 24 * R4, .inl ft4)), (s4, .inl (cs4, R4, .inl fs4)), (e5, .inr (3, [.int (nI R5), .ref t5, .ref s5, .int m5])), (t5, .inl (ct5, 24 * R5, .inl ft5)), (s5, .inl (cs5, R5, .inl fs5)), (kC, .inl (cC, 24, .inl fC)), (kF, .inl (cF, 24, .inl fF)), (kT, .inl (cT, 26, .inl fT))] ++ (cPL ad ca vi vl vf (List.range 13) ++ mW zad zkc zx0 zx1 zx2 zx3 zx4 zx5 zx6 zx7 zx8 zx9 zx10 zx11 zx12 zx13 zx14 zx15 zx16 zx17 zx18 zx19 zx20 zx21 zf0 zf1 zf2 zf3 zf4 zf5 zf6 zf7 zf8 zf9 zf10 zf11 zf12 zf13 zf14 zf15 zf16 zf17 zf18 zf19 zf20 zf21 zL zN zP zM zO) : va_W) := rfl
  have hQNx := qn_fst hQN hm9
  have hQN := hQNx
  clear hQNx hQAc hFc hDc hPc hKc
  have hP := hPx
  have hD := hDx
  clear hPx hDx
  generalize H1 = H at hP hS hQ ⊢
  refine lv_pop hx hb dL_law_776 rfl ?_
  refine lv_aload_n hx hb dL_law_777 rfl (lv_at hl 1 rfl) ?_
  refine lv_aload_n hx hb dL_law_778 rfl (lv_at hl 3 rfl) ?_
  refine lv_iload_n hx hb dL_law_779 rfl (lv_at hl 0 rfl) ?_
  refine lv_iconst (v := 1) hx hb dL_law_780 (by decide) ?_
  refine lv_iadd hx hb dL_law_781 ?_
  refine lv_topi (fun y_8 ey_8 => ?_)
  have ty_8 := i_add (a := ii.toInt) (b := 1) rfl (by decide) ey_8 (by omega) (by omega)
  refine va_sld hx hb hX hbl hbA hS (i := y_8) (vp_of (a := y_8.toInt) rfl (by omega) (by omega)) dL_law_782 ?_
  refine lv_topi (fun y_9 ey_9 => ?_)
  have e_y_9 : y_9 = y_2 := by rw [ey_9, ey_2, ey_8, ey_1]
  have q_y_9 : y_9.toInt = y_2.toInt := by rw [ey_9, ey_2, ey_8, ey_1]
  refine lv_aload_n hx hb dL_law_783 rfl (lv_at hl 3 rfl) ?_
  refine lv_iload_n hx hb dL_law_784 rfl (lv_at hl 0 rfl) ?_
  refine lv_iconst (v := 2) hx hb dL_law_785 (by decide) ?_
  refine lv_iadd hx hb dL_law_786 ?_
  refine lv_topi (fun y_10 ey_10 => ?_)
  have ty_10 := i_add (a := ii.toInt) (b := 2) rfl (by decide) ey_10 (by omega) (by omega)
  refine va_sld hx hb hX hbl hbA hS (i := y_10) (vp_of (a := y_10.toInt) rfl (by omega) (by omega)) dL_law_787 ?_
  refine lv_topi (fun y_11 ey_11 => ?_)
  have e_y_11 : y_11 = y_4 := by rw [ey_11, ey_4, ey_10, ey_3]
  have q_y_11 : y_11.toInt = y_4.toInt := by rw [ey_11, ey_4, ey_10, ey_3]
  have hPc : va_P (dC, dI) vwCl (mW zad zkc zx0 zx1 zx2 zx3 zx4 zx5 zx6 zx7 zx8 zx9 zx10 zx11 zx12 zx13 zx14 zx15 zx16 zx17 zx18 zx19 zx20 zx21 zf0 zf1 zf2 zf3 zf4 zf5 zf6 zf7 zf8 zf9 zf10 zf11 zf12 zf13 zf14 zf15 zf16 zf17 zf18 zf19 zf20 zf21 zL zN zP zM zO) H := p_sub hP (fun _ hq => List.mem_append_right _ (List.mem_append_right _ hq))
  have hKc := hKM
  have hDc : va_D (fun q : Nat => s.heap.size ≤ q) (mW zad zkc zx0 zx1 zx2 zx3 zx4 zx5 zx6 zx7 zx8 zx9 zx10 zx11 zx12 zx13 zx14 zx15 zx16 zx17 zx18 zx19 zx20 zx21 zf0 zf1 zf2 zf3 zf4 zf5 zf6 zf7 zf8 zf9 zf10 zf11 zf12 zf13 zf14 zf15 zf16 zf17 zf18 zf19 zf20 zf21 zL zN zP zM zO) := D_right (D_right hD)
  have hFc := m_free hDc hS hA
  have hQAc : ∀ q ∈ W9, ¬ va_A (mW zad zkc zx0 zx1 zx2 zx3 zx4 zx5 zx6 zx7 zx8 zx9 zx10 zx11 zx12 zx13 zx14 zx15 zx16 zx17 zx18 zx19 zx20 zx21 zf0 zf1 zf2 zf3 zf4 zf5 zf6 zf7 zf8 zf9 zf10 zf11 zf12 zf13 zf14 zf15 zf16 zf17 zf18 zf19 zf20 zf21 zL zN zP zM zO) H.size q.1 := qn_A hQ hQN (fun x hx => List.mem_append_right _ (List.mem_append_right _ hx))
  refine va_calli (va_runV (As := [.int y_9, .int y_11]) (rest := []) ⟨hx, hb, hml, hown, hts⟩ (m_within l dC dI zad zkc zx0 zx1 zx2 zx3 zx4 zx5 zx6 zx7 zx8 zx9 zx10 zx11 zx12 zx13 zx14 zx15 zx16 zx17 zx18 zx19 zx20 zx21 zf0 zf1 zf2 zf3 zf4 zf5 zf6 zf7 zf8 zf9 zf10 zf11 zf12 zf13 zf14 zf15 zf16 zf17 zf18 zf19 zf20 zf21 zL zN zP zM zO H.size y_9 y_11 hmi) (cwV 2 hts mg_L_X10_within rfl rfl rfl (by decide +kernel) ⟨Nat.le_of_ble_eq_true rfl, Nat.le_of_ble_eq_true rfl⟩) ⟨fun a U g mk q => by obtain ⟨q0, q1, qP, qK, qD, qE0⟩ := q; exact ⟨q0, q1, qP, va_K.moved (u := U) (U := U.calling g mk a) (Vm.Alike.refl U.vm) qK, qD, over_moved (u := U) (E := U.calling g mk a) (Vm.Alike.refl U.vm) qE0⟩, va_recv hKc hPc (ci := 10) (q0 := 0) rfl rfl, fun U hU hW => ⟨rfl, by rw [hU], by rw [hU]; exact hPc, va_K.moved hW.alike hKc, hDc.weaken (fun _ _ _ _ => trivial), over_moved hW.alike hOV⟩⟩ rfl rfl hl.1 rfl (lv_room (Nat.le_of_ble_eq_true rfl)) dL_law_788 ⟨by show kc9 + 0 ≤ 600000; omega, by show ks9 + 0 ≤ 7302250; omega⟩) hS (fun q _ h => hFc q h) hFc (fun r_12 u t H1 locs ht hvm hw hB hz1 hk1 hS => ?_)
  have hQo := hQ
  have hQ := qn_P hQ hQAc hk1
  have hwu := hw
  have hwt_r_12 := congrArg Int32.toInt hw
  obtain ⟨zx_13, zx_14, zx_15, zx_16, zx_17, zx_18, zx_19, zx_20, zx_21, zf_22, zf_23, zf_24, zf_25, zf_26, zf_27, zf_28, zf_29, zf_30, zL_31, zNn_32, zP_33, zM_34, zO_35, h_36, hP1, hK1, hD1⟩ := hB
  rw [ht] at hP1
  have rg_zx_13 := i_rng zx_13
  have rg_zx_14 := i_rng zx_14
  have rg_zx_15 := i_rng zx_15
  have rg_zx_16 := i_rng zx_16
  have rg_zx_17 := i_rng zx_17
  have rg_zx_18 := i_rng zx_18
  have rg_zx_19 := i_rng zx_19
  have rg_zx_20 := i_rng zx_20
  have rg_zx_21 := i_rng zx_21
  have hass := (pm_as (a := [(gt, .inr (9, [.int w_7, .ref tp, .int td, .int fk, .int fpl, .ref bk, .int un, .ref mb, .ref mu, .int mk, .ref rd, .ref cm, .ref wk, .ref pp, .ref so, .ref ty])), (tp, .inl (ctp, 900, .inl ftp)), (mb, .inl (cmb, 3, .inr (.inr (.inr (.inr fmb))))), (mu, .inl (cmu, 3, .inl fmu)), (rd, .inr (6, rF r q0 q1 q2 q3 q4 q5 q6 q7)), (r 0, .inl (cb0, 18, .inl fb0)), (r 1, .inl (cb1, 18, .inl fb1)), (r 2, .inl (cb2, 18, .inl fb2)), (wk, .inr (8, [.int x0, .int x1, .ref li])), (li, .inl (cli, 24, .inl fli)), (pp, .inl (cpp, 60, .inl fpp)), (so, .inl (cso, 60, .inl fso)), (ty, .inl (cty, 26, .inl fty)), (cm, .inr (1, [.ref kA, .ref kB, .ref kG, .ref (ad 12 0), .ref o3, .ref e4, .ref e5, .ref kC, .ref kF, .ref kT, .int spn])), (kA, .inl (cA9, 6, .inr (.inr (.inr (.inr (fun i => some (ad i 0))))))), (kB, .inl (cB, 6, .inr (.inr (.inr (.inr (fun i => some (ad (6 + i) 0))))))), (kG, .inl (cg9, 6, .inl fG)), (o3, .inr (7, [.ref r3, .int n3])), (r3, .inl (c3, 6, .inr (.inl f3))), (e4, .inr (3, [.int (nI R4), .ref t4, .ref s4, .int m4])), (t4, .inl (ct4, 24 * R4, .inl ft4)), (s4, .inl (cs4, R4, .inl fs4)), (e5, .inr (3, [.int (nI R5), .ref t5, .ref s5, .int m5])), (t5, .inl (ct5, 24 * R5, .inl ft5)), (s5, .inl (cs5, R5, .inl fs5)), (kC, .inl (cC, 24, .inl fC)), (kF, .inl (cF, 24, .inl fF)), (kT, .inl (cT, 26, .inl fT))]) (b := cPL ad ca vi vl vf (List.range 13)) (c := mW zad zkc zx0 zx1 zx2 zx3 zx4 zx5 zx6 zx7 zx8 zx9 zx10 zx11 zx12 zx13 zx14 zx15 zx16 zx17 zx18 zx19 zx20 zx21 zf0 zf1 zf2 zf3 zf4 zf5 zf6 zf7 zf8 zf9 zf10 zf11 zf12 zf13 zf14 zf15 zf16 zf17 zf18 zf19 zf20 zf21 zL zN zP zM zO)).symm
  obtain ⟨hPx, hDx⟩ := pm_join hP hD hass hk1 hFc hP1 hD1
  rw [List.append_assoc] at hPx hDx
  have hQNx := qn_app (qn_sub hQN (fun x hx => List.mem_append_left _ hx)) (qn_app (qn_sub hQN (fun x hx => List.mem_append_right _ (List.mem_append_left _ hx))) (qn_new hQAc hD1))
  have hP := hPx
  have hD := hDx
  have hQN := hQNx
  generalize H1 = H at hP hS hQ ⊢
  have hmi9 := hmi.setP h_36
  refine lv_pop hx hb dL_law_791 rfl ?_
  refine lv_goto (tgt := 1128) hx hb dL_law_792 (by decide) ?_
  refine W.widen (k := kc9 + 195) (n := ks9 + 10960) (by omega) (by omega) ?_
  exact kk H _ ls tp bk mb mu rd cm wk pp so ty li w_7 td fk fpl un mk x0 x1 q0 q1 q2 q3 q4 q5 q6 q7 r ctp cmb cmu cb0 cb1 cb2 cli cpp cso cty ftp fmu fb0 fb1 fb2 fli fpp fso fty fmb spn kG cg9 fG o3 r3 c3 f3 n3 e4 t4 s4 R4 ct4 cs4 ft4 fs4 m4 e5 t5 s5 R5 ct5 cs5 ft5 fs5 m5 kC cC fC kF cF fF kT cT fT kA kB cA9 cB ad ca vi vl vf W9 T9 B9 zad zkc zx_13 zx1 zx2 zx3 zx4 zx5 zx6 zx7 zx8 zx9 zx10 zx11 zx_14 zx_15 zx_16 zx_17 zx_18 zx_19 zx_20 zx_21 zx20 zx21 zf0 zf1 zf2 zf_22 zf_23 zf_24 zf_25 zf_26 zf_27 zf_28 zf_29 zf_30 zf12 zf13 zf14 zf15 zf16 zf17 zf18 zf19 zf20 zf21 zL_31 zNn_32 zP_33 zM_34 zO_35 hs1 hs2 ha3 hb3 hR4 hU4 hc4 hd4 hb_fs4 hR5 hU5 hc5 hd5 hb_fs5 hG (by omega) (by omega) hM hB9 hbk rfl hmi9 (by omega) (by omega) hrt hK hKC hKM hKQ hP hD hQ hQN hS hl
theorem dL_law_795 : decode cL_law 795 = .ok (.aload_n 1, 1) := by decide +kernel
theorem dL_law_796 : decode cL_law 796 = .ok (.aload_n 0, 1) := by decide +kernel
theorem dL_law_797 : decode cL_law 797 = .ok (.iload_n 3, 1) := by decide +kernel
theorem dL_law_798 : decode cL_law 798 = .ok (.iconst 1, 1) := by decide +kernel
theorem dL_law_799 : decode cL_law 799 = .ok (.iadd, 1) := by decide +kernel
theorem dL_law_800 : decode cL_law 800 = .ok (.iaload, 1) := by decide +kernel
theorem dL_law_801 : decode cL_law 801 = .ok (.aload_n 0, 1) := by decide +kernel
theorem dL_law_802 : decode cL_law 802 = .ok (.iload_n 3, 1) := by decide +kernel
theorem dL_law_803 : decode cL_law 803 = .ok (.iconst 2, 1) := by decide +kernel
theorem dL_law_804 : decode cL_law 804 = .ok (.iadd, 1) := by decide +kernel
theorem dL_law_805 : decode cL_law 805 = .ok (.iaload, 1) := by decide +kernel
theorem dL_law_806 : decode cL_law 806 = .ok (.aload_n 0, 1) := by decide +kernel
theorem dL_law_807 : decode cL_law 807 = .ok (.iload_n 3, 1) := by decide +kernel
theorem dL_law_808 : decode cL_law 808 = .ok (.iconst 3, 1) := by decide +kernel
theorem dL_law_809 : decode cL_law 809 = .ok (.iadd, 1) := by decide +kernel
theorem dL_law_810 : decode cL_law 810 = .ok (.iaload, 1) := by decide +kernel
theorem dL_law_811 : decode cL_law 811 = .ok (.invokevirtual 94, 3) := by decide +kernel
theorem dL_law_814 : decode cL_law 814 = .ok (.pop, 1) := by decide +kernel
theorem dL_law_815 : decode cL_law 815 = .ok (.aload_n 2, 1) := by decide +kernel
theorem dL_law_816 : decode cL_law 816 = .ok (.aload_n 0, 1) := by decide +kernel
theorem dL_law_817 : decode cL_law 817 = .ok (.iload_n 3, 1) := by decide +kernel
theorem dL_law_818 : decode cL_law 818 = .ok (.iconst 1, 1) := by decide +kernel
theorem dL_law_819 : decode cL_law 819 = .ok (.iadd, 1) := by decide +kernel
theorem dL_law_820 : decode cL_law 820 = .ok (.iaload, 1) := by decide +kernel
theorem dL_law_821 : decode cL_law 821 = .ok (.aload_n 0, 1) := by decide +kernel
theorem dL_law_822 : decode cL_law 822 = .ok (.iload_n 3, 1) := by decide +kernel
theorem dL_law_823 : decode cL_law 823 = .ok (.iconst 2, 1) := by decide +kernel
theorem dL_law_824 : decode cL_law 824 = .ok (.iadd, 1) := by decide +kernel
theorem dL_law_825 : decode cL_law 825 = .ok (.iaload, 1) := by decide +kernel
theorem dL_law_826 : decode cL_law 826 = .ok (.aload_n 0, 1) := by decide +kernel
theorem dL_law_827 : decode cL_law 827 = .ok (.iload_n 3, 1) := by decide +kernel
theorem dL_law_828 : decode cL_law 828 = .ok (.iconst 3, 1) := by decide +kernel
theorem dL_law_829 : decode cL_law 829 = .ok (.iadd, 1) := by decide +kernel
theorem dL_law_830 : decode cL_law 830 = .ok (.iaload, 1) := by decide +kernel
theorem dL_law_831 : decode cL_law 831 = .ok (.invokevirtual 97, 3) := by decide +kernel
theorem dL_law_834 : decode cL_law 834 = .ok (.pop, 1) := by decide +kernel
theorem dL_law_835 : decode cL_law 835 = .ok (.goto 293, 3) := by decide +kernel
set_option maxHeartbeats 4000000 in
set_option maxRecDepth 100000 in
/-- the law: put -/
theorem law_case19 {p : Program} {l : Launch} {e : Env} {s : State} {m : MethodId} {below : List Frame} {meth : Method} {c : Code} {dC : Nat → ClassId} {dI : Nat → Nat → Nat} {b L : Nat} {xs : Nat → Int32} (hLL : L ≤ 3072) (C0 : lw_At p s m meth c b L xs) (hLX : LX s) {gt mo : Nat} {H : Heap} {locs : List Loc} {kc9 ks9 : Nat} (hc9 : kc9 + 195 ≤ 600000) (hs9 : ks9 + 10960 ≤ 7302250) {ii : Int32} (hii : 0 ≤ ii.toInt ∧ ii.toInt + 6 ≤ L) {ls : Array Slot} (kk : ∀ (H1 : Heap) (locs1 : List Loc) (ls : Array Slot), LI dC dI s gt mo H1 (va_S (fun q : Nat => s.heap.size ≤ q) s.heap H1 locs1 → lv_has ls 4 [(3, .int ii), (2, .ref mo), (1, .ref gt), (0, .ref b)] → W p l e room_1 s m #[Value.ref b] below meth c H1 locs1 (kc9 + 195) (ks9 + 10960) (lw_Z below #[Value.ref b] s) (F0 m 1128 ls []))) : LI dC dI s gt mo H (va_S (fun q : Nat => s.heap.size ≤ q) s.heap H locs → lv_has ls 4 [(3, .int ii), (2, .ref mo), (1, .ref gt), (0, .ref b)] → W p l e room_1 s m #[Value.ref b] below meth c H locs kc9 ks9 (lw_Z below #[Value.ref b] s) (F0 m 795 ls [])) := by
  obtain ⟨hx, hb, hr, hml, hown, hts, hX, hbl, hlocks, hgv⟩ := id C0
  have hown : s.vm.findClass RL = some m.cls := hown
  have hA : ∀ q : Nat, s.heap.size ≤ q → (fun q : Nat => s.heap.size ≤ q) q := fun _ h => h
  have hbA : ¬ (fun q : Nat => s.heap.size ≤ q) b := Nat.not_le.mpr hbl
  obtain ⟨hcl, hcld, hAO2, hAO5, hN53, hN160, hSR, hSW, hSR2, hSW2, hOV⟩ := hLX
  unfold LI
  intro tp bk mb mu rd cm wk pp so ty li st9 td fk fpl un mk x0 x1 q0 q1 q2 q3 q4 q5 q6 q7 r ctp cmb cmu cb0 cb1 cb2 cli cpp cso cty ftp fmu fb0 fb1 fb2 fli fpp fso fty fmb spn kG cg9 fG o3 r3 c3 f3 n3 e4 t4 s4 R4 ct4 cs4 ft4 fs4 m4 e5 t5 s5 R5 ct5 cs5 ft5 fs5 m5 kC cC fC kF cF fF kT cT fT kA kB cA9 cB ad ca vi vl vf W9 T9 B9 zad zkc zx0 zx1 zx2 zx3 zx4 zx5 zx6 zx7 zx8 zx9 zx10 zx11 zx12 zx13 zx14 zx15 zx16 zx17 zx18 zx19 zx20 zx21 zf0 zf1 zf2 zf3 zf4 zf5 zf6 zf7 zf8 zf9 zf10 zf11 zf12 zf13 zf14 zf15 zf16 zf17 zf18 zf19 zf20 zf21 zL zN zP zM zO hs1 hs2 ha3 hb3 hR4 hU4 hc4 hd4 hb_fs4 hR5 hU5 hc5 hd5 hb_fs5 hG htd hmk hM hB9 hbk hmo hmi hzk hzt hrt hK hKC hKM hKQ hP hD hQ hQN hS hl
  subst hmo
  have rg_td := i_rng td
  have rg_mk := i_rng mk
  have rg_zx2 := i_rng zx2
  have rg_zx3 := i_rng zx3
  refine lv_aload_n hx hb dL_law_795 rfl (lv_at hl 2 rfl) ?_
  refine lv_aload_n hx hb dL_law_796 rfl (lv_at hl 3 rfl) ?_
  refine lv_iload_n hx hb dL_law_797 rfl (lv_at hl 0 rfl) ?_
  refine lv_iconst (v := 1) hx hb dL_law_798 (by decide) ?_
  refine lv_iadd hx hb dL_law_799 ?_
  refine lv_topi (fun y_1 ey_1 => ?_)
  have ty_1 := i_add (a := ii.toInt) (b := 1) rfl (by decide) ey_1 (by omega) (by omega)
  refine va_sld hx hb hX hbl hbA hS (i := y_1) (vp_of (a := y_1.toInt) rfl (by omega) (by omega)) dL_law_800 ?_
  refine lv_topi (fun y_2 ey_2 => ?_)
  refine lv_aload_n hx hb dL_law_801 rfl (lv_at hl 3 rfl) ?_
  refine lv_iload_n hx hb dL_law_802 rfl (lv_at hl 0 rfl) ?_
  refine lv_iconst (v := 2) hx hb dL_law_803 (by decide) ?_
  refine lv_iadd hx hb dL_law_804 ?_
  refine lv_topi (fun y_3 ey_3 => ?_)
  have ty_3 := i_add (a := ii.toInt) (b := 2) rfl (by decide) ey_3 (by omega) (by omega)
  refine va_sld hx hb hX hbl hbA hS (i := y_3) (vp_of (a := y_3.toInt) rfl (by omega) (by omega)) dL_law_805 ?_
  refine lv_topi (fun y_4 ey_4 => ?_)
  refine lv_aload_n hx hb dL_law_806 rfl (lv_at hl 3 rfl) ?_
  refine lv_iload_n hx hb dL_law_807 rfl (lv_at hl 0 rfl) ?_
  refine lv_iconst (v := 3) hx hb dL_law_808 (by decide) ?_
  refine lv_iadd hx hb dL_law_809 ?_
  refine lv_topi (fun y_5 ey_5 => ?_)
  have ty_5 := i_add (a := ii.toInt) (b := 3) rfl (by decide) ey_5 (by omega) (by omega)
  refine va_sld hx hb hX hbl hbA hS (i := y_5) (vp_of (a := y_5.toInt) rfl (by omega) (by omega)) dL_law_810 ?_
  refine lv_topi (fun y_6 ey_6 => ?_)
  have hPc := hP.sub (ws' := [(gt, .inr (9, [.int st9, .ref tp, .int td, .int fk, .int fpl, .ref bk, .int un, .ref mb, .ref mu, .int mk, .ref rd, .ref cm, .ref wk, .ref pp, .ref so, .ref ty])), (so, .inl (cso, 60, .inl fso))]) [0, 11] rfl
  have hKc := hK.sub (tys' := [(cso, .int)]) [8] rfl
  have hDc := hD.sub (ws' := [(gt, .inr (9, [.int st9, .ref tp, .int td, .int fk, .int fpl, .ref bk, .int un, .ref mb, .ref mu, .int mk, .ref rd, .ref cm, .ref wk, .ref pp, .ref so, .ref ty])), (so, .inl (cso, 60, .inl fso))]) [0, 11] (by decide) rfl
  have hFc := va_free (wc := [(gt, .inr (9, [.int st9, .ref tp, .int td, .int fk, .int fpl, .ref bk, .int un, .ref mb, .ref mu, .int mk, .ref rd, .ref cm, .ref wk, .ref pp, .ref so, .ref ty])), (so, .inl (cso, 60, .inl fso))]) hD hS hA [0, 11] rfl
  have hQAc : ∀ q ∈ W9, ¬ va_A [(gt, .inr (9, [.int st9, .ref tp, .int td, .int fk, .int fpl, .ref bk, .int un, .ref mb, .ref mu, .int mk, .ref rd, .ref cm, .ref wk, .ref pp, .ref so, .ref ty])), (so, .inl (cso, 60, .inl fso))] H.size q.1 := qn_A hQ hQN (fun x hx => mem_pl [0, 11] rfl x hx)
  refine va_calli (va_runV (As := [.int y_2, .int y_4, .int y_6]) (rest := []) ⟨hx, hb, hml, hown, hts⟩ (s_g_put l dC dI W9 T9 B9 gt tp bk mb mu rd cm wk pp so ty st9 td fk fpl un mk cso fso H.size y_2 y_4 y_6 hB9 hbk) (cwV 3 hts mg_L_X9_put rfl rfl rfl (by decide +kernel) ⟨Nat.le_of_ble_eq_true rfl, Nat.le_of_ble_eq_true rfl⟩) ⟨fun a U g mk q => by obtain ⟨q0, q1, qP, qK, qD, qE0, qE1, qE2, qE3, qE4⟩ := q; exact ⟨q0, q1, qP, va_K.moved (u := U) (U := U.calling g mk a) (Vm.Alike.refl U.vm) qK, qD, va_Nw.same rfl (u := U) rfl qE0, va_Nw.same rfl (u := U) rfl qE1, qE2, va_K.moved (u := U) (U := U.calling g mk a) (Vm.Alike.refl U.vm) qE3, qE4⟩, va_recv hKc hPc (ci := 9) (q0 := 0) rfl rfl, fun U hU hW => ⟨rfl, by rw [hU], by rw [hU]; exact hPc, va_K.moved hW.alike hKc, hDc.weaken (fun _ _ _ _ => trivial), nw_moved hW.alike hcl, nw_moved hW.alike hcld, (by rw [hU]; exact hQ), va_K.moved hW.alike hKQ, hQAc⟩⟩ rfl rfl hl.1 rfl (lv_room (Nat.le_of_ble_eq_true rfl)) dL_law_811 ⟨by show kc9 + 5 ≤ 600000; omega, by show ks9 + 135 ≤ 7302250; omega⟩) hS (fun q _ h => hFc q h) hFc (fun r_7 u_8 t H1 locs ht hvm hw hB hz1 hk1 hS => ?_)
  have hQo := hQ
  have hQ := qn_P hQ hQAc hk1
  obtain ⟨w_9, b_10, w_11, f_12, W2, T2, B2, hN2, hb2, hQ2, hKQ2, hP1, hK1, hD1⟩ := hB
  rw [ht] at hP1
  have hQNa := qn_new hQAc hD1
  obtain ⟨hPx, hDx⟩ := va_joinQ (X := [(gt, .inr (9, [.int st9, .ref tp, .int td, .int fk, .int fpl, .ref bk, .int un, .ref mb, .ref mu, .int mk, .ref rd, .ref cm, .ref wk, .ref pp, .ref so, .ref ty])), (tp, .inl (ctp, 900, .inl ftp)), (mb, .inl (cmb, 3, .inr (.inr (.inr (.inr fmb))))), (mu, .inl (cmu, 3, .inl fmu)), (rd, .inr (6, rF r q0 q1 q2 q3 q4 q5 q6 q7)), (r 0, .inl (cb0, 18, .inl fb0)), (r 1, .inl (cb1, 18, .inl fb1)), (r 2, .inl (cb2, 18, .inl fb2)), (wk, .inr (8, [.int x0, .int x1, .ref li])), (li, .inl (cli, 24, .inl fli)), (pp, .inl (cpp, 60, .inl fpp)), (so, .inl (cso, 60, .inl fso)), (ty, .inl (cty, 26, .inl fty)), (cm, .inr (1, [.ref kA, .ref kB, .ref kG, .ref (ad 12 0), .ref o3, .ref e4, .ref e5, .ref kC, .ref kF, .ref kT, .int spn])), (kA, .inl (cA9, 6, .inr (.inr (.inr (.inr (fun i => some (ad i 0))))))), (kB, .inl (cB, 6, .inr (.inr (.inr (.inr (fun i => some (ad (6 + i) 0))))))), (kG, .inl (cg9, 6, .inl fG)), (o3, .inr (7, [.ref r3, .int n3])), (r3, .inl (c3, 6, .inr (.inl f3))), (e4, .inr (3, [.int (nI R4), .ref t4, .ref s4, .int m4])), (t4, .inl (ct4, 24 * R4, .inl ft4)), (s4, .inl (cs4, R4, .inl fs4)), (e5, .inr (3, [.int (nI R5), .ref t5, .ref s5, .int m5])), (t5, .inl (ct5, 24 * R5, .inl ft5)), (s5, .inl (cs5, R5, .inl fs5)), (kC, .inl (cC, 24, .inl fC)), (kF, .inl (cF, 24, .inl fF)), (kT, .inl (cT, 26, .inl fT))]) (cx := [(gt, .inr (9, [.int st9, .ref tp, .int td, .int fk, .int fpl, .ref bk, .int un, .ref mb, .ref mu, .int mk, .ref rd, .ref cm, .ref wk, .ref pp, .ref so, .ref ty])), (so, .inl (cso, 60, .inl fso))]) (wr := [(tp, .inl (ctp, 900, .inl ftp)), (mb, .inl (cmb, 3, .inr (.inr (.inr (.inr fmb))))), (mu, .inl (cmu, 3, .inl fmu)), (rd, .inr (6, rF r q0 q1 q2 q3 q4 q5 q6 q7)), (r 0, .inl (cb0, 18, .inl fb0)), (r 1, .inl (cb1, 18, .inl fb1)), (r 2, .inl (cb2, 18, .inl fb2)), (wk, .inr (8, [.int x0, .int x1, .ref li])), (li, .inl (cli, 24, .inl fli)), (pp, .inl (cpp, 60, .inl fpp)), (ty, .inl (cty, 26, .inl fty)), (cm, .inr (1, [.ref kA, .ref kB, .ref kG, .ref (ad 12 0), .ref o3, .ref e4, .ref e5, .ref kC, .ref kF, .ref kT, .int spn])), (kA, .inl (cA9, 6, .inr (.inr (.inr (.inr (fun i => some (ad i 0))))))), (kB, .inl (cB, 6, .inr (.inr (.inr (.inr (fun i => some (ad (6 + i) 0))))))), (kG, .inl (cg9, 6, .inl fG)), (o3, .inr (7, [.ref r3, .int n3])), (r3, .inl (c3, 6, .inr (.inl f3))), (e4, .inr (3, [.int (nI R4), .ref t4, .ref s4, .int m4])), (t4, .inl (ct4, 24 * R4, .inl ft4)), (s4, .inl (cs4, R4, .inl fs4)), (e5, .inr (3, [.int (nI R5), .ref t5, .ref s5, .int m5])), (t5, .inl (ct5, 24 * R5, .inl ft5)), (s5, .inl (cs5, R5, .inl fs5)), (kC, .inl (cC, 24, .inl fC)), (kF, .inl (cF, 24, .inl fF)), (kT, .inl (cT, 26, .inl fT))]) (w1 := [(gt, .inr (9, [.int w_9, .ref tp, .int td, .int fk, .int fpl, .ref b_10, .int w_11, .ref mb, .ref mu, .int mk, .ref rd, .ref cm, .ref wk, .ref pp, .ref so, .ref ty])), (so, .inl (cso, 60, .inl f_12))]) (pl := (cPL ad ca vi vl vf (List.range 13) ++ mW zad zkc zx0 zx1 zx2 zx3 zx4 zx5 zx6 zx7 zx8 zx9 zx10 zx11 zx12 zx13 zx14 zx15 zx16 zx17 zx18 zx19 zx20 zx21 zf0 zf1 zf2 zf3 zf4 zf5 zf6 zf7 zf8 zf9 zf10 zf11 zf12 zf13 zf14 zf15 zf16 zf17 zf18 zf19 zf20 zf21 zL zN zP zM zO)) hP hD [0, 11] [1, 2, 3, 4, 5, 6, 7, 8, 9, 10, 12, 13, 14, 15, 16, 17, 18, 19, 20, 21, 22, 23, 24, 25, 26, 27] rfl rfl (by decide) (by decide) hk1 hFc hP1 hD1
  have hPx := t_P (cx := [(gt, .inr (9, [.int w_9, .ref tp, .int td, .int fk, .int fpl, .ref b_10, .int w_11, .ref mb, .ref mu, .int mk, .ref rd, .ref cm, .ref wk, .ref pp, .ref so, .ref ty])), (tp, .inl (ctp, 900, .inl ftp)), (mb, .inl (cmb, 3, .inr (.inr (.inr (.inr fmb))))), (mu, .inl (cmu, 3, .inl fmu)), (rd, .inr (6, rF r q0 q1 q2 q3 q4 q5 q6 q7)), (r 0, .inl (cb0, 18, .inl fb0)), (r 1, .inl (cb1, 18, .inl fb1)), (r 2, .inl (cb2, 18, .inl fb2)), (wk, .inr (8, [.int x0, .int x1, .ref li])), (li, .inl (cli, 24, .inl fli)), (pp, .inl (cpp, 60, .inl fpp)), (so, .inl (cso, 60, .inl f_12)), (ty, .inl (cty, 26, .inl fty)), (cm, .inr (1, [.ref kA, .ref kB, .ref kG, .ref (ad 12 0), .ref o3, .ref e4, .ref e5, .ref kC, .ref kF, .ref kT, .int spn])), (kA, .inl (cA9, 6, .inr (.inr (.inr (.inr (fun i => some (ad i 0))))))), (kB, .inl (cB, 6, .inr (.inr (.inr (.inr (fun i => some (ad (6 + i) 0))))))), (kG, .inl (cg9, 6, .inl fG)), (o3, .inr (7, [.ref r3, .int n3])), (r3, .inl (c3, 6, .inr (.inl f3))), (e4, .inr (3, [.int (nI R4), .ref t4, .ref s4, .int m4])), (t4, .inl (ct4, 24 * R4, .inl ft4)), (s4, .inl (cs4, R4, .inl fs4)), (e5, .inr (3, [.int (nI R5), .ref t5, .ref s5, .int m5])), (t5, .inl (ct5, 24 * R5, .inl ft5)), (s5, .inl (cs5, R5, .inl fs5)), (kC, .inl (cC, 24, .inl fC)), (kF, .inl (cF, 24, .inl fF)), (kT, .inl (cT, 26, .inl fT))]) hPx [26, 0, 1, 2, 3, 4, 5, 6, 7, 8, 9, 27, 10, 11, 12, 13, 14, 15, 16, 17, 18, 19, 20, 21, 22, 23, 24, 25] rfl
  have hDx := va_D.part (cx := [(gt, .inr (9, [.int w_9, .ref tp, .int td, .int fk, .int fpl, .ref b_10, .int w_11, .ref mb, .ref mu, .int mk, .ref rd, .ref cm, .ref wk, .ref pp, .ref so, .ref ty])), (tp, .inl (ctp, 900, .inl ftp)), (mb, .inl (cmb, 3, .inr (.inr (.inr (.inr fmb))))), (mu, .inl (cmu, 3, .inl fmu)), (rd, .inr (6, rF r q0 q1 q2 q3 q4 q5 q6 q7)), (r 0, .inl (cb0, 18, .inl fb0)), (r 1, .inl (cb1, 18, .inl fb1)), (r 2, .inl (cb2, 18, .inl fb2)), (wk, .inr (8, [.int x0, .int x1, .ref li])), (li, .inl (cli, 24, .inl fli)), (pp, .inl (cpp, 60, .inl fpp)), (so, .inl (cso, 60, .inl f_12)), (ty, .inl (cty, 26, .inl fty)), (cm, .inr (1, [.ref kA, .ref kB, .ref kG, .ref (ad 12 0), .ref o3, .ref e4, .ref e5, .ref kC, .ref kF, .ref kT, .int spn])), (kA, .inl (cA9, 6, .inr (.inr (.inr (.inr (fun i => some (ad i 0))))))), (kB, .inl (cB, 6, .inr (.inr (.inr (.inr (fun i => some (ad (6 + i) 0))))))), (kG, .inl (cg9, 6, .inl fG)), (o3, .inr (7, [.ref r3, .int n3])), (r3, .inl (c3, 6, .inr (.inl f3))), (e4, .inr (3, [.int (nI R4), .ref t4, .ref s4, .int m4])), (t4, .inl (ct4, 24 * R4, .inl ft4)), (s4, .inl (cs4, R4, .inl fs4)), (e5, .inr (3, [.int (nI R5), .ref t5, .ref s5, .int m5])), (t5, .inl (ct5, 24 * R5, .inl ft5)), (s5, .inl (cs5, R5, .inl fs5)), (kC, .inl (cC, 24, .inl fC)), (kF, .inl (cF, 24, .inl fF)), (kT, .inl (cT, 26, .inl fT))]) hDx [26, 0, 1, 2, 3, 4, 5, 6, 7, 8, 9, 27, 10, 11, 12, 13, 14, 15, 16, 17, 18, 19, 20, 21, 22, 23, 24, 25] (by decide) rfl
  have hm9 : List.map Prod.fst ([(gt, .inr (9, [.int w_9, .ref tp, .int td, .int fk, .int fpl, .ref b_10, .int w_11, .ref mb, .ref mu, .int mk, .ref rd, .ref cm, .ref wk, .ref pp, .ref so, .ref ty])), (tp, .inl (ctp, 900, .inl ftp)), (mb, .inl (cmb, 3, .inr (.inr (.inr (.inr fmb))))), (mu, .inl (cmu, 3, .inl fmu)), (rd, .inr (6, rF r q0 q1 q2 q3 q4 q5 q6 q7)), (r 0, .inl (cb0, 18, .inl fb0)), (r 1, .inl (cb1, 18, .inl fb1)), (r 2, .inl (cb2, 18, .inl fb2)), (wk, .inr (8, [.int x0, .int x1, .ref li])), (li, .inl (cli, 24, .inl fli)), (pp, .inl (cpp, 60, .inl fpp)), (so, .inl (cso, 60, .inl f_12)), (ty, .inl (cty, 26, .inl fty)), (cm, .inr (1, [.ref kA, .ref kB, .ref kG, .ref (ad 12 0), .ref o3, .ref e4, .ref e5, .ref kC, .ref kF, .ref kT, .int spn])), (kA, .inl (cA9, 6, .inr (.inr (.inr (.inr (fun i => some (ad i 0))))))), (kB, .inl (cB, 6, .inr (.inr (.inr (.inr (fun i => some (ad (6 + i) 0))))))), (kG, .inl (cg9, 6, .inl fG)), (o3, .inr (7, [.ref r3, .int n3])), (r3, .inl (c3, 6, .inr (.inl f3))), (e4, .inr (3, [.int (nI R4), .ref t4, .ref s4, .int m4])), (t4, .inl (ct4, 24 * R4, .inl ft4)), (s4, .inl (cs4, R4, .inl fs4)), (e5, .inr (3, [.int (nI R5), .ref t5, .ref s5, .int m5])), (t5, .inl (ct5, 24 * R5, .inl ft5)), (s5, .inl (cs5, R5, .inl fs5)), (kC, .inl (cC, 24, .inl fC)), (kF, .inl (cF, 24, .inl fF)), (kT, .inl (cT, 26, .inl fT))] ++ (cPL ad ca vi vl vf (List.range 13) ++ mW zad zkc zx0 zx1 zx2 zx3 zx4 zx5 zx6 zx7 zx8 zx9 zx10 zx11 zx12 zx13 zx14 zx15 zx16 zx17 zx18 zx19 zx20 zx21 zf0 zf1 zf2 zf3 zf4 zf5 zf6 zf7 zf8 zf9 zf10 zf11 zf12 zf13 zf14 zf15 zf16 zf17 zf18 zf19 zf20 zf21 zL zN zP zM zO) : va_W) = List.map Prod.fst ([(gt, .inr (9, [.int st9, .ref tp, .int td, .int fk, .int fpl, .ref bk, .int un, .ref mb, .ref mu, .int mk, .ref rd, .ref cm, .ref wk, .ref pp, .ref so, .ref ty])), (tp, .inl (ctp, 900, .inl ftp)), (mb, .inl (cmb, 3, .inr (.inr (.inr (.inr fmb))))), (mu, .inl (cmu, 3, .inl fmu)), (rd, .inr (6, rF r q0 q1 q2 q3 q4 q5 q6 q7)), (r 0, .inl (cb0, 18, .inl fb0)), (r 1, .inl (cb1, 18, .inl fb1)), (r 2, .inl (cb2, 18, .inl fb2)), (wk, .inr (8, [.int x0, .int x1, .ref li])), (li, .inl (cli, 24, .inl fli)), (pp, .inl (cpp, 60, .inl fpp)), (so, .inl (cso, 60, .inl fso)), (ty, .inl (cty, 26, .inl fty)), (cm, .inr (1, [.ref kA, .ref kB, .ref kG, .ref (ad 12 0), .ref o3, .ref e4, .ref e5, .ref kC, .ref kF, .ref kT, .int spn])), (kA, .inl (cA9, 6, .inr (.inr (.inr (.inr (fun i => some (ad i 0))))))), (kB, .inl (cB, 6, .inr (.inr (.inr (.inr (fun i => some (ad (6 + i) 0))))))), (kG, .inl (cg9, 6, .inl fG)), (o3, .inr (7, [.ref r3, .int n3])), (r3, .inl (c3, 6, .inr (.inl f3))), (e4, .inr (3, [.int (nI R4), .ref t4, .ref s4, .int m4])), (t4, .inl (ct4, 24 * R4, .inl ft4)), (s4, .inl (cs4, R4, .inl fs4)), (e5, .inr (3, [.int (nI R5), .ref t5, .ref s5, .int m5])), (t5, .inl (ct5, 24 * R5, .inl ft5)), (s5, .inl (cs5, R5, .inl fs5)), (kC, .inl (cC, 24, .inl fC)), (kF, .inl (cF, 24, .inl fF)), (kT, .inl (cT, 26, .inl fT))] ++ (cPL ad ca vi vl vf (List.range 13) ++ mW zad zkc zx0 zx1 zx2 zx3 zx4 zx5 zx6 zx7 zx8 zx9 zx10 zx11 zx12 zx13 zx14 zx15 zx16 zx17 zx18 zx19 zx20 zx21 zf0 zf1 zf2 zf3 zf4 zf5 zf6 zf7 zf8 zf9 zf10 zf11 zf12 zf13 zf14 zf15 zf16 zf17 zf18 zf19 zf20 zf21 zL zN zP zM zO) : va_W) := rfl
  have hQNx := qn_fst hQN hm9
  have hQNx := qn_act hN2 hQNx hP hm9
  rw [ht] at hQ2
  have hQ := hQ2
  have hKQ := va_K.moved hvm.symm hKQ2
  have hB9 := hN2.2.2.2.1
  have hM := hM.mono hN2.2.2.1 (Int.le_refl _)
  have hbk := hb2
  have hQN := hQNx
  clear hQNx hQAc hFc hDc hPc hKc
  have hP := hPx
  have hD := hDx
  clear hPx hDx
  generalize H1 = H at hP hS hQ ⊢
  refine lv_pop hx hb dL_law_814 rfl ?_
  refine lv_aload_n hx hb dL_law_815 rfl (lv_at hl 1 rfl) ?_
  refine lv_aload_n hx hb dL_law_816 rfl (lv_at hl 3 rfl) ?_
  refine lv_iload_n hx hb dL_law_817 rfl (lv_at hl 0 rfl) ?_
  refine lv_iconst (v := 1) hx hb dL_law_818 (by decide) ?_
  refine lv_iadd hx hb dL_law_819 ?_
  refine lv_topi (fun y_13 ey_13 => ?_)
  have ty_13 := i_add (a := ii.toInt) (b := 1) rfl (by decide) ey_13 (by omega) (by omega)
  refine va_sld hx hb hX hbl hbA hS (i := y_13) (vp_of (a := y_13.toInt) rfl (by omega) (by omega)) dL_law_820 ?_
  refine lv_topi (fun y_14 ey_14 => ?_)
  have e_y_14 : y_14 = y_2 := by rw [ey_14, ey_2, ey_13, ey_1]
  have q_y_14 : y_14.toInt = y_2.toInt := by rw [ey_14, ey_2, ey_13, ey_1]
  refine lv_aload_n hx hb dL_law_821 rfl (lv_at hl 3 rfl) ?_
  refine lv_iload_n hx hb dL_law_822 rfl (lv_at hl 0 rfl) ?_
  refine lv_iconst (v := 2) hx hb dL_law_823 (by decide) ?_
  refine lv_iadd hx hb dL_law_824 ?_
  refine lv_topi (fun y_15 ey_15 => ?_)
  have ty_15 := i_add (a := ii.toInt) (b := 2) rfl (by decide) ey_15 (by omega) (by omega)
  refine va_sld hx hb hX hbl hbA hS (i := y_15) (vp_of (a := y_15.toInt) rfl (by omega) (by omega)) dL_law_825 ?_
  refine lv_topi (fun y_16 ey_16 => ?_)
  have e_y_16 : y_16 = y_4 := by rw [ey_16, ey_4, ey_15, ey_3]
  have q_y_16 : y_16.toInt = y_4.toInt := by rw [ey_16, ey_4, ey_15, ey_3]
  refine lv_aload_n hx hb dL_law_826 rfl (lv_at hl 3 rfl) ?_
  refine lv_iload_n hx hb dL_law_827 rfl (lv_at hl 0 rfl) ?_
  refine lv_iconst (v := 3) hx hb dL_law_828 (by decide) ?_
  refine lv_iadd hx hb dL_law_829 ?_
  refine lv_topi (fun y_17 ey_17 => ?_)
  have ty_17 := i_add (a := ii.toInt) (b := 3) rfl (by decide) ey_17 (by omega) (by omega)
  refine va_sld hx hb hX hbl hbA hS (i := y_17) (vp_of (a := y_17.toInt) rfl (by omega) (by omega)) dL_law_830 ?_
  refine lv_topi (fun y_18 ey_18 => ?_)
  have e_y_18 : y_18 = y_6 := by rw [ey_18, ey_6, ey_17, ey_5]
  have q_y_18 : y_18.toInt = y_6.toInt := by rw [ey_18, ey_6, ey_17, ey_5]
  have hPc : va_P (dC, dI) vwCl (mW zad zkc zx0 zx1 zx2 zx3 zx4 zx5 zx6 zx7 zx8 zx9 zx10 zx11 zx12 zx13 zx14 zx15 zx16 zx17 zx18 zx19 zx20 zx21 zf0 zf1 zf2 zf3 zf4 zf5 zf6 zf7 zf8 zf9 zf10 zf11 zf12 zf13 zf14 zf15 zf16 zf17 zf18 zf19 zf20 zf21 zL zN zP zM zO) H := p_sub hP (fun _ hq => List.mem_append_right _ (List.mem_append_right _ hq))
  have hKc := hKM
  have hDc : va_D (fun q : Nat => s.heap.size ≤ q) (mW zad zkc zx0 zx1 zx2 zx3 zx4 zx5 zx6 zx7 zx8 zx9 zx10 zx11 zx12 zx13 zx14 zx15 zx16 zx17 zx18 zx19 zx20 zx21 zf0 zf1 zf2 zf3 zf4 zf5 zf6 zf7 zf8 zf9 zf10 zf11 zf12 zf13 zf14 zf15 zf16 zf17 zf18 zf19 zf20 zf21 zL zN zP zM zO) := D_right (D_right hD)
  have hFc := m_free hDc hS hA
  have hQAc : ∀ q ∈ W2, ¬ va_A (mW zad zkc zx0 zx1 zx2 zx3 zx4 zx5 zx6 zx7 zx8 zx9 zx10 zx11 zx12 zx13 zx14 zx15 zx16 zx17 zx18 zx19 zx20 zx21 zf0 zf1 zf2 zf3 zf4 zf5 zf6 zf7 zf8 zf9 zf10 zf11 zf12 zf13 zf14 zf15 zf16 zf17 zf18 zf19 zf20 zf21 zL zN zP zM zO) H.size q.1 := qn_A hQ hQN (fun x hx => List.mem_append_right _ (List.mem_append_right _ hx))
  refine va_calli (va_runV (As := [.int y_14, .int y_16, .int y_18]) (rest := []) ⟨hx, hb, hml, hown, hts⟩ (m_put l dC dI zad zkc zx0 zx1 zx2 zx3 zx4 zx5 zx6 zx7 zx8 zx9 zx10 zx11 zx12 zx13 zx14 zx15 zx16 zx17 zx18 zx19 zx20 zx21 zf0 zf1 zf2 zf3 zf4 zf5 zf6 zf7 zf8 zf9 zf10 zf11 zf12 zf13 zf14 zf15 zf16 zf17 zf18 zf19 zf20 zf21 zL zN zP zM zO H.size y_14 y_16 y_18 hmi) (cwV 3 hts mg_L_X10_put rfl rfl rfl (by decide +kernel) ⟨Nat.le_of_ble_eq_true rfl, Nat.le_of_ble_eq_true rfl⟩) ⟨fun a U g mk q => by obtain ⟨q0, q1, qP, qK, qD⟩ := q; exact ⟨q0, q1, qP, va_K.moved (u := U) (U := U.calling g mk a) (Vm.Alike.refl U.vm) qK, qD⟩, va_recv hKc hPc (ci := 10) (q0 := 0) rfl rfl, fun U hU hW => ⟨rfl, by rw [hU], by rw [hU]; exact hPc, va_K.moved hW.alike hKc, hDc.weaken (fun _ _ _ _ => trivial)⟩⟩ rfl rfl hl.1 rfl (lv_room (Nat.le_of_ble_eq_true rfl)) dL_law_831 ⟨by show (kc9 + 5) + 0 ≤ 600000; omega, by show (ks9 + 135) + 0 ≤ 7302250; omega⟩) hS (fun q _ h => hFc q h) hFc (fun r_19 u t H1 locs ht hvm hw hB hz1 hk1 hS => ?_)
  have hQo := hQ
  have hQ := qn_P hQ hQAc hk1
  have hwu := hw
  have hwt_r_19 := congrArg Int32.toInt hw
  obtain ⟨zx_20, zx_21, zf_22, h_23, hP1, hK1, hD1⟩ := hB
  rw [ht] at hP1
  have rg_zx_20 := i_rng zx_20
  have rg_zx_21 := i_rng zx_21
  have hass := (pm_as (a := [(gt, .inr (9, [.int w_9, .ref tp, .int td, .int fk, .int fpl, .ref b_10, .int w_11, .ref mb, .ref mu, .int mk, .ref rd, .ref cm, .ref wk, .ref pp, .ref so, .ref ty])), (tp, .inl (ctp, 900, .inl ftp)), (mb, .inl (cmb, 3, .inr (.inr (.inr (.inr fmb))))), (mu, .inl (cmu, 3, .inl fmu)), (rd, .inr (6, rF r q0 q1 q2 q3 q4 q5 q6 q7)), (r 0, .inl (cb0, 18, .inl fb0)), (r 1, .inl (cb1, 18, .inl fb1)), (r 2, .inl (cb2, 18, .inl fb2)), (wk, .inr (8, [.int x0, .int x1, .ref li])), (li, .inl (cli, 24, .inl fli)), (pp, .inl (cpp, 60, .inl fpp)), (so, .inl (cso, 60, .inl f_12)), (ty, .inl (cty, 26, .inl fty)), (cm, .inr (1, [.ref kA, .ref kB, .ref kG, .ref (ad 12 0), .ref o3, .ref e4, .ref e5, .ref kC, .ref kF, .ref kT, .int spn])), (kA, .inl (cA9, 6, .inr (.inr (.inr (.inr (fun i => some (ad i 0))))))), (kB, .inl (cB, 6, .inr (.inr (.inr (.inr (fun i => some (ad (6 + i) 0))))))), (kG, .inl (cg9, 6, .inl fG)), (o3, .inr (7, [.ref r3, .int n3])), (r3, .inl (c3, 6, .inr (.inl f3))), (e4, .inr (3, [.int (nI R4), .ref t4, .ref s4, .int m4])), (t4, .inl (ct4, 24 * R4, .inl ft4)), (s4, .inl (cs4, R4, .inl fs4)), (e5, .inr (3, [.int (nI R5), .ref t5, .ref s5, .int m5])), (t5, .inl (ct5, 24 * R5, .inl ft5)), (s5, .inl (cs5, R5, .inl fs5)), (kC, .inl (cC, 24, .inl fC)), (kF, .inl (cF, 24, .inl fF)), (kT, .inl (cT, 26, .inl fT))]) (b := cPL ad ca vi vl vf (List.range 13)) (c := mW zad zkc zx0 zx1 zx2 zx3 zx4 zx5 zx6 zx7 zx8 zx9 zx10 zx11 zx12 zx13 zx14 zx15 zx16 zx17 zx18 zx19 zx20 zx21 zf0 zf1 zf2 zf3 zf4 zf5 zf6 zf7 zf8 zf9 zf10 zf11 zf12 zf13 zf14 zf15 zf16 zf17 zf18 zf19 zf20 zf21 zL zN zP zM zO)).symm
  obtain ⟨hPx, hDx⟩ := pm_join hP hD hass hk1 hFc hP1 hD1
  rw [List.append_assoc] at hPx hDx
  have hQNx := qn_app (qn_sub hQN (fun x hx => List.mem_append_left _ hx)) (qn_app (qn_sub hQN (fun x hx => List.mem_append_right _ (List.mem_append_left _ hx))) (qn_new hQAc hD1))
  have hP := hPx
  have hD := hDx
  have hQN := hQNx
  generalize H1 = H at hP hS hQ ⊢
  have hmi9 := h_23
  refine lv_pop hx hb dL_law_834 rfl ?_
  refine lv_goto (tgt := 1128) hx hb dL_law_835 (by decide) ?_
  refine W.widen (k := kc9 + 195) (n := ks9 + 10960) (by omega) (by omega) ?_
  exact kk H _ ls tp b_10 mb mu rd cm wk pp so ty li w_9 td fk fpl w_11 mk x0 x1 q0 q1 q2 q3 q4 q5 q6 q7 r ctp cmb cmu cb0 cb1 cb2 cli cpp cso cty ftp fmu fb0 fb1 fb2 fli fpp f_12 fty fmb spn kG cg9 fG o3 r3 c3 f3 n3 e4 t4 s4 R4 ct4 cs4 ft4 fs4 m4 e5 t5 s5 R5 ct5 cs5 ft5 fs5 m5 kC cC fC kF cF fF kT cT fT kA kB cA9 cB ad ca vi vl vf W2 T2 B2 zad zkc zx_20 zx_21 zx2 zx3 zx4 zx5 zx6 zx7 zx8 zx9 zx10 zx11 zx12 zx13 zx14 zx15 zx16 zx17 zx18 zx19 zx20 zx21 zf_22 zf1 zf2 zf3 zf4 zf5 zf6 zf7 zf8 zf9 zf10 zf11 zf12 zf13 zf14 zf15 zf16 zf17 zf18 zf19 zf20 zf21 zL zN zP zM zO hs1 hs2 ha3 hb3 hR4 hU4 hc4 hd4 hb_fs4 hR5 hU5 hc5 hd5 hb_fs5 hG (by omega) (by omega) hM hB9 hbk rfl hmi9 (by omega) (by omega) hrt hK hKC hKM hKQ hP hD hQ hQN hS hl
theorem dL_law_838 : decode cL_law 838 = .ok (.aload_n 1, 1) := by decide +kernel
theorem dL_law_839 : decode cL_law 839 = .ok (.aload_n 0, 1) := by decide +kernel
theorem dL_law_840 : decode cL_law 840 = .ok (.iload_n 3, 1) := by decide +kernel
theorem dL_law_841 : decode cL_law 841 = .ok (.iconst 1, 1) := by decide +kernel
theorem dL_law_842 : decode cL_law 842 = .ok (.iadd, 1) := by decide +kernel
theorem dL_law_843 : decode cL_law 843 = .ok (.iaload, 1) := by decide +kernel
theorem dL_law_844 : decode cL_law 844 = .ok (.aload_n 0, 1) := by decide +kernel
theorem dL_law_845 : decode cL_law 845 = .ok (.iload_n 3, 1) := by decide +kernel
theorem dL_law_846 : decode cL_law 846 = .ok (.iconst 2, 1) := by decide +kernel
theorem dL_law_847 : decode cL_law 847 = .ok (.iadd, 1) := by decide +kernel
theorem dL_law_848 : decode cL_law 848 = .ok (.iaload, 1) := by decide +kernel
theorem dL_law_849 : decode cL_law 849 = .ok (.aload_n 0, 1) := by decide +kernel
theorem dL_law_850 : decode cL_law 850 = .ok (.iload_n 3, 1) := by decide +kernel
theorem dL_law_851 : decode cL_law 851 = .ok (.iconst 3, 1) := by decide +kernel
theorem dL_law_852 : decode cL_law 852 = .ok (.iadd, 1) := by decide +kernel
theorem dL_law_853 : decode cL_law 853 = .ok (.iaload, 1) := by decide +kernel
theorem dL_law_854 : decode cL_law 854 = .ok (.invokevirtual 98, 3) := by decide +kernel
theorem dL_law_857 : decode cL_law 857 = .ok (.pop, 1) := by decide +kernel
theorem dL_law_858 : decode cL_law 858 = .ok (.aload_n 2, 1) := by decide +kernel
theorem dL_law_859 : decode cL_law 859 = .ok (.aload_n 0, 1) := by decide +kernel
theorem dL_law_860 : decode cL_law 860 = .ok (.iload_n 3, 1) := by decide +kernel
theorem dL_law_861 : decode cL_law 861 = .ok (.iconst 1, 1) := by decide +kernel
theorem dL_law_862 : decode cL_law 862 = .ok (.iadd, 1) := by decide +kernel
theorem dL_law_863 : decode cL_law 863 = .ok (.iaload, 1) := by decide +kernel
theorem dL_law_864 : decode cL_law 864 = .ok (.aload_n 0, 1) := by decide +kernel
theorem dL_law_865 : decode cL_law 865 = .ok (.iload_n 3, 1) := by decide +kernel
theorem dL_law_866 : decode cL_law 866 = .ok (.iconst 2, 1) := by decide +kernel
theorem dL_law_867 : decode cL_law 867 = .ok (.iadd, 1) := by decide +kernel
theorem dL_law_868 : decode cL_law 868 = .ok (.iaload, 1) := by decide +kernel
theorem dL_law_869 : decode cL_law 869 = .ok (.aload_n 0, 1) := by decide +kernel
theorem dL_law_870 : decode cL_law 870 = .ok (.iload_n 3, 1) := by decide +kernel
theorem dL_law_871 : decode cL_law 871 = .ok (.iconst 3, 1) := by decide +kernel
theorem dL_law_872 : decode cL_law 872 = .ok (.iadd, 1) := by decide +kernel
theorem dL_law_873 : decode cL_law 873 = .ok (.iaload, 1) := by decide +kernel
theorem dL_law_874 : decode cL_law 874 = .ok (.invokevirtual 101, 3) := by decide +kernel
theorem dL_law_877 : decode cL_law 877 = .ok (.pop, 1) := by decide +kernel
theorem dL_law_878 : decode cL_law 878 = .ok (.goto 250, 3) := by decide +kernel
set_option maxHeartbeats 4000000 in
set_option maxRecDepth 100000 in
/-- the law: let -/
theorem law_case20 {p : Program} {l : Launch} {e : Env} {s : State} {m : MethodId} {below : List Frame} {meth : Method} {c : Code} {dC : Nat → ClassId} {dI : Nat → Nat → Nat} {b L : Nat} {xs : Nat → Int32} (hLL : L ≤ 3072) (C0 : lw_At p s m meth c b L xs) (hLX : LX s) {gt mo : Nat} {H : Heap} {locs : List Loc} {kc9 ks9 : Nat} (hc9 : kc9 + 195 ≤ 600000) (hs9 : ks9 + 10960 ≤ 7302250) {ii : Int32} (hii : 0 ≤ ii.toInt ∧ ii.toInt + 6 ≤ L) {ls : Array Slot} (kk : ∀ (H1 : Heap) (locs1 : List Loc) (ls : Array Slot), LI dC dI s gt mo H1 (va_S (fun q : Nat => s.heap.size ≤ q) s.heap H1 locs1 → lv_has ls 4 [(3, .int ii), (2, .ref mo), (1, .ref gt), (0, .ref b)] → W p l e room_1 s m #[Value.ref b] below meth c H1 locs1 (kc9 + 195) (ks9 + 10960) (lw_Z below #[Value.ref b] s) (F0 m 1128 ls []))) : LI dC dI s gt mo H (va_S (fun q : Nat => s.heap.size ≤ q) s.heap H locs → lv_has ls 4 [(3, .int ii), (2, .ref mo), (1, .ref gt), (0, .ref b)] → W p l e room_1 s m #[Value.ref b] below meth c H locs kc9 ks9 (lw_Z below #[Value.ref b] s) (F0 m 838 ls [])) := by
  obtain ⟨hx, hb, hr, hml, hown, hts, hX, hbl, hlocks, hgv⟩ := id C0
  have hown : s.vm.findClass RL = some m.cls := hown
  have hA : ∀ q : Nat, s.heap.size ≤ q → (fun q : Nat => s.heap.size ≤ q) q := fun _ h => h
  have hbA : ¬ (fun q : Nat => s.heap.size ≤ q) b := Nat.not_le.mpr hbl
  obtain ⟨hcl, hcld, hAO2, hAO5, hN53, hN160, hSR, hSW, hSR2, hSW2, hOV⟩ := hLX
  unfold LI
  intro tp bk mb mu rd cm wk pp so ty li st9 td fk fpl un mk x0 x1 q0 q1 q2 q3 q4 q5 q6 q7 r ctp cmb cmu cb0 cb1 cb2 cli cpp cso cty ftp fmu fb0 fb1 fb2 fli fpp fso fty fmb spn kG cg9 fG o3 r3 c3 f3 n3 e4 t4 s4 R4 ct4 cs4 ft4 fs4 m4 e5 t5 s5 R5 ct5 cs5 ft5 fs5 m5 kC cC fC kF cF fF kT cT fT kA kB cA9 cB ad ca vi vl vf W9 T9 B9 zad zkc zx0 zx1 zx2 zx3 zx4 zx5 zx6 zx7 zx8 zx9 zx10 zx11 zx12 zx13 zx14 zx15 zx16 zx17 zx18 zx19 zx20 zx21 zf0 zf1 zf2 zf3 zf4 zf5 zf6 zf7 zf8 zf9 zf10 zf11 zf12 zf13 zf14 zf15 zf16 zf17 zf18 zf19 zf20 zf21 zL zN zP zM zO hs1 hs2 ha3 hb3 hR4 hU4 hc4 hd4 hb_fs4 hR5 hU5 hc5 hd5 hb_fs5 hG htd hmk hM hB9 hbk hmo hmi hzk hzt hrt hK hKC hKM hKQ hP hD hQ hQN hS hl
  subst hmo
  have rg_td := i_rng td
  have rg_mk := i_rng mk
  have rg_zx2 := i_rng zx2
  have rg_zx3 := i_rng zx3
  refine lv_aload_n hx hb dL_law_838 rfl (lv_at hl 2 rfl) ?_
  refine lv_aload_n hx hb dL_law_839 rfl (lv_at hl 3 rfl) ?_
  refine lv_iload_n hx hb dL_law_840 rfl (lv_at hl 0 rfl) ?_
  refine lv_iconst (v := 1) hx hb dL_law_841 (by decide) ?_
  refine lv_iadd hx hb dL_law_842 ?_
  refine lv_topi (fun y_1 ey_1 => ?_)
  have ty_1 := i_add (a := ii.toInt) (b := 1) rfl (by decide) ey_1 (by omega) (by omega)
  refine va_sld hx hb hX hbl hbA hS (i := y_1) (vp_of (a := y_1.toInt) rfl (by omega) (by omega)) dL_law_843 ?_
  refine lv_topi (fun y_2 ey_2 => ?_)
  refine lv_aload_n hx hb dL_law_844 rfl (lv_at hl 3 rfl) ?_
  refine lv_iload_n hx hb dL_law_845 rfl (lv_at hl 0 rfl) ?_
  refine lv_iconst (v := 2) hx hb dL_law_846 (by decide) ?_
  refine lv_iadd hx hb dL_law_847 ?_
  refine lv_topi (fun y_3 ey_3 => ?_)
  have ty_3 := i_add (a := ii.toInt) (b := 2) rfl (by decide) ey_3 (by omega) (by omega)
  refine va_sld hx hb hX hbl hbA hS (i := y_3) (vp_of (a := y_3.toInt) rfl (by omega) (by omega)) dL_law_848 ?_
  refine lv_topi (fun y_4 ey_4 => ?_)
  refine lv_aload_n hx hb dL_law_849 rfl (lv_at hl 3 rfl) ?_
  refine lv_iload_n hx hb dL_law_850 rfl (lv_at hl 0 rfl) ?_
  refine lv_iconst (v := 3) hx hb dL_law_851 (by decide) ?_
  refine lv_iadd hx hb dL_law_852 ?_
  refine lv_topi (fun y_5 ey_5 => ?_)
  have ty_5 := i_add (a := ii.toInt) (b := 3) rfl (by decide) ey_5 (by omega) (by omega)
  refine va_sld hx hb hX hbl hbA hS (i := y_5) (vp_of (a := y_5.toInt) rfl (by omega) (by omega)) dL_law_853 ?_
  refine lv_topi (fun y_6 ey_6 => ?_)
  have hPc := hP.sub (ws' := [(gt, .inr (9, [.int st9, .ref tp, .int td, .int fk, .int fpl, .ref bk, .int un, .ref mb, .ref mu, .int mk, .ref rd, .ref cm, .ref wk, .ref pp, .ref so, .ref ty])), (so, .inl (cso, 60, .inl fso))]) [0, 11] rfl
  have hKc := hK.sub (tys' := [(cso, .int)]) [8] rfl
  have hDc := hD.sub (ws' := [(gt, .inr (9, [.int st9, .ref tp, .int td, .int fk, .int fpl, .ref bk, .int un, .ref mb, .ref mu, .int mk, .ref rd, .ref cm, .ref wk, .ref pp, .ref so, .ref ty])), (so, .inl (cso, 60, .inl fso))]) [0, 11] (by decide) rfl
  have hFc := va_free (wc := [(gt, .inr (9, [.int st9, .ref tp, .int td, .int fk, .int fpl, .ref bk, .int un, .ref mb, .ref mu, .int mk, .ref rd, .ref cm, .ref wk, .ref pp, .ref so, .ref ty])), (so, .inl (cso, 60, .inl fso))]) hD hS hA [0, 11] rfl
  have hQAc : ∀ q ∈ W9, ¬ va_A [(gt, .inr (9, [.int st9, .ref tp, .int td, .int fk, .int fpl, .ref bk, .int un, .ref mb, .ref mu, .int mk, .ref rd, .ref cm, .ref wk, .ref pp, .ref so, .ref ty])), (so, .inl (cso, 60, .inl fso))] H.size q.1 := qn_A hQ hQN (fun x hx => mem_pl [0, 11] rfl x hx)
  refine va_calli (va_runV (As := [.int y_2, .int y_4, .int y_6]) (rest := []) ⟨hx, hb, hml, hown, hts⟩ (s_g_let l dC dI W9 T9 B9 gt tp bk mb mu rd cm wk pp so ty st9 td fk fpl un mk cso fso H.size y_2 y_4 y_6 hB9 hbk) (cwV 3 hts mg_L_X9_let rfl rfl rfl (by decide +kernel) ⟨Nat.le_of_ble_eq_true rfl, Nat.le_of_ble_eq_true rfl⟩) ⟨fun a U g mk q => by obtain ⟨q0, q1, qP, qK, qD, qE0, qE1, qE2, qE3, qE4⟩ := q; exact ⟨q0, q1, qP, va_K.moved (u := U) (U := U.calling g mk a) (Vm.Alike.refl U.vm) qK, qD, va_Nw.same rfl (u := U) rfl qE0, va_Nw.same rfl (u := U) rfl qE1, qE2, va_K.moved (u := U) (U := U.calling g mk a) (Vm.Alike.refl U.vm) qE3, qE4⟩, va_recv hKc hPc (ci := 9) (q0 := 0) rfl rfl, fun U hU hW => ⟨rfl, by rw [hU], by rw [hU]; exact hPc, va_K.moved hW.alike hKc, hDc.weaken (fun _ _ _ _ => trivial), nw_moved hW.alike hcl, nw_moved hW.alike hcld, (by rw [hU]; exact hQ), va_K.moved hW.alike hKQ, hQAc⟩⟩ rfl rfl hl.1 rfl (lv_room (Nat.le_of_ble_eq_true rfl)) dL_law_854 ⟨by show kc9 + 5 ≤ 600000; omega, by show ks9 + 135 ≤ 7302250; omega⟩) hS (fun q _ h => hFc q h) hFc (fun r_7 u_8 t H1 locs ht hvm hw hB hz1 hk1 hS => ?_)
  have hQo := hQ
  have hQ := qn_P hQ hQAc hk1
  obtain ⟨w_9, b_10, w_11, f_12, W2, T2, B2, hN2, hb2, hQ2, hKQ2, hP1, hK1, hD1⟩ := hB
  rw [ht] at hP1
  have hQNa := qn_new hQAc hD1
  obtain ⟨hPx, hDx⟩ := va_joinQ (X := [(gt, .inr (9, [.int st9, .ref tp, .int td, .int fk, .int fpl, .ref bk, .int un, .ref mb, .ref mu, .int mk, .ref rd, .ref cm, .ref wk, .ref pp, .ref so, .ref ty])), (tp, .inl (ctp, 900, .inl ftp)), (mb, .inl (cmb, 3, .inr (.inr (.inr (.inr fmb))))), (mu, .inl (cmu, 3, .inl fmu)), (rd, .inr (6, rF r q0 q1 q2 q3 q4 q5 q6 q7)), (r 0, .inl (cb0, 18, .inl fb0)), (r 1, .inl (cb1, 18, .inl fb1)), (r 2, .inl (cb2, 18, .inl fb2)), (wk, .inr (8, [.int x0, .int x1, .ref li])), (li, .inl (cli, 24, .inl fli)), (pp, .inl (cpp, 60, .inl fpp)), (so, .inl (cso, 60, .inl fso)), (ty, .inl (cty, 26, .inl fty)), (cm, .inr (1, [.ref kA, .ref kB, .ref kG, .ref (ad 12 0), .ref o3, .ref e4, .ref e5, .ref kC, .ref kF, .ref kT, .int spn])), (kA, .inl (cA9, 6, .inr (.inr (.inr (.inr (fun i => some (ad i 0))))))), (kB, .inl (cB, 6, .inr (.inr (.inr (.inr (fun i => some (ad (6 + i) 0))))))), (kG, .inl (cg9, 6, .inl fG)), (o3, .inr (7, [.ref r3, .int n3])), (r3, .inl (c3, 6, .inr (.inl f3))), (e4, .inr (3, [.int (nI R4), .ref t4, .ref s4, .int m4])), (t4, .inl (ct4, 24 * R4, .inl ft4)), (s4, .inl (cs4, R4, .inl fs4)), (e5, .inr (3, [.int (nI R5), .ref t5, .ref s5, .int m5])), (t5, .inl (ct5, 24 * R5, .inl ft5)), (s5, .inl (cs5, R5, .inl fs5)), (kC, .inl (cC, 24, .inl fC)), (kF, .inl (cF, 24, .inl fF)), (kT, .inl (cT, 26, .inl fT))]) (cx := [(gt, .inr (9, [.int st9, .ref tp, .int td, .int fk, .int fpl, .ref bk, .int un, .ref mb, .ref mu, .int mk, .ref rd, .ref cm, .ref wk, .ref pp, .ref so, .ref ty])), (so, .inl (cso, 60, .inl fso))]) (wr := [(tp, .inl (ctp, 900, .inl ftp)), (mb, .inl (cmb, 3, .inr (.inr (.inr (.inr fmb))))), (mu, .inl (cmu, 3, .inl fmu)), (rd, .inr (6, rF r q0 q1 q2 q3 q4 q5 q6 q7)), (r 0, .inl (cb0, 18, .inl fb0)), (r 1, .inl (cb1, 18, .inl fb1)), (r 2, .inl (cb2, 18, .inl fb2)), (wk, .inr (8, [.int x0, .int x1, .ref li])), (li, .inl (cli, 24, .inl fli)), (pp, .inl (cpp, 60, .inl fpp)), (ty, .inl (cty, 26, .inl fty)), (cm, .inr (1, [.ref kA, .ref kB, .ref kG, .ref (ad 12 0), .ref o3, .ref e4, .ref e5, .ref kC, .ref kF, .ref kT, .int spn])), (kA, .inl (cA9, 6, .inr (.inr (.inr (.inr (fun i => some (ad i 0))))))), (kB, .inl (cB, 6, .inr (.inr (.inr (.inr (fun i => some (ad (6 + i) 0))))))), (kG, .inl (cg9, 6, .inl fG)), (o3, .inr (7, [.ref r3, .int n3])), (r3, .inl (c3, 6, .inr (.inl f3))), (e4, .inr (3, [.int (nI R4), .ref t4, .ref s4, .int m4])), (t4, .inl (ct4, 24 * R4, .inl ft4)), (s4, .inl (cs4, R4, .inl fs4)), (e5, .inr (3, [.int (nI R5), .ref t5, .ref s5, .int m5])), (t5, .inl (ct5, 24 * R5, .inl ft5)), (s5, .inl (cs5, R5, .inl fs5)), (kC, .inl (cC, 24, .inl fC)), (kF, .inl (cF, 24, .inl fF)), (kT, .inl (cT, 26, .inl fT))]) (w1 := [(gt, .inr (9, [.int w_9, .ref tp, .int td, .int fk, .int fpl, .ref b_10, .int w_11, .ref mb, .ref mu, .int mk, .ref rd, .ref cm, .ref wk, .ref pp, .ref so, .ref ty])), (so, .inl (cso, 60, .inl f_12))]) (pl := (cPL ad ca vi vl vf (List.range 13) ++ mW zad zkc zx0 zx1 zx2 zx3 zx4 zx5 zx6 zx7 zx8 zx9 zx10 zx11 zx12 zx13 zx14 zx15 zx16 zx17 zx18 zx19 zx20 zx21 zf0 zf1 zf2 zf3 zf4 zf5 zf6 zf7 zf8 zf9 zf10 zf11 zf12 zf13 zf14 zf15 zf16 zf17 zf18 zf19 zf20 zf21 zL zN zP zM zO)) hP hD [0, 11] [1, 2, 3, 4, 5, 6, 7, 8, 9, 10, 12, 13, 14, 15, 16, 17, 18, 19, 20, 21, 22, 23, 24, 25, 26, 27] rfl rfl (by decide) (by decide) hk1 hFc hP1 hD1
  have hPx := t_P (cx := [(gt, .inr (9, [.int w_9, .ref tp, .int td, .int fk, .int fpl, .ref b_10, .int w_11, .ref mb, .ref mu, .int mk, .ref rd, .ref cm, .ref wk, .ref pp, .ref so, .ref ty])), (tp, .inl (ctp, 900, .inl ftp)), (mb, .inl (cmb, 3, .inr (.inr (.inr (.inr fmb))))), (mu, .inl (cmu, 3, .inl fmu)), (rd, .inr (6, rF r q0 q1 q2 q3 q4 q5 q6 q7)), (r 0, .inl (cb0, 18, .inl fb0)), (r 1, .inl (cb1, 18, .inl fb1)), (r 2, .inl (cb2, 18, .inl fb2)), (wk, .inr (8, [.int x0, .int x1, .ref li])), (li, .inl (cli, 24, .inl fli)), (pp, .inl (cpp, 60, .inl fpp)), (so, .inl (cso, 60, .inl f_12)), (ty, .inl (cty, 26, .inl fty)), (cm, .inr (1, [.ref kA, .ref kB, .ref kG, .ref (ad 12 0), .ref o3, .ref e4, .ref e5, .ref kC, .ref kF, .ref kT, .int spn])), (kA, .inl (cA9, 6, .inr (.inr (.inr (.inr (fun i => some (ad i 0))))))), (kB, .inl (cB, 6, .inr (.inr (.inr (.inr (fun i => some (ad (6 + i) 0))))))), (kG, .inl (cg9, 6, .inl fG)), (o3, .inr (7, [.ref r3, .int n3])), (r3, .inl (c3, 6, .inr (.inl f3))), (e4, .inr (3, [.int (nI R4), .ref t4, .ref s4, .int m4])), (t4, .inl (ct4, 24 * R4, .inl ft4)), (s4, .inl (cs4, R4, .inl fs4)), (e5, .inr (3, [.int (nI R5), .ref t5, .ref s5, .int m5])), (t5, .inl (ct5, 24 * R5, .inl ft5)), (s5, .inl (cs5, R5, .inl fs5)), (kC, .inl (cC, 24, .inl fC)), (kF, .inl (cF, 24, .inl fF)), (kT, .inl (cT, 26, .inl fT))]) hPx [26, 0, 1, 2, 3, 4, 5, 6, 7, 8, 9, 27, 10, 11, 12, 13, 14, 15, 16, 17, 18, 19, 20, 21, 22, 23, 24, 25] rfl
  have hDx := va_D.part (cx := [(gt, .inr (9, [.int w_9, .ref tp, .int td, .int fk, .int fpl, .ref b_10, .int w_11, .ref mb, .ref mu, .int mk, .ref rd, .ref cm, .ref wk, .ref pp, .ref so, .ref ty])), (tp, .inl (ctp, 900, .inl ftp)), (mb, .inl (cmb, 3, .inr (.inr (.inr (.inr fmb))))), (mu, .inl (cmu, 3, .inl fmu)), (rd, .inr (6, rF r q0 q1 q2 q3 q4 q5 q6 q7)), (r 0, .inl (cb0, 18, .inl fb0)), (r 1, .inl (cb1, 18, .inl fb1)), (r 2, .inl (cb2, 18, .inl fb2)), (wk, .inr (8, [.int x0, .int x1, .ref li])), (li, .inl (cli, 24, .inl fli)), (pp, .inl (cpp, 60, .inl fpp)), (so, .inl (cso, 60, .inl f_12)), (ty, .inl (cty, 26, .inl fty)), (cm, .inr (1, [.ref kA, .ref kB, .ref kG, .ref (ad 12 0), .ref o3, .ref e4, .ref e5, .ref kC, .ref kF, .ref kT, .int spn])), (kA, .inl (cA9, 6, .inr (.inr (.inr (.inr (fun i => some (ad i 0))))))), (kB, .inl (cB, 6, .inr (.inr (.inr (.inr (fun i => some (ad (6 + i) 0))))))), (kG, .inl (cg9, 6, .inl fG)), (o3, .inr (7, [.ref r3, .int n3])), (r3, .inl (c3, 6, .inr (.inl f3))), (e4, .inr (3, [.int (nI R4), .ref t4, .ref s4, .int m4])), (t4, .inl (ct4, 24 * R4, .inl ft4)), (s4, .inl (cs4, R4, .inl fs4)), (e5, .inr (3, [.int (nI R5), .ref t5, .ref s5, .int m5])), (t5, .inl (ct5, 24 * R5, .inl ft5)), (s5, .inl (cs5, R5, .inl fs5)), (kC, .inl (cC, 24, .inl fC)), (kF, .inl (cF, 24, .inl fF)), (kT, .inl (cT, 26, .inl fT))]) hDx [26, 0, 1, 2, 3, 4, 5, 6, 7, 8, 9, 27, 10, 11, 12, 13, 14, 15, 16, 17, 18, 19, 20, 21, 22, 23, 24, 25] (by decide) rfl
  have hm9 : List.map Prod.fst ([(gt, .inr (9, [.int w_9, .ref tp, .int td, .int fk, .int fpl, .ref b_10, .int w_11, .ref mb, .ref mu, .int mk, .ref rd, .ref cm, .ref wk, .ref pp, .ref so, .ref ty])), (tp, .inl (ctp, 900, .inl ftp)), (mb, .inl (cmb, 3, .inr (.inr (.inr (.inr fmb))))), (mu, .inl (cmu, 3, .inl fmu)), (rd, .inr (6, rF r q0 q1 q2 q3 q4 q5 q6 q7)), (r 0, .inl (cb0, 18, .inl fb0)), (r 1, .inl (cb1, 18, .inl fb1)), (r 2, .inl (cb2, 18, .inl fb2)), (wk, .inr (8, [.int x0, .int x1, .ref li])), (li, .inl (cli, 24, .inl fli)), (pp, .inl (cpp, 60, .inl fpp)), (so, .inl (cso, 60, .inl f_12)), (ty, .inl (cty, 26, .inl fty)), (cm, .inr (1, [.ref kA, .ref kB, .ref kG, .ref (ad 12 0), .ref o3, .ref e4, .ref e5, .ref kC, .ref kF, .ref kT, .int spn])), (kA, .inl (cA9, 6, .inr (.inr (.inr (.inr (fun i => some (ad i 0))))))), (kB, .inl (cB, 6, .inr (.inr (.inr (.inr (fun i => some (ad (6 + i) 0))))))), (kG, .inl (cg9, 6, .inl fG)), (o3, .inr (7, [.ref r3, .int n3])), (r3, .inl (c3, 6, .inr (.inl f3))), (e4, .inr (3, [.int (nI R4), .ref t4, .ref s4, .int m4])), (t4, .inl (ct4, 24 * R4, .inl ft4)), (s4, .inl (cs4, R4, .inl fs4)), (e5, .inr (3, [.int (nI R5), .ref t5, .ref s5, .int m5])), (t5, .inl (ct5, 24 * R5, .inl ft5)), (s5, .inl (cs5, R5, .inl fs5)), (kC, .inl (cC, 24, .inl fC)), (kF, .inl (cF, 24, .inl fF)), (kT, .inl (cT, 26, .inl fT))] ++ (cPL ad ca vi vl vf (List.range 13) ++ mW zad zkc zx0 zx1 zx2 zx3 zx4 zx5 zx6 zx7 zx8 zx9 zx10 zx11 zx12 zx13 zx14 zx15 zx16 zx17 zx18 zx19 zx20 zx21 zf0 zf1 zf2 zf3 zf4 zf5 zf6 zf7 zf8 zf9 zf10 zf11 zf12 zf13 zf14 zf15 zf16 zf17 zf18 zf19 zf20 zf21 zL zN zP zM zO) : va_W) = List.map Prod.fst ([(gt, .inr (9, [.int st9, .ref tp, .int td, .int fk, .int fpl, .ref bk, .int un, .ref mb, .ref mu, .int mk, .ref rd, .ref cm, .ref wk, .ref pp, .ref so, .ref ty])), (tp, .inl (ctp, 900, .inl ftp)), (mb, .inl (cmb, 3, .inr (.inr (.inr (.inr fmb))))), (mu, .inl (cmu, 3, .inl fmu)), (rd, .inr (6, rF r q0 q1 q2 q3 q4 q5 q6 q7)), (r 0, .inl (cb0, 18, .inl fb0)), (r 1, .inl (cb1, 18, .inl fb1)), (r 2, .inl (cb2, 18, .inl fb2)), (wk, .inr (8, [.int x0, .int x1, .ref li])), (li, .inl (cli, 24, .inl fli)), (pp, .inl (cpp, 60, .inl fpp)), (so, .inl (cso, 60, .inl fso)), (ty, .inl (cty, 26, .inl fty)), (cm, .inr (1, [.ref kA, .ref kB, .ref kG, .ref (ad 12 0), .ref o3, .ref e4, .ref e5, .ref kC, .ref kF, .ref kT, .int spn])), (kA, .inl (cA9, 6, .inr (.inr (.inr (.inr (fun i => some (ad i 0))))))), (kB, .inl (cB, 6, .inr (.inr (.inr (.inr (fun i => some (ad (6 + i) 0))))))), (kG, .inl (cg9, 6, .inl fG)), (o3, .inr (7, [.ref r3, .int n3])), (r3, .inl (c3, 6, .inr (.inl f3))), (e4, .inr (3, [.int (nI R4), .ref t4, .ref s4, .int m4])), (t4, .inl (ct4, 24 * R4, .inl ft4)), (s4, .inl (cs4, R4, .inl fs4)), (e5, .inr (3, [.int (nI R5), .ref t5, .ref s5, .int m5])), (t5, .inl (ct5, 24 * R5, .inl ft5)), (s5, .inl (cs5, R5, .inl fs5)), (kC, .inl (cC, 24, .inl fC)), (kF, .inl (cF, 24, .inl fF)), (kT, .inl (cT, 26, .inl fT))] ++ (cPL ad ca vi vl vf (List.range 13) ++ mW zad zkc zx0 zx1 zx2 zx3 zx4 zx5 zx6 zx7 zx8 zx9 zx10 zx11 zx12 zx13 zx14 zx15 zx16 zx17 zx18 zx19 zx20 zx21 zf0 zf1 zf2 zf3 zf4 zf5 zf6 zf7 zf8 zf9 zf10 zf11 zf12 zf13 zf14 zf15 zf16 zf17 zf18 zf19 zf20 zf21 zL zN zP zM zO) : va_W) := rfl
  have hQNx := qn_fst hQN hm9
  have hQNx := qn_act hN2 hQNx hP hm9
  rw [ht] at hQ2
  have hQ := hQ2
  have hKQ := va_K.moved hvm.symm hKQ2
  have hB9 := hN2.2.2.2.1
  have hM := hM.mono hN2.2.2.1 (Int.le_refl _)
  have hbk := hb2
  have hQN := hQNx
  clear hQNx hQAc hFc hDc hPc hKc
  have hP := hPx
  have hD := hDx
  clear hPx hDx
  generalize H1 = H at hP hS hQ ⊢
  refine lv_pop hx hb dL_law_857 rfl ?_
  refine lv_aload_n hx hb dL_law_858 rfl (lv_at hl 1 rfl) ?_
  refine lv_aload_n hx hb dL_law_859 rfl (lv_at hl 3 rfl) ?_
  refine lv_iload_n hx hb dL_law_860 rfl (lv_at hl 0 rfl) ?_
  refine lv_iconst (v := 1) hx hb dL_law_861 (by decide) ?_
  refine lv_iadd hx hb dL_law_862 ?_
  refine lv_topi (fun y_13 ey_13 => ?_)
  have ty_13 := i_add (a := ii.toInt) (b := 1) rfl (by decide) ey_13 (by omega) (by omega)
  refine va_sld hx hb hX hbl hbA hS (i := y_13) (vp_of (a := y_13.toInt) rfl (by omega) (by omega)) dL_law_863 ?_
  refine lv_topi (fun y_14 ey_14 => ?_)
  have e_y_14 : y_14 = y_2 := by rw [ey_14, ey_2, ey_13, ey_1]
  have q_y_14 : y_14.toInt = y_2.toInt := by rw [ey_14, ey_2, ey_13, ey_1]
  refine lv_aload_n hx hb dL_law_864 rfl (lv_at hl 3 rfl) ?_
  refine lv_iload_n hx hb dL_law_865 rfl (lv_at hl 0 rfl) ?_
  refine lv_iconst (v := 2) hx hb dL_law_866 (by decide) ?_
  refine lv_iadd hx hb dL_law_867 ?_
  refine lv_topi (fun y_15 ey_15 => ?_)
  have ty_15 := i_add (a := ii.toInt) (b := 2) rfl (by decide) ey_15 (by omega) (by omega)
  refine va_sld hx hb hX hbl hbA hS (i := y_15) (vp_of (a := y_15.toInt) rfl (by omega) (by omega)) dL_law_868 ?_
  refine lv_topi (fun y_16 ey_16 => ?_)
  have e_y_16 : y_16 = y_4 := by rw [ey_16, ey_4, ey_15, ey_3]
  have q_y_16 : y_16.toInt = y_4.toInt := by rw [ey_16, ey_4, ey_15, ey_3]
  refine lv_aload_n hx hb dL_law_869 rfl (lv_at hl 3 rfl) ?_
  refine lv_iload_n hx hb dL_law_870 rfl (lv_at hl 0 rfl) ?_
  refine lv_iconst (v := 3) hx hb dL_law_871 (by decide) ?_
  refine lv_iadd hx hb dL_law_872 ?_
  refine lv_topi (fun y_17 ey_17 => ?_)
  have ty_17 := i_add (a := ii.toInt) (b := 3) rfl (by decide) ey_17 (by omega) (by omega)
  refine va_sld hx hb hX hbl hbA hS (i := y_17) (vp_of (a := y_17.toInt) rfl (by omega) (by omega)) dL_law_873 ?_
  refine lv_topi (fun y_18 ey_18 => ?_)
  have e_y_18 : y_18 = y_6 := by rw [ey_18, ey_6, ey_17, ey_5]
  have q_y_18 : y_18.toInt = y_6.toInt := by rw [ey_18, ey_6, ey_17, ey_5]
  have hPc : va_P (dC, dI) vwCl (mW zad zkc zx0 zx1 zx2 zx3 zx4 zx5 zx6 zx7 zx8 zx9 zx10 zx11 zx12 zx13 zx14 zx15 zx16 zx17 zx18 zx19 zx20 zx21 zf0 zf1 zf2 zf3 zf4 zf5 zf6 zf7 zf8 zf9 zf10 zf11 zf12 zf13 zf14 zf15 zf16 zf17 zf18 zf19 zf20 zf21 zL zN zP zM zO) H := p_sub hP (fun _ hq => List.mem_append_right _ (List.mem_append_right _ hq))
  have hKc := hKM
  have hDc : va_D (fun q : Nat => s.heap.size ≤ q) (mW zad zkc zx0 zx1 zx2 zx3 zx4 zx5 zx6 zx7 zx8 zx9 zx10 zx11 zx12 zx13 zx14 zx15 zx16 zx17 zx18 zx19 zx20 zx21 zf0 zf1 zf2 zf3 zf4 zf5 zf6 zf7 zf8 zf9 zf10 zf11 zf12 zf13 zf14 zf15 zf16 zf17 zf18 zf19 zf20 zf21 zL zN zP zM zO) := D_right (D_right hD)
  have hFc := m_free hDc hS hA
  have hQAc : ∀ q ∈ W2, ¬ va_A (mW zad zkc zx0 zx1 zx2 zx3 zx4 zx5 zx6 zx7 zx8 zx9 zx10 zx11 zx12 zx13 zx14 zx15 zx16 zx17 zx18 zx19 zx20 zx21 zf0 zf1 zf2 zf3 zf4 zf5 zf6 zf7 zf8 zf9 zf10 zf11 zf12 zf13 zf14 zf15 zf16 zf17 zf18 zf19 zf20 zf21 zL zN zP zM zO) H.size q.1 := qn_A hQ hQN (fun x hx => List.mem_append_right _ (List.mem_append_right _ hx))
  refine va_calli (va_runV (As := [.int y_14, .int y_16, .int y_18]) (rest := []) ⟨hx, hb, hml, hown, hts⟩ (m_let l dC dI zad zkc zx0 zx1 zx2 zx3 zx4 zx5 zx6 zx7 zx8 zx9 zx10 zx11 zx12 zx13 zx14 zx15 zx16 zx17 zx18 zx19 zx20 zx21 zf0 zf1 zf2 zf3 zf4 zf5 zf6 zf7 zf8 zf9 zf10 zf11 zf12 zf13 zf14 zf15 zf16 zf17 zf18 zf19 zf20 zf21 zL zN zP zM zO H.size y_14 y_16 y_18 hmi) (cwV 3 hts mg_L_X10_let rfl rfl rfl (by decide +kernel) ⟨Nat.le_of_ble_eq_true rfl, Nat.le_of_ble_eq_true rfl⟩) ⟨fun a U g mk q => by obtain ⟨q0, q1, qP, qK, qD⟩ := q; exact ⟨q0, q1, qP, va_K.moved (u := U) (U := U.calling g mk a) (Vm.Alike.refl U.vm) qK, qD⟩, va_recv hKc hPc (ci := 10) (q0 := 0) rfl rfl, fun U hU hW => ⟨rfl, by rw [hU], by rw [hU]; exact hPc, va_K.moved hW.alike hKc, hDc.weaken (fun _ _ _ _ => trivial)⟩⟩ rfl rfl hl.1 rfl (lv_room (Nat.le_of_ble_eq_true rfl)) dL_law_874 ⟨by show (kc9 + 5) + 0 ≤ 600000; omega, by show (ks9 + 135) + 0 ≤ 7302250; omega⟩) hS (fun q _ h => hFc q h) hFc (fun r_19 u t H1 locs ht hvm hw hB hz1 hk1 hS => ?_)
  have hQo := hQ
  have hQ := qn_P hQ hQAc hk1
  have hwu := hw
  have hwt_r_19 := congrArg Int32.toInt hw
  obtain ⟨zx_20, zx_21, zf_22, h_23, hP1, hK1, hD1⟩ := hB
  rw [ht] at hP1
  have rg_zx_20 := i_rng zx_20
  have rg_zx_21 := i_rng zx_21
  have hass := (pm_as (a := [(gt, .inr (9, [.int w_9, .ref tp, .int td, .int fk, .int fpl, .ref b_10, .int w_11, .ref mb, .ref mu, .int mk, .ref rd, .ref cm, .ref wk, .ref pp, .ref so, .ref ty])), (tp, .inl (ctp, 900, .inl ftp)), (mb, .inl (cmb, 3, .inr (.inr (.inr (.inr fmb))))), (mu, .inl (cmu, 3, .inl fmu)), (rd, .inr (6, rF r q0 q1 q2 q3 q4 q5 q6 q7)), (r 0, .inl (cb0, 18, .inl fb0)), (r 1, .inl (cb1, 18, .inl fb1)), (r 2, .inl (cb2, 18, .inl fb2)), (wk, .inr (8, [.int x0, .int x1, .ref li])), (li, .inl (cli, 24, .inl fli)), (pp, .inl (cpp, 60, .inl fpp)), (so, .inl (cso, 60, .inl f_12)), (ty, .inl (cty, 26, .inl fty)), (cm, .inr (1, [.ref kA, .ref kB, .ref kG, .ref (ad 12 0), .ref o3, .ref e4, .ref e5, .ref kC, .ref kF, .ref kT, .int spn])), (kA, .inl (cA9, 6, .inr (.inr (.inr (.inr (fun i => some (ad i 0))))))), (kB, .inl (cB, 6, .inr (.inr (.inr (.inr (fun i => some (ad (6 + i) 0))))))), (kG, .inl (cg9, 6, .inl fG)), (o3, .inr (7, [.ref r3, .int n3])), (r3, .inl (c3, 6, .inr (.inl f3))), (e4, .inr (3, [.int (nI R4), .ref t4, .ref s4, .int m4])), (t4, .inl (ct4, 24 * R4, .inl ft4)), (s4, .inl (cs4, R4, .inl fs4)), (e5, .inr (3, [.int (nI R5), .ref t5, .ref s5, .int m5])), (t5, .inl (ct5, 24 * R5, .inl ft5)), (s5, .inl (cs5, R5, .inl fs5)), (kC, .inl (cC, 24, .inl fC)), (kF, .inl (cF, 24, .inl fF)), (kT, .inl (cT, 26, .inl fT))]) (b := cPL ad ca vi vl vf (List.range 13)) (c := mW zad zkc zx0 zx1 zx2 zx3 zx4 zx5 zx6 zx7 zx8 zx9 zx10 zx11 zx12 zx13 zx14 zx15 zx16 zx17 zx18 zx19 zx20 zx21 zf0 zf1 zf2 zf3 zf4 zf5 zf6 zf7 zf8 zf9 zf10 zf11 zf12 zf13 zf14 zf15 zf16 zf17 zf18 zf19 zf20 zf21 zL zN zP zM zO)).symm
  obtain ⟨hPx, hDx⟩ := pm_join hP hD hass hk1 hFc hP1 hD1
  rw [List.append_assoc] at hPx hDx
  have hQNx := qn_app (qn_sub hQN (fun x hx => List.mem_append_left _ hx)) (qn_app (qn_sub hQN (fun x hx => List.mem_append_right _ (List.mem_append_left _ hx))) (qn_new hQAc hD1))
  have hP := hPx
  have hD := hDx
  have hQN := hQNx
  generalize H1 = H at hP hS hQ ⊢
  have hmi9 := h_23
  refine lv_pop hx hb dL_law_877 rfl ?_
  refine lv_goto (tgt := 1128) hx hb dL_law_878 (by decide) ?_
  refine W.widen (k := kc9 + 195) (n := ks9 + 10960) (by omega) (by omega) ?_
  exact kk H _ ls tp b_10 mb mu rd cm wk pp so ty li w_9 td fk fpl w_11 mk x0 x1 q0 q1 q2 q3 q4 q5 q6 q7 r ctp cmb cmu cb0 cb1 cb2 cli cpp cso cty ftp fmu fb0 fb1 fb2 fli fpp f_12 fty fmb spn kG cg9 fG o3 r3 c3 f3 n3 e4 t4 s4 R4 ct4 cs4 ft4 fs4 m4 e5 t5 s5 R5 ct5 cs5 ft5 fs5 m5 kC cC fC kF cF fF kT cT fT kA kB cA9 cB ad ca vi vl vf W2 T2 B2 zad zkc zx_20 zx_21 zx2 zx3 zx4 zx5 zx6 zx7 zx8 zx9 zx10 zx11 zx12 zx13 zx14 zx15 zx16 zx17 zx18 zx19 zx20 zx21 zf_22 zf1 zf2 zf3 zf4 zf5 zf6 zf7 zf8 zf9 zf10 zf11 zf12 zf13 zf14 zf15 zf16 zf17 zf18 zf19 zf20 zf21 zL zN zP zM zO hs1 hs2 ha3 hb3 hR4 hU4 hc4 hd4 hb_fs4 hR5 hU5 hc5 hd5 hb_fs5 hG (by omega) (by omega) hM hB9 hbk rfl hmi9 (by omega) (by omega) hrt hK hKC hKM hKQ hP hD hQ hQN hS hl
theorem dL_law_881 : decode cL_law 881 = .ok (.aload_n 1, 1) := by decide +kernel
theorem dL_law_882 : decode cL_law 882 = .ok (.aload_n 0, 1) := by decide +kernel
theorem dL_law_883 : decode cL_law 883 = .ok (.iload_n 3, 1) := by decide +kernel
theorem dL_law_884 : decode cL_law 884 = .ok (.iconst 1, 1) := by decide +kernel
theorem dL_law_885 : decode cL_law 885 = .ok (.iadd, 1) := by decide +kernel
theorem dL_law_886 : decode cL_law 886 = .ok (.iaload, 1) := by decide +kernel
theorem dL_law_887 : decode cL_law 887 = .ok (.aload_n 0, 1) := by decide +kernel
theorem dL_law_888 : decode cL_law 888 = .ok (.iload_n 3, 1) := by decide +kernel
theorem dL_law_889 : decode cL_law 889 = .ok (.iconst 2, 1) := by decide +kernel
theorem dL_law_890 : decode cL_law 890 = .ok (.iadd, 1) := by decide +kernel
theorem dL_law_891 : decode cL_law 891 = .ok (.iaload, 1) := by decide +kernel
theorem dL_law_892 : decode cL_law 892 = .ok (.aload_n 0, 1) := by decide +kernel
theorem dL_law_893 : decode cL_law 893 = .ok (.iload_n 3, 1) := by decide +kernel
theorem dL_law_894 : decode cL_law 894 = .ok (.iconst 3, 1) := by decide +kernel
theorem dL_law_895 : decode cL_law 895 = .ok (.iadd, 1) := by decide +kernel
theorem dL_law_896 : decode cL_law 896 = .ok (.iaload, 1) := by decide +kernel
theorem dL_law_897 : decode cL_law 897 = .ok (.invokevirtual 102, 3) := by decide +kernel
theorem dL_law_900 : decode cL_law 900 = .ok (.pop, 1) := by decide +kernel
theorem dL_law_901 : decode cL_law 901 = .ok (.aload_n 2, 1) := by decide +kernel
theorem dL_law_902 : decode cL_law 902 = .ok (.aload_n 0, 1) := by decide +kernel
theorem dL_law_903 : decode cL_law 903 = .ok (.iload_n 3, 1) := by decide +kernel
theorem dL_law_904 : decode cL_law 904 = .ok (.iconst 1, 1) := by decide +kernel
theorem dL_law_905 : decode cL_law 905 = .ok (.iadd, 1) := by decide +kernel
theorem dL_law_906 : decode cL_law 906 = .ok (.iaload, 1) := by decide +kernel
theorem dL_law_907 : decode cL_law 907 = .ok (.aload_n 0, 1) := by decide +kernel
theorem dL_law_908 : decode cL_law 908 = .ok (.iload_n 3, 1) := by decide +kernel
theorem dL_law_909 : decode cL_law 909 = .ok (.iconst 2, 1) := by decide +kernel
theorem dL_law_910 : decode cL_law 910 = .ok (.iadd, 1) := by decide +kernel
theorem dL_law_911 : decode cL_law 911 = .ok (.iaload, 1) := by decide +kernel
theorem dL_law_912 : decode cL_law 912 = .ok (.aload_n 0, 1) := by decide +kernel
theorem dL_law_913 : decode cL_law 913 = .ok (.iload_n 3, 1) := by decide +kernel
theorem dL_law_914 : decode cL_law 914 = .ok (.iconst 3, 1) := by decide +kernel
theorem dL_law_915 : decode cL_law 915 = .ok (.iadd, 1) := by decide +kernel
theorem dL_law_916 : decode cL_law 916 = .ok (.iaload, 1) := by decide +kernel
theorem dL_law_917 : decode cL_law 917 = .ok (.invokevirtual 105, 3) := by decide +kernel
theorem dL_law_920 : decode cL_law 920 = .ok (.pop, 1) := by decide +kernel
theorem dL_law_921 : decode cL_law 921 = .ok (.goto 207, 3) := by decide +kernel
set_option maxHeartbeats 4000000 in
set_option maxRecDepth 100000 in
/-- the law: cut -/
theorem law_case21 {p : Program} {l : Launch} {e : Env} {s : State} {m : MethodId} {below : List Frame} {meth : Method} {c : Code} {dC : Nat → ClassId} {dI : Nat → Nat → Nat} {b L : Nat} {xs : Nat → Int32} (hLL : L ≤ 3072) (C0 : lw_At p s m meth c b L xs) (hLX : LX s) {gt mo : Nat} {H : Heap} {locs : List Loc} {kc9 ks9 : Nat} (hc9 : kc9 + 195 ≤ 600000) (hs9 : ks9 + 10960 ≤ 7302250) {ii : Int32} (hii : 0 ≤ ii.toInt ∧ ii.toInt + 6 ≤ L) {ls : Array Slot} (kk : ∀ (H1 : Heap) (locs1 : List Loc) (ls : Array Slot), LI dC dI s gt mo H1 (va_S (fun q : Nat => s.heap.size ≤ q) s.heap H1 locs1 → lv_has ls 4 [(3, .int ii), (2, .ref mo), (1, .ref gt), (0, .ref b)] → W p l e room_1 s m #[Value.ref b] below meth c H1 locs1 (kc9 + 195) (ks9 + 10960) (lw_Z below #[Value.ref b] s) (F0 m 1128 ls []))) : LI dC dI s gt mo H (va_S (fun q : Nat => s.heap.size ≤ q) s.heap H locs → lv_has ls 4 [(3, .int ii), (2, .ref mo), (1, .ref gt), (0, .ref b)] → W p l e room_1 s m #[Value.ref b] below meth c H locs kc9 ks9 (lw_Z below #[Value.ref b] s) (F0 m 881 ls [])) := by
  obtain ⟨hx, hb, hr, hml, hown, hts, hX, hbl, hlocks, hgv⟩ := id C0
  have hown : s.vm.findClass RL = some m.cls := hown
  have hA : ∀ q : Nat, s.heap.size ≤ q → (fun q : Nat => s.heap.size ≤ q) q := fun _ h => h
  have hbA : ¬ (fun q : Nat => s.heap.size ≤ q) b := Nat.not_le.mpr hbl
  obtain ⟨hcl, hcld, hAO2, hAO5, hN53, hN160, hSR, hSW, hSR2, hSW2, hOV⟩ := hLX
  unfold LI
  intro tp bk mb mu rd cm wk pp so ty li st9 td fk fpl un mk x0 x1 q0 q1 q2 q3 q4 q5 q6 q7 r ctp cmb cmu cb0 cb1 cb2 cli cpp cso cty ftp fmu fb0 fb1 fb2 fli fpp fso fty fmb spn kG cg9 fG o3 r3 c3 f3 n3 e4 t4 s4 R4 ct4 cs4 ft4 fs4 m4 e5 t5 s5 R5 ct5 cs5 ft5 fs5 m5 kC cC fC kF cF fF kT cT fT kA kB cA9 cB ad ca vi vl vf W9 T9 B9 zad zkc zx0 zx1 zx2 zx3 zx4 zx5 zx6 zx7 zx8 zx9 zx10 zx11 zx12 zx13 zx14 zx15 zx16 zx17 zx18 zx19 zx20 zx21 zf0 zf1 zf2 zf3 zf4 zf5 zf6 zf7 zf8 zf9 zf10 zf11 zf12 zf13 zf14 zf15 zf16 zf17 zf18 zf19 zf20 zf21 zL zN zP zM zO hs1 hs2 ha3 hb3 hR4 hU4 hc4 hd4 hb_fs4 hR5 hU5 hc5 hd5 hb_fs5 hG htd hmk hM hB9 hbk hmo hmi hzk hzt hrt hK hKC hKM hKQ hP hD hQ hQN hS hl
  subst hmo
  have rg_td := i_rng td
  have rg_mk := i_rng mk
  have rg_zx2 := i_rng zx2
  have rg_zx3 := i_rng zx3
  refine lv_aload_n hx hb dL_law_881 rfl (lv_at hl 2 rfl) ?_
  refine lv_aload_n hx hb dL_law_882 rfl (lv_at hl 3 rfl) ?_
  refine lv_iload_n hx hb dL_law_883 rfl (lv_at hl 0 rfl) ?_
  refine lv_iconst (v := 1) hx hb dL_law_884 (by decide) ?_
  refine lv_iadd hx hb dL_law_885 ?_
  refine lv_topi (fun y_1 ey_1 => ?_)
  have ty_1 := i_add (a := ii.toInt) (b := 1) rfl (by decide) ey_1 (by omega) (by omega)
  refine va_sld hx hb hX hbl hbA hS (i := y_1) (vp_of (a := y_1.toInt) rfl (by omega) (by omega)) dL_law_886 ?_
  refine lv_topi (fun y_2 ey_2 => ?_)
  refine lv_aload_n hx hb dL_law_887 rfl (lv_at hl 3 rfl) ?_
  refine lv_iload_n hx hb dL_law_888 rfl (lv_at hl 0 rfl) ?_
  refine lv_iconst (v := 2) hx hb dL_law_889 (by decide) ?_
  refine lv_iadd hx hb dL_law_890 ?_
  refine lv_topi (fun y_3 ey_3 => ?_)
  have ty_3 := i_add (a := ii.toInt) (b := 2) rfl (by decide) ey_3 (by omega) (by omega)
  refine va_sld hx hb hX hbl hbA hS (i := y_3) (vp_of (a := y_3.toInt) rfl (by omega) (by omega)) dL_law_891 ?_
  refine lv_topi (fun y_4 ey_4 => ?_)
  refine lv_aload_n hx hb dL_law_892 rfl (lv_at hl 3 rfl) ?_
  refine lv_iload_n hx hb dL_law_893 rfl (lv_at hl 0 rfl) ?_
  refine lv_iconst (v := 3) hx hb dL_law_894 (by decide) ?_
  refine lv_iadd hx hb dL_law_895 ?_
  refine lv_topi (fun y_5 ey_5 => ?_)
  have ty_5 := i_add (a := ii.toInt) (b := 3) rfl (by decide) ey_5 (by omega) (by omega)
  refine va_sld hx hb hX hbl hbA hS (i := y_5) (vp_of (a := y_5.toInt) rfl (by omega) (by omega)) dL_law_896 ?_
  refine lv_topi (fun y_6 ey_6 => ?_)
  have hPc := hP.sub (ws' := [(gt, .inr (9, [.int st9, .ref tp, .int td, .int fk, .int fpl, .ref bk, .int un, .ref mb, .ref mu, .int mk, .ref rd, .ref cm, .ref wk, .ref pp, .ref so, .ref ty])), (so, .inl (cso, 60, .inl fso))]) [0, 11] rfl
  have hKc := hK.sub (tys' := [(cso, .int)]) [8] rfl
  have hDc := hD.sub (ws' := [(gt, .inr (9, [.int st9, .ref tp, .int td, .int fk, .int fpl, .ref bk, .int un, .ref mb, .ref mu, .int mk, .ref rd, .ref cm, .ref wk, .ref pp, .ref so, .ref ty])), (so, .inl (cso, 60, .inl fso))]) [0, 11] (by decide) rfl
  have hFc := va_free (wc := [(gt, .inr (9, [.int st9, .ref tp, .int td, .int fk, .int fpl, .ref bk, .int un, .ref mb, .ref mu, .int mk, .ref rd, .ref cm, .ref wk, .ref pp, .ref so, .ref ty])), (so, .inl (cso, 60, .inl fso))]) hD hS hA [0, 11] rfl
  have hQAc : ∀ q ∈ W9, ¬ va_A [(gt, .inr (9, [.int st9, .ref tp, .int td, .int fk, .int fpl, .ref bk, .int un, .ref mb, .ref mu, .int mk, .ref rd, .ref cm, .ref wk, .ref pp, .ref so, .ref ty])), (so, .inl (cso, 60, .inl fso))] H.size q.1 := qn_A hQ hQN (fun x hx => mem_pl [0, 11] rfl x hx)
  refine va_calli (va_runV (As := [.int y_2, .int y_4, .int y_6]) (rest := []) ⟨hx, hb, hml, hown, hts⟩ (s_g_cut l dC dI W9 T9 B9 gt tp bk mb mu rd cm wk pp so ty st9 td fk fpl un mk cso fso H.size y_2 y_4 y_6 hB9 hbk) (cwV 3 hts mg_L_X9_cut rfl rfl rfl (by decide +kernel) ⟨Nat.le_of_ble_eq_true rfl, Nat.le_of_ble_eq_true rfl⟩) ⟨fun a U g mk q => by obtain ⟨q0, q1, qP, qK, qD, qE0, qE1, qE2, qE3, qE4⟩ := q; exact ⟨q0, q1, qP, va_K.moved (u := U) (U := U.calling g mk a) (Vm.Alike.refl U.vm) qK, qD, va_Nw.same rfl (u := U) rfl qE0, va_Nw.same rfl (u := U) rfl qE1, qE2, va_K.moved (u := U) (U := U.calling g mk a) (Vm.Alike.refl U.vm) qE3, qE4⟩, va_recv hKc hPc (ci := 9) (q0 := 0) rfl rfl, fun U hU hW => ⟨rfl, by rw [hU], by rw [hU]; exact hPc, va_K.moved hW.alike hKc, hDc.weaken (fun _ _ _ _ => trivial), nw_moved hW.alike hcl, nw_moved hW.alike hcld, (by rw [hU]; exact hQ), va_K.moved hW.alike hKQ, hQAc⟩⟩ rfl rfl hl.1 rfl (lv_room (Nat.le_of_ble_eq_true rfl)) dL_law_897 ⟨by show kc9 + 5 ≤ 600000; omega, by show ks9 + 135 ≤ 7302250; omega⟩) hS (fun q _ h => hFc q h) hFc (fun r_7 u_8 t H1 locs ht hvm hw hB hz1 hk1 hS => ?_)
  have hQo := hQ
  have hQ := qn_P hQ hQAc hk1
  obtain ⟨w_9, b_10, w_11, f_12, W2, T2, B2, hN2, hb2, hQ2, hKQ2, hP1, hK1, hD1⟩ := hB
  rw [ht] at hP1
  have hQNa := qn_new hQAc hD1
  obtain ⟨hPx, hDx⟩ := va_joinQ (X := [(gt, .inr (9, [.int st9, .ref tp, .int td, .int fk, .int fpl, .ref bk, .int un, .ref mb, .ref mu, .int mk, .ref rd, .ref cm, .ref wk, .ref pp, .ref so, .ref ty])), (tp, .inl (ctp, 900, .inl ftp)), (mb, .inl (cmb, 3, .inr (.inr (.inr (.inr fmb))))), (mu, .inl (cmu, 3, .inl fmu)), (rd, .inr (6, rF r q0 q1 q2 q3 q4 q5 q6 q7)), (r 0, .inl (cb0, 18, .inl fb0)), (r 1, .inl (cb1, 18, .inl fb1)), (r 2, .inl (cb2, 18, .inl fb2)), (wk, .inr (8, [.int x0, .int x1, .ref li])), (li, .inl (cli, 24, .inl fli)), (pp, .inl (cpp, 60, .inl fpp)), (so, .inl (cso, 60, .inl fso)), (ty, .inl (cty, 26, .inl fty)), (cm, .inr (1, [.ref kA, .ref kB, .ref kG, .ref (ad 12 0), .ref o3, .ref e4, .ref e5, .ref kC, .ref kF, .ref kT, .int spn])), (kA, .inl (cA9, 6, .inr (.inr (.inr (.inr (fun i => some (ad i 0))))))), (kB, .inl (cB, 6, .inr (.inr (.inr (.inr (fun i => some (ad (6 + i) 0))))))), (kG, .inl (cg9, 6, .inl fG)), (o3, .inr (7, [.ref r3, .int n3])), (r3, .inl (c3, 6, .inr (.inl f3))), (e4, .inr (3, [.int (nI R4), .ref t4, .ref s4, .int m4])), (t4, .inl (ct4, 24 * R4, .inl ft4)), (s4, .inl (cs4, R4, .inl fs4)), (e5, .inr (3, [.int (nI R5), .ref t5, .ref s5, .int m5])), (t5, .inl (ct5, 24 * R5, .inl ft5)), (s5, .inl (cs5, R5, .inl fs5)), (kC, .inl (cC, 24, .inl fC)), (kF, .inl (cF, 24, .inl fF)), (kT, .inl (cT, 26, .inl fT))]) (cx := [(gt, .inr (9, [.int st9, .ref tp, .int td, .int fk, .int fpl, .ref bk, .int un, .ref mb, .ref mu, .int mk, .ref rd, .ref cm, .ref wk, .ref pp, .ref so, .ref ty])), (so, .inl (cso, 60, .inl fso))]) (wr := [(tp, .inl (ctp, 900, .inl ftp)), (mb, .inl (cmb, 3, .inr (.inr (.inr (.inr fmb))))), (mu, .inl (cmu, 3, .inl fmu)), (rd, .inr (6, rF r q0 q1 q2 q3 q4 q5 q6 q7)), (r 0, .inl (cb0, 18, .inl fb0)), (r 1, .inl (cb1, 18, .inl fb1)), (r 2, .inl (cb2, 18, .inl fb2)), (wk, .inr (8, [.int x0, .int x1, .ref li])), (li, .inl (cli, 24, .inl fli)), (pp, .inl (cpp, 60, .inl fpp)), (ty, .inl (cty, 26, .inl fty)), (cm, .inr (1, [.ref kA, .ref kB, .ref kG, .ref (ad 12 0), .ref o3, .ref e4, .ref e5, .ref kC, .ref kF, .ref kT, .int spn])), (kA, .inl (cA9, 6, .inr (.inr (.inr (.inr (fun i => some (ad i 0))))))), (kB, .inl (cB, 6, .inr (.inr (.inr (.inr (fun i => some (ad (6 + i) 0))))))), (kG, .inl (cg9, 6, .inl fG)), (o3, .inr (7, [.ref r3, .int n3])), (r3, .inl (c3, 6, .inr (.inl f3))), (e4, .inr (3, [.int (nI R4), .ref t4, .ref s4, .int m4])), (t4, .inl (ct4, 24 * R4, .inl ft4)), (s4, .inl (cs4, R4, .inl fs4)), (e5, .inr (3, [.int (nI R5), .ref t5, .ref s5, .int m5])), (t5, .inl (ct5, 24 * R5, .inl ft5)), (s5, .inl (cs5, R5, .inl fs5)), (kC, .inl (cC, 24, .inl fC)), (kF, .inl (cF, 24, .inl fF)), (kT, .inl (cT, 26, .inl fT))]) (w1 := [(gt, .inr (9, [.int w_9, .ref tp, .int td, .int fk, .int fpl, .ref b_10, .int w_11, .ref mb, .ref mu, .int mk, .ref rd, .ref cm, .ref wk, .ref pp, .ref so, .ref ty])), (so, .inl (cso, 60, .inl f_12))]) (pl := (cPL ad ca vi vl vf (List.range 13) ++ mW zad zkc zx0 zx1 zx2 zx3 zx4 zx5 zx6 zx7 zx8 zx9 zx10 zx11 zx12 zx13 zx14 zx15 zx16 zx17 zx18 zx19 zx20 zx21 zf0 zf1 zf2 zf3 zf4 zf5 zf6 zf7 zf8 zf9 zf10 zf11 zf12 zf13 zf14 zf15 zf16 zf17 zf18 zf19 zf20 zf21 zL zN zP zM zO)) hP hD [0, 11] [1, 2, 3, 4, 5, 6, 7, 8, 9, 10, 12, 13, 14, 15, 16, 17, 18, 19, 20, 21, 22, 23, 24, 25, 26, 27] rfl rfl (by decide) (by decide) hk1 hFc hP1 hD1
  have hPx := t_P (cx := [(gt, .inr (9, [.int w_9, .ref tp, .int td, .int fk, .int fpl, .ref b_10, .int w_11, .ref mb, .ref mu, .int mk, .ref rd, .ref cm, .ref wk, .ref pp, .ref so, .ref ty])), (tp, .inl (ctp, 900, .inl ftp)), (mb, .inl (cmb, 3, .inr (.inr (.inr (.inr fmb))))), (mu, .inl (cmu, 3, .inl fmu)), (rd, .inr (6, rF r q0 q1 q2 q3 q4 q5 q6 q7)), (r 0, .inl (cb0, 18, .inl fb0)), (r 1, .inl (cb1, 18, .inl fb1)), (r 2, .inl (cb2, 18, .inl fb2)), (wk, .inr (8, [.int x0, .int x1, .ref li])), (li, .inl (cli, 24, .inl fli)), (pp, .inl (cpp, 60, .inl fpp)), (so, .inl (cso, 60, .inl f_12)), (ty, .inl (cty, 26, .inl fty)), (cm, .inr (1, [.ref kA, .ref kB, .ref kG, .ref (ad 12 0), .ref o3, .ref e4, .ref e5, .ref kC, .ref kF, .ref kT, .int spn])), (kA, .inl (cA9, 6, .inr (.inr (.inr (.inr (fun i => some (ad i 0))))))), (kB, .inl (cB, 6, .inr (.inr (.inr (.inr (fun i => some (ad (6 + i) 0))))))), (kG, .inl (cg9, 6, .inl fG)), (o3, .inr (7, [.ref r3, .int n3])), (r3, .inl (c3, 6, .inr (.inl f3))), (e4, .inr (3, [.int (nI R4), .ref t4, .ref s4, .int m4])), (t4, .inl (ct4, 24 * R4, .inl ft4)), (s4, .inl (cs4, R4, .inl fs4)), (e5, .inr (3, [.int (nI R5), .ref t5, .ref s5, .int m5])), (t5, .inl (ct5, 24 * R5, .inl ft5)), (s5, .inl (cs5, R5, .inl fs5)), (kC, .inl (cC, 24, .inl fC)), (kF, .inl (cF, 24, .inl fF)), (kT, .inl (cT, 26, .inl fT))]) hPx [26, 0, 1, 2, 3, 4, 5, 6, 7, 8, 9, 27, 10, 11, 12, 13, 14, 15, 16, 17, 18, 19, 20, 21, 22, 23, 24, 25] rfl
  have hDx := va_D.part (cx := [(gt, .inr (9, [.int w_9, .ref tp, .int td, .int fk, .int fpl, .ref b_10, .int w_11, .ref mb, .ref mu, .int mk, .ref rd, .ref cm, .ref wk, .ref pp, .ref so, .ref ty])), (tp, .inl (ctp, 900, .inl ftp)), (mb, .inl (cmb, 3, .inr (.inr (.inr (.inr fmb))))), (mu, .inl (cmu, 3, .inl fmu)), (rd, .inr (6, rF r q0 q1 q2 q3 q4 q5 q6 q7)), (r 0, .inl (cb0, 18, .inl fb0)), (r 1, .inl (cb1, 18, .inl fb1)), (r 2, .inl (cb2, 18, .inl fb2)), (wk, .inr (8, [.int x0, .int x1, .ref li])), (li, .inl (cli, 24, .inl fli)), (pp, .inl (cpp, 60, .inl fpp)), (so, .inl (cso, 60, .inl f_12)), (ty, .inl (cty, 26, .inl fty)), (cm, .inr (1, [.ref kA, .ref kB, .ref kG, .ref (ad 12 0), .ref o3, .ref e4, .ref e5, .ref kC, .ref kF, .ref kT, .int spn])), (kA, .inl (cA9, 6, .inr (.inr (.inr (.inr (fun i => some (ad i 0))))))), (kB, .inl (cB, 6, .inr (.inr (.inr (.inr (fun i => some (ad (6 + i) 0))))))), (kG, .inl (cg9, 6, .inl fG)), (o3, .inr (7, [.ref r3, .int n3])), (r3, .inl (c3, 6, .inr (.inl f3))), (e4, .inr (3, [.int (nI R4), .ref t4, .ref s4, .int m4])), (t4, .inl (ct4, 24 * R4, .inl ft4)), (s4, .inl (cs4, R4, .inl fs4)), (e5, .inr (3, [.int (nI R5), .ref t5, .ref s5, .int m5])), (t5, .inl (ct5, 24 * R5, .inl ft5)), (s5, .inl (cs5, R5, .inl fs5)), (kC, .inl (cC, 24, .inl fC)), (kF, .inl (cF, 24, .inl fF)), (kT, .inl (cT, 26, .inl fT))]) hDx [26, 0, 1, 2, 3, 4, 5, 6, 7, 8, 9, 27, 10, 11, 12, 13, 14, 15, 16, 17, 18, 19, 20, 21, 22, 23, 24, 25] (by decide) rfl
  have hm9 : List.map Prod.fst ([(gt, .inr (9, [.int w_9, .ref tp, .int td, .int fk, .int fpl, .ref b_10, .int w_11, .ref mb, .ref mu, .int mk, .ref rd, .ref cm, .ref wk, .ref pp, .ref so, .ref ty])), (tp, .inl (ctp, 900, .inl ftp)), (mb, .inl (cmb, 3, .inr (.inr (.inr (.inr fmb))))), (mu, .inl (cmu, 3, .inl fmu)), (rd, .inr (6, rF r q0 q1 q2 q3 q4 q5 q6 q7)), (r 0, .inl (cb0, 18, .inl fb0)), (r 1, .inl (cb1, 18, .inl fb1)), (r 2, .inl (cb2, 18, .inl fb2)), (wk, .inr (8, [.int x0, .int x1, .ref li])), (li, .inl (cli, 24, .inl fli)), (pp, .inl (cpp, 60, .inl fpp)), (so, .inl (cso, 60, .inl f_12)), (ty, .inl (cty, 26, .inl fty)), (cm, .inr (1, [.ref kA, .ref kB, .ref kG, .ref (ad 12 0), .ref o3, .ref e4, .ref e5, .ref kC, .ref kF, .ref kT, .int spn])), (kA, .inl (cA9, 6, .inr (.inr (.inr (.inr (fun i => some (ad i 0))))))), (kB, .inl (cB, 6, .inr (.inr (.inr (.inr (fun i => some (ad (6 + i) 0))))))), (kG, .inl (cg9, 6, .inl fG)), (o3, .inr (7, [.ref r3, .int n3])), (r3, .inl (c3, 6, .inr (.inl f3))), (e4, .inr (3, [.int (nI R4), .ref t4, .ref s4, .int m4])), (t4, .inl (ct4, 24 * R4, .inl ft4)), (s4, .inl (cs4, R4, .inl fs4)), (e5, .inr (3, [.int (nI R5), .ref t5, .ref s5, .int m5])), (t5, .inl (ct5, 24 * R5, .inl ft5)), (s5, .inl (cs5, R5, .inl fs5)), (kC, .inl (cC, 24, .inl fC)), (kF, .inl (cF, 24, .inl fF)), (kT, .inl (cT, 26, .inl fT))] ++ (cPL ad ca vi vl vf (List.range 13) ++ mW zad zkc zx0 zx1 zx2 zx3 zx4 zx5 zx6 zx7 zx8 zx9 zx10 zx11 zx12 zx13 zx14 zx15 zx16 zx17 zx18 zx19 zx20 zx21 zf0 zf1 zf2 zf3 zf4 zf5 zf6 zf7 zf8 zf9 zf10 zf11 zf12 zf13 zf14 zf15 zf16 zf17 zf18 zf19 zf20 zf21 zL zN zP zM zO) : va_W) = List.map Prod.fst ([(gt, .inr (9, [.int st9, .ref tp, .int td, .int fk, .int fpl, .ref bk, .int un, .ref mb, .ref mu, .int mk, .ref rd, .ref cm, .ref wk, .ref pp, .ref so, .ref ty])), (tp, .inl (ctp, 900, .inl ftp)), (mb, .inl (cmb, 3, .inr (.inr (.inr (.inr fmb))))), (mu, .inl (cmu, 3, .inl fmu)), (rd, .inr (6, rF r q0 q1 q2 q3 q4 q5 q6 q7)), (r 0, .inl (cb0, 18, .inl fb0)), (r 1, .inl (cb1, 18, .inl fb1)), (r 2, .inl (cb2, 18, .inl fb2)), (wk, .inr (8, [.int x0, .int x1, .ref li])), (li, .inl (cli, 24, .inl fli)), (pp, .inl (cpp, 60, .inl fpp)), (so, .inl (cso, 60, .inl fso)), (ty, .inl (cty, 26, .inl fty)), (cm, .inr (1, [.ref kA, .ref kB, .ref kG, .ref (ad 12 0), .ref o3, .ref e4, .ref e5, .ref kC, .ref kF, .ref kT, .int spn])), (kA, .inl (cA9, 6, .inr (.inr (.inr (.inr (fun i => some (ad i 0))))))), (kB, .inl (cB, 6, .inr (.inr (.inr (.inr (fun i => some (ad (6 + i) 0))))))), (kG, .inl (cg9, 6, .inl fG)), (o3, .inr (7, [.ref r3, .int n3])), (r3, .inl (c3, 6, .inr (.inl f3))), (e4, .inr (3, [.int (nI R4), .ref t4, .ref s4, .int m4])), (t4, .inl (ct4, 24 * R4, .inl ft4)), (s4, .inl (cs4, R4, .inl fs4)), (e5, .inr (3, [.int (nI R5), .ref t5, .ref s5, .int m5])), (t5, .inl (ct5, 24 * R5, .inl ft5)), (s5, .inl (cs5, R5, .inl fs5)), (kC, .inl (cC, 24, .inl fC)), (kF, .inl (cF, 24, .inl fF)), (kT, .inl (cT, 26, .inl fT))] ++ (cPL ad ca vi vl vf (List.range 13) ++ mW zad zkc zx0 zx1 zx2 zx3 zx4 zx5 zx6 zx7 zx8 zx9 zx10 zx11 zx12 zx13 zx14 zx15 zx16 zx17 zx18 zx19 zx20 zx21 zf0 zf1 zf2 zf3 zf4 zf5 zf6 zf7 zf8 zf9 zf10 zf11 zf12 zf13 zf14 zf15 zf16 zf17 zf18 zf19 zf20 zf21 zL zN zP zM zO) : va_W) := rfl
  have hQNx := qn_fst hQN hm9
  have hQNx := qn_act hN2 hQNx hP hm9
  rw [ht] at hQ2
  have hQ := hQ2
  have hKQ := va_K.moved hvm.symm hKQ2
  have hB9 := hN2.2.2.2.1
  have hM := hM.mono hN2.2.2.1 (Int.le_refl _)
  have hbk := hb2
  have hQN := hQNx
  clear hQNx hQAc hFc hDc hPc hKc
  have hP := hPx
  have hD := hDx
  clear hPx hDx
  generalize H1 = H at hP hS hQ ⊢
  refine lv_pop hx hb dL_law_900 rfl ?_
  refine lv_aload_n hx hb dL_law_901 rfl (lv_at hl 1 rfl) ?_
  refine lv_aload_n hx hb dL_law_902 rfl (lv_at hl 3 rfl) ?_
  refine lv_iload_n hx hb dL_law_903 rfl (lv_at hl 0 rfl) ?_
  refine lv_iconst (v := 1) hx hb dL_law_904 (by decide) ?_
  refine lv_iadd hx hb dL_law_905 ?_
  refine lv_topi (fun y_13 ey_13 => ?_)
  have ty_13 := i_add (a := ii.toInt) (b := 1) rfl (by decide) ey_13 (by omega) (by omega)
  refine va_sld hx hb hX hbl hbA hS (i := y_13) (vp_of (a := y_13.toInt) rfl (by omega) (by omega)) dL_law_906 ?_
  refine lv_topi (fun y_14 ey_14 => ?_)
  have e_y_14 : y_14 = y_2 := by rw [ey_14, ey_2, ey_13, ey_1]
  have q_y_14 : y_14.toInt = y_2.toInt := by rw [ey_14, ey_2, ey_13, ey_1]
  refine lv_aload_n hx hb dL_law_907 rfl (lv_at hl 3 rfl) ?_
  refine lv_iload_n hx hb dL_law_908 rfl (lv_at hl 0 rfl) ?_
  refine lv_iconst (v := 2) hx hb dL_law_909 (by decide) ?_
  refine lv_iadd hx hb dL_law_910 ?_
  refine lv_topi (fun y_15 ey_15 => ?_)
  have ty_15 := i_add (a := ii.toInt) (b := 2) rfl (by decide) ey_15 (by omega) (by omega)
  refine va_sld hx hb hX hbl hbA hS (i := y_15) (vp_of (a := y_15.toInt) rfl (by omega) (by omega)) dL_law_911 ?_
  refine lv_topi (fun y_16 ey_16 => ?_)
  have e_y_16 : y_16 = y_4 := by rw [ey_16, ey_4, ey_15, ey_3]
  have q_y_16 : y_16.toInt = y_4.toInt := by rw [ey_16, ey_4, ey_15, ey_3]
  refine lv_aload_n hx hb dL_law_912 rfl (lv_at hl 3 rfl) ?_
  refine lv_iload_n hx hb dL_law_913 rfl (lv_at hl 0 rfl) ?_
  refine lv_iconst (v := 3) hx hb dL_law_914 (by decide) ?_
  refine lv_iadd hx hb dL_law_915 ?_
  refine lv_topi (fun y_17 ey_17 => ?_)
  have ty_17 := i_add (a := ii.toInt) (b := 3) rfl (by decide) ey_17 (by omega) (by omega)
  refine va_sld hx hb hX hbl hbA hS (i := y_17) (vp_of (a := y_17.toInt) rfl (by omega) (by omega)) dL_law_916 ?_
  refine lv_topi (fun y_18 ey_18 => ?_)
  have e_y_18 : y_18 = y_6 := by rw [ey_18, ey_6, ey_17, ey_5]
  have q_y_18 : y_18.toInt = y_6.toInt := by rw [ey_18, ey_6, ey_17, ey_5]
  have hPc : va_P (dC, dI) vwCl (mW zad zkc zx0 zx1 zx2 zx3 zx4 zx5 zx6 zx7 zx8 zx9 zx10 zx11 zx12 zx13 zx14 zx15 zx16 zx17 zx18 zx19 zx20 zx21 zf0 zf1 zf2 zf3 zf4 zf5 zf6 zf7 zf8 zf9 zf10 zf11 zf12 zf13 zf14 zf15 zf16 zf17 zf18 zf19 zf20 zf21 zL zN zP zM zO) H := p_sub hP (fun _ hq => List.mem_append_right _ (List.mem_append_right _ hq))
  have hKc := hKM
  have hDc : va_D (fun q : Nat => s.heap.size ≤ q) (mW zad zkc zx0 zx1 zx2 zx3 zx4 zx5 zx6 zx7 zx8 zx9 zx10 zx11 zx12 zx13 zx14 zx15 zx16 zx17 zx18 zx19 zx20 zx21 zf0 zf1 zf2 zf3 zf4 zf5 zf6 zf7 zf8 zf9 zf10 zf11 zf12 zf13 zf14 zf15 zf16 zf17 zf18 zf19 zf20 zf21 zL zN zP zM zO) := D_right (D_right hD)
  have hFc := m_free hDc hS hA
  have hQAc : ∀ q ∈ W2, ¬ va_A (mW zad zkc zx0 zx1 zx2 zx3 zx4 zx5 zx6 zx7 zx8 zx9 zx10 zx11 zx12 zx13 zx14 zx15 zx16 zx17 zx18 zx19 zx20 zx21 zf0 zf1 zf2 zf3 zf4 zf5 zf6 zf7 zf8 zf9 zf10 zf11 zf12 zf13 zf14 zf15 zf16 zf17 zf18 zf19 zf20 zf21 zL zN zP zM zO) H.size q.1 := qn_A hQ hQN (fun x hx => List.mem_append_right _ (List.mem_append_right _ hx))
  refine va_calli (va_runV (As := [.int y_14, .int y_16, .int y_18]) (rest := []) ⟨hx, hb, hml, hown, hts⟩ (m_cut l dC dI zad zkc zx0 zx1 zx2 zx3 zx4 zx5 zx6 zx7 zx8 zx9 zx10 zx11 zx12 zx13 zx14 zx15 zx16 zx17 zx18 zx19 zx20 zx21 zf0 zf1 zf2 zf3 zf4 zf5 zf6 zf7 zf8 zf9 zf10 zf11 zf12 zf13 zf14 zf15 zf16 zf17 zf18 zf19 zf20 zf21 zL zN zP zM zO H.size y_14 y_16 y_18 hmi) (cwV 3 hts mg_L_X10_cut rfl rfl rfl (by decide +kernel) ⟨Nat.le_of_ble_eq_true rfl, Nat.le_of_ble_eq_true rfl⟩) ⟨fun a U g mk q => by obtain ⟨q0, q1, qP, qK, qD⟩ := q; exact ⟨q0, q1, qP, va_K.moved (u := U) (U := U.calling g mk a) (Vm.Alike.refl U.vm) qK, qD⟩, va_recv hKc hPc (ci := 10) (q0 := 0) rfl rfl, fun U hU hW => ⟨rfl, by rw [hU], by rw [hU]; exact hPc, va_K.moved hW.alike hKc, hDc.weaken (fun _ _ _ _ => trivial)⟩⟩ rfl rfl hl.1 rfl (lv_room (Nat.le_of_ble_eq_true rfl)) dL_law_917 ⟨by show (kc9 + 5) + 0 ≤ 600000; omega, by show (ks9 + 135) + 0 ≤ 7302250; omega⟩) hS (fun q _ h => hFc q h) hFc (fun r_19 u t H1 locs ht hvm hw hB hz1 hk1 hS => ?_)
  have hQo := hQ
  have hQ := qn_P hQ hQAc hk1
  have hwu := hw
  have hwt_r_19 := congrArg Int32.toInt hw
  obtain ⟨zx_20, zx_21, zf_22, h_23, hP1, hK1, hD1⟩ := hB
  rw [ht] at hP1
  have rg_zx_20 := i_rng zx_20
  have rg_zx_21 := i_rng zx_21
  have hass := (pm_as (a := [(gt, .inr (9, [.int w_9, .ref tp, .int td, .int fk, .int fpl, .ref b_10, .int w_11, .ref mb, .ref mu, .int mk, .ref rd, .ref cm, .ref wk, .ref pp, .ref so, .ref ty])), (tp, .inl (ctp, 900, .inl ftp)), (mb, .inl (cmb, 3, .inr (.inr (.inr (.inr fmb))))), (mu, .inl (cmu, 3, .inl fmu)), (rd, .inr (6, rF r q0 q1 q2 q3 q4 q5 q6 q7)), (r 0, .inl (cb0, 18, .inl fb0)), (r 1, .inl (cb1, 18, .inl fb1)), (r 2, .inl (cb2, 18, .inl fb2)), (wk, .inr (8, [.int x0, .int x1, .ref li])), (li, .inl (cli, 24, .inl fli)), (pp, .inl (cpp, 60, .inl fpp)), (so, .inl (cso, 60, .inl f_12)), (ty, .inl (cty, 26, .inl fty)), (cm, .inr (1, [.ref kA, .ref kB, .ref kG, .ref (ad 12 0), .ref o3, .ref e4, .ref e5, .ref kC, .ref kF, .ref kT, .int spn])), (kA, .inl (cA9, 6, .inr (.inr (.inr (.inr (fun i => some (ad i 0))))))), (kB, .inl (cB, 6, .inr (.inr (.inr (.inr (fun i => some (ad (6 + i) 0))))))), (kG, .inl (cg9, 6, .inl fG)), (o3, .inr (7, [.ref r3, .int n3])), (r3, .inl (c3, 6, .inr (.inl f3))), (e4, .inr (3, [.int (nI R4), .ref t4, .ref s4, .int m4])), (t4, .inl (ct4, 24 * R4, .inl ft4)), (s4, .inl (cs4, R4, .inl fs4)), (e5, .inr (3, [.int (nI R5), .ref t5, .ref s5, .int m5])), (t5, .inl (ct5, 24 * R5, .inl ft5)), (s5, .inl (cs5, R5, .inl fs5)), (kC, .inl (cC, 24, .inl fC)), (kF, .inl (cF, 24, .inl fF)), (kT, .inl (cT, 26, .inl fT))]) (b := cPL ad ca vi vl vf (List.range 13)) (c := mW zad zkc zx0 zx1 zx2 zx3 zx4 zx5 zx6 zx7 zx8 zx9 zx10 zx11 zx12 zx13 zx14 zx15 zx16 zx17 zx18 zx19 zx20 zx21 zf0 zf1 zf2 zf3 zf4 zf5 zf6 zf7 zf8 zf9 zf10 zf11 zf12 zf13 zf14 zf15 zf16 zf17 zf18 zf19 zf20 zf21 zL zN zP zM zO)).symm
  obtain ⟨hPx, hDx⟩ := pm_join hP hD hass hk1 hFc hP1 hD1
  rw [List.append_assoc] at hPx hDx
  have hQNx := qn_app (qn_sub hQN (fun x hx => List.mem_append_left _ hx)) (qn_app (qn_sub hQN (fun x hx => List.mem_append_right _ (List.mem_append_left _ hx))) (qn_new hQAc hD1))
  have hP := hPx
  have hD := hDx
  have hQN := hQNx
  generalize H1 = H at hP hS hQ ⊢
  have hmi9 := h_23
  refine lv_pop hx hb dL_law_920 rfl ?_
  refine lv_goto (tgt := 1128) hx hb dL_law_921 (by decide) ?_
  refine W.widen (k := kc9 + 195) (n := ks9 + 10960) (by omega) (by omega) ?_
  exact kk H _ ls tp b_10 mb mu rd cm wk pp so ty li w_9 td fk fpl w_11 mk x0 x1 q0 q1 q2 q3 q4 q5 q6 q7 r ctp cmb cmu cb0 cb1 cb2 cli cpp cso cty ftp fmu fb0 fb1 fb2 fli fpp f_12 fty fmb spn kG cg9 fG o3 r3 c3 f3 n3 e4 t4 s4 R4 ct4 cs4 ft4 fs4 m4 e5 t5 s5 R5 ct5 cs5 ft5 fs5 m5 kC cC fC kF cF fF kT cT fT kA kB cA9 cB ad ca vi vl vf W2 T2 B2 zad zkc zx_20 zx_21 zx2 zx3 zx4 zx5 zx6 zx7 zx8 zx9 zx10 zx11 zx12 zx13 zx14 zx15 zx16 zx17 zx18 zx19 zx20 zx21 zf_22 zf1 zf2 zf3 zf4 zf5 zf6 zf7 zf8 zf9 zf10 zf11 zf12 zf13 zf14 zf15 zf16 zf17 zf18 zf19 zf20 zf21 zL zN zP zM zO hs1 hs2 ha3 hb3 hR4 hU4 hc4 hd4 hb_fs4 hR5 hU5 hc5 hd5 hb_fs5 hG (by omega) (by omega) hM hB9 hbk rfl hmi9 (by omega) (by omega) hrt hK hKC hKM hKQ hP hD hQ hQN hS hl
theorem dL_law_924 : decode cL_law 924 = .ok (.aload_n 1, 1) := by decide +kernel
theorem dL_law_925 : decode cL_law 925 = .ok (.aload_n 0, 1) := by decide +kernel
theorem dL_law_926 : decode cL_law 926 = .ok (.iload_n 3, 1) := by decide +kernel
theorem dL_law_927 : decode cL_law 927 = .ok (.iconst 1, 1) := by decide +kernel
theorem dL_law_928 : decode cL_law 928 = .ok (.iadd, 1) := by decide +kernel
theorem dL_law_929 : decode cL_law 929 = .ok (.iaload, 1) := by decide +kernel
theorem dL_law_930 : decode cL_law 930 = .ok (.aload_n 0, 1) := by decide +kernel
theorem dL_law_931 : decode cL_law 931 = .ok (.iload_n 3, 1) := by decide +kernel
theorem dL_law_932 : decode cL_law 932 = .ok (.iconst 2, 1) := by decide +kernel
theorem dL_law_933 : decode cL_law 933 = .ok (.iadd, 1) := by decide +kernel
theorem dL_law_934 : decode cL_law 934 = .ok (.iaload, 1) := by decide +kernel
theorem dL_law_935 : decode cL_law 935 = .ok (.aload_n 0, 1) := by decide +kernel
theorem dL_law_936 : decode cL_law 936 = .ok (.iload_n 3, 1) := by decide +kernel
theorem dL_law_937 : decode cL_law 937 = .ok (.iconst 3, 1) := by decide +kernel
theorem dL_law_938 : decode cL_law 938 = .ok (.iadd, 1) := by decide +kernel
theorem dL_law_939 : decode cL_law 939 = .ok (.iaload, 1) := by decide +kernel
theorem dL_law_940 : decode cL_law 940 = .ok (.invokevirtual 106, 3) := by decide +kernel
theorem dL_law_943 : decode cL_law 943 = .ok (.pop, 1) := by decide +kernel
theorem dL_law_944 : decode cL_law 944 = .ok (.aload_n 2, 1) := by decide +kernel
theorem dL_law_945 : decode cL_law 945 = .ok (.aload_n 0, 1) := by decide +kernel
theorem dL_law_946 : decode cL_law 946 = .ok (.iload_n 3, 1) := by decide +kernel
theorem dL_law_947 : decode cL_law 947 = .ok (.iconst 1, 1) := by decide +kernel
theorem dL_law_948 : decode cL_law 948 = .ok (.iadd, 1) := by decide +kernel
theorem dL_law_949 : decode cL_law 949 = .ok (.iaload, 1) := by decide +kernel
theorem dL_law_950 : decode cL_law 950 = .ok (.aload_n 0, 1) := by decide +kernel
theorem dL_law_951 : decode cL_law 951 = .ok (.iload_n 3, 1) := by decide +kernel
theorem dL_law_952 : decode cL_law 952 = .ok (.iconst 2, 1) := by decide +kernel
theorem dL_law_953 : decode cL_law 953 = .ok (.iadd, 1) := by decide +kernel
theorem dL_law_954 : decode cL_law 954 = .ok (.iaload, 1) := by decide +kernel
theorem dL_law_955 : decode cL_law 955 = .ok (.aload_n 0, 1) := by decide +kernel
theorem dL_law_956 : decode cL_law 956 = .ok (.iload_n 3, 1) := by decide +kernel
theorem dL_law_957 : decode cL_law 957 = .ok (.iconst 3, 1) := by decide +kernel
theorem dL_law_958 : decode cL_law 958 = .ok (.iadd, 1) := by decide +kernel
theorem dL_law_959 : decode cL_law 959 = .ok (.iaload, 1) := by decide +kernel
theorem dL_law_960 : decode cL_law 960 = .ok (.invokevirtual 109, 3) := by decide +kernel
theorem dL_law_963 : decode cL_law 963 = .ok (.pop, 1) := by decide +kernel
theorem dL_law_964 : decode cL_law 964 = .ok (.goto 164, 3) := by decide +kernel
set_option maxHeartbeats 4000000 in
set_option maxRecDepth 100000 in
/-- the law: copy -/
theorem law_case22 {p : Program} {l : Launch} {e : Env} {s : State} {m : MethodId} {below : List Frame} {meth : Method} {c : Code} {dC : Nat → ClassId} {dI : Nat → Nat → Nat} {b L : Nat} {xs : Nat → Int32} (hLL : L ≤ 3072) (C0 : lw_At p s m meth c b L xs) (hLX : LX s) {gt mo : Nat} {H : Heap} {locs : List Loc} {kc9 ks9 : Nat} (hc9 : kc9 + 195 ≤ 600000) (hs9 : ks9 + 10960 ≤ 7302250) {ii : Int32} (hii : 0 ≤ ii.toInt ∧ ii.toInt + 6 ≤ L) {ls : Array Slot} (kk : ∀ (H1 : Heap) (locs1 : List Loc) (ls : Array Slot), LI dC dI s gt mo H1 (va_S (fun q : Nat => s.heap.size ≤ q) s.heap H1 locs1 → lv_has ls 4 [(3, .int ii), (2, .ref mo), (1, .ref gt), (0, .ref b)] → W p l e room_1 s m #[Value.ref b] below meth c H1 locs1 (kc9 + 195) (ks9 + 10960) (lw_Z below #[Value.ref b] s) (F0 m 1128 ls []))) : LI dC dI s gt mo H (va_S (fun q : Nat => s.heap.size ≤ q) s.heap H locs → lv_has ls 4 [(3, .int ii), (2, .ref mo), (1, .ref gt), (0, .ref b)] → W p l e room_1 s m #[Value.ref b] below meth c H locs kc9 ks9 (lw_Z below #[Value.ref b] s) (F0 m 924 ls [])) := by
  obtain ⟨hx, hb, hr, hml, hown, hts, hX, hbl, hlocks, hgv⟩ := id C0
  have hown : s.vm.findClass RL = some m.cls := hown
  have hA : ∀ q : Nat, s.heap.size ≤ q → (fun q : Nat => s.heap.size ≤ q) q := fun _ h => h
  have hbA : ¬ (fun q : Nat => s.heap.size ≤ q) b := Nat.not_le.mpr hbl
  obtain ⟨hcl, hcld, hAO2, hAO5, hN53, hN160, hSR, hSW, hSR2, hSW2, hOV⟩ := hLX
  unfold LI
  intro tp bk mb mu rd cm wk pp so ty li st9 td fk fpl un mk x0 x1 q0 q1 q2 q3 q4 q5 q6 q7 r ctp cmb cmu cb0 cb1 cb2 cli cpp cso cty ftp fmu fb0 fb1 fb2 fli fpp fso fty fmb spn kG cg9 fG o3 r3 c3 f3 n3 e4 t4 s4 R4 ct4 cs4 ft4 fs4 m4 e5 t5 s5 R5 ct5 cs5 ft5 fs5 m5 kC cC fC kF cF fF kT cT fT kA kB cA9 cB ad ca vi vl vf W9 T9 B9 zad zkc zx0 zx1 zx2 zx3 zx4 zx5 zx6 zx7 zx8 zx9 zx10 zx11 zx12 zx13 zx14 zx15 zx16 zx17 zx18 zx19 zx20 zx21 zf0 zf1 zf2 zf3 zf4 zf5 zf6 zf7 zf8 zf9 zf10 zf11 zf12 zf13 zf14 zf15 zf16 zf17 zf18 zf19 zf20 zf21 zL zN zP zM zO hs1 hs2 ha3 hb3 hR4 hU4 hc4 hd4 hb_fs4 hR5 hU5 hc5 hd5 hb_fs5 hG htd hmk hM hB9 hbk hmo hmi hzk hzt hrt hK hKC hKM hKQ hP hD hQ hQN hS hl
  subst hmo
  have rg_td := i_rng td
  have rg_mk := i_rng mk
  have rg_zx2 := i_rng zx2
  have rg_zx3 := i_rng zx3
  refine lv_aload_n hx hb dL_law_924 rfl (lv_at hl 2 rfl) ?_
  refine lv_aload_n hx hb dL_law_925 rfl (lv_at hl 3 rfl) ?_
  refine lv_iload_n hx hb dL_law_926 rfl (lv_at hl 0 rfl) ?_
  refine lv_iconst (v := 1) hx hb dL_law_927 (by decide) ?_
  refine lv_iadd hx hb dL_law_928 ?_
  refine lv_topi (fun y_1 ey_1 => ?_)
  have ty_1 := i_add (a := ii.toInt) (b := 1) rfl (by decide) ey_1 (by omega) (by omega)
  refine va_sld hx hb hX hbl hbA hS (i := y_1) (vp_of (a := y_1.toInt) rfl (by omega) (by omega)) dL_law_929 ?_
  refine lv_topi (fun y_2 ey_2 => ?_)
  refine lv_aload_n hx hb dL_law_930 rfl (lv_at hl 3 rfl) ?_
  refine lv_iload_n hx hb dL_law_931 rfl (lv_at hl 0 rfl) ?_
  refine lv_iconst (v := 2) hx hb dL_law_932 (by decide) ?_
  refine lv_iadd hx hb dL_law_933 ?_
  refine lv_topi (fun y_3 ey_3 => ?_)
  have ty_3 := i_add (a := ii.toInt) (b := 2) rfl (by decide) ey_3 (by omega) (by omega)
  refine va_sld hx hb hX hbl hbA hS (i := y_3) (vp_of (a := y_3.toInt) rfl (by omega) (by omega)) dL_law_934 ?_
  refine lv_topi (fun y_4 ey_4 => ?_)
  refine lv_aload_n hx hb dL_law_935 rfl (lv_at hl 3 rfl) ?_
  refine lv_iload_n hx hb dL_law_936 rfl (lv_at hl 0 rfl) ?_
  refine lv_iconst (v := 3) hx hb dL_law_937 (by decide) ?_
  refine lv_iadd hx hb dL_law_938 ?_
  refine lv_topi (fun y_5 ey_5 => ?_)
  have ty_5 := i_add (a := ii.toInt) (b := 3) rfl (by decide) ey_5 (by omega) (by omega)
  refine va_sld hx hb hX hbl hbA hS (i := y_5) (vp_of (a := y_5.toInt) rfl (by omega) (by omega)) dL_law_939 ?_
  refine lv_topi (fun y_6 ey_6 => ?_)
  have hPc := hP.sub (ws' := [(gt, .inr (9, [.int st9, .ref tp, .int td, .int fk, .int fpl, .ref bk, .int un, .ref mb, .ref mu, .int mk, .ref rd, .ref cm, .ref wk, .ref pp, .ref so, .ref ty])), (so, .inl (cso, 60, .inl fso))]) [0, 11] rfl
  have hKc := hK.sub (tys' := [(cso, .int)]) [8] rfl
  have hDc := hD.sub (ws' := [(gt, .inr (9, [.int st9, .ref tp, .int td, .int fk, .int fpl, .ref bk, .int un, .ref mb, .ref mu, .int mk, .ref rd, .ref cm, .ref wk, .ref pp, .ref so, .ref ty])), (so, .inl (cso, 60, .inl fso))]) [0, 11] (by decide) rfl
  have hFc := va_free (wc := [(gt, .inr (9, [.int st9, .ref tp, .int td, .int fk, .int fpl, .ref bk, .int un, .ref mb, .ref mu, .int mk, .ref rd, .ref cm, .ref wk, .ref pp, .ref so, .ref ty])), (so, .inl (cso, 60, .inl fso))]) hD hS hA [0, 11] rfl
  have hQAc : ∀ q ∈ W9, ¬ va_A [(gt, .inr (9, [.int st9, .ref tp, .int td, .int fk, .int fpl, .ref bk, .int un, .ref mb, .ref mu, .int mk, .ref rd, .ref cm, .ref wk, .ref pp, .ref so, .ref ty])), (so, .inl (cso, 60, .inl fso))] H.size q.1 := qn_A hQ hQN (fun x hx => mem_pl [0, 11] rfl x hx)
  refine va_calli (va_runV (As := [.int y_2, .int y_4, .int y_6]) (rest := []) ⟨hx, hb, hml, hown, hts⟩ (s_g_copy l dC dI W9 T9 B9 gt tp bk mb mu rd cm wk pp so ty st9 td fk fpl un mk cso fso H.size y_2 y_4 y_6 hB9 hbk) (cwV 3 hts mg_L_X9_copy rfl rfl rfl (by decide +kernel) ⟨Nat.le_of_ble_eq_true rfl, Nat.le_of_ble_eq_true rfl⟩) ⟨fun a U g mk q => by obtain ⟨q0, q1, qP, qK, qD, qE0, qE1, qE2, qE3, qE4⟩ := q; exact ⟨q0, q1, qP, va_K.moved (u := U) (U := U.calling g mk a) (Vm.Alike.refl U.vm) qK, qD, va_Nw.same rfl (u := U) rfl qE0, va_AO.moved (u := U) (U := U.calling g mk a) (Vm.Alike.refl U.vm) qE1, qE2, va_K.moved (u := U) (U := U.calling g mk a) (Vm.Alike.refl U.vm) qE3, qE4⟩, va_recv hKc hPc (ci := 9) (q0 := 0) rfl rfl, fun U hU hW => ⟨rfl, by rw [hU], by rw [hU]; exact hPc, va_K.moved hW.alike hKc, hDc.weaken (fun _ _ _ _ => trivial), nw_moved hW.alike hcl, va_AO.moved hW.alike hAO2, (by rw [hU]; exact hQ), va_K.moved hW.alike hKQ, hQAc⟩⟩ rfl rfl hl.1 rfl (lv_room (Nat.le_of_ble_eq_true rfl)) dL_law_940 ⟨by show kc9 + 5 ≤ 600000; omega, by show ks9 + 135 ≤ 7302250; omega⟩) hS (fun q _ h => hFc q h) hFc (fun r_7 u_8 t H1 locs ht hvm hw hB hz1 hk1 hS => ?_)
  have hQo := hQ
  have hQ := qn_P hQ hQAc hk1
  obtain ⟨w_9, b_10, w_11, f_12, W2, T2, B2, hN2, hb2, hQ2, hKQ2, hP1, hK1, hD1⟩ := hB
  rw [ht] at hP1
  have hQNa := qn_new hQAc hD1
  obtain ⟨hPx, hDx⟩ := va_joinQ (X := [(gt, .inr (9, [.int st9, .ref tp, .int td, .int fk, .int fpl, .ref bk, .int un, .ref mb, .ref mu, .int mk, .ref rd, .ref cm, .ref wk, .ref pp, .ref so, .ref ty])), (tp, .inl (ctp, 900, .inl ftp)), (mb, .inl (cmb, 3, .inr (.inr (.inr (.inr fmb))))), (mu, .inl (cmu, 3, .inl fmu)), (rd, .inr (6, rF r q0 q1 q2 q3 q4 q5 q6 q7)), (r 0, .inl (cb0, 18, .inl fb0)), (r 1, .inl (cb1, 18, .inl fb1)), (r 2, .inl (cb2, 18, .inl fb2)), (wk, .inr (8, [.int x0, .int x1, .ref li])), (li, .inl (cli, 24, .inl fli)), (pp, .inl (cpp, 60, .inl fpp)), (so, .inl (cso, 60, .inl fso)), (ty, .inl (cty, 26, .inl fty)), (cm, .inr (1, [.ref kA, .ref kB, .ref kG, .ref (ad 12 0), .ref o3, .ref e4, .ref e5, .ref kC, .ref kF, .ref kT, .int spn])), (kA, .inl (cA9, 6, .inr (.inr (.inr (.inr (fun i => some (ad i 0))))))), (kB, .inl (cB, 6, .inr (.inr (.inr (.inr (fun i => some (ad (6 + i) 0))))))), (kG, .inl (cg9, 6, .inl fG)), (o3, .inr (7, [.ref r3, .int n3])), (r3, .inl (c3, 6, .inr (.inl f3))), (e4, .inr (3, [.int (nI R4), .ref t4, .ref s4, .int m4])), (t4, .inl (ct4, 24 * R4, .inl ft4)), (s4, .inl (cs4, R4, .inl fs4)), (e5, .inr (3, [.int (nI R5), .ref t5, .ref s5, .int m5])), (t5, .inl (ct5, 24 * R5, .inl ft5)), (s5, .inl (cs5, R5, .inl fs5)), (kC, .inl (cC, 24, .inl fC)), (kF, .inl (cF, 24, .inl fF)), (kT, .inl (cT, 26, .inl fT))]) (cx := [(gt, .inr (9, [.int st9, .ref tp, .int td, .int fk, .int fpl, .ref bk, .int un, .ref mb, .ref mu, .int mk, .ref rd, .ref cm, .ref wk, .ref pp, .ref so, .ref ty])), (so, .inl (cso, 60, .inl fso))]) (wr := [(tp, .inl (ctp, 900, .inl ftp)), (mb, .inl (cmb, 3, .inr (.inr (.inr (.inr fmb))))), (mu, .inl (cmu, 3, .inl fmu)), (rd, .inr (6, rF r q0 q1 q2 q3 q4 q5 q6 q7)), (r 0, .inl (cb0, 18, .inl fb0)), (r 1, .inl (cb1, 18, .inl fb1)), (r 2, .inl (cb2, 18, .inl fb2)), (wk, .inr (8, [.int x0, .int x1, .ref li])), (li, .inl (cli, 24, .inl fli)), (pp, .inl (cpp, 60, .inl fpp)), (ty, .inl (cty, 26, .inl fty)), (cm, .inr (1, [.ref kA, .ref kB, .ref kG, .ref (ad 12 0), .ref o3, .ref e4, .ref e5, .ref kC, .ref kF, .ref kT, .int spn])), (kA, .inl (cA9, 6, .inr (.inr (.inr (.inr (fun i => some (ad i 0))))))), (kB, .inl (cB, 6, .inr (.inr (.inr (.inr (fun i => some (ad (6 + i) 0))))))), (kG, .inl (cg9, 6, .inl fG)), (o3, .inr (7, [.ref r3, .int n3])), (r3, .inl (c3, 6, .inr (.inl f3))), (e4, .inr (3, [.int (nI R4), .ref t4, .ref s4, .int m4])), (t4, .inl (ct4, 24 * R4, .inl ft4)), (s4, .inl (cs4, R4, .inl fs4)), (e5, .inr (3, [.int (nI R5), .ref t5, .ref s5, .int m5])), (t5, .inl (ct5, 24 * R5, .inl ft5)), (s5, .inl (cs5, R5, .inl fs5)), (kC, .inl (cC, 24, .inl fC)), (kF, .inl (cF, 24, .inl fF)), (kT, .inl (cT, 26, .inl fT))]) (w1 := [(gt, .inr (9, [.int w_9, .ref tp, .int td, .int fk, .int fpl, .ref b_10, .int w_11, .ref mb, .ref mu, .int mk, .ref rd, .ref cm, .ref wk, .ref pp, .ref so, .ref ty])), (so, .inl (cso, 60, .inl f_12))]) (pl := (cPL ad ca vi vl vf (List.range 13) ++ mW zad zkc zx0 zx1 zx2 zx3 zx4 zx5 zx6 zx7 zx8 zx9 zx10 zx11 zx12 zx13 zx14 zx15 zx16 zx17 zx18 zx19 zx20 zx21 zf0 zf1 zf2 zf3 zf4 zf5 zf6 zf7 zf8 zf9 zf10 zf11 zf12 zf13 zf14 zf15 zf16 zf17 zf18 zf19 zf20 zf21 zL zN zP zM zO)) hP hD [0, 11] [1, 2, 3, 4, 5, 6, 7, 8, 9, 10, 12, 13, 14, 15, 16, 17, 18, 19, 20, 21, 22, 23, 24, 25, 26, 27] rfl rfl (by decide) (by decide) hk1 hFc hP1 hD1
  have hPx := t_P (cx := [(gt, .inr (9, [.int w_9, .ref tp, .int td, .int fk, .int fpl, .ref b_10, .int w_11, .ref mb, .ref mu, .int mk, .ref rd, .ref cm, .ref wk, .ref pp, .ref so, .ref ty])), (tp, .inl (ctp, 900, .inl ftp)), (mb, .inl (cmb, 3, .inr (.inr (.inr (.inr fmb))))), (mu, .inl (cmu, 3, .inl fmu)), (rd, .inr (6, rF r q0 q1 q2 q3 q4 q5 q6 q7)), (r 0, .inl (cb0, 18, .inl fb0)), (r 1, .inl (cb1, 18, .inl fb1)), (r 2, .inl (cb2, 18, .inl fb2)), (wk, .inr (8, [.int x0, .int x1, .ref li])), (li, .inl (cli, 24, .inl fli)), (pp, .inl (cpp, 60, .inl fpp)), (so, .inl (cso, 60, .inl f_12)), (ty, .inl (cty, 26, .inl fty)), (cm, .inr (1, [.ref kA, .ref kB, .ref kG, .ref (ad 12 0), .ref o3, .ref e4, .ref e5, .ref kC, .ref kF, .ref kT, .int spn])), (kA, .inl (cA9, 6, .inr (.inr (.inr (.inr (fun i => some (ad i 0))))))), (kB, .inl (cB, 6, .inr (.inr (.inr (.inr (fun i => some (ad (6 + i) 0))))))), (kG, .inl (cg9, 6, .inl fG)), (o3, .inr (7, [.ref r3, .int n3])), (r3, .inl (c3, 6, .inr (.inl f3))), (e4, .inr (3, [.int (nI R4), .ref t4, .ref s4, .int m4])), (t4, .inl (ct4, 24 * R4, .inl ft4)), (s4, .inl (cs4, R4, .inl fs4)), (e5, .inr (3, [.int (nI R5), .ref t5, .ref s5, .int m5])), (t5, .inl (ct5, 24 * R5, .inl ft5)), (s5, .inl (cs5, R5, .inl fs5)), (kC, .inl (cC, 24, .inl fC)), (kF, .inl (cF, 24, .inl fF)), (kT, .inl (cT, 26, .inl fT))]) hPx [26, 0, 1, 2, 3, 4, 5, 6, 7, 8, 9, 27, 10, 11, 12, 13, 14, 15, 16, 17, 18, 19, 20, 21, 22, 23, 24, 25] rfl
  have hDx := va_D.part (cx := [(gt, .inr (9, [.int w_9, .ref tp, .int td, .int fk, .int fpl, .ref b_10, .int w_11, .ref mb, .ref mu, .int mk, .ref rd, .ref cm, .ref wk, .ref pp, .ref so, .ref ty])), (tp, .inl (ctp, 900, .inl ftp)), (mb, .inl (cmb, 3, .inr (.inr (.inr (.inr fmb))))), (mu, .inl (cmu, 3, .inl fmu)), (rd, .inr (6, rF r q0 q1 q2 q3 q4 q5 q6 q7)), (r 0, .inl (cb0, 18, .inl fb0)), (r 1, .inl (cb1, 18, .inl fb1)), (r 2, .inl (cb2, 18, .inl fb2)), (wk, .inr (8, [.int x0, .int x1, .ref li])), (li, .inl (cli, 24, .inl fli)), (pp, .inl (cpp, 60, .inl fpp)), (so, .inl (cso, 60, .inl f_12)), (ty, .inl (cty, 26, .inl fty)), (cm, .inr (1, [.ref kA, .ref kB, .ref kG, .ref (ad 12 0), .ref o3, .ref e4, .ref e5, .ref kC, .ref kF, .ref kT, .int spn])), (kA, .inl (cA9, 6, .inr (.inr (.inr (.inr (fun i => some (ad i 0))))))), (kB, .inl (cB, 6, .inr (.inr (.inr (.inr (fun i => some (ad (6 + i) 0))))))), (kG, .inl (cg9, 6, .inl fG)), (o3, .inr (7, [.ref r3, .int n3])), (r3, .inl (c3, 6, .inr (.inl f3))), (e4, .inr (3, [.int (nI R4), .ref t4, .ref s4, .int m4])), (t4, .inl (ct4, 24 * R4, .inl ft4)), (s4, .inl (cs4, R4, .inl fs4)), (e5, .inr (3, [.int (nI R5), .ref t5, .ref s5, .int m5])), (t5, .inl (ct5, 24 * R5, .inl ft5)), (s5, .inl (cs5, R5, .inl fs5)), (kC, .inl (cC, 24, .inl fC)), (kF, .inl (cF, 24, .inl fF)), (kT, .inl (cT, 26, .inl fT))]) hDx [26, 0, 1, 2, 3, 4, 5, 6, 7, 8, 9, 27, 10, 11, 12, 13, 14, 15, 16, 17, 18, 19, 20, 21, 22, 23, 24, 25] (by decide) rfl
  have hm9 : List.map Prod.fst ([(gt, .inr (9, [.int w_9, .ref tp, .int td, .int fk, .int fpl, .ref b_10, .int w_11, .ref mb, .ref mu, .int mk, .ref rd, .ref cm, .ref wk, .ref pp, .ref so, .ref ty])), (tp, .inl (ctp, 900, .inl ftp)), (mb, .inl (cmb, 3, .inr (.inr (.inr (.inr fmb))))), (mu, .inl (cmu, 3, .inl fmu)), (rd, .inr (6, rF r q0 q1 q2 q3 q4 q5 q6 q7)), (r 0, .inl (cb0, 18, .inl fb0)), (r 1, .inl (cb1, 18, .inl fb1)), (r 2, .inl (cb2, 18, .inl fb2)), (wk, .inr (8, [.int x0, .int x1, .ref li])), (li, .inl (cli, 24, .inl fli)), (pp, .inl (cpp, 60, .inl fpp)), (so, .inl (cso, 60, .inl f_12)), (ty, .inl (cty, 26, .inl fty)), (cm, .inr (1, [.ref kA, .ref kB, .ref kG, .ref (ad 12 0), .ref o3, .ref e4, .ref e5, .ref kC, .ref kF, .ref kT, .int spn])), (kA, .inl (cA9, 6, .inr (.inr (.inr (.inr (fun i => some (ad i 0))))))), (kB, .inl (cB, 6, .inr (.inr (.inr (.inr (fun i => some (ad (6 + i) 0))))))), (kG, .inl (cg9, 6, .inl fG)), (o3, .inr (7, [.ref r3, .int n3])), (r3, .inl (c3, 6, .inr (.inl f3))), (e4, .inr (3, [.int (nI R4), .ref t4, .ref s4, .int m4])), (t4, .inl (ct4, 24 * R4, .inl ft4)), (s4, .inl (cs4, R4, .inl fs4)), (e5, .inr (3, [.int (nI R5), .ref t5, .ref s5, .int m5])), (t5, .inl (ct5, 24 * R5, .inl ft5)), (s5, .inl (cs5, R5, .inl fs5)), (kC, .inl (cC, 24, .inl fC)), (kF, .inl (cF, 24, .inl fF)), (kT, .inl (cT, 26, .inl fT))] ++ (cPL ad ca vi vl vf (List.range 13) ++ mW zad zkc zx0 zx1 zx2 zx3 zx4 zx5 zx6 zx7 zx8 zx9 zx10 zx11 zx12 zx13 zx14 zx15 zx16 zx17 zx18 zx19 zx20 zx21 zf0 zf1 zf2 zf3 zf4 zf5 zf6 zf7 zf8 zf9 zf10 zf11 zf12 zf13 zf14 zf15 zf16 zf17 zf18 zf19 zf20 zf21 zL zN zP zM zO) : va_W) = List.map Prod.fst ([(gt, .inr (9, [.int st9, .ref tp, .int td, .int fk, .int fpl, .ref bk, .int un, .ref mb, .ref mu, .int mk, .ref rd, .ref cm, .ref wk, .ref pp, .ref so, .ref ty])), (tp, .inl (ctp, 900, .inl ftp)), (mb, .inl (cmb, 3, .inr (.inr (.inr (.inr fmb))))), (mu, .inl (cmu, 3, .inl fmu)), (rd, .inr (6, rF r q0 q1 q2 q3 q4 q5 q6 q7)), (r 0, .inl (cb0, 18, .inl fb0)), (r 1, .inl (cb1, 18, .inl fb1)), (r 2, .inl (cb2, 18, .inl fb2)), (wk, .inr (8, [.int x0, .int x1, .ref li])), (li, .inl (cli, 24, .inl fli)), (pp, .inl (cpp, 60, .inl fpp)), (so, .inl (cso, 60, .inl fso)), (ty, .inl (cty, 26, .inl fty)), (cm, .inr (1, [.ref kA, .ref kB, .ref kG, .ref (ad 12 0), .ref o3, .ref e4, .ref e5, .ref kC, .ref kF, .ref kT, .int spn])), (kA, .inl (cA9, 6, .inr (.inr (.inr (.inr (fun i => some (ad i 0))))))), (kB, .inl (cB, 6, .inr (.inr (.inr (.inr (fun i => some (ad (6 + i) 0))))))), (kG, .inl (cg9, 6, .inl fG)), (o3, .inr (7, [.ref r3, .int n3])), (r3, .inl (c3, 6, .inr (.inl f3))), (e4, .inr (3, [.int (nI R4), .ref t4, .ref s4, .int m4])), (t4, .inl (ct4, 24 * R4, .inl ft4)), (s4, .inl (cs4, R4, .inl fs4)), (e5, .inr (3, [.int (nI R5), .ref t5, .ref s5, .int m5])), (t5, .inl (ct5, 24 * R5, .inl ft5)), (s5, .inl (cs5, R5, .inl fs5)), (kC, .inl (cC, 24, .inl fC)), (kF, .inl (cF, 24, .inl fF)), (kT, .inl (cT, 26, .inl fT))] ++ (cPL ad ca vi vl vf (List.range 13) ++ mW zad zkc zx0 zx1 zx2 zx3 zx4 zx5 zx6 zx7 zx8 zx9 zx10 zx11 zx12 zx13 zx14 zx15 zx16 zx17 zx18 zx19 zx20 zx21 zf0 zf1 zf2 zf3 zf4 zf5 zf6 zf7 zf8 zf9 zf10 zf11 zf12 zf13 zf14 zf15 zf16 zf17 zf18 zf19 zf20 zf21 zL zN zP zM zO) : va_W) := rfl
  have hQNx := qn_fst hQN hm9
  have hQNx := qn_act hN2 hQNx hP hm9
  rw [ht] at hQ2
  have hQ := hQ2
  have hKQ := va_K.moved hvm.symm hKQ2
  have hB9 := hN2.2.2.2.1
  have hM := hM.mono hN2.2.2.1 (Int.le_refl _)
  have hbk := hb2
  have hQN := hQNx
  clear hQNx hQAc hFc hDc hPc hKc
  have hP := hPx
  have hD := hDx
  clear hPx hDx
  generalize H1 = H at hP hS hQ ⊢
  refine lv_pop hx hb dL_law_943 rfl ?_
  refine lv_aload_n hx hb dL_law_944 rfl (lv_at hl 1 rfl) ?_
  refine lv_aload_n hx hb dL_law_945 rfl (lv_at hl 3 rfl) ?_
  refine lv_iload_n hx hb dL_law_946 rfl (lv_at hl 0 rfl) ?_
  refine lv_iconst (v := 1) hx hb dL_law_947 (by decide) ?_
  refine lv_iadd hx hb dL_law_948 ?_
  refine lv_topi (fun y_13 ey_13 => ?_)
  have ty_13 := i_add (a := ii.toInt) (b := 1) rfl (by decide) ey_13 (by omega) (by omega)
  refine va_sld hx hb hX hbl hbA hS (i := y_13) (vp_of (a := y_13.toInt) rfl (by omega) (by omega)) dL_law_949 ?_
  refine lv_topi (fun y_14 ey_14 => ?_)
  have e_y_14 : y_14 = y_2 := by rw [ey_14, ey_2, ey_13, ey_1]
  have q_y_14 : y_14.toInt = y_2.toInt := by rw [ey_14, ey_2, ey_13, ey_1]
  refine lv_aload_n hx hb dL_law_950 rfl (lv_at hl 3 rfl) ?_
  refine lv_iload_n hx hb dL_law_951 rfl (lv_at hl 0 rfl) ?_
  refine lv_iconst (v := 2) hx hb dL_law_952 (by decide) ?_
  refine lv_iadd hx hb dL_law_953 ?_
  refine lv_topi (fun y_15 ey_15 => ?_)
  have ty_15 := i_add (a := ii.toInt) (b := 2) rfl (by decide) ey_15 (by omega) (by omega)
  refine va_sld hx hb hX hbl hbA hS (i := y_15) (vp_of (a := y_15.toInt) rfl (by omega) (by omega)) dL_law_954 ?_
  refine lv_topi (fun y_16 ey_16 => ?_)
  have e_y_16 : y_16 = y_4 := by rw [ey_16, ey_4, ey_15, ey_3]
  have q_y_16 : y_16.toInt = y_4.toInt := by rw [ey_16, ey_4, ey_15, ey_3]
  refine lv_aload_n hx hb dL_law_955 rfl (lv_at hl 3 rfl) ?_
  refine lv_iload_n hx hb dL_law_956 rfl (lv_at hl 0 rfl) ?_
  refine lv_iconst (v := 3) hx hb dL_law_957 (by decide) ?_
  refine lv_iadd hx hb dL_law_958 ?_
  refine lv_topi (fun y_17 ey_17 => ?_)
  have ty_17 := i_add (a := ii.toInt) (b := 3) rfl (by decide) ey_17 (by omega) (by omega)
  refine va_sld hx hb hX hbl hbA hS (i := y_17) (vp_of (a := y_17.toInt) rfl (by omega) (by omega)) dL_law_959 ?_
  refine lv_topi (fun y_18 ey_18 => ?_)
  have e_y_18 : y_18 = y_6 := by rw [ey_18, ey_6, ey_17, ey_5]
  have q_y_18 : y_18.toInt = y_6.toInt := by rw [ey_18, ey_6, ey_17, ey_5]
  have hPc : va_P (dC, dI) vwCl (mW zad zkc zx0 zx1 zx2 zx3 zx4 zx5 zx6 zx7 zx8 zx9 zx10 zx11 zx12 zx13 zx14 zx15 zx16 zx17 zx18 zx19 zx20 zx21 zf0 zf1 zf2 zf3 zf4 zf5 zf6 zf7 zf8 zf9 zf10 zf11 zf12 zf13 zf14 zf15 zf16 zf17 zf18 zf19 zf20 zf21 zL zN zP zM zO) H := p_sub hP (fun _ hq => List.mem_append_right _ (List.mem_append_right _ hq))
  have hKc := hKM
  have hDc : va_D (fun q : Nat => s.heap.size ≤ q) (mW zad zkc zx0 zx1 zx2 zx3 zx4 zx5 zx6 zx7 zx8 zx9 zx10 zx11 zx12 zx13 zx14 zx15 zx16 zx17 zx18 zx19 zx20 zx21 zf0 zf1 zf2 zf3 zf4 zf5 zf6 zf7 zf8 zf9 zf10 zf11 zf12 zf13 zf14 zf15 zf16 zf17 zf18 zf19 zf20 zf21 zL zN zP zM zO) := D_right (D_right hD)
  have hFc := m_free hDc hS hA
  have hQAc : ∀ q ∈ W2, ¬ va_A (mW zad zkc zx0 zx1 zx2 zx3 zx4 zx5 zx6 zx7 zx8 zx9 zx10 zx11 zx12 zx13 zx14 zx15 zx16 zx17 zx18 zx19 zx20 zx21 zf0 zf1 zf2 zf3 zf4 zf5 zf6 zf7 zf8 zf9 zf10 zf11 zf12 zf13 zf14 zf15 zf16 zf17 zf18 zf19 zf20 zf21 zL zN zP zM zO) H.size q.1 := qn_A hQ hQN (fun x hx => List.mem_append_right _ (List.mem_append_right _ hx))
  refine va_calli (va_runV (As := [.int y_14, .int y_16, .int y_18]) (rest := []) ⟨hx, hb, hml, hown, hts⟩ (m_copy l dC dI zad zkc zx0 zx1 zx2 zx3 zx4 zx5 zx6 zx7 zx8 zx9 zx10 zx11 zx12 zx13 zx14 zx15 zx16 zx17 zx18 zx19 zx20 zx21 zf0 zf1 zf2 zf3 zf4 zf5 zf6 zf7 zf8 zf9 zf10 zf11 zf12 zf13 zf14 zf15 zf16 zf17 zf18 zf19 zf20 zf21 zL zN zP zM zO H.size y_14 y_16 y_18 hmi) (cwV 3 hts mg_L_X10_copy rfl rfl rfl (by decide +kernel) ⟨Nat.le_of_ble_eq_true rfl, Nat.le_of_ble_eq_true rfl⟩) ⟨fun a U g mk q => by obtain ⟨q0, q1, qP, qK, qD⟩ := q; exact ⟨q0, q1, qP, va_K.moved (u := U) (U := U.calling g mk a) (Vm.Alike.refl U.vm) qK, qD⟩, va_recv hKc hPc (ci := 10) (q0 := 0) rfl rfl, fun U hU hW => ⟨rfl, by rw [hU], by rw [hU]; exact hPc, va_K.moved hW.alike hKc, hDc.weaken (fun _ _ _ _ => trivial)⟩⟩ rfl rfl hl.1 rfl (lv_room (Nat.le_of_ble_eq_true rfl)) dL_law_960 ⟨by show (kc9 + 5) + 0 ≤ 600000; omega, by show (ks9 + 135) + 0 ≤ 7302250; omega⟩) hS (fun q _ h => hFc q h) hFc (fun r_19 u t H1 locs ht hvm hw hB hz1 hk1 hS => ?_)
  have hQo := hQ
  have hQ := qn_P hQ hQAc hk1
  have hwu := hw
  have hwt_r_19 := congrArg Int32.toInt hw
  obtain ⟨zx_20, zx_21, zf_22, h_23, hP1, hK1, hD1⟩ := hB
  rw [ht] at hP1
  have rg_zx_20 := i_rng zx_20
  have rg_zx_21 := i_rng zx_21
  have hass := (pm_as (a := [(gt, .inr (9, [.int w_9, .ref tp, .int td, .int fk, .int fpl, .ref b_10, .int w_11, .ref mb, .ref mu, .int mk, .ref rd, .ref cm, .ref wk, .ref pp, .ref so, .ref ty])), (tp, .inl (ctp, 900, .inl ftp)), (mb, .inl (cmb, 3, .inr (.inr (.inr (.inr fmb))))), (mu, .inl (cmu, 3, .inl fmu)), (rd, .inr (6, rF r q0 q1 q2 q3 q4 q5 q6 q7)), (r 0, .inl (cb0, 18, .inl fb0)), (r 1, .inl (cb1, 18, .inl fb1)), (r 2, .inl (cb2, 18, .inl fb2)), (wk, .inr (8, [.int x0, .int x1, .ref li])), (li, .inl (cli, 24, .inl fli)), (pp, .inl (cpp, 60, .inl fpp)), (so, .inl (cso, 60, .inl f_12)), (ty, .inl (cty, 26, .inl fty)), (cm, .inr (1, [.ref kA, .ref kB, .ref kG, .ref (ad 12 0), .ref o3, .ref e4, .ref e5, .ref kC, .ref kF, .ref kT, .int spn])), (kA, .inl (cA9, 6, .inr (.inr (.inr (.inr (fun i => some (ad i 0))))))), (kB, .inl (cB, 6, .inr (.inr (.inr (.inr (fun i => some (ad (6 + i) 0))))))), (kG, .inl (cg9, 6, .inl fG)), (o3, .inr (7, [.ref r3, .int n3])), (r3, .inl (c3, 6, .inr (.inl f3))), (e4, .inr (3, [.int (nI R4), .ref t4, .ref s4, .int m4])), (t4, .inl (ct4, 24 * R4, .inl ft4)), (s4, .inl (cs4, R4, .inl fs4)), (e5, .inr (3, [.int (nI R5), .ref t5, .ref s5, .int m5])), (t5, .inl (ct5, 24 * R5, .inl ft5)), (s5, .inl (cs5, R5, .inl fs5)), (kC, .inl (cC, 24, .inl fC)), (kF, .inl (cF, 24, .inl fF)), (kT, .inl (cT, 26, .inl fT))]) (b := cPL ad ca vi vl vf (List.range 13)) (c := mW zad zkc zx0 zx1 zx2 zx3 zx4 zx5 zx6 zx7 zx8 zx9 zx10 zx11 zx12 zx13 zx14 zx15 zx16 zx17 zx18 zx19 zx20 zx21 zf0 zf1 zf2 zf3 zf4 zf5 zf6 zf7 zf8 zf9 zf10 zf11 zf12 zf13 zf14 zf15 zf16 zf17 zf18 zf19 zf20 zf21 zL zN zP zM zO)).symm
  obtain ⟨hPx, hDx⟩ := pm_join hP hD hass hk1 hFc hP1 hD1
  rw [List.append_assoc] at hPx hDx
  have hQNx := qn_app (qn_sub hQN (fun x hx => List.mem_append_left _ hx)) (qn_app (qn_sub hQN (fun x hx => List.mem_append_right _ (List.mem_append_left _ hx))) (qn_new hQAc hD1))
  have hP := hPx
  have hD := hDx
  have hQN := hQNx
  generalize H1 = H at hP hS hQ ⊢
  have hmi9 := h_23
  refine lv_pop hx hb dL_law_963 rfl ?_
  refine lv_goto (tgt := 1128) hx hb dL_law_964 (by decide) ?_
  refine W.widen (k := kc9 + 195) (n := ks9 + 10960) (by omega) (by omega) ?_
  exact kk H _ ls tp b_10 mb mu rd cm wk pp so ty li w_9 td fk fpl w_11 mk x0 x1 q0 q1 q2 q3 q4 q5 q6 q7 r ctp cmb cmu cb0 cb1 cb2 cli cpp cso cty ftp fmu fb0 fb1 fb2 fli fpp f_12 fty fmb spn kG cg9 fG o3 r3 c3 f3 n3 e4 t4 s4 R4 ct4 cs4 ft4 fs4 m4 e5 t5 s5 R5 ct5 cs5 ft5 fs5 m5 kC cC fC kF cF fF kT cT fT kA kB cA9 cB ad ca vi vl vf W2 T2 B2 zad zkc zx_20 zx_21 zx2 zx3 zx4 zx5 zx6 zx7 zx8 zx9 zx10 zx11 zx12 zx13 zx14 zx15 zx16 zx17 zx18 zx19 zx20 zx21 zf_22 zf1 zf2 zf3 zf4 zf5 zf6 zf7 zf8 zf9 zf10 zf11 zf12 zf13 zf14 zf15 zf16 zf17 zf18 zf19 zf20 zf21 zL zN zP zM zO hs1 hs2 ha3 hb3 hR4 hU4 hc4 hd4 hb_fs4 hR5 hU5 hc5 hd5 hb_fs5 hG (by omega) (by omega) hM hB9 hbk rfl hmi9 (by omega) (by omega) hrt hK hKC hKM hKQ hP hD hQ hQN hS hl
theorem dL_law_967 : decode cL_law 967 = .ok (.aload_n 1, 1) := by decide +kernel
theorem dL_law_968 : decode cL_law 968 = .ok (.aload_n 0, 1) := by decide +kernel
theorem dL_law_969 : decode cL_law 969 = .ok (.iload_n 3, 1) := by decide +kernel
theorem dL_law_970 : decode cL_law 970 = .ok (.iconst 1, 1) := by decide +kernel
theorem dL_law_971 : decode cL_law 971 = .ok (.iadd, 1) := by decide +kernel
theorem dL_law_972 : decode cL_law 972 = .ok (.iaload, 1) := by decide +kernel
theorem dL_law_973 : decode cL_law 973 = .ok (.invokevirtual 110, 3) := by decide +kernel
theorem dL_law_976 : decode cL_law 976 = .ok (.pop, 1) := by decide +kernel
theorem dL_law_977 : decode cL_law 977 = .ok (.aload_n 2, 1) := by decide +kernel
theorem dL_law_978 : decode cL_law 978 = .ok (.aload_n 0, 1) := by decide +kernel
theorem dL_law_979 : decode cL_law 979 = .ok (.iload_n 3, 1) := by decide +kernel
theorem dL_law_980 : decode cL_law 980 = .ok (.iconst 1, 1) := by decide +kernel
theorem dL_law_981 : decode cL_law 981 = .ok (.iadd, 1) := by decide +kernel
theorem dL_law_982 : decode cL_law 982 = .ok (.iaload, 1) := by decide +kernel
theorem dL_law_983 : decode cL_law 983 = .ok (.invokevirtual 113, 3) := by decide +kernel
theorem dL_law_986 : decode cL_law 986 = .ok (.pop, 1) := by decide +kernel
theorem dL_law_987 : decode cL_law 987 = .ok (.goto 141, 3) := by decide +kernel
set_option maxHeartbeats 4000000 in
set_option maxRecDepth 100000 in
/-- the law: drop -/
theorem law_case23 {p : Program} {l : Launch} {e : Env} {s : State} {m : MethodId} {below : List Frame} {meth : Method} {c : Code} {dC : Nat → ClassId} {dI : Nat → Nat → Nat} {b L : Nat} {xs : Nat → Int32} (hLL : L ≤ 3072) (C0 : lw_At p s m meth c b L xs) (hLX : LX s) {gt mo : Nat} {H : Heap} {locs : List Loc} {kc9 ks9 : Nat} (hc9 : kc9 + 195 ≤ 600000) (hs9 : ks9 + 10960 ≤ 7302250) {ii : Int32} (hii : 0 ≤ ii.toInt ∧ ii.toInt + 6 ≤ L) {ls : Array Slot} (kk : ∀ (H1 : Heap) (locs1 : List Loc) (ls : Array Slot), LI dC dI s gt mo H1 (va_S (fun q : Nat => s.heap.size ≤ q) s.heap H1 locs1 → lv_has ls 4 [(3, .int ii), (2, .ref mo), (1, .ref gt), (0, .ref b)] → W p l e room_1 s m #[Value.ref b] below meth c H1 locs1 (kc9 + 195) (ks9 + 10960) (lw_Z below #[Value.ref b] s) (F0 m 1128 ls []))) : LI dC dI s gt mo H (va_S (fun q : Nat => s.heap.size ≤ q) s.heap H locs → lv_has ls 4 [(3, .int ii), (2, .ref mo), (1, .ref gt), (0, .ref b)] → W p l e room_1 s m #[Value.ref b] below meth c H locs kc9 ks9 (lw_Z below #[Value.ref b] s) (F0 m 967 ls [])) := by
  obtain ⟨hx, hb, hr, hml, hown, hts, hX, hbl, hlocks, hgv⟩ := id C0
  have hown : s.vm.findClass RL = some m.cls := hown
  have hA : ∀ q : Nat, s.heap.size ≤ q → (fun q : Nat => s.heap.size ≤ q) q := fun _ h => h
  have hbA : ¬ (fun q : Nat => s.heap.size ≤ q) b := Nat.not_le.mpr hbl
  obtain ⟨hcl, hcld, hAO2, hAO5, hN53, hN160, hSR, hSW, hSR2, hSW2, hOV⟩ := hLX
  unfold LI
  intro tp bk mb mu rd cm wk pp so ty li st9 td fk fpl un mk x0 x1 q0 q1 q2 q3 q4 q5 q6 q7 r ctp cmb cmu cb0 cb1 cb2 cli cpp cso cty ftp fmu fb0 fb1 fb2 fli fpp fso fty fmb spn kG cg9 fG o3 r3 c3 f3 n3 e4 t4 s4 R4 ct4 cs4 ft4 fs4 m4 e5 t5 s5 R5 ct5 cs5 ft5 fs5 m5 kC cC fC kF cF fF kT cT fT kA kB cA9 cB ad ca vi vl vf W9 T9 B9 zad zkc zx0 zx1 zx2 zx3 zx4 zx5 zx6 zx7 zx8 zx9 zx10 zx11 zx12 zx13 zx14 zx15 zx16 zx17 zx18 zx19 zx20 zx21 zf0 zf1 zf2 zf3 zf4 zf5 zf6 zf7 zf8 zf9 zf10 zf11 zf12 zf13 zf14 zf15 zf16 zf17 zf18 zf19 zf20 zf21 zL zN zP zM zO hs1 hs2 ha3 hb3 hR4 hU4 hc4 hd4 hb_fs4 hR5 hU5 hc5 hd5 hb_fs5 hG htd hmk hM hB9 hbk hmo hmi hzk hzt hrt hK hKC hKM hKQ hP hD hQ hQN hS hl
  subst hmo
  have rg_td := i_rng td
  have rg_mk := i_rng mk
  have rg_zx2 := i_rng zx2
  have rg_zx3 := i_rng zx3
  refine lv_aload_n hx hb dL_law_967 rfl (lv_at hl 2 rfl) ?_
  refine lv_aload_n hx hb dL_law_968 rfl (lv_at hl 3 rfl) ?_
  refine lv_iload_n hx hb dL_law_969 rfl (lv_at hl 0 rfl) ?_
  refine lv_iconst (v := 1) hx hb dL_law_970 (by decide) ?_
  refine lv_iadd hx hb dL_law_971 ?_
  refine lv_topi (fun y_1 ey_1 => ?_)
  have ty_1 := i_add (a := ii.toInt) (b := 1) rfl (by decide) ey_1 (by omega) (by omega)
  refine va_sld hx hb hX hbl hbA hS (i := y_1) (vp_of (a := y_1.toInt) rfl (by omega) (by omega)) dL_law_972 ?_
  refine lv_topi (fun y_2 ey_2 => ?_)
  have hPc := hP.sub (ws' := [(gt, .inr (9, [.int st9, .ref tp, .int td, .int fk, .int fpl, .ref bk, .int un, .ref mb, .ref mu, .int mk, .ref rd, .ref cm, .ref wk, .ref pp, .ref so, .ref ty]))]) [0] rfl
  have hKc := hK.sub (tys' := []) [] rfl
  have hDc := hD.sub (ws' := [(gt, .inr (9, [.int st9, .ref tp, .int td, .int fk, .int fpl, .ref bk, .int un, .ref mb, .ref mu, .int mk, .ref rd, .ref cm, .ref wk, .ref pp, .ref so, .ref ty]))]) [0] (by decide) rfl
  have hFc := va_free (wc := [(gt, .inr (9, [.int st9, .ref tp, .int td, .int fk, .int fpl, .ref bk, .int un, .ref mb, .ref mu, .int mk, .ref rd, .ref cm, .ref wk, .ref pp, .ref so, .ref ty]))]) hD hS hA [0] rfl
  have hQAc : ∀ q ∈ W9, ¬ va_A [(gt, .inr (9, [.int st9, .ref tp, .int td, .int fk, .int fpl, .ref bk, .int un, .ref mb, .ref mu, .int mk, .ref rd, .ref cm, .ref wk, .ref pp, .ref so, .ref ty]))] H.size q.1 := qn_A hQ hQN (fun x hx => mem_pl [0] rfl x hx)
  refine va_calli (va_runV (As := [.int y_2]) (rest := []) ⟨hx, hb, hml, hown, hts⟩ (s_g_drop l dC dI W9 T9 B9 gt tp bk mb mu rd cm wk pp so ty st9 td fk fpl un mk H.size y_2 hB9 hbk) (cwV 1 hts mg_L_X9_drop rfl rfl rfl (by decide +kernel) ⟨Nat.le_of_ble_eq_true rfl, Nat.le_of_ble_eq_true rfl⟩) ⟨fun a U g mk q => by obtain ⟨q0, q1, qP, qK, qD, qE0, qE1, qE2, qE3⟩ := q; exact ⟨q0, q1, qP, va_K.moved (u := U) (U := U.calling g mk a) (Vm.Alike.refl U.vm) qK, qD, va_AO.moved (u := U) (U := U.calling g mk a) (Vm.Alike.refl U.vm) qE0, qE1, va_K.moved (u := U) (U := U.calling g mk a) (Vm.Alike.refl U.vm) qE2, qE3⟩, va_recv hKc hPc (ci := 9) (q0 := 0) rfl rfl, fun U hU hW => ⟨rfl, by rw [hU], by rw [hU]; exact hPc, va_K.moved hW.alike hKc, hDc.weaken (fun _ _ _ _ => trivial), va_AO.moved hW.alike hAO2, (by rw [hU]; exact hQ), va_K.moved hW.alike hKQ, hQAc⟩⟩ rfl rfl hl.1 rfl (lv_room (Nat.le_of_ble_eq_true rfl)) dL_law_973 ⟨by show kc9 + 2 ≤ 600000; omega, by show ks9 + 13 ≤ 7302250; omega⟩) hS (fun q _ h => hFc q h) hFc (fun r_3 u_4 t H1 locs ht hvm hw hB hz1 hk1 hS => ?_)
  have hQo := hQ
  have hQ := qn_P hQ hQAc hk1
  obtain ⟨w_5, b_6, w_7, W2, T2, B2, hN2, hb2, hQ2, hKQ2, hP1, hK1, hD1⟩ := hB
  rw [ht] at hP1
  have hQNa := qn_new hQAc hD1
  obtain ⟨hPx, hDx⟩ := va_joinQ (X := [(gt, .inr (9, [.int st9, .ref tp, .int td, .int fk, .int fpl, .ref bk, .int un, .ref mb, .ref mu, .int mk, .ref rd, .ref cm, .ref wk, .ref pp, .ref so, .ref ty])), (tp, .inl (ctp, 900, .inl ftp)), (mb, .inl (cmb, 3, .inr (.inr (.inr (.inr fmb))))), (mu, .inl (cmu, 3, .inl fmu)), (rd, .inr (6, rF r q0 q1 q2 q3 q4 q5 q6 q7)), (r 0, .inl (cb0, 18, .inl fb0)), (r 1, .inl (cb1, 18, .inl fb1)), (r 2, .inl (cb2, 18, .inl fb2)), (wk, .inr (8, [.int x0, .int x1, .ref li])), (li, .inl (cli, 24, .inl fli)), (pp, .inl (cpp, 60, .inl fpp)), (so, .inl (cso, 60, .inl fso)), (ty, .inl (cty, 26, .inl fty)), (cm, .inr (1, [.ref kA, .ref kB, .ref kG, .ref (ad 12 0), .ref o3, .ref e4, .ref e5, .ref kC, .ref kF, .ref kT, .int spn])), (kA, .inl (cA9, 6, .inr (.inr (.inr (.inr (fun i => some (ad i 0))))))), (kB, .inl (cB, 6, .inr (.inr (.inr (.inr (fun i => some (ad (6 + i) 0))))))), (kG, .inl (cg9, 6, .inl fG)), (o3, .inr (7, [.ref r3, .int n3])), (r3, .inl (c3, 6, .inr (.inl f3))), (e4, .inr (3, [.int (nI R4), .ref t4, .ref s4, .int m4])), (t4, .inl (ct4, 24 * R4, .inl ft4)), (s4, .inl (cs4, R4, .inl fs4)), (e5, .inr (3, [.int (nI R5), .ref t5, .ref s5, .int m5])), (t5, .inl (ct5, 24 * R5, .inl ft5)), (s5, .inl (cs5, R5, .inl fs5)), (kC, .inl (cC, 24, .inl fC)), (kF, .inl (cF, 24, .inl fF)), (kT, .inl (cT, 26, .inl fT))]) (cx := [(gt, .inr (9, [.int st9, .ref tp, .int td, .int fk, .int fpl, .ref bk, .int un, .ref mb, .ref mu, .int mk, .ref rd, .ref cm, .ref wk, .ref pp, .ref so, .ref ty]))]) (wr := [(tp, .inl (ctp, 900, .inl ftp)), (mb, .inl (cmb, 3, .inr (.inr (.inr (.inr fmb))))), (mu, .inl (cmu, 3, .inl fmu)), (rd, .inr (6, rF r q0 q1 q2 q3 q4 q5 q6 q7)), (r 0, .inl (cb0, 18, .inl fb0)), (r 1, .inl (cb1, 18, .inl fb1)), (r 2, .inl (cb2, 18, .inl fb2)), (wk, .inr (8, [.int x0, .int x1, .ref li])), (li, .inl (cli, 24, .inl fli)), (pp, .inl (cpp, 60, .inl fpp)), (so, .inl (cso, 60, .inl fso)), (ty, .inl (cty, 26, .inl fty)), (cm, .inr (1, [.ref kA, .ref kB, .ref kG, .ref (ad 12 0), .ref o3, .ref e4, .ref e5, .ref kC, .ref kF, .ref kT, .int spn])), (kA, .inl (cA9, 6, .inr (.inr (.inr (.inr (fun i => some (ad i 0))))))), (kB, .inl (cB, 6, .inr (.inr (.inr (.inr (fun i => some (ad (6 + i) 0))))))), (kG, .inl (cg9, 6, .inl fG)), (o3, .inr (7, [.ref r3, .int n3])), (r3, .inl (c3, 6, .inr (.inl f3))), (e4, .inr (3, [.int (nI R4), .ref t4, .ref s4, .int m4])), (t4, .inl (ct4, 24 * R4, .inl ft4)), (s4, .inl (cs4, R4, .inl fs4)), (e5, .inr (3, [.int (nI R5), .ref t5, .ref s5, .int m5])), (t5, .inl (ct5, 24 * R5, .inl ft5)), (s5, .inl (cs5, R5, .inl fs5)), (kC, .inl (cC, 24, .inl fC)), (kF, .inl (cF, 24, .inl fF)), (kT, .inl (cT, 26, .inl fT))]) (w1 := [(gt, .inr (9, [.int w_5, .ref tp, .int td, .int fk, .int fpl, .ref b_6, .int w_7, .ref mb, .ref mu, .int mk, .ref rd, .ref cm, .ref wk, .ref pp, .ref so, .ref ty]))]) (pl := (cPL ad ca vi vl vf (List.range 13) ++ mW zad zkc zx0 zx1 zx2 zx3 zx4 zx5 zx6 zx7 zx8 zx9 zx10 zx11 zx12 zx13 zx14 zx15 zx16 zx17 zx18 zx19 zx20 zx21 zf0 zf1 zf2 zf3 zf4 zf5 zf6 zf7 zf8 zf9 zf10 zf11 zf12 zf13 zf14 zf15 zf16 zf17 zf18 zf19 zf20 zf21 zL zN zP zM zO)) hP hD [0] [1, 2, 3, 4, 5, 6, 7, 8, 9, 10, 11, 12, 13, 14, 15, 16, 17, 18, 19, 20, 21, 22, 23, 24, 25, 26, 27] rfl rfl (by decide) (by decide) hk1 hFc hP1 hD1
  have hPx := t_P (cx := [(gt, .inr (9, [.int w_5, .ref tp, .int td, .int fk, .int fpl, .ref b_6, .int w_7, .ref mb, .ref mu, .int mk, .ref rd, .ref cm, .ref wk, .ref pp, .ref so, .ref ty])), (tp, .inl (ctp, 900, .inl ftp)), (mb, .inl (cmb, 3, .inr (.inr (.inr (.inr fmb))))), (mu, .inl (cmu, 3, .inl fmu)), (rd, .inr (6, rF r q0 q1 q2 q3 q4 q5 q6 q7)), (r 0, .inl (cb0, 18, .inl fb0)), (r 1, .inl (cb1, 18, .inl fb1)), (r 2, .inl (cb2, 18, .inl fb2)), (wk, .inr (8, [.int x0, .int x1, .ref li])), (li, .inl (cli, 24, .inl fli)), (pp, .inl (cpp, 60, .inl fpp)), (so, .inl (cso, 60, .inl fso)), (ty, .inl (cty, 26, .inl fty)), (cm, .inr (1, [.ref kA, .ref kB, .ref kG, .ref (ad 12 0), .ref o3, .ref e4, .ref e5, .ref kC, .ref kF, .ref kT, .int spn])), (kA, .inl (cA9, 6, .inr (.inr (.inr (.inr (fun i => some (ad i 0))))))), (kB, .inl (cB, 6, .inr (.inr (.inr (.inr (fun i => some (ad (6 + i) 0))))))), (kG, .inl (cg9, 6, .inl fG)), (o3, .inr (7, [.ref r3, .int n3])), (r3, .inl (c3, 6, .inr (.inl f3))), (e4, .inr (3, [.int (nI R4), .ref t4, .ref s4, .int m4])), (t4, .inl (ct4, 24 * R4, .inl ft4)), (s4, .inl (cs4, R4, .inl fs4)), (e5, .inr (3, [.int (nI R5), .ref t5, .ref s5, .int m5])), (t5, .inl (ct5, 24 * R5, .inl ft5)), (s5, .inl (cs5, R5, .inl fs5)), (kC, .inl (cC, 24, .inl fC)), (kF, .inl (cF, 24, .inl fF)), (kT, .inl (cT, 26, .inl fT))]) hPx [27, 0, 1, 2, 3, 4, 5, 6, 7, 8, 9, 10, 11, 12, 13, 14, 15, 16, 17, 18, 19, 20, 21, 22, 23, 24, 25, 26] rfl
  have hDx := va_D.part (cx := [(gt, .inr (9, [.int w_5, .ref tp, .int td, .int fk, .int fpl, .ref b_6, .int w_7, .ref mb, .ref mu, .int mk, .ref rd, .ref cm, .ref wk, .ref pp, .ref so, .ref ty])), (tp, .inl (ctp, 900, .inl ftp)), (mb, .inl (cmb, 3, .inr (.inr (.inr (.inr fmb))))), (mu, .inl (cmu, 3, .inl fmu)), (rd, .inr (6, rF r q0 q1 q2 q3 q4 q5 q6 q7)), (r 0, .inl (cb0, 18, .inl fb0)), (r 1, .inl (cb1, 18, .inl fb1)), (r 2, .inl (cb2, 18, .inl fb2)), (wk, .inr (8, [.int x0, .int x1, .ref li])), (li, .inl (cli, 24, .inl fli)), (pp, .inl (cpp, 60, .inl fpp)), (so, .inl (cso, 60, .inl fso)), (ty, .inl (cty, 26, .inl fty)), (cm, .inr (1, [.ref kA, .ref kB, .ref kG, .ref (ad 12 0), .ref o3, .ref e4, .ref e5, .ref kC, .ref kF, .ref kT, .int spn])), (kA, .inl (cA9, 6, .inr (.inr (.inr (.inr (fun i => some (ad i 0))))))), (kB, .inl (cB, 6, .inr (.inr (.inr (.inr (fun i => some (ad (6 + i) 0))))))), (kG, .inl (cg9, 6, .inl fG)), (o3, .inr (7, [.ref r3, .int n3])), (r3, .inl (c3, 6, .inr (.inl f3))), (e4, .inr (3, [.int (nI R4), .ref t4, .ref s4, .int m4])), (t4, .inl (ct4, 24 * R4, .inl ft4)), (s4, .inl (cs4, R4, .inl fs4)), (e5, .inr (3, [.int (nI R5), .ref t5, .ref s5, .int m5])), (t5, .inl (ct5, 24 * R5, .inl ft5)), (s5, .inl (cs5, R5, .inl fs5)), (kC, .inl (cC, 24, .inl fC)), (kF, .inl (cF, 24, .inl fF)), (kT, .inl (cT, 26, .inl fT))]) hDx [27, 0, 1, 2, 3, 4, 5, 6, 7, 8, 9, 10, 11, 12, 13, 14, 15, 16, 17, 18, 19, 20, 21, 22, 23, 24, 25, 26] (by decide) rfl
  have hm9 : List.map Prod.fst ([(gt, .inr (9, [.int w_5, .ref tp, .int td, .int fk, .int fpl, .ref b_6, .int w_7, .ref mb, .ref mu, .int mk, .ref rd, .ref cm, .ref wk, .ref pp, .ref so, .ref ty])), (tp, .inl (ctp, 900, .inl ftp)), (mb, .inl (cmb, 3, .inr (.inr (.inr (.inr fmb))))), (mu, .inl (cmu, 3, .inl fmu)), (rd, .inr (6, rF r q0 q1 q2 q3 q4 q5 q6 q7)), (r 0, .inl (cb0, 18, .inl fb0)), (r 1, .inl (cb1, 18, .inl fb1)), (r 2, .inl (cb2, 18, .inl fb2)), (wk, .inr (8, [.int x0, .int x1, .ref li])), (li, .inl (cli, 24, .inl fli)), (pp, .inl (cpp, 60, .inl fpp)), (so, .inl (cso, 60, .inl fso)), (ty, .inl (cty, 26, .inl fty)), (cm, .inr (1, [.ref kA, .ref kB, .ref kG, .ref (ad 12 0), .ref o3, .ref e4, .ref e5, .ref kC, .ref kF, .ref kT, .int spn])), (kA, .inl (cA9, 6, .inr (.inr (.inr (.inr (fun i => some (ad i 0))))))), (kB, .inl (cB, 6, .inr (.inr (.inr (.inr (fun i => some (ad (6 + i) 0))))))), (kG, .inl (cg9, 6, .inl fG)), (o3, .inr (7, [.ref r3, .int n3])), (r3, .inl (c3, 6, .inr (.inl f3))), (e4, .inr (3, [.int (nI R4), .ref t4, .ref s4, .int m4])), (t4, .inl (ct4, 24 * R4, .inl ft4)), (s4, .inl (cs4, R4, .inl fs4)), (e5, .inr (3, [.int (nI R5), .ref t5, .ref s5, .int m5])), (t5, .inl (ct5, 24 * R5, .inl ft5)), (s5, .inl (cs5, R5, .inl fs5)), (kC, .inl (cC, 24, .inl fC)), (kF, .inl (cF, 24, .inl fF)), (kT, .inl (cT, 26, .inl fT))] ++ (cPL ad ca vi vl vf (List.range 13) ++ mW zad zkc zx0 zx1 zx2 zx3 zx4 zx5 zx6 zx7 zx8 zx9 zx10 zx11 zx12 zx13 zx14 zx15 zx16 zx17 zx18 zx19 zx20 zx21 zf0 zf1 zf2 zf3 zf4 zf5 zf6 zf7 zf8 zf9 zf10 zf11 zf12 zf13 zf14 zf15 zf16 zf17 zf18 zf19 zf20 zf21 zL zN zP zM zO) : va_W) = List.map Prod.fst ([(gt, .inr (9, [.int st9, .ref tp, .int td, .int fk, .int fpl, .ref bk, .int un, .ref mb, .ref mu, .int mk, .ref rd, .ref cm, .ref wk, .ref pp, .ref so, .ref ty])), (tp, .inl (ctp, 900, .inl ftp)), (mb, .inl (cmb, 3, .inr (.inr (.inr (.inr fmb))))), (mu, .inl (cmu, 3, .inl fmu)), (rd, .inr (6, rF r q0 q1 q2 q3 q4 q5 q6 q7)), (r 0, .inl (cb0, 18, .inl fb0)), (r 1, .inl (cb1, 18, .inl fb1)), (r 2, .inl (cb2, 18, .inl fb2)), (wk, .inr (8, [.int x0, .int x1, .ref li])), (li, .inl (cli, 24, .inl fli)), (pp, .inl (cpp, 60, .inl fpp)), (so, .inl (cso, 60, .inl fso)), (ty, .inl (cty, 26, .inl fty)), (cm, .inr (1, [.ref kA, .ref kB, .ref kG, .ref (ad 12 0), .ref o3, .ref e4, .ref e5, .ref kC, .ref kF, .ref kT, .int spn])), (kA, .inl (cA9, 6, .inr (.inr (.inr (.inr (fun i => some (ad i 0))))))), (kB, .inl (cB, 6, .inr (.inr (.inr (.inr (fun i => some (ad (6 + i) 0))))))), (kG, .inl (cg9, 6, .inl fG)), (o3, .inr (7, [.ref r3, .int n3])), (r3, .inl (c3, 6, .inr (.inl f3))), (e4, .inr (3, [.int (nI R4), .ref t4, .ref s4, .int m4])), (t4, .inl (ct4, 24 * R4, .inl ft4)), (s4, .inl (cs4, R4, .inl fs4)), (e5, .inr (3, [.int (nI R5), .ref t5, .ref s5, .int m5])), (t5, .inl (ct5, 24 * R5, .inl ft5)), (s5, .inl (cs5, R5, .inl fs5)), (kC, .inl (cC, 24, .inl fC)), (kF, .inl (cF, 24, .inl fF)), (kT, .inl (cT, 26, .inl fT))] ++ (cPL ad ca vi vl vf (List.range 13) ++ mW zad zkc zx0 zx1 zx2 zx3 zx4 zx5 zx6 zx7 zx8 zx9 zx10 zx11 zx12 zx13 zx14 zx15 zx16 zx17 zx18 zx19 zx20 zx21 zf0 zf1 zf2 zf3 zf4 zf5 zf6 zf7 zf8 zf9 zf10 zf11 zf12 zf13 zf14 zf15 zf16 zf17 zf18 zf19 zf20 zf21 zL zN zP zM zO) : va_W) := rfl
  have hQNx := qn_fst hQN hm9
  have hQNx := qn_act hN2 hQNx hP hm9
  rw [ht] at hQ2
  have hQ := hQ2
  have hKQ := va_K.moved hvm.symm hKQ2
  have hB9 := hN2.2.2.2.1
  have hM := hM.mono hN2.2.2.1 (Int.le_refl _)
  have hbk := hb2
  have hQN := hQNx
  clear hQNx hQAc hFc hDc hPc hKc
  have hP := hPx
  have hD := hDx
  clear hPx hDx
  generalize H1 = H at hP hS hQ ⊢
  refine lv_pop hx hb dL_law_976 rfl ?_
  refine lv_aload_n hx hb dL_law_977 rfl (lv_at hl 1 rfl) ?_
  refine lv_aload_n hx hb dL_law_978 rfl (lv_at hl 3 rfl) ?_
  refine lv_iload_n hx hb dL_law_979 rfl (lv_at hl 0 rfl) ?_
  refine lv_iconst (v := 1) hx hb dL_law_980 (by decide) ?_
  refine lv_iadd hx hb dL_law_981 ?_
  refine lv_topi (fun y_8 ey_8 => ?_)
  have ty_8 := i_add (a := ii.toInt) (b := 1) rfl (by decide) ey_8 (by omega) (by omega)
  refine va_sld hx hb hX hbl hbA hS (i := y_8) (vp_of (a := y_8.toInt) rfl (by omega) (by omega)) dL_law_982 ?_
  refine lv_topi (fun y_9 ey_9 => ?_)
  have e_y_9 : y_9 = y_2 := by rw [ey_9, ey_2, ey_8, ey_1]
  have q_y_9 : y_9.toInt = y_2.toInt := by rw [ey_9, ey_2, ey_8, ey_1]
  have hPc : va_P (dC, dI) vwCl (mW zad zkc zx0 zx1 zx2 zx3 zx4 zx5 zx6 zx7 zx8 zx9 zx10 zx11 zx12 zx13 zx14 zx15 zx16 zx17 zx18 zx19 zx20 zx21 zf0 zf1 zf2 zf3 zf4 zf5 zf6 zf7 zf8 zf9 zf10 zf11 zf12 zf13 zf14 zf15 zf16 zf17 zf18 zf19 zf20 zf21 zL zN zP zM zO) H := p_sub hP (fun _ hq => List.mem_append_right _ (List.mem_append_right _ hq))
  have hKc := hKM
  have hDc : va_D (fun q : Nat => s.heap.size ≤ q) (mW zad zkc zx0 zx1 zx2 zx3 zx4 zx5 zx6 zx7 zx8 zx9 zx10 zx11 zx12 zx13 zx14 zx15 zx16 zx17 zx18 zx19 zx20 zx21 zf0 zf1 zf2 zf3 zf4 zf5 zf6 zf7 zf8 zf9 zf10 zf11 zf12 zf13 zf14 zf15 zf16 zf17 zf18 zf19 zf20 zf21 zL zN zP zM zO) := D_right (D_right hD)
  have hFc := m_free hDc hS hA
  have hQAc : ∀ q ∈ W2, ¬ va_A (mW zad zkc zx0 zx1 zx2 zx3 zx4 zx5 zx6 zx7 zx8 zx9 zx10 zx11 zx12 zx13 zx14 zx15 zx16 zx17 zx18 zx19 zx20 zx21 zf0 zf1 zf2 zf3 zf4 zf5 zf6 zf7 zf8 zf9 zf10 zf11 zf12 zf13 zf14 zf15 zf16 zf17 zf18 zf19 zf20 zf21 zL zN zP zM zO) H.size q.1 := qn_A hQ hQN (fun x hx => List.mem_append_right _ (List.mem_append_right _ hx))
  refine va_calli (va_runV (As := [.int y_9]) (rest := []) ⟨hx, hb, hml, hown, hts⟩ (m_drop l dC dI zad zkc zx0 zx1 zx2 zx3 zx4 zx5 zx6 zx7 zx8 zx9 zx10 zx11 zx12 zx13 zx14 zx15 zx16 zx17 zx18 zx19 zx20 zx21 zf0 zf1 zf2 zf3 zf4 zf5 zf6 zf7 zf8 zf9 zf10 zf11 zf12 zf13 zf14 zf15 zf16 zf17 zf18 zf19 zf20 zf21 zL zN zP zM zO H.size y_9 hmi) (cwV 1 hts mg_L_X10_drop rfl rfl rfl (by decide +kernel) ⟨Nat.le_of_ble_eq_true rfl, Nat.le_of_ble_eq_true rfl⟩) ⟨fun a U g mk q => by obtain ⟨q0, q1, qP, qK, qD⟩ := q; exact ⟨q0, q1, qP, va_K.moved (u := U) (U := U.calling g mk a) (Vm.Alike.refl U.vm) qK, qD⟩, va_recv hKc hPc (ci := 10) (q0 := 0) rfl rfl, fun U hU hW => ⟨rfl, by rw [hU], by rw [hU]; exact hPc, va_K.moved hW.alike hKc, hDc.weaken (fun _ _ _ _ => trivial)⟩⟩ rfl rfl hl.1 rfl (lv_room (Nat.le_of_ble_eq_true rfl)) dL_law_983 ⟨by show (kc9 + 2) + 0 ≤ 600000; omega, by show (ks9 + 13) + 0 ≤ 7302250; omega⟩) hS (fun q _ h => hFc q h) hFc (fun r_10 u t H1 locs ht hvm hw hB hz1 hk1 hS => ?_)
  have hQo := hQ
  have hQ := qn_P hQ hQAc hk1
  have hwu := hw
  have hwt_r_10 := congrArg Int32.toInt hw
  obtain ⟨zx_11, zx_12, zf_13, h_14, hP1, hK1, hD1⟩ := hB
  rw [ht] at hP1
  have rg_zx_11 := i_rng zx_11
  have rg_zx_12 := i_rng zx_12
  have hass := (pm_as (a := [(gt, .inr (9, [.int w_5, .ref tp, .int td, .int fk, .int fpl, .ref b_6, .int w_7, .ref mb, .ref mu, .int mk, .ref rd, .ref cm, .ref wk, .ref pp, .ref so, .ref ty])), (tp, .inl (ctp, 900, .inl ftp)), (mb, .inl (cmb, 3, .inr (.inr (.inr (.inr fmb))))), (mu, .inl (cmu, 3, .inl fmu)), (rd, .inr (6, rF r q0 q1 q2 q3 q4 q5 q6 q7)), (r 0, .inl (cb0, 18, .inl fb0)), (r 1, .inl (cb1, 18, .inl fb1)), (r 2, .inl (cb2, 18, .inl fb2)), (wk, .inr (8, [.int x0, .int x1, .ref li])), (li, .inl (cli, 24, .inl fli)), (pp, .inl (cpp, 60, .inl fpp)), (so, .inl (cso, 60, .inl fso)), (ty, .inl (cty, 26, .inl fty)), (cm, .inr (1, [.ref kA, .ref kB, .ref kG, .ref (ad 12 0), .ref o3, .ref e4, .ref e5, .ref kC, .ref kF, .ref kT, .int spn])), (kA, .inl (cA9, 6, .inr (.inr (.inr (.inr (fun i => some (ad i 0))))))), (kB, .inl (cB, 6, .inr (.inr (.inr (.inr (fun i => some (ad (6 + i) 0))))))), (kG, .inl (cg9, 6, .inl fG)), (o3, .inr (7, [.ref r3, .int n3])), (r3, .inl (c3, 6, .inr (.inl f3))), (e4, .inr (3, [.int (nI R4), .ref t4, .ref s4, .int m4])), (t4, .inl (ct4, 24 * R4, .inl ft4)), (s4, .inl (cs4, R4, .inl fs4)), (e5, .inr (3, [.int (nI R5), .ref t5, .ref s5, .int m5])), (t5, .inl (ct5, 24 * R5, .inl ft5)), (s5, .inl (cs5, R5, .inl fs5)), (kC, .inl (cC, 24, .inl fC)), (kF, .inl (cF, 24, .inl fF)), (kT, .inl (cT, 26, .inl fT))]) (b := cPL ad ca vi vl vf (List.range 13)) (c := mW zad zkc zx0 zx1 zx2 zx3 zx4 zx5 zx6 zx7 zx8 zx9 zx10 zx11 zx12 zx13 zx14 zx15 zx16 zx17 zx18 zx19 zx20 zx21 zf0 zf1 zf2 zf3 zf4 zf5 zf6 zf7 zf8 zf9 zf10 zf11 zf12 zf13 zf14 zf15 zf16 zf17 zf18 zf19 zf20 zf21 zL zN zP zM zO)).symm
  obtain ⟨hPx, hDx⟩ := pm_join hP hD hass hk1 hFc hP1 hD1
  rw [List.append_assoc] at hPx hDx
  have hQNx := qn_app (qn_sub hQN (fun x hx => List.mem_append_left _ hx)) (qn_app (qn_sub hQN (fun x hx => List.mem_append_right _ (List.mem_append_left _ hx))) (qn_new hQAc hD1))
  have hP := hPx
  have hD := hDx
  have hQN := hQNx
  generalize H1 = H at hP hS hQ ⊢
  have hmi9 := h_14
  refine lv_pop hx hb dL_law_986 rfl ?_
  refine lv_goto (tgt := 1128) hx hb dL_law_987 (by decide) ?_
  refine W.widen (k := kc9 + 195) (n := ks9 + 10960) (by omega) (by omega) ?_
  exact kk H _ ls tp b_6 mb mu rd cm wk pp so ty li w_5 td fk fpl w_7 mk x0 x1 q0 q1 q2 q3 q4 q5 q6 q7 r ctp cmb cmu cb0 cb1 cb2 cli cpp cso cty ftp fmu fb0 fb1 fb2 fli fpp fso fty fmb spn kG cg9 fG o3 r3 c3 f3 n3 e4 t4 s4 R4 ct4 cs4 ft4 fs4 m4 e5 t5 s5 R5 ct5 cs5 ft5 fs5 m5 kC cC fC kF cF fF kT cT fT kA kB cA9 cB ad ca vi vl vf W2 T2 B2 zad zkc zx_11 zx_12 zx2 zx3 zx4 zx5 zx6 zx7 zx8 zx9 zx10 zx11 zx12 zx13 zx14 zx15 zx16 zx17 zx18 zx19 zx20 zx21 zf_13 zf1 zf2 zf3 zf4 zf5 zf6 zf7 zf8 zf9 zf10 zf11 zf12 zf13 zf14 zf15 zf16 zf17 zf18 zf19 zf20 zf21 zL zN zP zM zO hs1 hs2 ha3 hb3 hR4 hU4 hc4 hd4 hb_fs4 hR5 hU5 hc5 hd5 hb_fs5 hG (by omega) (by omega) hM hB9 hbk rfl hmi9 (by omega) (by omega) hrt hK hKC hKM hKQ hP hD hQ hQN hS hl

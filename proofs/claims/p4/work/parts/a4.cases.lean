theorem dL_law_554 : decode cL_law 554 = .ok (.aload_n 1, 1) := by decide +kernel
theorem dL_law_555 : decode cL_law 555 = .ok (.aload_n 0, 1) := by decide +kernel
theorem dL_law_556 : decode cL_law 556 = .ok (.iload_n 3, 1) := by decide +kernel
theorem dL_law_557 : decode cL_law 557 = .ok (.iconst 1, 1) := by decide +kernel
theorem dL_law_558 : decode cL_law 558 = .ok (.iadd, 1) := by decide +kernel
theorem dL_law_559 : decode cL_law 559 = .ok (.iaload, 1) := by decide +kernel
theorem dL_law_560 : decode cL_law 560 = .ok (.aload_n 0, 1) := by decide +kernel
theorem dL_law_561 : decode cL_law 561 = .ok (.iload_n 3, 1) := by decide +kernel
theorem dL_law_562 : decode cL_law 562 = .ok (.iconst 2, 1) := by decide +kernel
theorem dL_law_563 : decode cL_law 563 = .ok (.iadd, 1) := by decide +kernel
theorem dL_law_564 : decode cL_law 564 = .ok (.iaload, 1) := by decide +kernel
theorem dL_law_565 : decode cL_law 565 = .ok (.invokevirtual 66, 3) := by decide +kernel
theorem dL_law_568 : decode cL_law 568 = .ok (.pop, 1) := by decide +kernel
theorem dL_law_569 : decode cL_law 569 = .ok (.aload_n 2, 1) := by decide +kernel
theorem dL_law_570 : decode cL_law 570 = .ok (.aload_n 0, 1) := by decide +kernel
theorem dL_law_571 : decode cL_law 571 = .ok (.iload_n 3, 1) := by decide +kernel
theorem dL_law_572 : decode cL_law 572 = .ok (.iconst 1, 1) := by decide +kernel
theorem dL_law_573 : decode cL_law 573 = .ok (.iadd, 1) := by decide +kernel
theorem dL_law_574 : decode cL_law 574 = .ok (.iaload, 1) := by decide +kernel
theorem dL_law_575 : decode cL_law 575 = .ok (.aload_n 0, 1) := by decide +kernel
theorem dL_law_576 : decode cL_law 576 = .ok (.iload_n 3, 1) := by decide +kernel
theorem dL_law_577 : decode cL_law 577 = .ok (.iconst 2, 1) := by decide +kernel
theorem dL_law_578 : decode cL_law 578 = .ok (.iadd, 1) := by decide +kernel
theorem dL_law_579 : decode cL_law 579 = .ok (.iaload, 1) := by decide +kernel
theorem dL_law_580 : decode cL_law 580 = .ok (.invokevirtual 69, 3) := by decide +kernel
theorem dL_law_583 : decode cL_law 583 = .ok (.pop, 1) := by decide +kernel
theorem dL_law_584 : decode cL_law 584 = .ok (.goto 544, 3) := by decide +kernel
set_option maxHeartbeats 4000000 in
set_option maxRecDepth 100000 in
/-- the law: list -/
theorem law_case12 {p : Program} {l : Launch} {e : Env} {s : State} {m : MethodId} {below : List Frame} {meth : Method} {c : Code} {dC : Nat → ClassId} {dI : Nat → Nat → Nat} {b L : Nat} {xs : Nat → Int32} (hLL : L ≤ 3072) (C0 : lw_At p s m meth c b L xs) (hLX : LX s) {gt mo : Nat} {H : Heap} {locs : List Loc} {kc9 ks9 : Nat} (hc9 : kc9 + 195 ≤ 600000) (hs9 : ks9 + 10960 ≤ 7302250) {ii : Int32} (hii : 0 ≤ ii.toInt ∧ ii.toInt + 6 ≤ L) {ls : Array Slot} (kk : ∀ (H1 : Heap) (locs1 : List Loc) (ls : Array Slot), LI dC dI s gt mo H1 (va_S (fun q : Nat => s.heap.size ≤ q) s.heap H1 locs1 → lv_has ls 4 [(3, .int ii), (2, .ref mo), (1, .ref gt), (0, .ref b)] → W p l e room_1 s m #[Value.ref b] below meth c H1 locs1 (kc9 + 195) (ks9 + 10960) (lw_Z below #[Value.ref b] s) (F0 m 1128 ls []))) : LI dC dI s gt mo H (va_S (fun q : Nat => s.heap.size ≤ q) s.heap H locs → lv_has ls 4 [(3, .int ii), (2, .ref mo), (1, .ref gt), (0, .ref b)] → W p l e room_1 s m #[Value.ref b] below meth c H locs kc9 ks9 (lw_Z below #[Value.ref b] s) (F0 m 554 ls [])) := by
  obtain ⟨hx, hb, hr, hml, hown, hts, hX, hbl, hlocks, hgv⟩ := id C0
  have hown : s.vm.findClass RL = some m.cls := hown
  have hA : ∀ q : Nat, s.heap.size ≤ q → (fun q : Nat => s.heap.size ≤ q) q := fun _ h => h
  have hbA : ¬ (fun q : Nat => s.heap.size ≤ q) b := Nat.not_le.mpr hbl
  obtain ⟨hcl, hcld, hAO2, hAO5, hN53, hN160, hSR, hSW, hSR2, hSW2, hOV⟩ := hLX
  unfold LI
  intro tp bk mb mu rd cm wk pp so ty li st9 td fk fpl un mk x0 x1 q0 q1 q2 q3 q4 q5 q6 q7 r ctp cmb cmu cb0 cb1 cb2 cli cpp cso cty ftp fmu fb0 fb1 fb2 fli fpp fso fty fmb spn kG cg9 fG o3 r3 c3 f3 n3 e4 t4 s4 R4 ct4 cs4 ft4 fs4 m4 e5 t5 s5 R5 ct5 cs5 ft5 fs5 m5 kC cC fC kF cF fF kT cT fT kA kB cA9 cB ad ca vi vl vf W9 T9 B9 zad zkc zx0 zx1 zx2 zx3 zx4 zx5 zx6 zx7 zx8 zx9 zx10 zx11 zx12 zx13 zx14 zx15 zx16 zx17 zx18 zx19 zx20 zx21 zf0 zf1 zf2 zf3 zf4 zf5 zf6 zf7 zf8 zf9 zf10 zf11 zf12 zf13 zf14 zf15 zf16 zf17 zf18 zf19 zf20 zf21 zL zN zP zM zO hs1 hs2 ha3 hb3 hR4 hU4 hc4 hd4 hb_fs4 hR5 hU5 hc5 hd5 hb_fs5 hG htd hmk hM hB9 hbk hmo hmi hzk hzt hrt hK hKC hKM hKQ hP hD hQ hQN hS hl
  subst hmo
  have rg_td := i_rng td
  have rg_mk := i_rng mk
  have rg_zx2 := i_rng zx2
  have rg_zx3 := i_rng zx3
  refine lv_aload_n hx hb dL_law_554 rfl (lv_at hl 2 rfl) ?_
  refine lv_aload_n hx hb dL_law_555 rfl (lv_at hl 3 rfl) ?_
  refine lv_iload_n hx hb dL_law_556 rfl (lv_at hl 0 rfl) ?_
  refine lv_iconst (v := 1) hx hb dL_law_557 (by decide) ?_
  refine lv_iadd hx hb dL_law_558 ?_
  refine lv_topi (fun y_1 ey_1 => ?_)
  have ty_1 := i_add (a := ii.toInt) (b := 1) rfl (by decide) ey_1 (by omega) (by omega)
  refine va_sld hx hb hX hbl hbA hS (i := y_1) (vp_of (a := y_1.toInt) rfl (by omega) (by omega)) dL_law_559 ?_
  refine lv_topi (fun y_2 ey_2 => ?_)
  refine lv_aload_n hx hb dL_law_560 rfl (lv_at hl 3 rfl) ?_
  refine lv_iload_n hx hb dL_law_561 rfl (lv_at hl 0 rfl) ?_
  refine lv_iconst (v := 2) hx hb dL_law_562 (by decide) ?_
  refine lv_iadd hx hb dL_law_563 ?_
  refine lv_topi (fun y_3 ey_3 => ?_)
  have ty_3 := i_add (a := ii.toInt) (b := 2) rfl (by decide) ey_3 (by omega) (by omega)
  refine va_sld hx hb hX hbl hbA hS (i := y_3) (vp_of (a := y_3.toInt) rfl (by omega) (by omega)) dL_law_564 ?_
  refine lv_topi (fun y_4 ey_4 => ?_)
  have hPc := hP.sub (ws' := [(gt, .inr (9, [.int st9, .ref tp, .int td, .int fk, .int fpl, .ref bk, .int un, .ref mb, .ref mu, .int mk, .ref rd, .ref cm, .ref wk, .ref pp, .ref so, .ref ty]))]) [0] rfl
  have hKc := hK.sub (tys' := []) [] rfl
  have hDc := hD.sub (ws' := [(gt, .inr (9, [.int st9, .ref tp, .int td, .int fk, .int fpl, .ref bk, .int un, .ref mb, .ref mu, .int mk, .ref rd, .ref cm, .ref wk, .ref pp, .ref so, .ref ty]))]) [0] (by decide) rfl
  have hFc := va_free (wc := [(gt, .inr (9, [.int st9, .ref tp, .int td, .int fk, .int fpl, .ref bk, .int un, .ref mb, .ref mu, .int mk, .ref rd, .ref cm, .ref wk, .ref pp, .ref so, .ref ty]))]) hD hS hA [0] rfl
  have hQAc : ∀ q ∈ W9, ¬ va_A [(gt, .inr (9, [.int st9, .ref tp, .int td, .int fk, .int fpl, .ref bk, .int un, .ref mb, .ref mu, .int mk, .ref rd, .ref cm, .ref wk, .ref pp, .ref so, .ref ty]))] H.size q.1 := qn_A hQ hQN (fun x hx => mem_pl [0] rfl x hx)
  refine va_calli (va_runV (As := [.int y_2, .int y_4]) (rest := []) ⟨hx, hb, hml, hown, hts⟩ (s_g_list l dC dI W9 T9 B9 gt tp bk mb mu rd cm wk pp so ty st9 td fk fpl un mk H.size y_2 y_4 hB9 hbk) (cwV 2 hts mg_L_X9_list rfl rfl rfl (by decide +kernel) ⟨Nat.le_of_ble_eq_true rfl, Nat.le_of_ble_eq_true rfl⟩) ⟨fun a U g mk q => by obtain ⟨q0, q1, qP, qK, qD, qE0, qE1, qE2⟩ := q; exact ⟨q0, q1, qP, va_K.moved (u := U) (U := U.calling g mk a) (Vm.Alike.refl U.vm) qK, qD, qE0, va_K.moved (u := U) (U := U.calling g mk a) (Vm.Alike.refl U.vm) qE1, qE2⟩, va_recv hKc hPc (ci := 9) (q0 := 0) rfl rfl, fun U hU hW => ⟨rfl, by rw [hU], by rw [hU]; exact hPc, va_K.moved hW.alike hKc, hDc.weaken (fun _ _ _ _ => trivial), (by rw [hU]; exact hQ), va_K.moved hW.alike hKQ, hQAc⟩⟩ rfl rfl hl.1 rfl (lv_room (Nat.le_of_ble_eq_true rfl)) dL_law_565 ⟨by show kc9 + 0 ≤ 600000; omega, by show ks9 + 0 ≤ 7302250; omega⟩) hS (fun q _ h => hFc q h) hFc (fun r_5 u_6 t H1 locs ht hvm hw hB hz1 hk1 hS => ?_)
  have hQo := hQ
  have hQ := qn_P hQ hQAc hk1
  obtain ⟨w_7, hP1, hK1, hD1⟩ := hB
  rw [ht] at hP1
  have hQNa := qn_new hQAc hD1
  obtain ⟨hPx, hDx⟩ := va_joinQ (X := [(gt, .inr (9, [.int st9, .ref tp, .int td, .int fk, .int fpl, .ref bk, .int un, .ref mb, .ref mu, .int mk, .ref rd, .ref cm, .ref wk, .ref pp, .ref so, .ref ty])), (tp, .inl (ctp, 900, .inl ftp)), (mb, .inl (cmb, 3, .inr (.inr (.inr (.inr fmb))))), (mu, .inl (cmu, 3, .inl fmu)), (rd, .inr (6, rF r q0 q1 q2 q3 q4 q5 q6 q7)), (r 0, .inl (cb0, 18, .inl fb0)), (r 1, .inl (cb1, 18, .inl fb1)), (r 2, .inl (cb2, 18, .inl fb2)), (wk, .inr (8, [.int x0, .int x1, .ref li])), (li, .inl (cli, 24, .inl fli)), (pp, .inl (cpp, 60, .inl fpp)), (so, .inl (cso, 60, .inl fso)), (ty, .inl (cty, 26, .inl fty)), (cm, .inr (1, [.ref kA, .ref kB, .ref kG, .ref (ad 12 0), .ref o3, .ref e4, .ref e5, .ref kC, .ref kF, .ref kT, .int spn])), (kA, .inl (cA9, 6, .inr (.inr (.inr (.inr (fun i => some (ad i 0))))))), (kB, .inl (cB, 6, .inr (.inr (.inr (.inr (fun i => some (ad (6 + i) 0))))))), (kG, .inl (cg9, 6, .inl fG)), (o3, .inr (7, [.ref r3, .int n3])), (r3, .inl (c3, 6, .inr (.inl f3))), (e4, .inr (3, [.int (nI R4), .ref t4, .ref s4, .int m4])), (t4, .inl (ct4, 24 * R4, .inl ft4)), (s4, .inl (cs4, R4, .inl fs4)), (e5, .inr (3, [.int (nI R5), .ref t5, .ref s5, .int m5])), (t5, .inl (ct5, 24 * R5, .inl ft5)), (s5, .inl (cs5, R5, .inl fs5)), (kC, .inl (cC, 24, .inl fC)), (kF, .inl (cF, 24, .inl fF)), (kT, .inl (cT, 26, .inl fT))]) (cx := [(gt, .inr (9, [.int st9, .ref tp, .int td, .int fk, .int fpl, .ref bk, .int un, .ref mb, .ref mu, .int mk, .ref rd, .ref cm, .ref wk, .ref pp, .ref so, .ref ty]))]) (wr := [(tp, .inl (ctp, 900, .inl ftp)), (mb, .inl (cmb, 3, .inr (.inr (.inr (.inr fmb))))), (mu, .inl (cmu, 3, .inl fmu)), (rd, .inr (6, rF r q0 q1 q2 q3 q4 q5 q6 q7)), (r 0, .inl (cb0, 18, .inl fb0)), (r 1, .inl (cb1, 18, .inl fb1)), (r 2, .inl (cb2, 18, .inl fb2)), (wk, .inr (8, [.int x0, .int x1, .ref li])), (li, .inl (cli, 24, .inl fli)), (pp, .inl (cpp, 60, .inl fpp)), (so, .inl (cso, 60, .inl fso)), (ty, .inl (cty, 26, .inl fty)), (cm, .inr (1, [.ref kA, .ref kB, .ref kG, .ref (ad 12 0), .ref o3, .ref e4, .ref e5, .ref kC, .ref kF, .ref kT, .int spn])), (kA, .inl (cA9, 6, .inr (.inr (.inr (.inr (fun i => some (ad i 0))))))), (kB, .inl (cB, 6, .inr (.inr (.inr (.inr (fun i => some (ad (6 + i) 0))))))), (kG, .inl (cg9, 6, .inl fG)), (o3, .inr (7, [.ref r3, .int n3])), (r3, .inl (c3, 6, .inr (.inl f3))), (e4, .inr (3, [.int (nI R4), .ref t4, .ref s4, .int m4])), (t4, .inl (ct4, 24 * R4, .inl ft4)), (s4, .inl (cs4, R4, .inl fs4)), (e5, .inr (3, [.int (nI R5), .ref t5, .ref s5, .int m5])), (t5, .inl (ct5, 24 * R5, .inl ft5)), (s5, .inl (cs5, R5, .inl fs5)), (kC, .inl (cC, 24, .inl fC)), (kF, .inl (cF, 24, .inl fF)), (kT, .inl (cT, 26, .inl fT))]) (w1 := [(gt, .inr (9, [.int w_7, .ref tp, .int td, .int fk, .int fpl, .ref bk, .int un, .ref mb, .ref mu, .int mk, .ref rd, .ref cm, .ref wk, .ref pp, .ref so, .ref ty]))]) (pl := (cPL ad ca vi vl vf (List.range 13) ++ mW zad zkc zx0 zx1 zx2 zx3 zx4 zx5 zx6 zx7 zx8 zx9 zx10 zx11 zx12 zx13 zx14 zx15 zx16 zx17 zx18 zx19 zx20 zx21 zf0 zf1 zf2 zf3 zf4 zf5 zf6 zf7 zf8 zf9 zf10 zf11 zf12 zf13 zf14 zf15 zf16 zf17 zf18 zf19 zf20 zf21 zL zN zP zM zO)) hP hD [0] [1, 2, 3, 4, 5, 6, 7, 8, 9, 10, 11, 12, 13, 14, 15, 16, 17, 18, 19, 20, 21, 22, 23, 24, 25, 26, 27] rfl rfl (by decide) (by decide) hk1 hFc hP1 hD1
  have hPx := t_P (cx := [(gt, .inr (9, [.int w_7, .ref tp, .int td, .int fk, .int fpl, .ref bk, .int un, .ref mb, .ref mu, .int mk, .ref rd, .ref cm, .ref wk, .ref pp, .ref so, .ref ty])), (tp, .inl (ctp, 900, .inl ftp)), (mb, .inl (cmb, 3, .inr (.inr (.inr (.inr fmb))))), (mu, .inl (cmu, 3, .inl fmu)), (rd, .inr (6, rF r q0 q1 q2 q3 q4 q5 q6 q7)), (r 0, .inl (cb0, 18, .inl fb0)), (r 1, .inl (cb1, 18, .inl fb1)), (r 2, .inl (cb2, 18, .inl fb2)), (wk, .inr (8, [.int x0, .int x1, .ref li])), (li, .inl (cli, 24, .inl fli)), (pp, .inl (cpp, 60, .inl fpp)), (so, .inl (cso, 60, .inl fso)), (ty, .inl (cty, 26, .inl fty)), (cm, .inr (1, [.ref kA, .ref kB, .ref kG, .ref (ad 12 0), .ref o3, .ref e4, .ref e5, .ref kC, .ref kF, .ref kT, .int spn])), (kA, .inl (cA9, 6, .inr (.inr (.inr (.inr (fun i => some (ad i 0))))))), (kB, .inl (cB, 6, .inr (.inr (.inr (.inr (fun i => some (ad (6 + i) 0))))))), (kG, .inl (cg9, 6, .inl fG)), (o3, .inr (7, [.ref r3, .int n3])), (r3, .inl (c3, 6, .inr (.inl f3))), (e4, .inr (3, [.int (nI R4), .ref t4, .ref s4, .int m4])), (t4, .inl (ct4, 24 * R4, .inl ft4)), (s4, .inl (cs4, R4, .inl fs4)), (e5, .inr (3, [.int (nI R5), .ref t5, .ref s5, .int m5])), (t5, .inl (ct5, 24 * R5, .inl ft5)), (s5, .inl (cs5, R5, .inl fs5)), (kC, .inl (cC, 24, .inl fC)), (kF, .inl (cF, 24, .inl fF)), (kT, .inl (cT, 26, .inl fT))]) hPx [27, 0, 1, 2, 3, 4, 5, 6, 7, 8, 9, 10, 11, 12, 13, 14, 15, 16, 17, 18, 19, 20, 21, 22, 23, 24, 25, 26] rfl
  have hDx := va_D.part (cx := [(gt, .inr (9, [.int w_7, .ref tp, .int td, .int fk, .int fpl, .ref bk, .int un, .ref mb, .ref mu, .int mk, .ref rd, .ref cm, .ref wk, .ref pp, .ref so, .ref ty])), (tp, .inl (ctp, 900, .inl ftp)), (mb, .inl (cmb, 3, .inr (.inr (.inr (.inr fmb))))), (mu, .inl (cmu, 3, .inl fmu)), (rd, .inr (6, rF r q0 q1 q2 q3 q4 q5 q6 q7)), (r 0, .inl (cb0, 18, .inl fb0)), (r 1, .inl (cb1, 18, .inl fb1)), (r 2, .inl (cb2, 18, .inl fb2)), (wk, .inr (8, [.int x0, .int x1, .ref li])), (li, .inl (cli, 24, .inl fli)), (pp, .inl (cpp, 60, .inl fpp)), (so, .inl (cso, 60, .inl fso)), (ty, .inl (cty, 26, .inl fty)), (cm, .inr (1, [.ref kA, .ref kB, .ref kG, .ref (ad 12 0), .ref o3, .ref e4, .ref e5, .ref kC, .ref kF, .ref kT, .int spn])), (kA, .inl (cA9, 6, .inr (.inr (.inr (.inr (fun i => some (ad i 0))))))), (kB, .inl (cB, 6, .inr (.inr (.inr (.inr (fun i => some (ad (6 + i) 0))))))), (kG, .inl (cg9, 6, .inl fG)), (o3, .inr (7, [.ref r3, .int n3])), (r3, .inl (c3, 6, .inr (.inl f3))), (e4, .inr (3, [.int (nI R4), .ref t4, .ref s4, .int m4])), (t4, .inl (ct4, 24 * R4, .inl ft4)), (s4, .inl (cs4, R4, .inl fs4)), (e5, .inr (3, [.int (nI R5), .ref t5, .ref s5, .int m5])), (t5, .inl (ct5, 24 * R5, .inl ft5)), (s5, .inl (cs5, R5, .inl fs5)), (kC, .inl (cC, 24, .inl fC)), (kF, .inl (cF, 24, .inl fF)), (kT, .inl (cT, 26, .inl fT))]) hDx [27, 0, 1, 2, 3, 4, 5, 6, 7, 8, 9, 10, 11, 12, 13, 14, 15, 16, 17, 18, 19, 20, 21, 22, 23, 24, 25, 26] (by decide) rfl
  have hm9 : List.map Prod.fst ([(gt, .inr (9, [.int w_7, .ref tp, .int td, .int fk, .int fpl, .ref bk, .int un, .ref mb, .ref mu, .int mk, .ref rd, .ref cm, .ref wk, .ref pp, .ref so, .ref ty])), (tp, .inl (ctp, 900, .inl ftp)), (mb, .inl (cmb, 3, .inr (.inr (.inr (.inr fmb))))), (mu, .inl (cmu, 3, .inl fmu)), (rd, .inr (6, rF r q0 q1 q2 q3 q4 q5 q6 q7)), (r 0, .inl (cb0, 18, .inl fb0)), (r 1, .inl (cb1, 18, .inl fb1)), (r 2, .inl (cb2, 18, .inl fb2)), (wk, .inr (8, [.int x0, .int x1, .ref li])), (li, .inl (cli, 24, .inl fli)), (pp, .inl (cpp, 60, .inl fpp)), (so, .inl (cso, 60, .inl fso)), (ty, .inl (cty, 26, .inl fty)), (cm, .inr (1, [.ref kA, .ref kB, .ref kG, .ref (ad 12 0), .ref o3, .ref e4, .ref e5, .ref kC, .ref kF, .ref kT, .int spn])), (kA, .inl (cA9, 6, .inr (.inr (.inr (.inr (fun i => some (ad i 0))))))), (kB, .inl (cB, 6, .inr (.inr (.inr (.inr (fun i => some (ad (6 + i) 0))))))), (kG, .inl (cg9, 6, .inl fG)), (o3, .inr (7, [.ref r3, .int n3])), (r3, .inl (c3, 6, .inr (.inl f3))), (e4, .inr (3, [.int (nI R4), .ref t4, .ref s4, .int m4])), (t4, .inl (ct4, 24 * R4, .inl ft4)), (s4, .inl (cs4, R4, .inl fs4)), (e5, .inr (3, [.int (nI R5), .ref t5, .ref s5, .int m5])), (t5, .inl (ct5, 24 * R5, .inl ft5)), (s5, .inl (cs5, R5, .inl fs5)), (kC, .inl (cC, 24, .inl fC)), (kF, .inl (cF, 24, .inl fF)), (kT, .inl (cT, 26, .inl fT))] ++ (cPL ad ca vi vl vf (List.range 13) ++ mW zad zkc zx0 zx1 zx2 zx3 zx4 zx5 zx6 zx7 zx8 zx9 zx10 zx11 zx12 zx13 zx14 zx15 zx16 zx17 zx18 zx19 zx20 zx21 zf0 zf1 zf2 zf3 zf4 zf5 zf6 zf7 zf8 zf9 zf10 zf11 zf12 zf13 zf14 zf15 zf16 zf17 zf18 zf19 zf20 zf21 zL zN zP zM zO) : va_W) = List.map Prod.fst ([(gt, .inr (9, [.int st9, .ref tp, .int td, .int fk, .int fpl, .ref bk, .int un, .ref mb, .ref mu, .int mk, .ref rd, .ref cm, .ref wk, .ref pp, .ref so, .ref ty])), (tp, .inl (ctp, 900, .inl ftp)), (mb, .inl (cmb, 3, .inr (.inr (.inr (.inr fmb))))), (mu, .inl (cmu, 3, .inl fmu)), (rd, .inr (6, rF r q0 q1 q2 q3 q4 q5 q6 q7)), (r 0, .inl (cb0, 18, .inl fb0)), (r 1, .inl (cb1, 18, .inl fb1)), (r 2, .inl (cb2, 18, .inl fb2)), (wk, .inr (8, [.int x0, .int x1, .ref li])), (li, .inl (cli, 24, .inl fli)), (pp, .inl (cpp, 60, .inl fpp)), (so, .inl (cso, 60, .inl fso)), (ty, .inl (cty, 26, .inl fty)), (cm, .inr (1, [.ref kA, .ref kB, .ref kG, .ref (ad 12 0), .ref o3, .ref e4, .ref e5, .ref kC, .ref kF, .ref kT, .int spn])), (kA, .inl (cA9, 6, .inr (.inr (.inr (.inr (fun i => some (ad i 0))))))), (kB, .inl (cB, 6, .inr (.inr (.inr (.inr (fun i => some (ad (6 + i) 0))))))), (kG, .inl (cg9, 6, .inl fG)), (o3, .inr (7, [.ref r3, .int n3])), (r3, .inl (c3, 6, .inr (.inl f3))), (e4, .inr (3, [.int (nI R4), .ref t4, .ref s4, .int m4])), (t4, .inl (ct4, 24 * R4, .inl ft4)), (s4, .inl (cs4, R4, .inl fs4)), (e5, .inr (3, [.int (nI R5), .ref t5, .ref s5, .int m5])), (t5, .inl (ct5, 24 * R5, .inl ft5)), (s5, .inl (cs5, R5, .inl fs5)), (kC, .inl (cC, 24, .inl fC)), (kF, .inl (cF, 24, .inl fF)), (kT, .inl (cT, 26, .inl fT))] ++ (cPL ad ca vi vl vf (List.range 13) ++ mW zad zkc zx0 zx1 zx2 zx3 zx4 zx5 zx6 zx7 zx8 zx9 zx10 zx11 zx12 zx13 zx14 zx15 zx16 zx17 zx18 zx19 zx20 zx21 zf0 zf1 zf2 zf3 zf4 zf5 zf6 zf7 zf8 zf9 zf10 zf11 zf12 zf13 zf14 zf15 zf16 zf17 zf18 zf19 zf20 zf21 zL zN zP zM zO) : va_W) := rfl
  have hQNx := qn_fst hQN hm9
  have hQN := hQNx
  clear hQNx hQAc hFc hDc hPc hKc
  have hP := hPx
  have hD := hDx
  clear hPx hDx
  generalize H1 = H at hP hS hQ ⊢
  refine lv_pop hx hb dL_law_568 rfl ?_
  refine lv_aload_n hx hb dL_law_569 rfl (lv_at hl 1 rfl) ?_
  refine lv_aload_n hx hb dL_law_570 rfl (lv_at hl 3 rfl) ?_
  refine lv_iload_n hx hb dL_law_571 rfl (lv_at hl 0 rfl) ?_
  refine lv_iconst (v := 1) hx hb dL_law_572 (by decide) ?_
  refine lv_iadd hx hb dL_law_573 ?_
  refine lv_topi (fun y_8 ey_8 => ?_)
  have ty_8 := i_add (a := ii.toInt) (b := 1) rfl (by decide) ey_8 (by omega) (by omega)
  refine va_sld hx hb hX hbl hbA hS (i := y_8) (vp_of (a := y_8.toInt) rfl (by omega) (by omega)) dL_law_574 ?_
  refine lv_topi (fun y_9 ey_9 => ?_)
  have e_y_9 : y_9 = y_2 := by rw [ey_9, ey_2, ey_8, ey_1]
  have q_y_9 : y_9.toInt = y_2.toInt := by rw [ey_9, ey_2, ey_8, ey_1]
  refine lv_aload_n hx hb dL_law_575 rfl (lv_at hl 3 rfl) ?_
  refine lv_iload_n hx hb dL_law_576 rfl (lv_at hl 0 rfl) ?_
  refine lv_iconst (v := 2) hx hb dL_law_577 (by decide) ?_
  refine lv_iadd hx hb dL_law_578 ?_
  refine lv_topi (fun y_10 ey_10 => ?_)
  have ty_10 := i_add (a := ii.toInt) (b := 2) rfl (by decide) ey_10 (by omega) (by omega)
  refine va_sld hx hb hX hbl hbA hS (i := y_10) (vp_of (a := y_10.toInt) rfl (by omega) (by omega)) dL_law_579 ?_
  refine lv_topi (fun y_11 ey_11 => ?_)
  have e_y_11 : y_11 = y_4 := by rw [ey_11, ey_4, ey_10, ey_3]
  have q_y_11 : y_11.toInt = y_4.toInt := by rw [ey_11, ey_4, ey_10, ey_3]
  have hPc : va_P (dC, dI) vwCl (mW zad zkc zx0 zx1 zx2 zx3 zx4 zx5 zx6 zx7 zx8 zx9 zx10 zx11 zx12 zx13 zx14 zx15 zx16 zx17 zx18 zx19 zx20 zx21 zf0 zf1 zf2 zf3 zf4 zf5 zf6 zf7 zf8 zf9 zf10 zf11 zf12 zf13 zf14 zf15 zf16 zf17 zf18 zf19 zf20 zf21 zL zN zP zM zO) H := p_sub hP (fun _ hq => List.mem_append_right _ (List.mem_append_right _ hq))
  have hKc := hKM
  have hDc : va_D (fun q : Nat => s.heap.size ≤ q) (mW zad zkc zx0 zx1 zx2 zx3 zx4 zx5 zx6 zx7 zx8 zx9 zx10 zx11 zx12 zx13 zx14 zx15 zx16 zx17 zx18 zx19 zx20 zx21 zf0 zf1 zf2 zf3 zf4 zf5 zf6 zf7 zf8 zf9 zf10 zf11 zf12 zf13 zf14 zf15 zf16 zf17 zf18 zf19 zf20 zf21 zL zN zP zM zO) := D_right (D_right hD)
  have hFc := m_free hDc hS hA
  have hQAc : ∀ q ∈ W9, ¬ va_A (mW zad zkc zx0 zx1 zx2 zx3 zx4 zx5 zx6 zx7 zx8 zx9 zx10 zx11 zx12 zx13 zx14 zx15 zx16 zx17 zx18 zx19 zx20 zx21 zf0 zf1 zf2 zf3 zf4 zf5 zf6 zf7 zf8 zf9 zf10 zf11 zf12 zf13 zf14 zf15 zf16 zf17 zf18 zf19 zf20 zf21 zL zN zP zM zO) H.size q.1 := qn_A hQ hQN (fun x hx => List.mem_append_right _ (List.mem_append_right _ hx))
  refine va_calli (va_runV (As := [.int y_9, .int y_11]) (rest := []) ⟨hx, hb, hml, hown, hts⟩ (m_list l dC dI zad zkc zx0 zx1 zx2 zx3 zx4 zx5 zx6 zx7 zx8 zx9 zx10 zx11 zx12 zx13 zx14 zx15 zx16 zx17 zx18 zx19 zx20 zx21 zf0 zf1 zf2 zf3 zf4 zf5 zf6 zf7 zf8 zf9 zf10 zf11 zf12 zf13 zf14 zf15 zf16 zf17 zf18 zf19 zf20 zf21 zL zN zP zM zO H.size y_9 y_11 hmi) (cwV 2 hts mg_L_X10_list rfl rfl rfl (by decide +kernel) ⟨Nat.le_of_ble_eq_true rfl, Nat.le_of_ble_eq_true rfl⟩) ⟨fun a U g mk q => by obtain ⟨q0, q1, qP, qK, qD⟩ := q; exact ⟨q0, q1, qP, va_K.moved (u := U) (U := U.calling g mk a) (Vm.Alike.refl U.vm) qK, qD⟩, va_recv hKc hPc (ci := 10) (q0 := 0) rfl rfl, fun U hU hW => ⟨rfl, by rw [hU], by rw [hU]; exact hPc, va_K.moved hW.alike hKc, hDc.weaken (fun _ _ _ _ => trivial)⟩⟩ rfl rfl hl.1 rfl (lv_room (Nat.le_of_ble_eq_true rfl)) dL_law_580 ⟨by show kc9 + 0 ≤ 600000; omega, by show ks9 + 0 ≤ 7302250; omega⟩) hS (fun q _ h => hFc q h) hFc (fun r_12 u t H1 locs ht hvm hw hB hz1 hk1 hS => ?_)
  have hQo := hQ
  have hQ := qn_P hQ hQAc hk1
  have hwu := hw
  have hwt_r_12 := congrArg Int32.toInt hw
  obtain ⟨zx_13, hP1, hK1, hD1⟩ := hB
  rw [ht] at hP1
  have rg_zx_13 := i_rng zx_13
  have hass := (pm_as (a := [(gt, .inr (9, [.int w_7, .ref tp, .int td, .int fk, .int fpl, .ref bk, .int un, .ref mb, .ref mu, .int mk, .ref rd, .ref cm, .ref wk, .ref pp, .ref so, .ref ty])), (tp, .inl (ctp, 900, .inl ftp)), (mb, .inl (cmb, 3, .inr (.inr (.inr (.inr fmb))))), (mu, .inl (cmu, 3, .inl fmu)), (rd, .inr (6, rF r q0 q1 q2 q3 q4 q5 q6 q7)), (r 0, .inl (cb0, 18, .inl fb0)), (r 1, .inl (cb1, 18, .inl fb1)), (r 2, .inl (cb2, 18, .inl fb2)), (wk, .inr (8, [.int x0, .int x1, .ref li])), (li, .inl (cli, 24, .inl fli)), (pp, .inl (cpp, 60, .inl fpp)), (so, .inl (cso, 60, .inl fso)), (ty, .inl (cty, 26, .inl fty)), (cm, .inr (1, [.ref kA, .ref kB, .ref kG, .ref (ad 12 0), .ref o3, .ref e4, .ref e5, .ref kC, .ref kF, .ref kT, .int spn])), (kA, .inl (cA9, 6, .inr (.inr (.inr (.inr (fun i => some (ad i 0))))))), (kB, .inl (cB, 6, .inr (.inr (.inr (.inr (fun i => some (ad (6 + i) 0))))))), (kG, .inl (cg9, 6, .inl fG)), (o3, .inr (7, [.ref r3, .int n3])), (r3, .inl (c3, 6, .inr (.inl f3))), (e4, .inr (3, [.int (nI R4), .ref t4, .ref s4, .int m4])), (t4, .inl (ct4, 24 * R4, .inl ft4)), (s4, .inl (cs4, R4, .inl fs4)), (e5, .inr (3, [.int (nI R5), .ref t5, .ref s5, .int m5])), (t5, .inl (ct5, 24 * R5, .inl ft5)), (s5, .inl (cs5, R5, .inl fs5)), (kC, .inl (cC, 24, .inl fC)), (kF, .inl (cF, 24, .inl fF)), (kT, .inl (cT, 26, .inl fT))]) (b := cPL ad ca vi vl vf (List.range 13)) (c := mW zad zkc zx0 zx1 zx2 zx3 zx4 zx5 zx6 zx7 zx8 zx9 zx10 zx11 zx12 zx13 zx14 zx15 zx16 zx17 zx18 zx19 zx20 zx21 zf0 zf1 zf2 zf3 zf4 zf5 zf6 zf7 zf8 zf9 zf10 zf11 zf12 zf13 zf14 zf15 zf16 zf17 zf18 zf19 zf20 zf21 zL zN zP zM zO)).symm
  obtain ⟨hPx, hDx⟩ := pm_join hP hD hass hk1 hFc hP1 hD1
  rw [List.append_assoc] at hPx hDx
  have hQNx := qn_app (qn_sub hQN (fun x hx => List.mem_append_left _ hx)) (qn_app (qn_sub hQN (fun x hx => List.mem_append_right _ (List.mem_append_left _ hx))) (qn_new hQAc hD1))
  have hP := hPx
  have hD := hDx
  have hQN := hQNx
  generalize H1 = H at hP hS hQ ⊢
  have hmi9 := hmi
  refine lv_pop hx hb dL_law_583 rfl ?_
  refine lv_goto (tgt := 1128) hx hb dL_law_584 (by decide) ?_
  refine W.widen (k := kc9 + 195) (n := ks9 + 10960) (by omega) (by omega) ?_
  exact kk H _ ls tp bk mb mu rd cm wk pp so ty li w_7 td fk fpl un mk x0 x1 q0 q1 q2 q3 q4 q5 q6 q7 r ctp cmb cmu cb0 cb1 cb2 cli cpp cso cty ftp fmu fb0 fb1 fb2 fli fpp fso fty fmb spn kG cg9 fG o3 r3 c3 f3 n3 e4 t4 s4 R4 ct4 cs4 ft4 fs4 m4 e5 t5 s5 R5 ct5 cs5 ft5 fs5 m5 kC cC fC kF cF fF kT cT fT kA kB cA9 cB ad ca vi vl vf W9 T9 B9 zad zkc zx_13 zx1 zx2 zx3 zx4 zx5 zx6 zx7 zx8 zx9 zx10 zx11 zx12 zx13 zx14 zx15 zx16 zx17 zx18 zx19 zx20 zx21 zf0 zf1 zf2 zf3 zf4 zf5 zf6 zf7 zf8 zf9 zf10 zf11 zf12 zf13 zf14 zf15 zf16 zf17 zf18 zf19 zf20 zf21 zL zN zP zM zO hs1 hs2 ha3 hb3 hR4 hU4 hc4 hd4 hb_fs4 hR5 hU5 hc5 hd5 hb_fs5 hG (by omega) (by omega) hM hB9 hbk rfl hmi9 (by omega) (by omega) hrt hK hKC hKM hKQ hP hD hQ hQN hS hl
theorem dL_law_587 : decode cL_law 587 = .ok (.aload_n 1, 1) := by decide +kernel
theorem dL_law_588 : decode cL_law 588 = .ok (.aload_n 0, 1) := by decide +kernel
theorem dL_law_589 : decode cL_law 589 = .ok (.iload_n 3, 1) := by decide +kernel
theorem dL_law_590 : decode cL_law 590 = .ok (.iconst 1, 1) := by decide +kernel
theorem dL_law_591 : decode cL_law 591 = .ok (.iadd, 1) := by decide +kernel
theorem dL_law_592 : decode cL_law 592 = .ok (.iaload, 1) := by decide +kernel
theorem dL_law_593 : decode cL_law 593 = .ok (.aload_n 0, 1) := by decide +kernel
theorem dL_law_594 : decode cL_law 594 = .ok (.iload_n 3, 1) := by decide +kernel
theorem dL_law_595 : decode cL_law 595 = .ok (.iconst 2, 1) := by decide +kernel
theorem dL_law_596 : decode cL_law 596 = .ok (.iadd, 1) := by decide +kernel
theorem dL_law_597 : decode cL_law 597 = .ok (.iaload, 1) := by decide +kernel
theorem dL_law_598 : decode cL_law 598 = .ok (.invokevirtual 70, 3) := by decide +kernel
theorem dL_law_601 : decode cL_law 601 = .ok (.pop, 1) := by decide +kernel
theorem dL_law_602 : decode cL_law 602 = .ok (.aload_n 2, 1) := by decide +kernel
theorem dL_law_603 : decode cL_law 603 = .ok (.aload_n 0, 1) := by decide +kernel
theorem dL_law_604 : decode cL_law 604 = .ok (.iload_n 3, 1) := by decide +kernel
theorem dL_law_605 : decode cL_law 605 = .ok (.iconst 1, 1) := by decide +kernel
theorem dL_law_606 : decode cL_law 606 = .ok (.iadd, 1) := by decide +kernel
theorem dL_law_607 : decode cL_law 607 = .ok (.iaload, 1) := by decide +kernel
theorem dL_law_608 : decode cL_law 608 = .ok (.aload_n 0, 1) := by decide +kernel
theorem dL_law_609 : decode cL_law 609 = .ok (.iload_n 3, 1) := by decide +kernel
theorem dL_law_610 : decode cL_law 610 = .ok (.iconst 2, 1) := by decide +kernel
theorem dL_law_611 : decode cL_law 611 = .ok (.iadd, 1) := by decide +kernel
theorem dL_law_612 : decode cL_law 612 = .ok (.iaload, 1) := by decide +kernel
theorem dL_law_613 : decode cL_law 613 = .ok (.invokevirtual 73, 3) := by decide +kernel
theorem dL_law_616 : decode cL_law 616 = .ok (.pop, 1) := by decide +kernel
theorem dL_law_617 : decode cL_law 617 = .ok (.goto 511, 3) := by decide +kernel
set_option maxHeartbeats 4000000 in
set_option maxRecDepth 100000 in
/-- the law: often -/
theorem law_case13 {p : Program} {l : Launch} {e : Env} {s : State} {m : MethodId} {below : List Frame} {meth : Method} {c : Code} {dC : Nat → ClassId} {dI : Nat → Nat → Nat} {b L : Nat} {xs : Nat → Int32} (hLL : L ≤ 3072) (C0 : lw_At p s m meth c b L xs) (hLX : LX s) {gt mo : Nat} {H : Heap} {locs : List Loc} {kc9 ks9 : Nat} (hc9 : kc9 + 195 ≤ 600000) (hs9 : ks9 + 10960 ≤ 7302250) {ii : Int32} (hii : 0 ≤ ii.toInt ∧ ii.toInt + 6 ≤ L) {ls : Array Slot} (kk : ∀ (H1 : Heap) (locs1 : List Loc) (ls : Array Slot), LI dC dI s gt mo H1 (va_S (fun q : Nat => s.heap.size ≤ q) s.heap H1 locs1 → lv_has ls 4 [(3, .int ii), (2, .ref mo), (1, .ref gt), (0, .ref b)] → W p l e room_1 s m #[Value.ref b] below meth c H1 locs1 (kc9 + 195) (ks9 + 10960) (lw_Z below #[Value.ref b] s) (F0 m 1128 ls []))) : LI dC dI s gt mo H (va_S (fun q : Nat => s.heap.size ≤ q) s.heap H locs → lv_has ls 4 [(3, .int ii), (2, .ref mo), (1, .ref gt), (0, .ref b)] → W p l e room_1 s m #[Value.ref b] below meth c H locs kc9 ks9 (lw_Z below #[Value.ref b] s) (F0 m 587 ls [])) := by
  obtain ⟨hx, hb, hr, hml, hown, hts, hX, hbl, hlocks, hgv⟩ := id C0
  have hown : s.vm.findClass RL = some m.cls := hown
  have hA : ∀ q : Nat, s.heap.size ≤ q → (fun q : Nat => s.heap.size ≤ q) q := fun _ h => h
  have hbA : ¬ (fun q : Nat => s.heap.size ≤ q) b := Nat.not_le.mpr hbl
  obtain ⟨hcl, hcld, hAO2, hAO5, hN53, hN160, hSR, hSW, hSR2, hSW2, hOV⟩ := hLX
  unfold LI
  intro tp bk mb mu rd cm wk pp so ty li st9 td fk fpl un mk x0 x1 q0 q1 q2 q3 q4 q5 q6 q7 r ctp cmb cmu cb0 cb1 cb2 cli cpp cso cty ftp fmu fb0 fb1 fb2 fli fpp fso fty fmb spn kG cg9 fG o3 r3 c3 f3 n3 e4 t4 s4 R4 ct4 cs4 ft4 fs4 m4 e5 t5 s5 R5 ct5 cs5 ft5 fs5 m5 kC cC fC kF cF fF kT cT fT kA kB cA9 cB ad ca vi vl vf W9 T9 B9 zad zkc zx0 zx1 zx2 zx3 zx4 zx5 zx6 zx7 zx8 zx9 zx10 zx11 zx12 zx13 zx14 zx15 zx16 zx17 zx18 zx19 zx20 zx21 zf0 zf1 zf2 zf3 zf4 zf5 zf6 zf7 zf8 zf9 zf10 zf11 zf12 zf13 zf14 zf15 zf16 zf17 zf18 zf19 zf20 zf21 zL zN zP zM zO hs1 hs2 ha3 hb3 hR4 hU4 hc4 hd4 hb_fs4 hR5 hU5 hc5 hd5 hb_fs5 hG htd hmk hM hB9 hbk hmo hmi hzk hzt hrt hK hKC hKM hKQ hP hD hQ hQN hS hl
  subst hmo
  have rg_td := i_rng td
  have rg_mk := i_rng mk
  have rg_zx2 := i_rng zx2
  have rg_zx3 := i_rng zx3
  refine lv_aload_n hx hb dL_law_587 rfl (lv_at hl 2 rfl) ?_
  refine lv_aload_n hx hb dL_law_588 rfl (lv_at hl 3 rfl) ?_
  refine lv_iload_n hx hb dL_law_589 rfl (lv_at hl 0 rfl) ?_
  refine lv_iconst (v := 1) hx hb dL_law_590 (by decide) ?_
  refine lv_iadd hx hb dL_law_591 ?_
  refine lv_topi (fun y_1 ey_1 => ?_)
  have ty_1 := i_add (a := ii.toInt) (b := 1) rfl (by decide) ey_1 (by omega) (by omega)
  refine va_sld hx hb hX hbl hbA hS (i := y_1) (vp_of (a := y_1.toInt) rfl (by omega) (by omega)) dL_law_592 ?_
  refine lv_topi (fun y_2 ey_2 => ?_)
  refine lv_aload_n hx hb dL_law_593 rfl (lv_at hl 3 rfl) ?_
  refine lv_iload_n hx hb dL_law_594 rfl (lv_at hl 0 rfl) ?_
  refine lv_iconst (v := 2) hx hb dL_law_595 (by decide) ?_
  refine lv_iadd hx hb dL_law_596 ?_
  refine lv_topi (fun y_3 ey_3 => ?_)
  have ty_3 := i_add (a := ii.toInt) (b := 2) rfl (by decide) ey_3 (by omega) (by omega)
  refine va_sld hx hb hX hbl hbA hS (i := y_3) (vp_of (a := y_3.toInt) rfl (by omega) (by omega)) dL_law_597 ?_
  refine lv_topi (fun y_4 ey_4 => ?_)
  have hPc := hP.sub (ws' := [(gt, .inr (9, [.int st9, .ref tp, .int td, .int fk, .int fpl, .ref bk, .int un, .ref mb, .ref mu, .int mk, .ref rd, .ref cm, .ref wk, .ref pp, .ref so, .ref ty]))]) [0] rfl
  have hKc := hK.sub (tys' := []) [] rfl
  have hDc := hD.sub (ws' := [(gt, .inr (9, [.int st9, .ref tp, .int td, .int fk, .int fpl, .ref bk, .int un, .ref mb, .ref mu, .int mk, .ref rd, .ref cm, .ref wk, .ref pp, .ref so, .ref ty]))]) [0] (by decide) rfl
  have hFc := va_free (wc := [(gt, .inr (9, [.int st9, .ref tp, .int td, .int fk, .int fpl, .ref bk, .int un, .ref mb, .ref mu, .int mk, .ref rd, .ref cm, .ref wk, .ref pp, .ref so, .ref ty]))]) hD hS hA [0] rfl
  have hQAc : ∀ q ∈ W9, ¬ va_A [(gt, .inr (9, [.int st9, .ref tp, .int td, .int fk, .int fpl, .ref bk, .int un, .ref mb, .ref mu, .int mk, .ref rd, .ref cm, .ref wk, .ref pp, .ref so, .ref ty]))] H.size q.1 := qn_A hQ hQN (fun x hx => mem_pl [0] rfl x hx)
  refine va_calli (va_runV (As := [.int y_2, .int y_4]) (rest := []) ⟨hx, hb, hml, hown, hts⟩ (s_g_often l dC dI W9 T9 B9 gt tp bk mb mu rd cm wk pp so ty st9 td fk fpl un mk H.size y_2 y_4 hB9 hbk) (cwV 2 hts mg_L_X9_often rfl rfl rfl (by decide +kernel) ⟨Nat.le_of_ble_eq_true rfl, Nat.le_of_ble_eq_true rfl⟩) ⟨fun a U g mk q => by obtain ⟨q0, q1, qP, qK, qD, qE0, qE1, qE2⟩ := q; exact ⟨q0, q1, qP, va_K.moved (u := U) (U := U.calling g mk a) (Vm.Alike.refl U.vm) qK, qD, qE0, va_K.moved (u := U) (U := U.calling g mk a) (Vm.Alike.refl U.vm) qE1, qE2⟩, va_recv hKc hPc (ci := 9) (q0 := 0) rfl rfl, fun U hU hW => ⟨rfl, by rw [hU], by rw [hU]; exact hPc, va_K.moved hW.alike hKc, hDc.weaken (fun _ _ _ _ => trivial), (by rw [hU]; exact hQ), va_K.moved hW.alike hKQ, hQAc⟩⟩ rfl rfl hl.1 rfl (lv_room (Nat.le_of_ble_eq_true rfl)) dL_law_598 ⟨by show kc9 + 0 ≤ 600000; omega, by show ks9 + 0 ≤ 7302250; omega⟩) hS (fun q _ h => hFc q h) hFc (fun r_5 u_6 t H1 locs ht hvm hw hB hz1 hk1 hS => ?_)
  have hQo := hQ
  have hQ := qn_P hQ hQAc hk1
  obtain ⟨w_7, hP1, hK1, hD1⟩ := hB
  rw [ht] at hP1
  have hQNa := qn_new hQAc hD1
  obtain ⟨hPx, hDx⟩ := va_joinQ (X := [(gt, .inr (9, [.int st9, .ref tp, .int td, .int fk, .int fpl, .ref bk, .int un, .ref mb, .ref mu, .int mk, .ref rd, .ref cm, .ref wk, .ref pp, .ref so, .ref ty])), (tp, .inl (ctp, 900, .inl ftp)), (mb, .inl (cmb, 3, .inr (.inr (.inr (.inr fmb))))), (mu, .inl (cmu, 3, .inl fmu)), (rd, .inr (6, rF r q0 q1 q2 q3 q4 q5 q6 q7)), (r 0, .inl (cb0, 18, .inl fb0)), (r 1, .inl (cb1, 18, .inl fb1)), (r 2, .inl (cb2, 18, .inl fb2)), (wk, .inr (8, [.int x0, .int x1, .ref li])), (li, .inl (cli, 24, .inl fli)), (pp, .inl (cpp, 60, .inl fpp)), (so, .inl (cso, 60, .inl fso)), (ty, .inl (cty, 26, .inl fty)), (cm, .inr (1, [.ref kA, .ref kB, .ref kG, .ref (ad 12 0), .ref o3, .ref e4, .ref e5, .ref kC, .ref kF, .ref kT, .int spn])), (kA, .inl (cA9, 6, .inr (.inr (.inr (.inr (fun i => some (ad i 0))))))), (kB, .inl (cB, 6, .inr (.inr (.inr (.inr (fun i => some (ad (6 + i) 0))))))), (kG, .inl (cg9, 6, .inl fG)), (o3, .inr (7, [.ref r3, .int n3])), (r3, .inl (c3, 6, .inr (.inl f3))), (e4, .inr (3, [.int (nI R4), .ref t4, .ref s4, .int m4])), (t4, .inl (ct4, 24 * R4, .inl ft4)), (s4, .inl (cs4, R4, .inl fs4)), (e5, .inr (3, [.int (nI R5), .ref t5, .ref s5, .int m5])), (t5, .inl (ct5, 24 * R5, .inl ft5)), (s5, .inl (cs5, R5, .inl fs5)), (kC, .inl (cC, 24, .inl fC)), (kF, .inl (cF, 24, .inl fF)), (kT, .inl (cT, 26, .inl fT))]) (cx := [(gt, .inr (9, [.int st9, .ref tp, .int td, .int fk, .int fpl, .ref bk, .int un, .ref mb, .ref mu, .int mk, .ref rd, .ref cm, .ref wk, .ref pp, .ref so, .ref ty]))]) (wr := [(tp, .inl (ctp, 900, .inl ftp)), (mb, .inl (cmb, 3, .inr (.inr (.inr (.inr fmb))))), (mu, .inl (cmu, 3, .inl fmu)), (rd, .inr (6, rF r q0 q1 q2 q3 q4 q5 q6 q7)), (r 0, .inl (cb0, 18, .inl fb0)), (r 1, .inl (cb1, 18, .inl fb1)), (r 2, .inl (cb2, 18, .inl fb2)), (wk, .inr (8, [.int x0, .int x1, .ref li])), (li, .inl (cli, 24, .inl fli)), (pp, .inl (cpp, 60, .inl fpp)), (so, .inl (cso, 60, .inl fso)), (ty, .inl (cty, 26, .inl fty)), (cm, .inr (1, [.ref kA, .ref kB, .ref kG, .ref (ad 12 0), .ref o3, .ref e4, .ref e5, .ref kC, .ref kF, .ref kT, .int spn])), (kA, .inl (cA9, 6, .inr (.inr (.inr (.inr (fun i => some (ad i 0))))))), (kB, .inl (cB, 6, .inr (.inr (.inr (.inr (fun i => some (ad (6 + i) 0))))))), (kG, .inl (cg9, 6, .inl fG)), (o3, .inr (7, [.ref r3, .int n3])), (r3, .inl (c3, 6, .inr (.inl f3))), (e4, .inr (3, [.int (nI R4), .ref t4, .ref s4, .int m4])), (t4, .inl (ct4, 24 * R4, .inl ft4)), (s4, .inl (cs4, R4, .inl fs4)), (e5, .inr (3, [.int (nI R5), .ref t5, .ref s5, .int m5])), (t5, .inl (ct5, 24 * R5, .inl ft5)), (s5, .inl (cs5, R5, .inl fs5)), (kC, .inl (cC, 24, .inl fC)), (kF, .inl (cF, 24, .inl fF)), (kT, .inl (cT, 26, .inl fT))]) (w1 := [(gt, .inr (9, [.int w_7, .ref tp, .int td, .int fk, .int fpl, .ref bk, .int un, .ref mb, .ref mu, .int mk, .ref rd, .ref cm, .ref wk, .ref pp, .ref so, .ref ty]))]) (pl := (cPL ad ca vi vl vf (List.range 13) ++ mW zad zkc zx0 zx1 zx2 zx3 zx4 zx5 zx6 zx7 zx8 zx9 zx10 zx11 zx12 zx13 zx14 zx15 zx16 zx17 zx18 zx19 zx20 zx21 zf0 zf1 zf2 zf3 zf4 zf5 zf6 zf7 zf8 zf9 zf10 zf11 zf12 zf13 zf14 zf15 zf16 zf17 zf18 zf19 zf20 zf21 zL zN zP zM zO)) hP hD [0] [1, 2, 3, 4, 5, 6, 7, 8, 9, 10, 11, 12, 13, 14, 15, 16, 17, 18, 19, 20, 21, 22, 23, 24, 25, 26, 27] rfl rfl (by decide) (by decide) hk1 hFc hP1 hD1
  have hPx := t_P (cx := [(gt, .inr (9, [.int w_7, .ref tp, .int td, .int fk, .int fpl, .ref bk, .int un, .ref mb, .ref mu, .int mk, .ref rd, .ref cm, .ref wk, .ref pp, .ref so, .ref ty])), (tp, .inl (ctp, 900, .inl ftp)), (mb, .inl (cmb, 3, .inr (.inr (.inr (.inr fmb))))), (mu, .inl (cmu, 3, .inl fmu)), (rd, .inr (6, rF r q0 q1 q2 q3 q4 q5 q6 q7)), (r 0, .inl (cb0, 18, .inl fb0)), (r 1, .inl (cb1, 18, .inl fb1)), (r 2, .inl (cb2, 18, .inl fb2)), (wk, .inr (8, [.int x0, .int x1, .ref li])), (li, .inl (cli, 24, .inl fli)), (pp, .inl (cpp, 60, .inl fpp)), (so, .inl (cso, 60, .inl fso)), (ty, .inl (cty, 26, .inl fty)), (cm, .inr (1, [.ref kA, .ref kB, .ref kG, .ref (ad 12 0), .ref o3, .ref e4, .ref e5, .ref kC, .ref kF, .ref kT, .int spn])), (kA, .inl (cA9, 6, .inr (.inr (.inr (.inr (fun i => some (ad i 0))))))), (kB, .inl (cB, 6, .inr (.inr (.inr (.inr (fun i => some (ad (6 + i) 0))))))), (kG, .inl (cg9, 6, .inl fG)), (o3, .inr (7, [.ref r3, .int n3])), (r3, .inl (c3, 6, .inr (.inl f3))), (e4, .inr (3, [.int (nI R4), .ref t4, .ref s4, .int m4])), (t4, .inl (ct4, 24 * R4, .inl ft4)), (s4, .inl (cs4, R4, .inl fs4)), (e5, .inr (3, [.int (nI R5), .ref t5, .ref s5, .int m5])), (t5, .inl (ct5, 24 * R5, .inl ft5)), (s5, .inl (cs5, R5, .inl fs5)), (kC, .inl (cC, 24, .inl fC)), (kF, .inl (cF, 24, .inl fF)), (kT, .inl (cT, 26, .inl fT))]) hPx [27, 0, 1, 2, 3, 4, 5, 6, 7, 8, 9, 10, 11, 12, 13, 14, 15, 16, 17, 18, 19, 20, 21, 22, 23, 24, 25, 26] rfl
  have hDx := va_D.part (cx := [(gt, .inr (9, [.int w_7, .ref tp, .int td, .int fk, .int fpl, .ref bk, .int un, .ref mb, .ref mu, .int mk, .ref rd, .ref cm, .ref wk, .ref pp, .ref so, .ref ty])), (tp, .inl (ctp, 900, .inl ftp)), (mb, .inl (cmb, 3, .inr (.inr (.inr (.inr fmb))))), (mu, .inl (cmu, 3, .inl fmu)), (rd, .inr (6, rF r q0 q1 q2 q3 q4 q5 q6 q7)), (r 0, .inl (cb0, 18, .inl fb0)), (r 1, .inl (cb1, 18, .inl fb1)), (r 2, .inl (cb2, 18, .inl fb2)), (wk, .inr (8, [.int x0, .int x1, .ref li])), (li, .inl (cli, 24, .inl fli)), (pp, .inl (cpp, 60, .inl fpp)), (so, .inl (cso, 60, .inl fso)), (ty, .inl (cty, 26, .inl fty)), (cm, .inr (1, [.ref kA, .ref kB, .ref kG, .ref (ad 12 0), .ref o3, .ref e4, .ref e5, .ref kC, .ref kF, .ref kT, .int spn])), (kA, .inl (cA9, 6, .inr (.inr (.inr (.inr (fun i => some (ad i 0))))))), (kB, .inl (cB, 6, .inr (.inr (.inr (.inr (fun i => some (ad (6 + i) 0))))))), (kG, .inl (cg9, 6, .inl fG)), (o3, .inr (7, [.ref r3, .int n3])), (r3, .inl (c3, 6, .inr (.inl f3))), (e4, .inr (3, [.int (nI R4), .ref t4, .ref s4, .int m4])), (t4, .inl (ct4, 24 * R4, .inl ft4)), (s4, .inl (cs4, R4, .inl fs4)), (e5, .inr (3, [.int (nI R5), .ref t5, .ref s5, .int m5])), (t5, .inl (ct5, 24 * R5, .inl ft5)), (s5, .inl (cs5, R5, .inl fs5)), (kC, .inl (cC, 24, .inl fC)), (kF, .inl (cF, 24, .inl fF)), (kT, .inl (cT, 26, .inl fT))]) hDx [27, 0, 1, 2, 3, 4, 5, 6, 7, 8, 9, 10, 11, 12, 13, 14, 15, 16, 17, 18, 19, 20, 21, 22, 23, 24, 25, 26] (by decide) rfl
  have hm9 : List.map Prod.fst ([(gt, .inr (9, [.int w_7, .ref tp, .int td, .int fk, .int fpl, .ref bk, .int un, .ref mb, .ref mu, .int mk, .ref rd, .ref cm, .ref wk, .ref pp, .ref so, .ref ty])), (tp, .inl (ctp, 900, .inl ftp)), (mb, .inl (cmb, 3, .inr (.inr (.inr (.inr fmb))))), (mu, .inl (cmu, 3, .inl fmu)), (rd, .inr (6, rF r q0 q1 q2 q3 q4 q5 q6 q7)), (r 0, .inl (cb0, 18, .inl fb0)), (r 1, .inl (cb1, 18, .inl fb1)), (r 2, .inl (cb2, 18, .inl fb2)), (wk, .inr (8, [.int x0, .int x1, .ref li])), (li, .inl (cli, 24, .inl fli)), (pp, .inl (cpp, 60, .inl fpp)), (so, .inl (cso, 60, .inl fso)), (ty, .inl (cty, 26, .inl fty)), (cm, .inr (1, [.ref kA, .ref kB, .ref kG, .ref (ad 12 0), .ref o3, .ref e4, .ref e5, .ref kC, .ref kF, .ref kT, .int spn])), (kA, .inl (cA9, 6, .inr (.inr (.inr (.inr (fun i => some (ad i 0))))))), (kB, .inl (cB, 6, .inr (.inr (.inr (.inr (fun i => some (ad (6 + i) 0))))))), (kG, .inl (cg9, 6, .inl fG)), (o3, .inr (7, [.ref r3, .int n3])), (r3, .inl (c3, 6, .inr (.inl f3))), (e4, .inr (3, [.int (nI R4), .ref t4, .ref s4, .int m4])), (t4, .inl (ct4, 24 * R4, .inl ft4)), (s4, .inl (cs4, R4, .inl fs4)), (e5, .inr (3, [.int (nI R5), .ref t5, .ref s5, .int m5])), (t5, .inl (ct5, 24 * R5, .inl ft5)), (s5, .inl (cs5, R5, .inl fs5)), (kC, .inl (cC, 24, .inl fC)), (kF, .inl (cF, 24, .inl fF)), (kT, .inl (cT, 26, .inl fT))] ++ (cPL ad ca vi vl vf (List.range 13) ++ mW zad zkc zx0 zx1 zx2 zx3 zx4 zx5 zx6 zx7 zx8 zx9 zx10 zx11 zx12 zx13 zx14 zx15 zx16 zx17 zx18 zx19 zx20 zx21 zf0 zf1 zf2 zf3 zf4 zf5 zf6 zf7 zf8 zf9 zf10 zf11 zf12 zf13 zf14 zf15 zf16 zf17 zf18 zf19 zf20 zf21 zL zN zP zM zO) : va_W) = List.map Prod.fst ([(gt, .inr (9, [.int st9, .ref tp, .int td, .int fk, .int fpl, .ref bk, .int un, .ref mb, .ref mu, .int mk, .ref rd, .ref cm, .ref wk, .ref pp, .ref so, .ref ty])), (tp, .inl (ctp, 900, .inl ftp)), (mb, .inl (cmb, 3, .inr (.inr (.inr (.inr fmb))))), (mu, .inl (cmu, 3, .inl fmu)), (rd, .inr (6, rF r q0 q1 q2 q3 q4 q5 q6 q7)), (r 0, .inl (cb0, 18, .inl fb0)), (r 1, .inl (cb1, 18, .inl fb1)), (r 2, .inl (cb2, 18, .inl fb2)), (wk, .inr (8, [.int x0, .int x1, .ref li])), (li, .inl (cli, 24, .inl fli)), (pp, .inl (cpp, 60, .inl fpp)), (so, .inl (cso, 60, .inl fso)), (ty, .inl (cty, 26, .inl fty)), (cm, .inr (1, [.ref kA, .ref kB, .ref kG, .ref (ad 12 0), .ref o3, .ref e4, .ref e5, .ref kC, .ref kF, .ref kT, .int spn])), (kA, .inl (cA9, 6, .inr (.inr (.inr (.inr (fun i => some (ad i 0))))))), (kB, .inl (cB, 6, .inr (.inr (.inr (.inr (fun i => some (ad (6 + i) 0))))))), (kG, .inl (cg9, 6, .inl fG)), (o3, .inr (7, [.ref r3, .int n3])), (r3, .inl (c3, 6, .inr (.inl f3))), (e4, .inr (3, [.int (nI R4), .ref t4, .ref s4, .int m4])), (t4, .inl (ct4, 24 * R4, .inl ft4)), (s4, .inl (cs4, R4, .inl fs4)), (e5, .inr (3, [.int (nI R5), .ref t5, .ref s5, .int m5])), (t5, .inl (ct5, 24 * R5, .inl ft5)), (s5, .inl (cs5, R5, .inl fs5)), (kC, .inl (cC, 24, .inl fC)), (kF, .inl (cF, 24, .inl fF)), (kT, .inl (cT, 26, .inl fT))] ++ (cPL ad ca vi vl vf (List.range 13) ++ mW zad zkc zx0 zx1 zx2 zx3 zx4 zx5 zx6 zx7 zx8 zx9 zx10 zx11 zx12 zx13 zx14 zx15 zx16 zx17 zx18 zx19 zx20 zx21 zf0 zf1 zf2 zf3 zf4 zf5 zf6 zf7 zf8 zf9 zf10 zf11 zf12 zf13 zf14 zf15 zf16 zf17 zf18 zf19 zf20 zf21 zL zN zP zM zO) : va_W) := rfl
  have hQNx := qn_fst hQN hm9
  have hQN := hQNx
  clear hQNx hQAc hFc hDc hPc hKc
  have hP := hPx
  have hD := hDx
  clear hPx hDx
  generalize H1 = H at hP hS hQ ⊢
  refine lv_pop hx hb dL_law_601 rfl ?_
  refine lv_aload_n hx hb dL_law_602 rfl (lv_at hl 1 rfl) ?_
  refine lv_aload_n hx hb dL_law_603 rfl (lv_at hl 3 rfl) ?_
  refine lv_iload_n hx hb dL_law_604 rfl (lv_at hl 0 rfl) ?_
  refine lv_iconst (v := 1) hx hb dL_law_605 (by decide) ?_
  refine lv_iadd hx hb dL_law_606 ?_
  refine lv_topi (fun y_8 ey_8 => ?_)
  have ty_8 := i_add (a := ii.toInt) (b := 1) rfl (by decide) ey_8 (by omega) (by omega)
  refine va_sld hx hb hX hbl hbA hS (i := y_8) (vp_of (a := y_8.toInt) rfl (by omega) (by omega)) dL_law_607 ?_
  refine lv_topi (fun y_9 ey_9 => ?_)
  have e_y_9 : y_9 = y_2 := by rw [ey_9, ey_2, ey_8, ey_1]
  have q_y_9 : y_9.toInt = y_2.toInt := by rw [ey_9, ey_2, ey_8, ey_1]
  refine lv_aload_n hx hb dL_law_608 rfl (lv_at hl 3 rfl) ?_
  refine lv_iload_n hx hb dL_law_609 rfl (lv_at hl 0 rfl) ?_
  refine lv_iconst (v := 2) hx hb dL_law_610 (by decide) ?_
  refine lv_iadd hx hb dL_law_611 ?_
  refine lv_topi (fun y_10 ey_10 => ?_)
  have ty_10 := i_add (a := ii.toInt) (b := 2) rfl (by decide) ey_10 (by omega) (by omega)
  refine va_sld hx hb hX hbl hbA hS (i := y_10) (vp_of (a := y_10.toInt) rfl (by omega) (by omega)) dL_law_612 ?_
  refine lv_topi (fun y_11 ey_11 => ?_)
  have e_y_11 : y_11 = y_4 := by rw [ey_11, ey_4, ey_10, ey_3]
  have q_y_11 : y_11.toInt = y_4.toInt := by rw [ey_11, ey_4, ey_10, ey_3]
  have hPc : va_P (dC, dI) vwCl (mW zad zkc zx0 zx1 zx2 zx3 zx4 zx5 zx6 zx7 zx8 zx9 zx10 zx11 zx12 zx13 zx14 zx15 zx16 zx17 zx18 zx19 zx20 zx21 zf0 zf1 zf2 zf3 zf4 zf5 zf6 zf7 zf8 zf9 zf10 zf11 zf12 zf13 zf14 zf15 zf16 zf17 zf18 zf19 zf20 zf21 zL zN zP zM zO) H := p_sub hP (fun _ hq => List.mem_append_right _ (List.mem_append_right _ hq))
  have hKc := hKM
  have hDc : va_D (fun q : Nat => s.heap.size ≤ q) (mW zad zkc zx0 zx1 zx2 zx3 zx4 zx5 zx6 zx7 zx8 zx9 zx10 zx11 zx12 zx13 zx14 zx15 zx16 zx17 zx18 zx19 zx20 zx21 zf0 zf1 zf2 zf3 zf4 zf5 zf6 zf7 zf8 zf9 zf10 zf11 zf12 zf13 zf14 zf15 zf16 zf17 zf18 zf19 zf20 zf21 zL zN zP zM zO) := D_right (D_right hD)
  have hFc := m_free hDc hS hA
  have hQAc : ∀ q ∈ W9, ¬ va_A (mW zad zkc zx0 zx1 zx2 zx3 zx4 zx5 zx6 zx7 zx8 zx9 zx10 zx11 zx12 zx13 zx14 zx15 zx16 zx17 zx18 zx19 zx20 zx21 zf0 zf1 zf2 zf3 zf4 zf5 zf6 zf7 zf8 zf9 zf10 zf11 zf12 zf13 zf14 zf15 zf16 zf17 zf18 zf19 zf20 zf21 zL zN zP zM zO) H.size q.1 := qn_A hQ hQN (fun x hx => List.mem_append_right _ (List.mem_append_right _ hx))
  refine va_calli (va_runV (As := [.int y_9, .int y_11]) (rest := []) ⟨hx, hb, hml, hown, hts⟩ (m_often l dC dI zad zkc zx0 zx1 zx2 zx3 zx4 zx5 zx6 zx7 zx8 zx9 zx10 zx11 zx12 zx13 zx14 zx15 zx16 zx17 zx18 zx19 zx20 zx21 zf0 zf1 zf2 zf3 zf4 zf5 zf6 zf7 zf8 zf9 zf10 zf11 zf12 zf13 zf14 zf15 zf16 zf17 zf18 zf19 zf20 zf21 zL zN zP zM zO H.size y_9 y_11 hmi) (cwV 2 hts mg_L_X10_often rfl rfl rfl (by decide +kernel) ⟨Nat.le_of_ble_eq_true rfl, Nat.le_of_ble_eq_true rfl⟩) ⟨fun a U g mk q => by obtain ⟨q0, q1, qP, qK, qD⟩ := q; exact ⟨q0, q1, qP, va_K.moved (u := U) (U := U.calling g mk a) (Vm.Alike.refl U.vm) qK, qD⟩, va_recv hKc hPc (ci := 10) (q0 := 0) rfl rfl, fun U hU hW => ⟨rfl, by rw [hU], by rw [hU]; exact hPc, va_K.moved hW.alike hKc, hDc.weaken (fun _ _ _ _ => trivial)⟩⟩ rfl rfl hl.1 rfl (lv_room (Nat.le_of_ble_eq_true rfl)) dL_law_613 ⟨by show kc9 + 0 ≤ 600000; omega, by show ks9 + 0 ≤ 7302250; omega⟩) hS (fun q _ h => hFc q h) hFc (fun r_12 u t H1 locs ht hvm hw hB hz1 hk1 hS => ?_)
  have hQo := hQ
  have hQ := qn_P hQ hQAc hk1
  have hwu := hw
  have hwt_r_12 := congrArg Int32.toInt hw
  obtain ⟨zx_13, hP1, hK1, hD1⟩ := hB
  rw [ht] at hP1
  have rg_zx_13 := i_rng zx_13
  have hass := (pm_as (a := [(gt, .inr (9, [.int w_7, .ref tp, .int td, .int fk, .int fpl, .ref bk, .int un, .ref mb, .ref mu, .int mk, .ref rd, .ref cm, .ref wk, .ref pp, .ref so, .ref ty])), (tp, .inl (ctp, 900, .inl ftp)), (mb, .inl (cmb, 3, .inr (.inr (.inr (.inr fmb))))), (mu, .inl (cmu, 3, .inl fmu)), (rd, .inr (6, rF r q0 q1 q2 q3 q4 q5 q6 q7)), (r 0, .inl (cb0, 18, .inl fb0)), (r 1, .inl (cb1, 18, .inl fb1)), (r 2, .inl (cb2, 18, .inl fb2)), (wk, .inr (8, [.int x0, .int x1, .ref li])), (li, .inl (cli, 24, .inl fli)), (pp, .inl (cpp, 60, .inl fpp)), (so, .inl (cso, 60, .inl fso)), (ty, .inl (cty, 26, .inl fty)), (cm, .inr (1, [.ref kA, .ref kB, .ref kG, .ref (ad 12 0), .ref o3, .ref e4, .ref e5, .ref kC, .ref kF, .ref kT, .int spn])), (kA, .inl (cA9, 6, .inr (.inr (.inr (.inr (fun i => some (ad i 0))))))), (kB, .inl (cB, 6, .inr (.inr (.inr (.inr (fun i => some (ad (6 + i) 0))))))), (kG, .inl (cg9, 6, .inl fG)), (o3, .inr (7, [.ref r3, .int n3])), (r3, .inl (c3, 6, .inr (.inl f3))), (e4, .inr (3, [.int (nI R4), .ref t4, .ref s4, .int m4])), (t4, .inl (ct4, 24 * R4, .inl ft4)), (s4, .inl (cs4, R4, .inl fs4)), (e5, .inr (3, [.int (nI R5), .ref t5, .ref s5, .int m5])), (t5, .inl (ct5, 24 * R5, .inl ft5)), (s5, .inl (cs5, R5, .inl fs5)), (kC, .inl (cC, 24, .inl fC)), (kF, .inl (cF, 24, .inl fF)), (kT, .inl (cT, 26, .inl fT))]) (b := cPL ad ca vi vl vf (List.range 13)) (c := mW zad zkc zx0 zx1 zx2 zx3 zx4 zx5 zx6 zx7 zx8 zx9 zx10 zx11 zx12 zx13 zx14 zx15 zx16 zx17 zx18 zx19 zx20 zx21 zf0 zf1 zf2 zf3 zf4 zf5 zf6 zf7 zf8 zf9 zf10 zf11 zf12 zf13 zf14 zf15 zf16 zf17 zf18 zf19 zf20 zf21 zL zN zP zM zO)).symm
  obtain ⟨hPx, hDx⟩ := pm_join hP hD hass hk1 hFc hP1 hD1
  rw [List.append_assoc] at hPx hDx
  have hQNx := qn_app (qn_sub hQN (fun x hx => List.mem_append_left _ hx)) (qn_app (qn_sub hQN (fun x hx => List.mem_append_right _ (List.mem_append_left _ hx))) (qn_new hQAc hD1))
  have hP := hPx
  have hD := hDx
  have hQN := hQNx
  generalize H1 = H at hP hS hQ ⊢
  have hmi9 := hmi
  refine lv_pop hx hb dL_law_616 rfl ?_
  refine lv_goto (tgt := 1128) hx hb dL_law_617 (by decide) ?_
  refine W.widen (k := kc9 + 195) (n := ks9 + 10960) (by omega) (by omega) ?_
  exact kk H _ ls tp bk mb mu rd cm wk pp so ty li w_7 td fk fpl un mk x0 x1 q0 q1 q2 q3 q4 q5 q6 q7 r ctp cmb cmu cb0 cb1 cb2 cli cpp cso cty ftp fmu fb0 fb1 fb2 fli fpp fso fty fmb spn kG cg9 fG o3 r3 c3 f3 n3 e4 t4 s4 R4 ct4 cs4 ft4 fs4 m4 e5 t5 s5 R5 ct5 cs5 ft5 fs5 m5 kC cC fC kF cF fF kT cT fT kA kB cA9 cB ad ca vi vl vf W9 T9 B9 zad zkc zx_13 zx1 zx2 zx3 zx4 zx5 zx6 zx7 zx8 zx9 zx10 zx11 zx12 zx13 zx14 zx15 zx16 zx17 zx18 zx19 zx20 zx21 zf0 zf1 zf2 zf3 zf4 zf5 zf6 zf7 zf8 zf9 zf10 zf11 zf12 zf13 zf14 zf15 zf16 zf17 zf18 zf19 zf20 zf21 zL zN zP zM zO hs1 hs2 ha3 hb3 hR4 hU4 hc4 hd4 hb_fs4 hR5 hU5 hc5 hd5 hb_fs5 hG (by omega) (by omega) hM hB9 hbk rfl hmi9 (by omega) (by omega) hrt hK hKC hKM hKQ hP hD hQ hQN hS hl
theorem dL_law_620 : decode cL_law 620 = .ok (.aload_n 1, 1) := by decide +kernel
theorem dL_law_621 : decode cL_law 621 = .ok (.aload_n 0, 1) := by decide +kernel
theorem dL_law_622 : decode cL_law 622 = .ok (.iload_n 3, 1) := by decide +kernel
theorem dL_law_623 : decode cL_law 623 = .ok (.iconst 1, 1) := by decide +kernel
theorem dL_law_624 : decode cL_law 624 = .ok (.iadd, 1) := by decide +kernel
theorem dL_law_625 : decode cL_law 625 = .ok (.iaload, 1) := by decide +kernel
theorem dL_law_626 : decode cL_law 626 = .ok (.aload_n 0, 1) := by decide +kernel
theorem dL_law_627 : decode cL_law 627 = .ok (.iload_n 3, 1) := by decide +kernel
theorem dL_law_628 : decode cL_law 628 = .ok (.iconst 2, 1) := by decide +kernel
theorem dL_law_629 : decode cL_law 629 = .ok (.iadd, 1) := by decide +kernel
theorem dL_law_630 : decode cL_law 630 = .ok (.iaload, 1) := by decide +kernel
theorem dL_law_631 : decode cL_law 631 = .ok (.invokevirtual 74, 3) := by decide +kernel
theorem dL_law_634 : decode cL_law 634 = .ok (.pop, 1) := by decide +kernel
theorem dL_law_635 : decode cL_law 635 = .ok (.aload_n 2, 1) := by decide +kernel
theorem dL_law_636 : decode cL_law 636 = .ok (.aload_n 0, 1) := by decide +kernel
theorem dL_law_637 : decode cL_law 637 = .ok (.iload_n 3, 1) := by decide +kernel
theorem dL_law_638 : decode cL_law 638 = .ok (.iconst 1, 1) := by decide +kernel
theorem dL_law_639 : decode cL_law 639 = .ok (.iadd, 1) := by decide +kernel
theorem dL_law_640 : decode cL_law 640 = .ok (.iaload, 1) := by decide +kernel
theorem dL_law_641 : decode cL_law 641 = .ok (.aload_n 0, 1) := by decide +kernel
theorem dL_law_642 : decode cL_law 642 = .ok (.iload_n 3, 1) := by decide +kernel
theorem dL_law_643 : decode cL_law 643 = .ok (.iconst 2, 1) := by decide +kernel
theorem dL_law_644 : decode cL_law 644 = .ok (.iadd, 1) := by decide +kernel
theorem dL_law_645 : decode cL_law 645 = .ok (.iaload, 1) := by decide +kernel
theorem dL_law_646 : decode cL_law 646 = .ok (.invokevirtual 77, 3) := by decide +kernel
theorem dL_law_649 : decode cL_law 649 = .ok (.pop, 1) := by decide +kernel
theorem dL_law_650 : decode cL_law 650 = .ok (.goto 478, 3) := by decide +kernel
set_option maxHeartbeats 4000000 in
set_option maxRecDepth 100000 in
/-- the law: gate -/
theorem law_case14 {p : Program} {l : Launch} {e : Env} {s : State} {m : MethodId} {below : List Frame} {meth : Method} {c : Code} {dC : Nat → ClassId} {dI : Nat → Nat → Nat} {b L : Nat} {xs : Nat → Int32} (hLL : L ≤ 3072) (C0 : lw_At p s m meth c b L xs) (hLX : LX s) {gt mo : Nat} {H : Heap} {locs : List Loc} {kc9 ks9 : Nat} (hc9 : kc9 + 195 ≤ 600000) (hs9 : ks9 + 10960 ≤ 7302250) {ii : Int32} (hii : 0 ≤ ii.toInt ∧ ii.toInt + 6 ≤ L) {ls : Array Slot} (kk : ∀ (H1 : Heap) (locs1 : List Loc) (ls : Array Slot), LI dC dI s gt mo H1 (va_S (fun q : Nat => s.heap.size ≤ q) s.heap H1 locs1 → lv_has ls 4 [(3, .int ii), (2, .ref mo), (1, .ref gt), (0, .ref b)] → W p l e room_1 s m #[Value.ref b] below meth c H1 locs1 (kc9 + 195) (ks9 + 10960) (lw_Z below #[Value.ref b] s) (F0 m 1128 ls []))) : LI dC dI s gt mo H (va_S (fun q : Nat => s.heap.size ≤ q) s.heap H locs → lv_has ls 4 [(3, .int ii), (2, .ref mo), (1, .ref gt), (0, .ref b)] → W p l e room_1 s m #[Value.ref b] below meth c H locs kc9 ks9 (lw_Z below #[Value.ref b] s) (F0 m 620 ls [])) := by
  obtain ⟨hx, hb, hr, hml, hown, hts, hX, hbl, hlocks, hgv⟩ := id C0
  have hown : s.vm.findClass RL = some m.cls := hown
  have hA : ∀ q : Nat, s.heap.size ≤ q → (fun q : Nat => s.heap.size ≤ q) q := fun _ h => h
  have hbA : ¬ (fun q : Nat => s.heap.size ≤ q) b := Nat.not_le.mpr hbl
  obtain ⟨hcl, hcld, hAO2, hAO5, hN53, hN160, hSR, hSW, hSR2, hSW2, hOV⟩ := hLX
  unfold LI
  intro tp bk mb mu rd cm wk pp so ty li st9 td fk fpl un mk x0 x1 q0 q1 q2 q3 q4 q5 q6 q7 r ctp cmb cmu cb0 cb1 cb2 cli cpp cso cty ftp fmu fb0 fb1 fb2 fli fpp fso fty fmb spn kG cg9 fG o3 r3 c3 f3 n3 e4 t4 s4 R4 ct4 cs4 ft4 fs4 m4 e5 t5 s5 R5 ct5 cs5 ft5 fs5 m5 kC cC fC kF cF fF kT cT fT kA kB cA9 cB ad ca vi vl vf W9 T9 B9 zad zkc zx0 zx1 zx2 zx3 zx4 zx5 zx6 zx7 zx8 zx9 zx10 zx11 zx12 zx13 zx14 zx15 zx16 zx17 zx18 zx19 zx20 zx21 zf0 zf1 zf2 zf3 zf4 zf5 zf6 zf7 zf8 zf9 zf10 zf11 zf12 zf13 zf14 zf15 zf16 zf17 zf18 zf19 zf20 zf21 zL zN zP zM zO hs1 hs2 ha3 hb3 hR4 hU4 hc4 hd4 hb_fs4 hR5 hU5 hc5 hd5 hb_fs5 hG htd hmk hM hB9 hbk hmo hmi hzk hzt hrt hK hKC hKM hKQ hP hD hQ hQN hS hl
  subst hmo
  have rg_td := i_rng td
  have rg_mk := i_rng mk
  have rg_zx2 := i_rng zx2
  have rg_zx3 := i_rng zx3
  refine lv_aload_n hx hb dL_law_620 rfl (lv_at hl 2 rfl) ?_
  refine lv_aload_n hx hb dL_law_621 rfl (lv_at hl 3 rfl) ?_
  refine lv_iload_n hx hb dL_law_622 rfl (lv_at hl 0 rfl) ?_
  refine lv_iconst (v := 1) hx hb dL_law_623 (by decide) ?_
  refine lv_iadd hx hb dL_law_624 ?_
  refine lv_topi (fun y_1 ey_1 => ?_)
  have ty_1 := i_add (a := ii.toInt) (b := 1) rfl (by decide) ey_1 (by omega) (by omega)
  refine va_sld hx hb hX hbl hbA hS (i := y_1) (vp_of (a := y_1.toInt) rfl (by omega) (by omega)) dL_law_625 ?_
  refine lv_topi (fun y_2 ey_2 => ?_)
  refine lv_aload_n hx hb dL_law_626 rfl (lv_at hl 3 rfl) ?_
  refine lv_iload_n hx hb dL_law_627 rfl (lv_at hl 0 rfl) ?_
  refine lv_iconst (v := 2) hx hb dL_law_628 (by decide) ?_
  refine lv_iadd hx hb dL_law_629 ?_
  refine lv_topi (fun y_3 ey_3 => ?_)
  have ty_3 := i_add (a := ii.toInt) (b := 2) rfl (by decide) ey_3 (by omega) (by omega)
  refine va_sld hx hb hX hbl hbA hS (i := y_3) (vp_of (a := y_3.toInt) rfl (by omega) (by omega)) dL_law_630 ?_
  refine lv_topi (fun y_4 ey_4 => ?_)
  have hPc := hP.sub (ws' := [(gt, .inr (9, [.int st9, .ref tp, .int td, .int fk, .int fpl, .ref bk, .int un, .ref mb, .ref mu, .int mk, .ref rd, .ref cm, .ref wk, .ref pp, .ref so, .ref ty])), (wk, .inr (8, [.int x0, .int x1, .ref li])), (li, .inl (cli, 24, .inl fli))]) [0, 8, 9] rfl
  have hKc := hK.sub (tys' := [(cli, .int)]) [6] rfl
  have hDc := hD.sub (ws' := [(gt, .inr (9, [.int st9, .ref tp, .int td, .int fk, .int fpl, .ref bk, .int un, .ref mb, .ref mu, .int mk, .ref rd, .ref cm, .ref wk, .ref pp, .ref so, .ref ty])), (wk, .inr (8, [.int x0, .int x1, .ref li])), (li, .inl (cli, 24, .inl fli))]) [0, 8, 9] (by decide) rfl
  have hFc := va_free (wc := [(gt, .inr (9, [.int st9, .ref tp, .int td, .int fk, .int fpl, .ref bk, .int un, .ref mb, .ref mu, .int mk, .ref rd, .ref cm, .ref wk, .ref pp, .ref so, .ref ty])), (wk, .inr (8, [.int x0, .int x1, .ref li])), (li, .inl (cli, 24, .inl fli))]) hD hS hA [0, 8, 9] rfl
  have hQAc : ∀ q ∈ W9, ¬ va_A [(gt, .inr (9, [.int st9, .ref tp, .int td, .int fk, .int fpl, .ref bk, .int un, .ref mb, .ref mu, .int mk, .ref rd, .ref cm, .ref wk, .ref pp, .ref so, .ref ty])), (wk, .inr (8, [.int x0, .int x1, .ref li])), (li, .inl (cli, 24, .inl fli))] H.size q.1 := qn_A hQ hQN (fun x hx => mem_pl [0, 8, 9] rfl x hx)
  refine va_calli (va_runV (As := [.int y_2, .int y_4]) (rest := []) ⟨hx, hb, hml, hown, hts⟩ (s_g_gate l dC dI W9 T9 B9 gt tp bk mb mu rd cm wk pp so ty st9 td fk fpl un mk li cli fli x0 x1 H.size y_2 y_4 hB9 hbk) (cwV 2 hts mg_L_X9_gate rfl rfl rfl (by decide +kernel) ⟨Nat.le_of_ble_eq_true rfl, Nat.le_of_ble_eq_true rfl⟩) ⟨fun a U g mk q => by obtain ⟨q0, q1, qP, qK, qD, qE0, qE1, qE2⟩ := q; exact ⟨q0, q1, qP, va_K.moved (u := U) (U := U.calling g mk a) (Vm.Alike.refl U.vm) qK, qD, qE0, va_K.moved (u := U) (U := U.calling g mk a) (Vm.Alike.refl U.vm) qE1, qE2⟩, va_recv hKc hPc (ci := 9) (q0 := 0) rfl rfl, fun U hU hW => ⟨rfl, by rw [hU], by rw [hU]; exact hPc, va_K.moved hW.alike hKc, hDc.weaken (fun _ _ _ _ => trivial), (by rw [hU]; exact hQ), va_K.moved hW.alike hKQ, hQAc⟩⟩ rfl rfl hl.1 rfl (lv_room (Nat.le_of_ble_eq_true rfl)) dL_law_631 ⟨by show kc9 + 0 ≤ 600000; omega, by show ks9 + 0 ≤ 7302250; omega⟩) hS (fun q _ h => hFc q h) hFc (fun r_5 u_6 t H1 locs ht hvm hw hB hz1 hk1 hS => ?_)
  have hQo := hQ
  have hQ := qn_P hQ hQAc hk1
  obtain ⟨w_7, w_8, w_9, f_10, hP1, hK1, hD1⟩ := hB
  rw [ht] at hP1
  have hQNa := qn_new hQAc hD1
  obtain ⟨hPx, hDx⟩ := va_joinQ (X := [(gt, .inr (9, [.int st9, .ref tp, .int td, .int fk, .int fpl, .ref bk, .int un, .ref mb, .ref mu, .int mk, .ref rd, .ref cm, .ref wk, .ref pp, .ref so, .ref ty])), (tp, .inl (ctp, 900, .inl ftp)), (mb, .inl (cmb, 3, .inr (.inr (.inr (.inr fmb))))), (mu, .inl (cmu, 3, .inl fmu)), (rd, .inr (6, rF r q0 q1 q2 q3 q4 q5 q6 q7)), (r 0, .inl (cb0, 18, .inl fb0)), (r 1, .inl (cb1, 18, .inl fb1)), (r 2, .inl (cb2, 18, .inl fb2)), (wk, .inr (8, [.int x0, .int x1, .ref li])), (li, .inl (cli, 24, .inl fli)), (pp, .inl (cpp, 60, .inl fpp)), (so, .inl (cso, 60, .inl fso)), (ty, .inl (cty, 26, .inl fty)), (cm, .inr (1, [.ref kA, .ref kB, .ref kG, .ref (ad 12 0), .ref o3, .ref e4, .ref e5, .ref kC, .ref kF, .ref kT, .int spn])), (kA, .inl (cA9, 6, .inr (.inr (.inr (.inr (fun i => some (ad i 0))))))), (kB, .inl (cB, 6, .inr (.inr (.inr (.inr (fun i => some (ad (6 + i) 0))))))), (kG, .inl (cg9, 6, .inl fG)), (o3, .inr (7, [.ref r3, .int n3])), (r3, .inl (c3, 6, .inr (.inl f3))), (e4, .inr (3, [.int (nI R4), .ref t4, .ref s4, .int m4])), (t4, .inl (ct4, 24 * R4, .inl ft4)), (s4, .inl (cs4, R4, .inl fs4)), (e5, .inr (3, [.int (nI R5), .ref t5, .ref s5, .int m5])), (t5, .inl (ct5, 24 * R5, .inl ft5)), (s5, .inl (cs5, R5, .inl fs5)), (kC, .inl (cC, 24, .inl fC)), (kF, .inl (cF, 24, .inl fF)), (kT, .inl (cT, 26, .inl fT))]) (cx := [(gt, .inr (9, [.int st9, .ref tp, .int td, .int fk, .int fpl, .ref bk, .int un, .ref mb, .ref mu, .int mk, .ref rd, .ref cm, .ref wk, .ref pp, .ref so, .ref ty])), (wk, .inr (8, [.int x0, .int x1, .ref li])), (li, .inl (cli, 24, .inl fli))]) (wr := [(tp, .inl (ctp, 900, .inl ftp)), (mb, .inl (cmb, 3, .inr (.inr (.inr (.inr fmb))))), (mu, .inl (cmu, 3, .inl fmu)), (rd, .inr (6, rF r q0 q1 q2 q3 q4 q5 q6 q7)), (r 0, .inl (cb0, 18, .inl fb0)), (r 1, .inl (cb1, 18, .inl fb1)), (r 2, .inl (cb2, 18, .inl fb2)), (pp, .inl (cpp, 60, .inl fpp)), (so, .inl (cso, 60, .inl fso)), (ty, .inl (cty, 26, .inl fty)), (cm, .inr (1, [.ref kA, .ref kB, .ref kG, .ref (ad 12 0), .ref o3, .ref e4, .ref e5, .ref kC, .ref kF, .ref kT, .int spn])), (kA, .inl (cA9, 6, .inr (.inr (.inr (.inr (fun i => some (ad i 0))))))), (kB, .inl (cB, 6, .inr (.inr (.inr (.inr (fun i => some (ad (6 + i) 0))))))), (kG, .inl (cg9, 6, .inl fG)), (o3, .inr (7, [.ref r3, .int n3])), (r3, .inl (c3, 6, .inr (.inl f3))), (e4, .inr (3, [.int (nI R4), .ref t4, .ref s4, .int m4])), (t4, .inl (ct4, 24 * R4, .inl ft4)), (s4, .inl (cs4, R4, .inl fs4)), (e5, .inr (3, [.int (nI R5), .ref t5, .ref s5, .int m5])), (t5, .inl (ct5, 24 * R5, .inl ft5)), (s5, .inl (cs5, R5, .inl fs5)), (kC, .inl (cC, 24, .inl fC)), (kF, .inl (cF, 24, .inl fF)), (kT, .inl (cT, 26, .inl fT))]) (w1 := [(gt, .inr (9, [.int w_7, .ref tp, .int td, .int fk, .int fpl, .ref bk, .int un, .ref mb, .ref mu, .int mk, .ref rd, .ref cm, .ref wk, .ref pp, .ref so, .ref ty])), (wk, .inr (8, [.int w_8, .int w_9, .ref li])), (li, .inl (cli, 24, .inl f_10))]) (pl := (cPL ad ca vi vl vf (List.range 13) ++ mW zad zkc zx0 zx1 zx2 zx3 zx4 zx5 zx6 zx7 zx8 zx9 zx10 zx11 zx12 zx13 zx14 zx15 zx16 zx17 zx18 zx19 zx20 zx21 zf0 zf1 zf2 zf3 zf4 zf5 zf6 zf7 zf8 zf9 zf10 zf11 zf12 zf13 zf14 zf15 zf16 zf17 zf18 zf19 zf20 zf21 zL zN zP zM zO)) hP hD [0, 8, 9] [1, 2, 3, 4, 5, 6, 7, 10, 11, 12, 13, 14, 15, 16, 17, 18, 19, 20, 21, 22, 23, 24, 25, 26, 27] rfl rfl (by decide) (by decide) hk1 hFc hP1 hD1
  have hPx := t_P (cx := [(gt, .inr (9, [.int w_7, .ref tp, .int td, .int fk, .int fpl, .ref bk, .int un, .ref mb, .ref mu, .int mk, .ref rd, .ref cm, .ref wk, .ref pp, .ref so, .ref ty])), (tp, .inl (ctp, 900, .inl ftp)), (mb, .inl (cmb, 3, .inr (.inr (.inr (.inr fmb))))), (mu, .inl (cmu, 3, .inl fmu)), (rd, .inr (6, rF r q0 q1 q2 q3 q4 q5 q6 q7)), (r 0, .inl (cb0, 18, .inl fb0)), (r 1, .inl (cb1, 18, .inl fb1)), (r 2, .inl (cb2, 18, .inl fb2)), (wk, .inr (8, [.int w_8, .int w_9, .ref li])), (li, .inl (cli, 24, .inl f_10)), (pp, .inl (cpp, 60, .inl fpp)), (so, .inl (cso, 60, .inl fso)), (ty, .inl (cty, 26, .inl fty)), (cm, .inr (1, [.ref kA, .ref kB, .ref kG, .ref (ad 12 0), .ref o3, .ref e4, .ref e5, .ref kC, .ref kF, .ref kT, .int spn])), (kA, .inl (cA9, 6, .inr (.inr (.inr (.inr (fun i => some (ad i 0))))))), (kB, .inl (cB, 6, .inr (.inr (.inr (.inr (fun i => some (ad (6 + i) 0))))))), (kG, .inl (cg9, 6, .inl fG)), (o3, .inr (7, [.ref r3, .int n3])), (r3, .inl (c3, 6, .inr (.inl f3))), (e4, .inr (3, [.int (nI R4), .ref t4, .ref s4, .int m4])), (t4, .inl (ct4, 24 * R4, .inl ft4)), (s4, .inl (cs4, R4, .inl fs4)), (e5, .inr (3, [.int (nI R5), .ref t5, .ref s5, .int m5])), (t5, .inl (ct5, 24 * R5, .inl ft5)), (s5, .inl (cs5, R5, .inl fs5)), (kC, .inl (cC, 24, .inl fC)), (kF, .inl (cF, 24, .inl fF)), (kT, .inl (cT, 26, .inl fT))]) hPx [25, 0, 1, 2, 3, 4, 5, 6, 26, 27, 7, 8, 9, 10, 11, 12, 13, 14, 15, 16, 17, 18, 19, 20, 21, 22, 23, 24] rfl
  have hDx := va_D.part (cx := [(gt, .inr (9, [.int w_7, .ref tp, .int td, .int fk, .int fpl, .ref bk, .int un, .ref mb, .ref mu, .int mk, .ref rd, .ref cm, .ref wk, .ref pp, .ref so, .ref ty])), (tp, .inl (ctp, 900, .inl ftp)), (mb, .inl (cmb, 3, .inr (.inr (.inr (.inr fmb))))), (mu, .inl (cmu, 3, .inl fmu)), (rd, .inr (6, rF r q0 q1 q2 q3 q4 q5 q6 q7)), (r 0, .inl (cb0, 18, .inl fb0)), (r 1, .inl (cb1, 18, .inl fb1)), (r 2, .inl (cb2, 18, .inl fb2)), (wk, .inr (8, [.int w_8, .int w_9, .ref li])), (li, .inl (cli, 24, .inl f_10)), (pp, .inl (cpp, 60, .inl fpp)), (so, .inl (cso, 60, .inl fso)), (ty, .inl (cty, 26, .inl fty)), (cm, .inr (1, [.ref kA, .ref kB, .ref kG, .ref (ad 12 0), .ref o3, .ref e4, .ref e5, .ref kC, .ref kF, .ref kT, .int spn])), (kA, .inl (cA9, 6, .inr (.inr (.inr (.inr (fun i => some (ad i 0))))))), (kB, .inl (cB, 6, .inr (.inr (.inr (.inr (fun i => some (ad (6 + i) 0))))))), (kG, .inl (cg9, 6, .inl fG)), (o3, .inr (7, [.ref r3, .int n3])), (r3, .inl (c3, 6, .inr (.inl f3))), (e4, .inr (3, [.int (nI R4), .ref t4, .ref s4, .int m4])), (t4, .inl (ct4, 24 * R4, .inl ft4)), (s4, .inl (cs4, R4, .inl fs4)), (e5, .inr (3, [.int (nI R5), .ref t5, .ref s5, .int m5])), (t5, .inl (ct5, 24 * R5, .inl ft5)), (s5, .inl (cs5, R5, .inl fs5)), (kC, .inl (cC, 24, .inl fC)), (kF, .inl (cF, 24, .inl fF)), (kT, .inl (cT, 26, .inl fT))]) hDx [25, 0, 1, 2, 3, 4, 5, 6, 26, 27, 7, 8, 9, 10, 11, 12, 13, 14, 15, 16, 17, 18, 19, 20, 21, 22, 23, 24] (by decide) rfl
  have hm9 : List.map Prod.fst ([(gt, .inr (9, [.int w_7, .ref tp, .int td, .int fk, .int fpl, .ref bk, .int un, .ref mb, .ref mu, .int mk, .ref rd, .ref cm, .ref wk, .ref pp, .ref so, .ref ty])), (tp, .inl (ctp, 900, .inl ftp)), (mb, .inl (cmb, 3, .inr (.inr (.inr (.inr fmb))))), (mu, .inl (cmu, 3, .inl fmu)), (rd, .inr (6, rF r q0 q1 q2 q3 q4 q5 q6 q7)), (r 0, .inl (cb0, 18, .inl fb0)), (r 1, .inl (cb1, 18, .inl fb1)), (r 2, .inl (cb2, 18, .inl fb2)), (wk, .inr (8, [.int w_8, .int w_9, .ref li])), (li, .inl (cli, 24, .inl f_10)), (pp, .inl (cpp, 60, .inl fpp)), (so, .inl (cso, 60, .inl fso)), (ty, .inl (cty, 26, .inl fty)), (cm, .inr (1, [.ref kA, .ref kB, .ref kG, .ref (ad 12 0), .ref o3, .ref e4, .ref e5, .ref kC, .ref kF, .ref kT, .int spn])), (kA, .inl (cA9, 6, .inr (.inr (.inr (.inr (fun i => some (ad i 0))))))), (kB, .inl (cB, 6, .inr (.inr (.inr (.inr (fun i => some (ad (6 + i) 0))))))), (kG, .inl (cg9, 6, .inl fG)), (o3, .inr (7, [.ref r3, .int n3])), (r3, .inl (c3, 6, .inr (.inl f3))), (e4, .inr (3, [.int (nI R4), .ref t4, .ref s4, .int m4])), (t4, .inl (ct4, 24 * R4, .inl ft4)), (s4, .inl (cs4, R4, .inl fs4)), (e5, .inr (3, [.int (nI R5), .ref t5, .ref s5, .int m5])), (t5, .inl (ct5, 24 * R5, .inl ft5)), (s5, .inl (cs5, R5, .inl fs5)), (kC, .inl (cC, 24, .inl fC)), (kF, .inl (cF, 24, .inl fF)), (kT, .inl (cT, 26, .inl fT))] ++ (cPL ad ca vi vl vf (List.range 13) ++ mW zad zkc zx0 zx1 zx2 zx3 zx4 zx5 zx6 zx7 zx8 zx9 zx10 zx11 zx12 zx13 zx14 zx15 zx16 zx17 zx18 zx19 zx20 zx21 zf0 zf1 zf2 zf3 zf4 zf5 zf6 zf7 zf8 zf9 zf10 zf11 zf12 zf13 zf14 zf15 zf16 zf17 zf18 zf19 zf20 zf21 zL zN zP zM zO) : va_W) = List.map Prod.fst ([(gt, .inr (9, [.int st9, .ref tp, .int td, .int fk, .int fpl, .ref bk, .int un, .ref mb, .ref mu, .int mk, .ref rd, .ref cm, .ref wk, .ref pp, .ref so, .ref ty])), (tp, .inl (ctp, 900, .inl ftp)), (mb, .inl (cmb, 3, .inr (.inr (.inr (.inr fmb))))), (mu, .inl (cmu, 3, .inl fmu)), (rd, .inr (6, rF r q0 q1 q2 q3 q4 q5 q6 q7)), (r 0, .inl (cb0, 18, .inl fb0)), (r 1, .inl (cb1, 18, .inl fb1)), (r 2, .inl (cb2, 18, .inl fb2)), (wk, .inr (8, [.int x0, .int x1, .ref li])), (li, .inl (cli, 24, .inl fli)), (pp, .inl (cpp, 60, .inl fpp)), (so, .inl (cso, 60, .inl fso)), (ty, .inl (cty, 26, .inl fty)), (cm, .inr (1, [.ref kA, .ref kB, .ref kG, .ref (ad 12 0), .ref o3, .ref e4, .ref e5, .ref kC, .ref kF, .ref kT, .int spn])), (kA, .inl (cA9, 6, .inr (.inr (.inr (.inr (fun i => some (ad i 0))))))), (kB, .inl (cB, 6, .inr (.inr (.inr (.inr (fun i => some (ad (6 + i) 0))))))), (kG, .inl (cg9, 6, .inl fG)), (o3, .inr (7, [.ref r3, .int n3])), (r3, .inl (c3, 6, .inr (.inl f3))), (e4, .inr (3, [.int (nI R4), .ref t4, .ref s4, .int m4])), (t4, .inl (ct4, 24 * R4, .inl ft4)), (s4, .inl (cs4, R4, .inl fs4)), (e5, .inr (3, [.int (nI R5), .ref t5, .ref s5, .int m5])), (t5, .inl (ct5, 24 * R5, .inl ft5)), (s5, .inl (cs5, R5, .inl fs5)), (kC, .inl (cC, 24, .inl fC)), (kF, .inl (cF, 24, .inl fF)), (kT, .inl (cT, 26, .inl fT))] ++ (cPL ad ca vi vl vf (List.range 13) ++ mW zad zkc zx0 zx1 zx2 zx3 zx4 zx5 zx6 zx7 zx8 zx9 zx10 zx11 zx12 zx13 zx14 zx15 zx16 zx17 zx18 zx19 zx20 zx21 zf0 zf1 zf2 zf3 zf4 zf5 zf6 zf7 zf8 zf9 zf10 zf11 zf12 zf13 zf14 zf15 zf16 zf17 zf18 zf19 zf20 zf21 zL zN zP zM zO) : va_W) := rfl
  have hQNx := qn_fst hQN hm9
  have hQN := hQNx
  clear hQNx hQAc hFc hDc hPc hKc
  have hP := hPx
  have hD := hDx
  clear hPx hDx
  generalize H1 = H at hP hS hQ ⊢
  refine lv_pop hx hb dL_law_634 rfl ?_
  refine lv_aload_n hx hb dL_law_635 rfl (lv_at hl 1 rfl) ?_
  refine lv_aload_n hx hb dL_law_636 rfl (lv_at hl 3 rfl) ?_
  refine lv_iload_n hx hb dL_law_637 rfl (lv_at hl 0 rfl) ?_
  refine lv_iconst (v := 1) hx hb dL_law_638 (by decide) ?_
  refine lv_iadd hx hb dL_law_639 ?_
  refine lv_topi (fun y_11 ey_11 => ?_)
  have ty_11 := i_add (a := ii.toInt) (b := 1) rfl (by decide) ey_11 (by omega) (by omega)
  refine va_sld hx hb hX hbl hbA hS (i := y_11) (vp_of (a := y_11.toInt) rfl (by omega) (by omega)) dL_law_640 ?_
  refine lv_topi (fun y_12 ey_12 => ?_)
  have e_y_12 : y_12 = y_2 := by rw [ey_12, ey_2, ey_11, ey_1]
  have q_y_12 : y_12.toInt = y_2.toInt := by rw [ey_12, ey_2, ey_11, ey_1]
  refine lv_aload_n hx hb dL_law_641 rfl (lv_at hl 3 rfl) ?_
  refine lv_iload_n hx hb dL_law_642 rfl (lv_at hl 0 rfl) ?_
  refine lv_iconst (v := 2) hx hb dL_law_643 (by decide) ?_
  refine lv_iadd hx hb dL_law_644 ?_
  refine lv_topi (fun y_13 ey_13 => ?_)
  have ty_13 := i_add (a := ii.toInt) (b := 2) rfl (by decide) ey_13 (by omega) (by omega)
  refine va_sld hx hb hX hbl hbA hS (i := y_13) (vp_of (a := y_13.toInt) rfl (by omega) (by omega)) dL_law_645 ?_
  refine lv_topi (fun y_14 ey_14 => ?_)
  have e_y_14 : y_14 = y_4 := by rw [ey_14, ey_4, ey_13, ey_3]
  have q_y_14 : y_14.toInt = y_4.toInt := by rw [ey_14, ey_4, ey_13, ey_3]
  have hPc : va_P (dC, dI) vwCl (mW zad zkc zx0 zx1 zx2 zx3 zx4 zx5 zx6 zx7 zx8 zx9 zx10 zx11 zx12 zx13 zx14 zx15 zx16 zx17 zx18 zx19 zx20 zx21 zf0 zf1 zf2 zf3 zf4 zf5 zf6 zf7 zf8 zf9 zf10 zf11 zf12 zf13 zf14 zf15 zf16 zf17 zf18 zf19 zf20 zf21 zL zN zP zM zO) H := p_sub hP (fun _ hq => List.mem_append_right _ (List.mem_append_right _ hq))
  have hKc := hKM
  have hDc : va_D (fun q : Nat => s.heap.size ≤ q) (mW zad zkc zx0 zx1 zx2 zx3 zx4 zx5 zx6 zx7 zx8 zx9 zx10 zx11 zx12 zx13 zx14 zx15 zx16 zx17 zx18 zx19 zx20 zx21 zf0 zf1 zf2 zf3 zf4 zf5 zf6 zf7 zf8 zf9 zf10 zf11 zf12 zf13 zf14 zf15 zf16 zf17 zf18 zf19 zf20 zf21 zL zN zP zM zO) := D_right (D_right hD)
  have hFc := m_free hDc hS hA
  have hQAc : ∀ q ∈ W9, ¬ va_A (mW zad zkc zx0 zx1 zx2 zx3 zx4 zx5 zx6 zx7 zx8 zx9 zx10 zx11 zx12 zx13 zx14 zx15 zx16 zx17 zx18 zx19 zx20 zx21 zf0 zf1 zf2 zf3 zf4 zf5 zf6 zf7 zf8 zf9 zf10 zf11 zf12 zf13 zf14 zf15 zf16 zf17 zf18 zf19 zf20 zf21 zL zN zP zM zO) H.size q.1 := qn_A hQ hQN (fun x hx => List.mem_append_right _ (List.mem_append_right _ hx))
  refine va_calli (va_runV (As := [.int y_12, .int y_14]) (rest := []) ⟨hx, hb, hml, hown, hts⟩ (m_gate l dC dI zad zkc zx0 zx1 zx2 zx3 zx4 zx5 zx6 zx7 zx8 zx9 zx10 zx11 zx12 zx13 zx14 zx15 zx16 zx17 zx18 zx19 zx20 zx21 zf0 zf1 zf2 zf3 zf4 zf5 zf6 zf7 zf8 zf9 zf10 zf11 zf12 zf13 zf14 zf15 zf16 zf17 zf18 zf19 zf20 zf21 zL zN zP zM zO H.size y_12 y_14 hmi) (cwV 2 hts mg_L_X10_gate rfl rfl rfl (by decide +kernel) ⟨Nat.le_of_ble_eq_true rfl, Nat.le_of_ble_eq_true rfl⟩) ⟨fun a U g mk q => by obtain ⟨q0, q1, qP, qK, qD, qE0⟩ := q; exact ⟨q0, q1, qP, va_K.moved (u := U) (U := U.calling g mk a) (Vm.Alike.refl U.vm) qK, qD, over_moved (u := U) (E := U.calling g mk a) (Vm.Alike.refl U.vm) qE0⟩, va_recv hKc hPc (ci := 10) (q0 := 0) rfl rfl, fun U hU hW => ⟨rfl, by rw [hU], by rw [hU]; exact hPc, va_K.moved hW.alike hKc, hDc.weaken (fun _ _ _ _ => trivial), over_moved hW.alike hOV⟩⟩ rfl rfl hl.1 rfl (lv_room (Nat.le_of_ble_eq_true rfl)) dL_law_646 ⟨by show kc9 + 0 ≤ 600000; omega, by show ks9 + 0 ≤ 7302250; omega⟩) hS (fun q _ h => hFc q h) hFc (fun r_15 u t H1 locs ht hvm hw hB hz1 hk1 hS => ?_)
  have hQo := hQ
  have hQ := qn_P hQ hQAc hk1
  have hwu := hw
  have hwt_r_15 := congrArg Int32.toInt hw
  obtain ⟨zx_16, zx_17, zx_18, zx_19, zx_20, zx_21, zx_22, zx_23, zx_24, zx_25, zx_26, zf_27, zf_28, zf_29, zf_30, zf_31, zf_32, zf_33, zf_34, zf_35, zf_36, zf_37, zf_38, zf_39, zf_40, zf_41, zf_42, zf_43, zL_44, zNn_45, zP_46, zM_47, zO_48, h_49, hP1, hK1, hD1⟩ := hB
  rw [ht] at hP1
  have rg_zx_16 := i_rng zx_16
  have rg_zx_17 := i_rng zx_17
  have rg_zx_18 := i_rng zx_18
  have rg_zx_19 := i_rng zx_19
  have rg_zx_20 := i_rng zx_20
  have rg_zx_21 := i_rng zx_21
  have rg_zx_22 := i_rng zx_22
  have rg_zx_23 := i_rng zx_23
  have rg_zx_24 := i_rng zx_24
  have rg_zx_25 := i_rng zx_25
  have rg_zx_26 := i_rng zx_26
  have hass := (pm_as (a := [(gt, .inr (9, [.int w_7, .ref tp, .int td, .int fk, .int fpl, .ref bk, .int un, .ref mb, .ref mu, .int mk, .ref rd, .ref cm, .ref wk, .ref pp, .ref so, .ref ty])), (tp, .inl (ctp, 900, .inl ftp)), (mb, .inl (cmb, 3, .inr (.inr (.inr (.inr fmb))))), (mu, .inl (cmu, 3, .inl fmu)), (rd, .inr (6, rF r q0 q1 q2 q3 q4 q5 q6 q7)), (r 0, .inl (cb0, 18, .inl fb0)), (r 1, .inl (cb1, 18, .inl fb1)), (r 2, .inl (cb2, 18, .inl fb2)), (wk, .inr (8, [.int w_8, .int w_9, .ref li])), (li, .inl (cli, 24, .inl f_10)), (pp, .inl (cpp, 60, .inl fpp)), (so, .inl (cso, 60, .inl fso)), (ty, .inl (cty, 26, .inl fty)), (cm, .inr (1, [.ref kA, .ref kB, .ref kG, .ref (ad 12 0), .ref o3, .ref e4, .ref e5, .ref kC, .ref kF, .ref kT, .int spn])), (kA, .inl (cA9, 6, .inr (.inr (.inr (.inr (fun i => some (ad i 0))))))), (kB, .inl (cB, 6, .inr (.inr (.inr (.inr (fun i => some (ad (6 + i) 0))))))), (kG, .inl (cg9, 6, .inl fG)), (o3, .inr (7, [.ref r3, .int n3])), (r3, .inl (c3, 6, .inr (.inl f3))), (e4, .inr (3, [.int (nI R4), .ref t4, .ref s4, .int m4])), (t4, .inl (ct4, 24 * R4, .inl ft4)), (s4, .inl (cs4, R4, .inl fs4)), (e5, .inr (3, [.int (nI R5), .ref t5, .ref s5, .int m5])), (t5, .inl (ct5, 24 * R5, .inl ft5)), (s5, .inl (cs5, R5, .inl fs5)), (kC, .inl (cC, 24, .inl fC)), (kF, .inl (cF, 24, .inl fF)), (kT, .inl (cT, 26, .inl fT))]) (b := cPL ad ca vi vl vf (List.range 13)) (c := mW zad zkc zx0 zx1 zx2 zx3 zx4 zx5 zx6 zx7 zx8 zx9 zx10 zx11 zx12 zx13 zx14 zx15 zx16 zx17 zx18 zx19 zx20 zx21 zf0 zf1 zf2 zf3 zf4 zf5 zf6 zf7 zf8 zf9 zf10 zf11 zf12 zf13 zf14 zf15 zf16 zf17 zf18 zf19 zf20 zf21 zL zN zP zM zO)).symm
  obtain ⟨hPx, hDx⟩ := pm_join hP hD hass hk1 hFc hP1 hD1
  rw [List.append_assoc] at hPx hDx
  have hQNx := qn_app (qn_sub hQN (fun x hx => List.mem_append_left _ hx)) (qn_app (qn_sub hQN (fun x hx => List.mem_append_right _ (List.mem_append_left _ hx))) (qn_new hQAc hD1))
  have hP := hPx
  have hD := hDx
  have hQN := hQNx
  generalize H1 = H at hP hS hQ ⊢
  have hmi9 := hmi.setP h_49
  refine lv_pop hx hb dL_law_649 rfl ?_
  refine lv_goto (tgt := 1128) hx hb dL_law_650 (by decide) ?_
  refine W.widen (k := kc9 + 195) (n := ks9 + 10960) (by omega) (by omega) ?_
  exact kk H _ ls tp bk mb mu rd cm wk pp so ty li w_7 td fk fpl un mk w_8 w_9 q0 q1 q2 q3 q4 q5 q6 q7 r ctp cmb cmu cb0 cb1 cb2 cli cpp cso cty ftp fmu fb0 fb1 fb2 f_10 fpp fso fty fmb spn kG cg9 fG o3 r3 c3 f3 n3 e4 t4 s4 R4 ct4 cs4 ft4 fs4 m4 e5 t5 s5 R5 ct5 cs5 ft5 fs5 m5 kC cC fC kF cF fF kT cT fT kA kB cA9 cB ad ca vi vl vf W9 T9 B9 zad zkc zx_16 zx1 zx2 zx3 zx4 zx5 zx6 zx7 zx8 zx9 zx10 zx11 zx_17 zx_18 zx_19 zx_20 zx_21 zx_22 zx_23 zx_24 zx_25 zx_26 zf0 zf1 zf2 zf_27 zf_28 zf_29 zf_30 zf_31 zf_32 zf_33 zf_34 zf_35 zf_36 zf_37 zf_38 zf_39 zf_40 zf_41 zf_42 zf_43 zf20 zf21 zL_44 zNn_45 zP_46 zM_47 zO_48 hs1 hs2 ha3 hb3 hR4 hU4 hc4 hd4 hb_fs4 hR5 hU5 hc5 hd5 hb_fs5 hG (by omega) (by omega) hM hB9 hbk rfl hmi9 (by omega) (by omega) hrt hK hKC hKM hKQ hP hD hQ hQN hS hl
theorem dL_law_653 : decode cL_law 653 = .ok (.aload_n 1, 1) := by decide +kernel
theorem dL_law_654 : decode cL_law 654 = .ok (.aload_n 0, 1) := by decide +kernel
theorem dL_law_655 : decode cL_law 655 = .ok (.iload_n 3, 1) := by decide +kernel
theorem dL_law_656 : decode cL_law 656 = .ok (.iconst 1, 1) := by decide +kernel
theorem dL_law_657 : decode cL_law 657 = .ok (.iadd, 1) := by decide +kernel
theorem dL_law_658 : decode cL_law 658 = .ok (.iaload, 1) := by decide +kernel
theorem dL_law_659 : decode cL_law 659 = .ok (.aload_n 0, 1) := by decide +kernel
theorem dL_law_660 : decode cL_law 660 = .ok (.iload_n 3, 1) := by decide +kernel
theorem dL_law_661 : decode cL_law 661 = .ok (.iconst 2, 1) := by decide +kernel
theorem dL_law_662 : decode cL_law 662 = .ok (.iadd, 1) := by decide +kernel
theorem dL_law_663 : decode cL_law 663 = .ok (.iaload, 1) := by decide +kernel
theorem dL_law_664 : decode cL_law 664 = .ok (.aload_n 0, 1) := by decide +kernel
theorem dL_law_665 : decode cL_law 665 = .ok (.iload_n 3, 1) := by decide +kernel
theorem dL_law_666 : decode cL_law 666 = .ok (.iconst 3, 1) := by decide +kernel
theorem dL_law_667 : decode cL_law 667 = .ok (.iadd, 1) := by decide +kernel
theorem dL_law_668 : decode cL_law 668 = .ok (.iaload, 1) := by decide +kernel
theorem dL_law_669 : decode cL_law 669 = .ok (.invokevirtual 78, 3) := by decide +kernel
theorem dL_law_672 : decode cL_law 672 = .ok (.pop, 1) := by decide +kernel
theorem dL_law_673 : decode cL_law 673 = .ok (.aload_n 2, 1) := by decide +kernel
theorem dL_law_674 : decode cL_law 674 = .ok (.aload_n 0, 1) := by decide +kernel
theorem dL_law_675 : decode cL_law 675 = .ok (.iload_n 3, 1) := by decide +kernel
theorem dL_law_676 : decode cL_law 676 = .ok (.iconst 1, 1) := by decide +kernel
theorem dL_law_677 : decode cL_law 677 = .ok (.iadd, 1) := by decide +kernel
theorem dL_law_678 : decode cL_law 678 = .ok (.iaload, 1) := by decide +kernel
theorem dL_law_679 : decode cL_law 679 = .ok (.aload_n 0, 1) := by decide +kernel
theorem dL_law_680 : decode cL_law 680 = .ok (.iload_n 3, 1) := by decide +kernel
theorem dL_law_681 : decode cL_law 681 = .ok (.iconst 2, 1) := by decide +kernel
theorem dL_law_682 : decode cL_law 682 = .ok (.iadd, 1) := by decide +kernel
theorem dL_law_683 : decode cL_law 683 = .ok (.iaload, 1) := by decide +kernel
theorem dL_law_684 : decode cL_law 684 = .ok (.aload_n 0, 1) := by decide +kernel
theorem dL_law_685 : decode cL_law 685 = .ok (.iload_n 3, 1) := by decide +kernel
theorem dL_law_686 : decode cL_law 686 = .ok (.iconst 3, 1) := by decide +kernel
theorem dL_law_687 : decode cL_law 687 = .ok (.iadd, 1) := by decide +kernel
theorem dL_law_688 : decode cL_law 688 = .ok (.iaload, 1) := by decide +kernel
theorem dL_law_689 : decode cL_law 689 = .ok (.invokevirtual 81, 3) := by decide +kernel
theorem dL_law_692 : decode cL_law 692 = .ok (.pop, 1) := by decide +kernel
theorem dL_law_693 : decode cL_law 693 = .ok (.goto 435, 3) := by decide +kernel
set_option maxHeartbeats 4000000 in
set_option maxRecDepth 100000 in
/-- the law: match -/
theorem law_case15 {p : Program} {l : Launch} {e : Env} {s : State} {m : MethodId} {below : List Frame} {meth : Method} {c : Code} {dC : Nat → ClassId} {dI : Nat → Nat → Nat} {b L : Nat} {xs : Nat → Int32} (hLL : L ≤ 3072) (C0 : lw_At p s m meth c b L xs) (hLX : LX s) {gt mo : Nat} {H : Heap} {locs : List Loc} {kc9 ks9 : Nat} (hc9 : kc9 + 195 ≤ 600000) (hs9 : ks9 + 10960 ≤ 7302250) {ii : Int32} (hii : 0 ≤ ii.toInt ∧ ii.toInt + 6 ≤ L) {ls : Array Slot} (kk : ∀ (H1 : Heap) (locs1 : List Loc) (ls : Array Slot), LI dC dI s gt mo H1 (va_S (fun q : Nat => s.heap.size ≤ q) s.heap H1 locs1 → lv_has ls 4 [(3, .int ii), (2, .ref mo), (1, .ref gt), (0, .ref b)] → W p l e room_1 s m #[Value.ref b] below meth c H1 locs1 (kc9 + 195) (ks9 + 10960) (lw_Z below #[Value.ref b] s) (F0 m 1128 ls []))) : LI dC dI s gt mo H (va_S (fun q : Nat => s.heap.size ≤ q) s.heap H locs → lv_has ls 4 [(3, .int ii), (2, .ref mo), (1, .ref gt), (0, .ref b)] → W p l e room_1 s m #[Value.ref b] below meth c H locs kc9 ks9 (lw_Z below #[Value.ref b] s) (F0 m 653 ls [])) := by
  obtain ⟨hx, hb, hr, hml, hown, hts, hX, hbl, hlocks, hgv⟩ := id C0
  have hown : s.vm.findClass RL = some m.cls := hown
  have hA : ∀ q : Nat, s.heap.size ≤ q → (fun q : Nat => s.heap.size ≤ q) q := fun _ h => h
  have hbA : ¬ (fun q : Nat => s.heap.size ≤ q) b := Nat.not_le.mpr hbl
  obtain ⟨hcl, hcld, hAO2, hAO5, hN53, hN160, hSR, hSW, hSR2, hSW2, hOV⟩ := hLX
  unfold LI
  intro tp bk mb mu rd cm wk pp so ty li st9 td fk fpl un mk x0 x1 q0 q1 q2 q3 q4 q5 q6 q7 r ctp cmb cmu cb0 cb1 cb2 cli cpp cso cty ftp fmu fb0 fb1 fb2 fli fpp fso fty fmb spn kG cg9 fG o3 r3 c3 f3 n3 e4 t4 s4 R4 ct4 cs4 ft4 fs4 m4 e5 t5 s5 R5 ct5 cs5 ft5 fs5 m5 kC cC fC kF cF fF kT cT fT kA kB cA9 cB ad ca vi vl vf W9 T9 B9 zad zkc zx0 zx1 zx2 zx3 zx4 zx5 zx6 zx7 zx8 zx9 zx10 zx11 zx12 zx13 zx14 zx15 zx16 zx17 zx18 zx19 zx20 zx21 zf0 zf1 zf2 zf3 zf4 zf5 zf6 zf7 zf8 zf9 zf10 zf11 zf12 zf13 zf14 zf15 zf16 zf17 zf18 zf19 zf20 zf21 zL zN zP zM zO hs1 hs2 ha3 hb3 hR4 hU4 hc4 hd4 hb_fs4 hR5 hU5 hc5 hd5 hb_fs5 hG htd hmk hM hB9 hbk hmo hmi hzk hzt hrt hK hKC hKM hKQ hP hD hQ hQN hS hl
  subst hmo
  have rg_td := i_rng td
  have rg_mk := i_rng mk
  have rg_zx2 := i_rng zx2
  have rg_zx3 := i_rng zx3
  refine lv_aload_n hx hb dL_law_653 rfl (lv_at hl 2 rfl) ?_
  refine lv_aload_n hx hb dL_law_654 rfl (lv_at hl 3 rfl) ?_
  refine lv_iload_n hx hb dL_law_655 rfl (lv_at hl 0 rfl) ?_
  refine lv_iconst (v := 1) hx hb dL_law_656 (by decide) ?_
  refine lv_iadd hx hb dL_law_657 ?_
  refine lv_topi (fun y_1 ey_1 => ?_)
  have ty_1 := i_add (a := ii.toInt) (b := 1) rfl (by decide) ey_1 (by omega) (by omega)
  refine va_sld hx hb hX hbl hbA hS (i := y_1) (vp_of (a := y_1.toInt) rfl (by omega) (by omega)) dL_law_658 ?_
  refine lv_topi (fun y_2 ey_2 => ?_)
  refine lv_aload_n hx hb dL_law_659 rfl (lv_at hl 3 rfl) ?_
  refine lv_iload_n hx hb dL_law_660 rfl (lv_at hl 0 rfl) ?_
  refine lv_iconst (v := 2) hx hb dL_law_661 (by decide) ?_
  refine lv_iadd hx hb dL_law_662 ?_
  refine lv_topi (fun y_3 ey_3 => ?_)
  have ty_3 := i_add (a := ii.toInt) (b := 2) rfl (by decide) ey_3 (by omega) (by omega)
  refine va_sld hx hb hX hbl hbA hS (i := y_3) (vp_of (a := y_3.toInt) rfl (by omega) (by omega)) dL_law_663 ?_
  refine lv_topi (fun y_4 ey_4 => ?_)
  refine lv_aload_n hx hb dL_law_664 rfl (lv_at hl 3 rfl) ?_
  refine lv_iload_n hx hb dL_law_665 rfl (lv_at hl 0 rfl) ?_
  refine lv_iconst (v := 3) hx hb dL_law_666 (by decide) ?_
  refine lv_iadd hx hb dL_law_667 ?_
  refine lv_topi (fun y_5 ey_5 => ?_)
  have ty_5 := i_add (a := ii.toInt) (b := 3) rfl (by decide) ey_5 (by omega) (by omega)
  refine va_sld hx hb hX hbl hbA hS (i := y_5) (vp_of (a := y_5.toInt) rfl (by omega) (by omega)) dL_law_668 ?_
  refine lv_topi (fun y_6 ey_6 => ?_)
  have hPc := hP.sub (ws' := [(gt, .inr (9, [.int st9, .ref tp, .int td, .int fk, .int fpl, .ref bk, .int un, .ref mb, .ref mu, .int mk, .ref rd, .ref cm, .ref wk, .ref pp, .ref so, .ref ty]))]) [0] rfl
  have hKc := hK.sub (tys' := []) [] rfl
  have hDc := hD.sub (ws' := [(gt, .inr (9, [.int st9, .ref tp, .int td, .int fk, .int fpl, .ref bk, .int un, .ref mb, .ref mu, .int mk, .ref rd, .ref cm, .ref wk, .ref pp, .ref so, .ref ty]))]) [0] (by decide) rfl
  have hFc := va_free (wc := [(gt, .inr (9, [.int st9, .ref tp, .int td, .int fk, .int fpl, .ref bk, .int un, .ref mb, .ref mu, .int mk, .ref rd, .ref cm, .ref wk, .ref pp, .ref so, .ref ty]))]) hD hS hA [0] rfl
  have hQAc : ∀ q ∈ W9, ¬ va_A [(gt, .inr (9, [.int st9, .ref tp, .int td, .int fk, .int fpl, .ref bk, .int un, .ref mb, .ref mu, .int mk, .ref rd, .ref cm, .ref wk, .ref pp, .ref so, .ref ty]))] H.size q.1 := qn_A hQ hQN (fun x hx => mem_pl [0] rfl x hx)
  refine va_calli (va_runV (As := [.int y_2, .int y_4, .int y_6]) (rest := []) ⟨hx, hb, hml, hown, hts⟩ (s_g_match l dC dI W9 T9 B9 gt tp bk mb mu rd cm wk pp so ty st9 td fk fpl un mk H.size y_2 y_4 y_6 hB9 hbk) (cwV 3 hts mg_L_X9_match rfl rfl rfl (by decide +kernel) ⟨Nat.le_of_ble_eq_true rfl, Nat.le_of_ble_eq_true rfl⟩) ⟨fun a U g mk q => by obtain ⟨q0, q1, qP, qK, qD, qE0, qE1, qE2⟩ := q; exact ⟨q0, q1, qP, va_K.moved (u := U) (U := U.calling g mk a) (Vm.Alike.refl U.vm) qK, qD, qE0, va_K.moved (u := U) (U := U.calling g mk a) (Vm.Alike.refl U.vm) qE1, qE2⟩, va_recv hKc hPc (ci := 9) (q0 := 0) rfl rfl, fun U hU hW => ⟨rfl, by rw [hU], by rw [hU]; exact hPc, va_K.moved hW.alike hKc, hDc.weaken (fun _ _ _ _ => trivial), (by rw [hU]; exact hQ), va_K.moved hW.alike hKQ, hQAc⟩⟩ rfl rfl hl.1 rfl (lv_room (Nat.le_of_ble_eq_true rfl)) dL_law_669 ⟨by show kc9 + 0 ≤ 600000; omega, by show ks9 + 0 ≤ 7302250; omega⟩) hS (fun q _ h => hFc q h) hFc (fun r_7 u_8 t H1 locs ht hvm hw hB hz1 hk1 hS => ?_)
  have hQo := hQ
  have hQ := qn_P hQ hQAc hk1
  obtain ⟨w_9, hP1, hK1, hD1⟩ := hB
  rw [ht] at hP1
  have hQNa := qn_new hQAc hD1
  obtain ⟨hPx, hDx⟩ := va_joinQ (X := [(gt, .inr (9, [.int st9, .ref tp, .int td, .int fk, .int fpl, .ref bk, .int un, .ref mb, .ref mu, .int mk, .ref rd, .ref cm, .ref wk, .ref pp, .ref so, .ref ty])), (tp, .inl (ctp, 900, .inl ftp)), (mb, .inl (cmb, 3, .inr (.inr (.inr (.inr fmb))))), (mu, .inl (cmu, 3, .inl fmu)), (rd, .inr (6, rF r q0 q1 q2 q3 q4 q5 q6 q7)), (r 0, .inl (cb0, 18, .inl fb0)), (r 1, .inl (cb1, 18, .inl fb1)), (r 2, .inl (cb2, 18, .inl fb2)), (wk, .inr (8, [.int x0, .int x1, .ref li])), (li, .inl (cli, 24, .inl fli)), (pp, .inl (cpp, 60, .inl fpp)), (so, .inl (cso, 60, .inl fso)), (ty, .inl (cty, 26, .inl fty)), (cm, .inr (1, [.ref kA, .ref kB, .ref kG, .ref (ad 12 0), .ref o3, .ref e4, .ref e5, .ref kC, .ref kF, .ref kT, .int spn])), (kA, .inl (cA9, 6, .inr (.inr (.inr (.inr (fun i => some (ad i 0))))))), (kB, .inl (cB, 6, .inr (.inr (.inr (.inr (fun i => some (ad (6 + i) 0))))))), (kG, .inl (cg9, 6, .inl fG)), (o3, .inr (7, [.ref r3, .int n3])), (r3, .inl (c3, 6, .inr (.inl f3))), (e4, .inr (3, [.int (nI R4), .ref t4, .ref s4, .int m4])), (t4, .inl (ct4, 24 * R4, .inl ft4)), (s4, .inl (cs4, R4, .inl fs4)), (e5, .inr (3, [.int (nI R5), .ref t5, .ref s5, .int m5])), (t5, .inl (ct5, 24 * R5, .inl ft5)), (s5, .inl (cs5, R5, .inl fs5)), (kC, .inl (cC, 24, .inl fC)), (kF, .inl (cF, 24, .inl fF)), (kT, .inl (cT, 26, .inl fT))]) (cx := [(gt, .inr (9, [.int st9, .ref tp, .int td, .int fk, .int fpl, .ref bk, .int un, .ref mb, .ref mu, .int mk, .ref rd, .ref cm, .ref wk, .ref pp, .ref so, .ref ty]))]) (wr := [(tp, .inl (ctp, 900, .inl ftp)), (mb, .inl (cmb, 3, .inr (.inr (.inr (.inr fmb))))), (mu, .inl (cmu, 3, .inl fmu)), (rd, .inr (6, rF r q0 q1 q2 q3 q4 q5 q6 q7)), (r 0, .inl (cb0, 18, .inl fb0)), (r 1, .inl (cb1, 18, .inl fb1)), (r 2, .inl (cb2, 18, .inl fb2)), (wk, .inr (8, [.int x0, .int x1, .ref li])), (li, .inl (cli, 24, .inl fli)), (pp, .inl (cpp, 60, .inl fpp)), (so, .inl (cso, 60, .inl fso)), (ty, .inl (cty, 26, .inl fty)), (cm, .inr (1, [.ref kA, .ref kB, .ref kG, .ref (ad 12 0), .ref o3, .ref e4, .ref e5, .ref kC, .ref kF, .ref kT, .int spn])), (kA, .inl (cA9, 6, .inr (.inr (.inr (.inr (fun i => some (ad i 0))))))), (kB, .inl (cB, 6, .inr (.inr (.inr (.inr (fun i => some (ad (6 + i) 0))))))), (kG, .inl (cg9, 6, .inl fG)), (o3, .inr (7, [.ref r3, .int n3])), (r3, .inl (c3, 6, .inr (.inl f3))), (e4, .inr (3, [.int (nI R4), .ref t4, .ref s4, .int m4])), (t4, .inl (ct4, 24 * R4, .inl ft4)), (s4, .inl (cs4, R4, .inl fs4)), (e5, .inr (3, [.int (nI R5), .ref t5, .ref s5, .int m5])), (t5, .inl (ct5, 24 * R5, .inl ft5)), (s5, .inl (cs5, R5, .inl fs5)), (kC, .inl (cC, 24, .inl fC)), (kF, .inl (cF, 24, .inl fF)), (kT, .inl (cT, 26, .inl fT))]) (w1 := [(gt, .inr (9, [.int w_9, .ref tp, .int td, .int fk, .int fpl, .ref bk, .int un, .ref mb, .ref mu, .int mk, .ref rd, .ref cm, .ref wk, .ref pp, .ref so, .ref ty]))]) (pl := (cPL ad ca vi vl vf (List.range 13) ++ mW zad zkc zx0 zx1 zx2 zx3 zx4 zx5 zx6 zx7 zx8 zx9 zx10 zx11 zx12 zx13 zx14 zx15 zx16 zx17 zx18 zx19 zx20 zx21 zf0 zf1 zf2 zf3 zf4 zf5 zf6 zf7 zf8 zf9 zf10 zf11 zf12 zf13 zf14 zf15 zf16 zf17 zf18 zf19 zf20 zf21 zL zN zP zM zO)) hP hD [0] [1, 2, 3, 4, 5, 6, 7, 8, 9, 10, 11, 12, 13, 14, 15, 16, 17, 18, 19, 20, 21, 22, 23, 24, 25, 26, 27] rfl rfl (by decide) (by decide) hk1 hFc hP1 hD1
  have hPx := t_P (cx := [(gt, .inr (9, [.int w_9, .ref tp, .int td, .int fk, .int fpl, .ref bk, .int un, .ref mb, .ref mu, .int mk, .ref rd, .ref cm, .ref wk, .ref pp, .ref so, .ref ty])), (tp, .inl (ctp, 900, .inl ftp)), (mb, .inl (cmb, 3, .inr (.inr (.inr (.inr fmb))))), (mu, .inl (cmu, 3, .inl fmu)), (rd, .inr (6, rF r q0 q1 q2 q3 q4 q5 q6 q7)), (r 0, .inl (cb0, 18, .inl fb0)), (r 1, .inl (cb1, 18, .inl fb1)), (r 2, .inl (cb2, 18, .inl fb2)), (wk, .inr (8, [.int x0, .int x1, .ref li])), (li, .inl (cli, 24, .inl fli)), (pp, .inl (cpp, 60, .inl fpp)), (so, .inl (cso, 60, .inl fso)), (ty, .inl (cty, 26, .inl fty)), (cm, .inr (1, [.ref kA, .ref kB, .ref kG, .ref (ad 12 0), .ref o3, .ref e4, .ref e5, .ref kC, .ref kF, .ref kT, .int spn])), (kA, .inl (cA9, 6, .inr (.inr (.inr (.inr (fun i => some (ad i 0))))))), (kB, .inl (cB, 6, .inr (.inr (.inr (.inr (fun i => some (ad (6 + i) 0))))))), (kG, .inl (cg9, 6, .inl fG)), (o3, .inr (7, [.ref r3, .int n3])), (r3, .inl (c3, 6, .inr (.inl f3))), (e4, .inr (3, [.int (nI R4), .ref t4, .ref s4, .int m4])), (t4, .inl (ct4, 24 * R4, .inl ft4)), (s4, .inl (cs4, R4, .inl fs4)), (e5, .inr (3, [.int (nI R5), .ref t5, .ref s5, .int m5])), (t5, .inl (ct5, 24 * R5, .inl ft5)), (s5, .inl (cs5, R5, .inl fs5)), (kC, .inl (cC, 24, .inl fC)), (kF, .inl (cF, 24, .inl fF)), (kT, .inl (cT, 26, .inl fT))]) hPx [27, 0, 1, 2, 3, 4, 5, 6, 7, 8, 9, 10, 11, 12, 13, 14, 15, 16, 17, 18, 19, 20, 21, 22, 23, 24, 25, 26] rfl
  have hDx := va_D.part (cx := [(gt, .inr (9, [.int w_9, .ref tp, .int td, .int fk, .int fpl, .ref bk, .int un, .ref mb, .ref mu, .int mk, .ref rd, .ref cm, .ref wk, .ref pp, .ref so, .ref ty])), (tp, .inl (ctp, 900, .inl ftp)), (mb, .inl (cmb, 3, .inr (.inr (.inr (.inr fmb))))), (mu, .inl (cmu, 3, .inl fmu)), (rd, .inr (6, rF r q0 q1 q2 q3 q4 q5 q6 q7)), (r 0, .inl (cb0, 18, .inl fb0)), (r 1, .inl (cb1, 18, .inl fb1)), (r 2, .inl (cb2, 18, .inl fb2)), (wk, .inr (8, [.int x0, .int x1, .ref li])), (li, .inl (cli, 24, .inl fli)), (pp, .inl (cpp, 60, .inl fpp)), (so, .inl (cso, 60, .inl fso)), (ty, .inl (cty, 26, .inl fty)), (cm, .inr (1, [.ref kA, .ref kB, .ref kG, .ref (ad 12 0), .ref o3, .ref e4, .ref e5, .ref kC, .ref kF, .ref kT, .int spn])), (kA, .inl (cA9, 6, .inr (.inr (.inr (.inr (fun i => some (ad i 0))))))), (kB, .inl (cB, 6, .inr (.inr (.inr (.inr (fun i => some (ad (6 + i) 0))))))), (kG, .inl (cg9, 6, .inl fG)), (o3, .inr (7, [.ref r3, .int n3])), (r3, .inl (c3, 6, .inr (.inl f3))), (e4, .inr (3, [.int (nI R4), .ref t4, .ref s4, .int m4])), (t4, .inl (ct4, 24 * R4, .inl ft4)), (s4, .inl (cs4, R4, .inl fs4)), (e5, .inr (3, [.int (nI R5), .ref t5, .ref s5, .int m5])), (t5, .inl (ct5, 24 * R5, .inl ft5)), (s5, .inl (cs5, R5, .inl fs5)), (kC, .inl (cC, 24, .inl fC)), (kF, .inl (cF, 24, .inl fF)), (kT, .inl (cT, 26, .inl fT))]) hDx [27, 0, 1, 2, 3, 4, 5, 6, 7, 8, 9, 10, 11, 12, 13, 14, 15, 16, 17, 18, 19, 20, 21, 22, 23, 24, 25, 26] (by decide) rfl
  have hm9 : List.map Prod.fst ([(gt, .inr (9, [.int w_9, .ref tp, .int td, .int fk, .int fpl, .ref bk, .int un, .ref mb, .ref mu, .int mk, .ref rd, .ref cm, .ref wk, .ref pp, .ref so, .ref ty])), (tp, .inl (ctp, 900, .inl ftp)), (mb, .inl (cmb, 3, .inr (.inr (.inr (.inr fmb))))), (mu, .inl (cmu, 3, .inl fmu)), (rd, .inr (6, rF r q0 q1 q2 q3 q4 q5 q6 q7)), (r 0, .inl (cb0, 18, .inl fb0)), (r 1, .inl (cb1, 18, .inl fb1)), (r 2, .inl (cb2, 18, .inl fb2)), (wk, .inr (8, [.int x0, .int x1, .ref li])), (li, .inl (cli, 24, .inl fli)), (pp, .inl (cpp, 60, .inl fpp)), (so, .inl (cso, 60, .inl fso)), (ty, .inl (cty, 26, .inl fty)), (cm, .inr (1, [.ref kA, .ref kB, .ref kG, .ref (ad 12 0), .ref o3, .ref e4, .ref e5, .ref kC, .ref kF, .ref kT, .int spn])), (kA, .inl (cA9, 6, .inr (.inr (.inr (.inr (fun i => some (ad i 0))))))), (kB, .inl (cB, 6, .inr (.inr (.inr (.inr (fun i => some (ad (6 + i) 0))))))), (kG, .inl (cg9, 6, .inl fG)), (o3, .inr (7, [.ref r3, .int n3])), (r3, .inl (c3, 6, .inr (.inl f3))), (e4, .inr (3, [.int (nI R4), .ref t4, .ref s4, .int m4])), (t4, .inl (ct4, 24 * R4, .inl ft4)), (s4, .inl (cs4, R4, .inl fs4)), (e5, .inr (3, [.int (nI R5), .ref t5, .ref s5, .int m5])), (t5, .inl (ct5, 24 * R5, .inl ft5)), (s5, .inl (cs5, R5, .inl fs5)), (kC, .inl (cC, 24, .inl fC)), (kF, .inl (cF, 24, .inl fF)), (kT, .inl (cT, 26, .inl fT))] ++ (cPL ad ca vi vl vf (List.range 13) ++ mW zad zkc zx0 zx1 zx2 zx3 zx4 zx5 zx6 zx7 zx8 zx9 zx10 zx11 zx12 zx13 zx14 zx15 zx16 zx17 zx18 zx19 zx20 zx21 zf0 zf1 zf2 zf3 zf4 zf5 zf6 zf7 zf8 zf9 zf10 zf11 zf12 zf13 zf14 zf15 zf16 zf17 zf18 zf19 zf20 zf21 zL zN zP zM zO) : va_W) = List.map Prod.fst ([(gt, .inr (9, [.int st9, .ref tp, .int td, .int fk, .int fpl, .ref bk, .int un, .ref mb, .ref mu, .int mk, .ref rd, .ref cm, .ref wk, .ref pp, .ref so, .ref ty])), (tp, .inl (ctp, 900, .inl ftp)), (mb, .inl (cmb, 3, .inr (.inr (.inr (.inr fmb))))), (mu, .inl (cmu, 3, .inl fmu)), (rd, .inr (6, rF r q0 q1 q2 q3 q4 q5 q6 q7)), (r 0, .inl (cb0, 18, .inl fb0)), (r 1, .inl (cb1, 18, .inl fb1)), (r 2, .inl (cb2, 18, .inl fb2)), (wk, .inr (8, [.int x0, .int x1, .ref li])), (li, .inl (cli, 24, .inl fli)), (pp, .inl (cpp, 60, .inl fpp)), (so, .inl (cso, 60, .inl fso)), (ty, .inl (cty, 26, .inl fty)), (cm, .inr (1, [.ref kA, .ref kB, .ref kG, .ref (ad 12 0), .ref o3, .ref e4, .ref e5, .ref kC, .ref kF, .ref kT, .int spn])), (kA, .inl (cA9, 6, .inr (.inr (.inr (.inr (fun i => some (ad i 0))))))), (kB, .inl (cB, 6, .inr (.inr (.inr (.inr (fun i => some (ad (6 + i) 0))))))), (kG, .inl (cg9, 6, .inl fG)), (o3, .inr (7, [.ref r3, .int n3])), (r3, .inl (c3, 6, .inr (.inl f3))), (e4, .inr (3, [.int (nI R4), .ref t4, .ref s4, .int m4])), (t4, .inl (ct4, 24 * R4, .inl ft4)), (s4, .inl (cs4, R4, .inl fs4)), (e5, .inr (3, [.int (nI R5), .ref t5, .ref s5, .int m5])), (t5, .inl (ct5, 24 * R5, .inl ft5)), (s5, .inl (cs5, R5, .inl fs5)), (kC, .inl (cC, 24, .inl fC)), (kF, .inl (cF, 24, .inl fF)), (kT, .inl (cT, 26, .inl fT))] ++ (cPL ad ca vi vl vf (List.range 13) ++ mW zad zkc zx0 zx1 zx2 zx3 zx4 zx5 zx6 zx7 zx8 zx9 zx10 zx11 zx12 zx13 zx14 zx15 zx16 zx17 zx18 zx19 zx20 zx21 zf0 zf1 zf2 zf3 zf4 zf5 zf6 zf7 zf8 zf9 zf10 zf11 zf12 zf13 zf14 zf15 zf16 zf17 zf18 zf19 zf20 zf21 zL zN zP zM zO) : va_W) := rfl
  have hQNx := qn_fst hQN hm9
  have hQN := hQNx
  clear hQNx hQAc hFc hDc hPc hKc
  have hP := hPx
  have hD := hDx
  clear hPx hDx
  generalize H1 = H at hP hS hQ ⊢
  refine lv_pop hx hb dL_law_672 rfl ?_
  refine lv_aload_n hx hb dL_law_673 rfl (lv_at hl 1 rfl) ?_
  refine lv_aload_n hx hb dL_law_674 rfl (lv_at hl 3 rfl) ?_
  refine lv_iload_n hx hb dL_law_675 rfl (lv_at hl 0 rfl) ?_
  refine lv_iconst (v := 1) hx hb dL_law_676 (by decide) ?_
  refine lv_iadd hx hb dL_law_677 ?_
  refine lv_topi (fun y_10 ey_10 => ?_)
  have ty_10 := i_add (a := ii.toInt) (b := 1) rfl (by decide) ey_10 (by omega) (by omega)
  refine va_sld hx hb hX hbl hbA hS (i := y_10) (vp_of (a := y_10.toInt) rfl (by omega) (by omega)) dL_law_678 ?_
  refine lv_topi (fun y_11 ey_11 => ?_)
  have e_y_11 : y_11 = y_2 := by rw [ey_11, ey_2, ey_10, ey_1]
  have q_y_11 : y_11.toInt = y_2.toInt := by rw [ey_11, ey_2, ey_10, ey_1]
  refine lv_aload_n hx hb dL_law_679 rfl (lv_at hl 3 rfl) ?_
  refine lv_iload_n hx hb dL_law_680 rfl (lv_at hl 0 rfl) ?_
  refine lv_iconst (v := 2) hx hb dL_law_681 (by decide) ?_
  refine lv_iadd hx hb dL_law_682 ?_
  refine lv_topi (fun y_12 ey_12 => ?_)
  have ty_12 := i_add (a := ii.toInt) (b := 2) rfl (by decide) ey_12 (by omega) (by omega)
  refine va_sld hx hb hX hbl hbA hS (i := y_12) (vp_of (a := y_12.toInt) rfl (by omega) (by omega)) dL_law_683 ?_
  refine lv_topi (fun y_13 ey_13 => ?_)
  have e_y_13 : y_13 = y_4 := by rw [ey_13, ey_4, ey_12, ey_3]
  have q_y_13 : y_13.toInt = y_4.toInt := by rw [ey_13, ey_4, ey_12, ey_3]
  refine lv_aload_n hx hb dL_law_684 rfl (lv_at hl 3 rfl) ?_
  refine lv_iload_n hx hb dL_law_685 rfl (lv_at hl 0 rfl) ?_
  refine lv_iconst (v := 3) hx hb dL_law_686 (by decide) ?_
  refine lv_iadd hx hb dL_law_687 ?_
  refine lv_topi (fun y_14 ey_14 => ?_)
  have ty_14 := i_add (a := ii.toInt) (b := 3) rfl (by decide) ey_14 (by omega) (by omega)
  refine va_sld hx hb hX hbl hbA hS (i := y_14) (vp_of (a := y_14.toInt) rfl (by omega) (by omega)) dL_law_688 ?_
  refine lv_topi (fun y_15 ey_15 => ?_)
  have e_y_15 : y_15 = y_6 := by rw [ey_15, ey_6, ey_14, ey_5]
  have q_y_15 : y_15.toInt = y_6.toInt := by rw [ey_15, ey_6, ey_14, ey_5]
  have hPc : va_P (dC, dI) vwCl (mW zad zkc zx0 zx1 zx2 zx3 zx4 zx5 zx6 zx7 zx8 zx9 zx10 zx11 zx12 zx13 zx14 zx15 zx16 zx17 zx18 zx19 zx20 zx21 zf0 zf1 zf2 zf3 zf4 zf5 zf6 zf7 zf8 zf9 zf10 zf11 zf12 zf13 zf14 zf15 zf16 zf17 zf18 zf19 zf20 zf21 zL zN zP zM zO) H := p_sub hP (fun _ hq => List.mem_append_right _ (List.mem_append_right _ hq))
  have hKc := hKM
  have hDc : va_D (fun q : Nat => s.heap.size ≤ q) (mW zad zkc zx0 zx1 zx2 zx3 zx4 zx5 zx6 zx7 zx8 zx9 zx10 zx11 zx12 zx13 zx14 zx15 zx16 zx17 zx18 zx19 zx20 zx21 zf0 zf1 zf2 zf3 zf4 zf5 zf6 zf7 zf8 zf9 zf10 zf11 zf12 zf13 zf14 zf15 zf16 zf17 zf18 zf19 zf20 zf21 zL zN zP zM zO) := D_right (D_right hD)
  have hFc := m_free hDc hS hA
  have hQAc : ∀ q ∈ W9, ¬ va_A (mW zad zkc zx0 zx1 zx2 zx3 zx4 zx5 zx6 zx7 zx8 zx9 zx10 zx11 zx12 zx13 zx14 zx15 zx16 zx17 zx18 zx19 zx20 zx21 zf0 zf1 zf2 zf3 zf4 zf5 zf6 zf7 zf8 zf9 zf10 zf11 zf12 zf13 zf14 zf15 zf16 zf17 zf18 zf19 zf20 zf21 zL zN zP zM zO) H.size q.1 := qn_A hQ hQN (fun x hx => List.mem_append_right _ (List.mem_append_right _ hx))
  refine va_calli (va_runV (As := [.int y_11, .int y_13, .int y_15]) (rest := []) ⟨hx, hb, hml, hown, hts⟩ (m_match l dC dI zad zkc zx0 zx1 zx2 zx3 zx4 zx5 zx6 zx7 zx8 zx9 zx10 zx11 zx12 zx13 zx14 zx15 zx16 zx17 zx18 zx19 zx20 zx21 zf0 zf1 zf2 zf3 zf4 zf5 zf6 zf7 zf8 zf9 zf10 zf11 zf12 zf13 zf14 zf15 zf16 zf17 zf18 zf19 zf20 zf21 zL zN zP zM zO H.size y_11 y_13 y_15 hmi) (cwV 3 hts mg_L_X10_match rfl rfl rfl (by decide +kernel) ⟨Nat.le_of_ble_eq_true rfl, Nat.le_of_ble_eq_true rfl⟩) ⟨fun a U g mk q => by obtain ⟨q0, q1, qP, qK, qD⟩ := q; exact ⟨q0, q1, qP, va_K.moved (u := U) (U := U.calling g mk a) (Vm.Alike.refl U.vm) qK, qD⟩, va_recv hKc hPc (ci := 10) (q0 := 0) rfl rfl, fun U hU hW => ⟨rfl, by rw [hU], by rw [hU]; exact hPc, va_K.moved hW.alike hKc, hDc.weaken (fun _ _ _ _ => trivial)⟩⟩ rfl rfl hl.1 rfl (lv_room (Nat.le_of_ble_eq_true rfl)) dL_law_689 ⟨by show kc9 + 0 ≤ 600000; omega, by show ks9 + 0 ≤ 7302250; omega⟩) hS (fun q _ h => hFc q h) hFc (fun r_16 u t H1 locs ht hvm hw hB hz1 hk1 hS => ?_)
  have hQo := hQ
  have hQ := qn_P hQ hQAc hk1
  have hwu := hw
  have hwt_r_16 := congrArg Int32.toInt hw
  obtain ⟨zx_17, zx_18, zx_19, zx_20, zx_21, zx_22, zf_23, zf_24, zf_25, zf_26, zf_27, zf_28, zf_29, zf_30, zf_31, zf_32, zf_33, zf_34, zf_35, hP1, hK1, hD1⟩ := hB
  rw [ht] at hP1
  have rg_zx_17 := i_rng zx_17
  have rg_zx_18 := i_rng zx_18
  have rg_zx_19 := i_rng zx_19
  have rg_zx_20 := i_rng zx_20
  have rg_zx_21 := i_rng zx_21
  have rg_zx_22 := i_rng zx_22
  have hass := (pm_as (a := [(gt, .inr (9, [.int w_9, .ref tp, .int td, .int fk, .int fpl, .ref bk, .int un, .ref mb, .ref mu, .int mk, .ref rd, .ref cm, .ref wk, .ref pp, .ref so, .ref ty])), (tp, .inl (ctp, 900, .inl ftp)), (mb, .inl (cmb, 3, .inr (.inr (.inr (.inr fmb))))), (mu, .inl (cmu, 3, .inl fmu)), (rd, .inr (6, rF r q0 q1 q2 q3 q4 q5 q6 q7)), (r 0, .inl (cb0, 18, .inl fb0)), (r 1, .inl (cb1, 18, .inl fb1)), (r 2, .inl (cb2, 18, .inl fb2)), (wk, .inr (8, [.int x0, .int x1, .ref li])), (li, .inl (cli, 24, .inl fli)), (pp, .inl (cpp, 60, .inl fpp)), (so, .inl (cso, 60, .inl fso)), (ty, .inl (cty, 26, .inl fty)), (cm, .inr (1, [.ref kA, .ref kB, .ref kG, .ref (ad 12 0), .ref o3, .ref e4, .ref e5, .ref kC, .ref kF, .ref kT, .int spn])), (kA, .inl (cA9, 6, .inr (.inr (.inr (.inr (fun i => some (ad i 0))))))), (kB, .inl (cB, 6, .inr (.inr (.inr (.inr (fun i => some (ad (6 + i) 0))))))), (kG, .inl (cg9, 6, .inl fG)), (o3, .inr (7, [.ref r3, .int n3])), (r3, .inl (c3, 6, .inr (.inl f3))), (e4, .inr (3, [.int (nI R4), .ref t4, .ref s4, .int m4])), (t4, .inl (ct4, 24 * R4, .inl ft4)), (s4, .inl (cs4, R4, .inl fs4)), (e5, .inr (3, [.int (nI R5), .ref t5, .ref s5, .int m5])), (t5, .inl (ct5, 24 * R5, .inl ft5)), (s5, .inl (cs5, R5, .inl fs5)), (kC, .inl (cC, 24, .inl fC)), (kF, .inl (cF, 24, .inl fF)), (kT, .inl (cT, 26, .inl fT))]) (b := cPL ad ca vi vl vf (List.range 13)) (c := mW zad zkc zx0 zx1 zx2 zx3 zx4 zx5 zx6 zx7 zx8 zx9 zx10 zx11 zx12 zx13 zx14 zx15 zx16 zx17 zx18 zx19 zx20 zx21 zf0 zf1 zf2 zf3 zf4 zf5 zf6 zf7 zf8 zf9 zf10 zf11 zf12 zf13 zf14 zf15 zf16 zf17 zf18 zf19 zf20 zf21 zL zN zP zM zO)).symm
  obtain ⟨hPx, hDx⟩ := pm_join hP hD hass hk1 hFc hP1 hD1
  rw [List.append_assoc] at hPx hDx
  have hQNx := qn_app (qn_sub hQN (fun x hx => List.mem_append_left _ hx)) (qn_app (qn_sub hQN (fun x hx => List.mem_append_right _ (List.mem_append_left _ hx))) (qn_new hQAc hD1))
  have hP := hPx
  have hD := hDx
  have hQN := hQNx
  generalize H1 = H at hP hS hQ ⊢
  have hmi9 := hmi
  refine lv_pop hx hb dL_law_692 rfl ?_
  refine lv_goto (tgt := 1128) hx hb dL_law_693 (by decide) ?_
  refine W.widen (k := kc9 + 195) (n := ks9 + 10960) (by omega) (by omega) ?_
  exact kk H _ ls tp bk mb mu rd cm wk pp so ty li w_9 td fk fpl un mk x0 x1 q0 q1 q2 q3 q4 q5 q6 q7 r ctp cmb cmu cb0 cb1 cb2 cli cpp cso cty ftp fmu fb0 fb1 fb2 fli fpp fso fty fmb spn kG cg9 fG o3 r3 c3 f3 n3 e4 t4 s4 R4 ct4 cs4 ft4 fs4 m4 e5 t5 s5 R5 ct5 cs5 ft5 fs5 m5 kC cC fC kF cF fF kT cT fT kA kB cA9 cB ad ca vi vl vf W9 T9 B9 zad zkc zx_17 zx1 zx2 zx3 zx4 zx5 zx6 zx7 zx8 zx9 zx10 zx11 zx_18 zx_19 zx_20 zx_21 zx16 zx17 zx18 zx19 zx_22 zx21 zf0 zf1 zf2 zf_23 zf_24 zf_25 zf_26 zf_27 zf_28 zf9 zf10 zf11 zf_29 zf_30 zf_31 zf_32 zf_33 zf_34 zf_35 zf19 zf20 zf21 zL zN zP zM zO hs1 hs2 ha3 hb3 hR4 hU4 hc4 hd4 hb_fs4 hR5 hU5 hc5 hd5 hb_fs5 hG (by omega) (by omega) hM hB9 hbk rfl hmi9 (by omega) (by omega) hrt hK hKC hKM hKQ hP hD hQ hQN hS hl
theorem dL_law_696 : decode cL_law 696 = .ok (.aload_n 1, 1) := by decide +kernel
theorem dL_law_697 : decode cL_law 697 = .ok (.aload_n 0, 1) := by decide +kernel
theorem dL_law_698 : decode cL_law 698 = .ok (.iload_n 3, 1) := by decide +kernel
theorem dL_law_699 : decode cL_law 699 = .ok (.iconst 1, 1) := by decide +kernel
theorem dL_law_700 : decode cL_law 700 = .ok (.iadd, 1) := by decide +kernel
theorem dL_law_701 : decode cL_law 701 = .ok (.iaload, 1) := by decide +kernel
theorem dL_law_702 : decode cL_law 702 = .ok (.aload_n 0, 1) := by decide +kernel
theorem dL_law_703 : decode cL_law 703 = .ok (.iload_n 3, 1) := by decide +kernel
theorem dL_law_704 : decode cL_law 704 = .ok (.iconst 2, 1) := by decide +kernel
theorem dL_law_705 : decode cL_law 705 = .ok (.iadd, 1) := by decide +kernel
theorem dL_law_706 : decode cL_law 706 = .ok (.iaload, 1) := by decide +kernel
theorem dL_law_707 : decode cL_law 707 = .ok (.aload_n 0, 1) := by decide +kernel
theorem dL_law_708 : decode cL_law 708 = .ok (.iload_n 3, 1) := by decide +kernel
theorem dL_law_709 : decode cL_law 709 = .ok (.iconst 3, 1) := by decide +kernel
theorem dL_law_710 : decode cL_law 710 = .ok (.iadd, 1) := by decide +kernel
theorem dL_law_711 : decode cL_law 711 = .ok (.iaload, 1) := by decide +kernel
theorem dL_law_712 : decode cL_law 712 = .ok (.invokevirtual 82, 3) := by decide +kernel
theorem dL_law_715 : decode cL_law 715 = .ok (.pop, 1) := by decide +kernel
theorem dL_law_716 : decode cL_law 716 = .ok (.aload_n 2, 1) := by decide +kernel
theorem dL_law_717 : decode cL_law 717 = .ok (.aload_n 0, 1) := by decide +kernel
theorem dL_law_718 : decode cL_law 718 = .ok (.iload_n 3, 1) := by decide +kernel
theorem dL_law_719 : decode cL_law 719 = .ok (.iconst 1, 1) := by decide +kernel
theorem dL_law_720 : decode cL_law 720 = .ok (.iadd, 1) := by decide +kernel
theorem dL_law_721 : decode cL_law 721 = .ok (.iaload, 1) := by decide +kernel
theorem dL_law_722 : decode cL_law 722 = .ok (.aload_n 0, 1) := by decide +kernel
theorem dL_law_723 : decode cL_law 723 = .ok (.iload_n 3, 1) := by decide +kernel
theorem dL_law_724 : decode cL_law 724 = .ok (.iconst 2, 1) := by decide +kernel
theorem dL_law_725 : decode cL_law 725 = .ok (.iadd, 1) := by decide +kernel
theorem dL_law_726 : decode cL_law 726 = .ok (.iaload, 1) := by decide +kernel
theorem dL_law_727 : decode cL_law 727 = .ok (.aload_n 0, 1) := by decide +kernel
theorem dL_law_728 : decode cL_law 728 = .ok (.iload_n 3, 1) := by decide +kernel
theorem dL_law_729 : decode cL_law 729 = .ok (.iconst 3, 1) := by decide +kernel
theorem dL_law_730 : decode cL_law 730 = .ok (.iadd, 1) := by decide +kernel
theorem dL_law_731 : decode cL_law 731 = .ok (.iaload, 1) := by decide +kernel
theorem dL_law_732 : decode cL_law 732 = .ok (.invokevirtual 85, 3) := by decide +kernel
theorem dL_law_735 : decode cL_law 735 = .ok (.pop, 1) := by decide +kernel
theorem dL_law_736 : decode cL_law 736 = .ok (.goto 392, 3) := by decide +kernel
set_option maxHeartbeats 4000000 in
set_option maxRecDepth 100000 in
/-- the law: alive -/
theorem law_case16 {p : Program} {l : Launch} {e : Env} {s : State} {m : MethodId} {below : List Frame} {meth : Method} {c : Code} {dC : Nat → ClassId} {dI : Nat → Nat → Nat} {b L : Nat} {xs : Nat → Int32} (hLL : L ≤ 3072) (C0 : lw_At p s m meth c b L xs) (hLX : LX s) {gt mo : Nat} {H : Heap} {locs : List Loc} {kc9 ks9 : Nat} (hc9 : kc9 + 195 ≤ 600000) (hs9 : ks9 + 10960 ≤ 7302250) {ii : Int32} (hii : 0 ≤ ii.toInt ∧ ii.toInt + 6 ≤ L) {ls : Array Slot} (kk : ∀ (H1 : Heap) (locs1 : List Loc) (ls : Array Slot), LI dC dI s gt mo H1 (va_S (fun q : Nat => s.heap.size ≤ q) s.heap H1 locs1 → lv_has ls 4 [(3, .int ii), (2, .ref mo), (1, .ref gt), (0, .ref b)] → W p l e room_1 s m #[Value.ref b] below meth c H1 locs1 (kc9 + 195) (ks9 + 10960) (lw_Z below #[Value.ref b] s) (F0 m 1128 ls []))) : LI dC dI s gt mo H (va_S (fun q : Nat => s.heap.size ≤ q) s.heap H locs → lv_has ls 4 [(3, .int ii), (2, .ref mo), (1, .ref gt), (0, .ref b)] → W p l e room_1 s m #[Value.ref b] below meth c H locs kc9 ks9 (lw_Z below #[Value.ref b] s) (F0 m 696 ls [])) := by
  obtain ⟨hx, hb, hr, hml, hown, hts, hX, hbl, hlocks, hgv⟩ := id C0
  have hown : s.vm.findClass RL = some m.cls := hown
  have hA : ∀ q : Nat, s.heap.size ≤ q → (fun q : Nat => s.heap.size ≤ q) q := fun _ h => h
  have hbA : ¬ (fun q : Nat => s.heap.size ≤ q) b := Nat.not_le.mpr hbl
  obtain ⟨hcl, hcld, hAO2, hAO5, hN53, hN160, hSR, hSW, hSR2, hSW2, hOV⟩ := hLX
  unfold LI
  intro tp bk mb mu rd cm wk pp so ty li st9 td fk fpl un mk x0 x1 q0 q1 q2 q3 q4 q5 q6 q7 r ctp cmb cmu cb0 cb1 cb2 cli cpp cso cty ftp fmu fb0 fb1 fb2 fli fpp fso fty fmb spn kG cg9 fG o3 r3 c3 f3 n3 e4 t4 s4 R4 ct4 cs4 ft4 fs4 m4 e5 t5 s5 R5 ct5 cs5 ft5 fs5 m5 kC cC fC kF cF fF kT cT fT kA kB cA9 cB ad ca vi vl vf W9 T9 B9 zad zkc zx0 zx1 zx2 zx3 zx4 zx5 zx6 zx7 zx8 zx9 zx10 zx11 zx12 zx13 zx14 zx15 zx16 zx17 zx18 zx19 zx20 zx21 zf0 zf1 zf2 zf3 zf4 zf5 zf6 zf7 zf8 zf9 zf10 zf11 zf12 zf13 zf14 zf15 zf16 zf17 zf18 zf19 zf20 zf21 zL zN zP zM zO hs1 hs2 ha3 hb3 hR4 hU4 hc4 hd4 hb_fs4 hR5 hU5 hc5 hd5 hb_fs5 hG htd hmk hM hB9 hbk hmo hmi hzk hzt hrt hK hKC hKM hKQ hP hD hQ hQN hS hl
  subst hmo
  have rg_td := i_rng td
  have rg_mk := i_rng mk
  have rg_zx2 := i_rng zx2
  have rg_zx3 := i_rng zx3
  refine lv_aload_n hx hb dL_law_696 rfl (lv_at hl 2 rfl) ?_
  refine lv_aload_n hx hb dL_law_697 rfl (lv_at hl 3 rfl) ?_
  refine lv_iload_n hx hb dL_law_698 rfl (lv_at hl 0 rfl) ?_
  refine lv_iconst (v := 1) hx hb dL_law_699 (by decide) ?_
  refine lv_iadd hx hb dL_law_700 ?_
  refine lv_topi (fun y_1 ey_1 => ?_)
  have ty_1 := i_add (a := ii.toInt) (b := 1) rfl (by decide) ey_1 (by omega) (by omega)
  refine va_sld hx hb hX hbl hbA hS (i := y_1) (vp_of (a := y_1.toInt) rfl (by omega) (by omega)) dL_law_701 ?_
  refine lv_topi (fun y_2 ey_2 => ?_)
  refine lv_aload_n hx hb dL_law_702 rfl (lv_at hl 3 rfl) ?_
  refine lv_iload_n hx hb dL_law_703 rfl (lv_at hl 0 rfl) ?_
  refine lv_iconst (v := 2) hx hb dL_law_704 (by decide) ?_
  refine lv_iadd hx hb dL_law_705 ?_
  refine lv_topi (fun y_3 ey_3 => ?_)
  have ty_3 := i_add (a := ii.toInt) (b := 2) rfl (by decide) ey_3 (by omega) (by omega)
  refine va_sld hx hb hX hbl hbA hS (i := y_3) (vp_of (a := y_3.toInt) rfl (by omega) (by omega)) dL_law_706 ?_
  refine lv_topi (fun y_4 ey_4 => ?_)
  refine lv_aload_n hx hb dL_law_707 rfl (lv_at hl 3 rfl) ?_
  refine lv_iload_n hx hb dL_law_708 rfl (lv_at hl 0 rfl) ?_
  refine lv_iconst (v := 3) hx hb dL_law_709 (by decide) ?_
  refine lv_iadd hx hb dL_law_710 ?_
  refine lv_topi (fun y_5 ey_5 => ?_)
  have ty_5 := i_add (a := ii.toInt) (b := 3) rfl (by decide) ey_5 (by omega) (by omega)
  refine va_sld hx hb hX hbl hbA hS (i := y_5) (vp_of (a := y_5.toInt) rfl (by omega) (by omega)) dL_law_711 ?_
  refine lv_topi (fun y_6 ey_6 => ?_)
  have hPc := hP.sub (ws' := [(gt, .inr (9, [.int st9, .ref tp, .int td, .int fk, .int fpl, .ref bk, .int un, .ref mb, .ref mu, .int mk, .ref rd, .ref cm, .ref wk, .ref pp, .ref so, .ref ty]))]) [0] rfl
  have hKc := hK.sub (tys' := []) [] rfl
  have hDc := hD.sub (ws' := [(gt, .inr (9, [.int st9, .ref tp, .int td, .int fk, .int fpl, .ref bk, .int un, .ref mb, .ref mu, .int mk, .ref rd, .ref cm, .ref wk, .ref pp, .ref so, .ref ty]))]) [0] (by decide) rfl
  have hFc := va_free (wc := [(gt, .inr (9, [.int st9, .ref tp, .int td, .int fk, .int fpl, .ref bk, .int un, .ref mb, .ref mu, .int mk, .ref rd, .ref cm, .ref wk, .ref pp, .ref so, .ref ty]))]) hD hS hA [0] rfl
  have hQAc : ∀ q ∈ W9, ¬ va_A [(gt, .inr (9, [.int st9, .ref tp, .int td, .int fk, .int fpl, .ref bk, .int un, .ref mb, .ref mu, .int mk, .ref rd, .ref cm, .ref wk, .ref pp, .ref so, .ref ty]))] H.size q.1 := qn_A hQ hQN (fun x hx => mem_pl [0] rfl x hx)
  refine va_calli (va_runV (As := [.int y_2, .int y_4, .int y_6]) (rest := []) ⟨hx, hb, hml, hown, hts⟩ (s_g_alive l dC dI W9 T9 B9 gt tp bk mb mu rd cm wk pp so ty st9 td fk fpl un mk H.size y_2 y_4 y_6 hB9 hbk) (cwV 3 hts mg_L_X9_alive rfl rfl rfl (by decide +kernel) ⟨Nat.le_of_ble_eq_true rfl, Nat.le_of_ble_eq_true rfl⟩) ⟨fun a U g mk q => by obtain ⟨q0, q1, qP, qK, qD, qE0, qE1, qE2⟩ := q; exact ⟨q0, q1, qP, va_K.moved (u := U) (U := U.calling g mk a) (Vm.Alike.refl U.vm) qK, qD, qE0, va_K.moved (u := U) (U := U.calling g mk a) (Vm.Alike.refl U.vm) qE1, qE2⟩, va_recv hKc hPc (ci := 9) (q0 := 0) rfl rfl, fun U hU hW => ⟨rfl, by rw [hU], by rw [hU]; exact hPc, va_K.moved hW.alike hKc, hDc.weaken (fun _ _ _ _ => trivial), (by rw [hU]; exact hQ), va_K.moved hW.alike hKQ, hQAc⟩⟩ rfl rfl hl.1 rfl (lv_room (Nat.le_of_ble_eq_true rfl)) dL_law_712 ⟨by show kc9 + 0 ≤ 600000; omega, by show ks9 + 0 ≤ 7302250; omega⟩) hS (fun q _ h => hFc q h) hFc (fun r_7 u_8 t H1 locs ht hvm hw hB hz1 hk1 hS => ?_)
  have hQo := hQ
  have hQ := qn_P hQ hQAc hk1
  obtain ⟨w_9, hP1, hK1, hD1⟩ := hB
  rw [ht] at hP1
  have hQNa := qn_new hQAc hD1
  obtain ⟨hPx, hDx⟩ := va_joinQ (X := [(gt, .inr (9, [.int st9, .ref tp, .int td, .int fk, .int fpl, .ref bk, .int un, .ref mb, .ref mu, .int mk, .ref rd, .ref cm, .ref wk, .ref pp, .ref so, .ref ty])), (tp, .inl (ctp, 900, .inl ftp)), (mb, .inl (cmb, 3, .inr (.inr (.inr (.inr fmb))))), (mu, .inl (cmu, 3, .inl fmu)), (rd, .inr (6, rF r q0 q1 q2 q3 q4 q5 q6 q7)), (r 0, .inl (cb0, 18, .inl fb0)), (r 1, .inl (cb1, 18, .inl fb1)), (r 2, .inl (cb2, 18, .inl fb2)), (wk, .inr (8, [.int x0, .int x1, .ref li])), (li, .inl (cli, 24, .inl fli)), (pp, .inl (cpp, 60, .inl fpp)), (so, .inl (cso, 60, .inl fso)), (ty, .inl (cty, 26, .inl fty)), (cm, .inr (1, [.ref kA, .ref kB, .ref kG, .ref (ad 12 0), .ref o3, .ref e4, .ref e5, .ref kC, .ref kF, .ref kT, .int spn])), (kA, .inl (cA9, 6, .inr (.inr (.inr (.inr (fun i => some (ad i 0))))))), (kB, .inl (cB, 6, .inr (.inr (.inr (.inr (fun i => some (ad (6 + i) 0))))))), (kG, .inl (cg9, 6, .inl fG)), (o3, .inr (7, [.ref r3, .int n3])), (r3, .inl (c3, 6, .inr (.inl f3))), (e4, .inr (3, [.int (nI R4), .ref t4, .ref s4, .int m4])), (t4, .inl (ct4, 24 * R4, .inl ft4)), (s4, .inl (cs4, R4, .inl fs4)), (e5, .inr (3, [.int (nI R5), .ref t5, .ref s5, .int m5])), (t5, .inl (ct5, 24 * R5, .inl ft5)), (s5, .inl (cs5, R5, .inl fs5)), (kC, .inl (cC, 24, .inl fC)), (kF, .inl (cF, 24, .inl fF)), (kT, .inl (cT, 26, .inl fT))]) (cx := [(gt, .inr (9, [.int st9, .ref tp, .int td, .int fk, .int fpl, .ref bk, .int un, .ref mb, .ref mu, .int mk, .ref rd, .ref cm, .ref wk, .ref pp, .ref so, .ref ty]))]) (wr := [(tp, .inl (ctp, 900, .inl ftp)), (mb, .inl (cmb, 3, .inr (.inr (.inr (.inr fmb))))), (mu, .inl (cmu, 3, .inl fmu)), (rd, .inr (6, rF r q0 q1 q2 q3 q4 q5 q6 q7)), (r 0, .inl (cb0, 18, .inl fb0)), (r 1, .inl (cb1, 18, .inl fb1)), (r 2, .inl (cb2, 18, .inl fb2)), (wk, .inr (8, [.int x0, .int x1, .ref li])), (li, .inl (cli, 24, .inl fli)), (pp, .inl (cpp, 60, .inl fpp)), (so, .inl (cso, 60, .inl fso)), (ty, .inl (cty, 26, .inl fty)), (cm, .inr (1, [.ref kA, .ref kB, .ref kG, .ref (ad 12 0), .ref o3, .ref e4, .ref e5, .ref kC, .ref kF, .ref kT, .int spn])), (kA, .inl (cA9, 6, .inr (.inr (.inr (.inr (fun i => some (ad i 0))))))), (kB, .inl (cB, 6, .inr (.inr (.inr (.inr (fun i => some (ad (6 + i) 0))))))), (kG, .inl (cg9, 6, .inl fG)), (o3, .inr (7, [.ref r3, .int n3])), (r3, .inl (c3, 6, .inr (.inl f3))), (e4, .inr (3, [.int (nI R4), .ref t4, .ref s4, .int m4])), (t4, .inl (ct4, 24 * R4, .inl ft4)), (s4, .inl (cs4, R4, .inl fs4)), (e5, .inr (3, [.int (nI R5), .ref t5, .ref s5, .int m5])), (t5, .inl (ct5, 24 * R5, .inl ft5)), (s5, .inl (cs5, R5, .inl fs5)), (kC, .inl (cC, 24, .inl fC)), (kF, .inl (cF, 24, .inl fF)), (kT, .inl (cT, 26, .inl fT))]) (w1 := [(gt, .inr (9, [.int w_9, .ref tp, .int td, .int fk, .int fpl, .ref bk, .int un, .ref mb, .ref mu, .int mk, .ref rd, .ref cm, .ref wk, .ref pp, .ref so, .ref ty]))]) (pl := (cPL ad ca vi vl vf (List.range 13) ++ mW zad zkc zx0 zx1 zx2 zx3 zx4 zx5 zx6 zx7 zx8 zx9 zx10 zx11 zx12 zx13 zx14 zx15 zx16 zx17 zx18 zx19 zx20 zx21 zf0 zf1 zf2 zf3 zf4 zf5 zf6 zf7 zf8 zf9 zf10 zf11 zf12 zf13 zf14 zf15 zf16 zf17 zf18 zf19 zf20 zf21 zL zN zP zM zO)) hP hD [0] [1, 2, 3, 4, 5, 6, 7, 8, 9, 10, 11, 12, 13, 14, 15, 16, 17, 18, 19, 20, 21, 22, 23, 24, 25, 26, 27] rfl rfl (by decide) (by decide) hk1 hFc hP1 hD1
  have hPx := t_P (cx := [(gt, .inr (9, [.int w_9, .ref tp, .int td, .int fk, .int fpl, .ref bk, .int un, .ref mb, .ref mu, .int mk, .ref rd, .ref cm, .ref wk, .ref pp, .ref so, .ref ty])), (tp, .inl (ctp, 900, .inl ftp)), (mb, .inl (cmb, 3, .inr (.inr (.inr (.inr fmb))))), (mu, .inl (cmu, 3, .inl fmu)), (rd, .inr (6, rF r q0 q1 q2 q3 q4 q5 q6 q7)), (r 0, .inl (cb0, 18, .inl fb0)), (r 1, .inl (cb1, 18, .inl fb1)), (r 2, .inl (cb2, 18, .inl fb2)), (wk, .inr (8, [.int x0, .int x1, .ref li])), (li, .inl (cli, 24, .inl fli)), (pp, .inl (cpp, 60, .inl fpp)), (so, .inl (cso, 60, .inl fso)), (ty, .inl (cty, 26, .inl fty)), (cm, .inr (1, [.ref kA, .ref kB, .ref kG, .ref (ad 12 0), .ref o3, .ref e4, .ref e5, .ref kC, .ref kF, .ref kT, .int spn])), (kA, .inl (cA9, 6, .inr (.inr (.inr (.inr (fun i => some (ad i 0))))))), (kB, .inl (cB, 6, .inr (.inr (.inr (.inr (fun i => some (ad (6 + i) 0))))))), (kG, .inl (cg9, 6, .inl fG)), (o3, .inr (7, [.ref r3, .int n3])), (r3, .inl (c3, 6, .inr (.inl f3))), (e4, .inr (3, [.int (nI R4), .ref t4, .ref s4, .int m4])), (t4, .inl (ct4, 24 * R4, .inl ft4)), (s4, .inl (cs4, R4, .inl fs4)), (e5, .inr (3, [.int (nI R5), .ref t5, .ref s5, .int m5])), (t5, .inl (ct5, 24 * R5, .inl ft5)), (s5, .inl (cs5, R5, .inl fs5)), (kC, .inl (cC, 24, .inl fC)), (kF, .inl (cF, 24, .inl fF)), (kT, .inl (cT, 26, .inl fT))]) hPx [27, 0, 1, 2, 3, 4, 5, 6, 7, 8, 9, 10, 11, 12, 13, 14, 15, 16, 17, 18, 19, 20, 21, 22, 23, 24, 25, 26] rfl
  have hDx := va_D.part (cx := [(gt, .inr (9, [.int w_9, .ref tp, .int td, .int fk, .int fpl, .ref bk, .int un, .ref mb, .ref mu, .int mk, .ref rd, .ref cm, .ref wk, .ref pp, .ref so, .ref ty])), (tp, .inl (ctp, 900, .inl ftp)), (mb, .inl (cmb, 3, .inr (.inr (.inr (.inr fmb))))), (mu, .inl (cmu, 3, .inl fmu)), (rd, .inr (6, rF r q0 q1 q2 q3 q4 q5 q6 q7)), (r 0, .inl (cb0, 18, .inl fb0)), (r 1, .inl (cb1, 18, .inl fb1)), (r 2, .inl (cb2, 18, .inl fb2)), (wk, .inr (8, [.int x0, .int x1, .ref li])), (li, .inl (cli, 24, .inl fli)), (pp, .inl (cpp, 60, .inl fpp)), (so, .inl (cso, 60, .inl fso)), (ty, .inl (cty, 26, .inl fty)), (cm, .inr (1, [.ref kA, .ref kB, .ref kG, .ref (ad 12 0), .ref o3, .ref e4, .ref e5, .ref kC, .ref kF, .ref kT, .int spn])), (kA, .inl (cA9, 6, .inr (.inr (.inr (.inr (fun i => some (ad i 0))))))), (kB, .inl (cB, 6, .inr (.inr (.inr (.inr (fun i => some (ad (6 + i) 0))))))), (kG, .inl (cg9, 6, .inl fG)), (o3, .inr (7, [.ref r3, .int n3])), (r3, .inl (c3, 6, .inr (.inl f3))), (e4, .inr (3, [.int (nI R4), .ref t4, .ref s4, .int m4])), (t4, .inl (ct4, 24 * R4, .inl ft4)), (s4, .inl (cs4, R4, .inl fs4)), (e5, .inr (3, [.int (nI R5), .ref t5, .ref s5, .int m5])), (t5, .inl (ct5, 24 * R5, .inl ft5)), (s5, .inl (cs5, R5, .inl fs5)), (kC, .inl (cC, 24, .inl fC)), (kF, .inl (cF, 24, .inl fF)), (kT, .inl (cT, 26, .inl fT))]) hDx [27, 0, 1, 2, 3, 4, 5, 6, 7, 8, 9, 10, 11, 12, 13, 14, 15, 16, 17, 18, 19, 20, 21, 22, 23, 24, 25, 26] (by decide) rfl
  have hm9 : List.map Prod.fst ([(gt, .inr (9, [.int w_9, .ref tp, .int td, .int fk, .int fpl, .ref bk, .int un, .ref mb, .ref mu, .int mk, .ref rd, .ref cm, .ref wk, .ref pp, .ref so, .ref ty])), (tp, .inl (ctp, 900, .inl ftp)), (mb, .inl (cmb, 3, .inr (.inr (.inr (.inr fmb))))), (mu, .inl (cmu, 3, .inl fmu)), (rd, .inr (6, rF r q0 q1 q2 q3 q4 q5 q6 q7)), (r 0, .inl (cb0, 18, .inl fb0)), (r 1, .inl (cb1, 18, .inl fb1)), (r 2, .inl (cb2, 18, .inl fb2)), (wk, .inr (8, [.int x0, .int x1, .ref li])), (li, .inl (cli, 24, .inl fli)), (pp, .inl (cpp, 60, .inl fpp)), (so, .inl (cso, 60, .inl fso)), (ty, .inl (cty, 26, .inl fty)), (cm, .inr (1, [.ref kA, .ref kB, .ref kG, .ref (ad 12 0), .ref o3, .ref e4, .ref e5, .ref kC, .ref kF, .ref kT, .int spn])), (kA, .inl (cA9, 6, .inr (.inr (.inr (.inr (fun i => some (ad i 0))))))), (kB, .inl (cB, 6, .inr (.inr (.inr (.inr (fun i => some (ad (6 + i) 0))))))), (kG, .inl (cg9, 6, .inl fG)), (o3, .inr (7, [.ref r3, .int n3])), (r3, .inl (c3, 6, .inr (.inl f3))), (e4, .inr (3, [.int (nI R4), .ref t4, .ref s4, .int m4])), (t4, .inl (ct4, 24 * R4, .inl ft4)), (s4, .inl (cs4, R4, .inl fs4)), (e5, .inr (3, [.int (nI R5), .ref t5, .ref s5, .int m5])), (t5, .inl (ct5, 24 * R5, .inl ft5)), (s5, .inl (cs5, R5, .inl fs5)), (kC, .inl (cC, 24, .inl fC)), (kF, .inl (cF, 24, .inl fF)), (kT, .inl (cT, 26, .inl fT))] ++ (cPL ad ca vi vl vf (List.range 13) ++ mW zad zkc zx0 zx1 zx2 zx3 zx4 zx5 zx6 zx7 zx8 zx9 zx10 zx11 zx12 zx13 zx14 zx15 zx16 zx17 zx18 zx19 zx20 zx21 zf0 zf1 zf2 zf3 zf4 zf5 zf6 zf7 zf8 zf9 zf10 zf11 zf12 zf13 zf14 zf15 zf16 zf17 zf18 zf19 zf20 zf21 zL zN zP zM zO) : va_W) = List.map Prod.fst ([(gt, .inr (9, [.int st9, .ref tp, .int td, .int fk, .int fpl, .ref bk, .int un, .ref mb, .ref mu, .int mk, .ref rd, .ref cm, .ref wk, .ref pp, .ref so, .ref ty])), (tp, .inl (ctp, 900, .inl ftp)), (mb, .inl (cmb, 3, .inr (.inr (.inr (.inr fmb))))), (mu, .inl (cmu, 3, .inl fmu)), (rd, .inr (6, rF r q0 q1 q2 q3 q4 q5 q6 q7)), (r 0, .inl (cb0, 18, .inl fb0)), (r 1, .inl (cb1, 18, .inl fb1)), (r 2, .inl (cb2, 18, .inl fb2)), (wk, .inr (8, [.int x0, .int x1, .ref li])), (li, .inl (cli, 24, .inl fli)), (pp, .inl (cpp, 60, .inl fpp)), (so, .inl (cso, 60, .inl fso)), (ty, .inl (cty, 26, .inl fty)), (cm, .inr (1, [.ref kA, .ref kB, .ref kG, .ref (ad 12 0), .ref o3, .ref e4, .ref e5, .ref kC, .ref kF, .ref kT, .int spn])), (kA, .inl (cA9, 6, .inr (.inr (.inr (.inr (fun i => some (ad i 0))))))), (kB, .inl (cB, 6, .inr (.inr (.inr (.inr (fun i => some (ad (6 + i) 0))))))), (kG, .inl (cg9, 6, .inl fG)), (o3, .inr (7, [.ref r3, .int n3])), (r3, .inl (c3, 6, .inr (.inl f3))), (e4, .inr (3, [.int (nI R4), .ref t4, .ref s4, .int m4])), (t4, .inl (ct4, 24 * R4, .inl ft4)), (s4, .inl (cs4, R4, .inl fs4)), (e5, .inr (3, [.int (nI R5), .ref t5, .ref s5, .int m5])), (t5, .inl (ct5, 24 * R5, .inl ft5)), (s5, .inl (cs5, R5, .inl fs5)), (kC, .inl (cC, 24, .inl fC)), (kF, .inl (cF, 24, .inl fF)), (kT, .inl (cT, 26, .inl fT))] ++ (cPL ad ca vi vl vf (List.range 13) ++ mW zad zkc zx0 zx1 zx2 zx3 zx4 zx5 zx6 zx7 zx8 zx9 zx10 zx11 zx12 zx13 zx14 zx15 zx16 zx17 zx18 zx19 zx20 zx21 zf0 zf1 zf2 zf3 zf4 zf5 zf6 zf7 zf8 zf9 zf10 zf11 zf12 zf13 zf14 zf15 zf16 zf17 zf18 zf19 zf20 zf21 zL zN zP zM zO) : va_W) := rfl
  have hQNx := qn_fst hQN hm9
  have hQN := hQNx
  clear hQNx hQAc hFc hDc hPc hKc
  have hP := hPx
  have hD := hDx
  clear hPx hDx
  generalize H1 = H at hP hS hQ ⊢
  refine lv_pop hx hb dL_law_715 rfl ?_
  refine lv_aload_n hx hb dL_law_716 rfl (lv_at hl 1 rfl) ?_
  refine lv_aload_n hx hb dL_law_717 rfl (lv_at hl 3 rfl) ?_
  refine lv_iload_n hx hb dL_law_718 rfl (lv_at hl 0 rfl) ?_
  refine lv_iconst (v := 1) hx hb dL_law_719 (by decide) ?_
  refine lv_iadd hx hb dL_law_720 ?_
  refine lv_topi (fun y_10 ey_10 => ?_)
  have ty_10 := i_add (a := ii.toInt) (b := 1) rfl (by decide) ey_10 (by omega) (by omega)
  refine va_sld hx hb hX hbl hbA hS (i := y_10) (vp_of (a := y_10.toInt) rfl (by omega) (by omega)) dL_law_721 ?_
  refine lv_topi (fun y_11 ey_11 => ?_)
  have e_y_11 : y_11 = y_2 := by rw [ey_11, ey_2, ey_10, ey_1]
  have q_y_11 : y_11.toInt = y_2.toInt := by rw [ey_11, ey_2, ey_10, ey_1]
  refine lv_aload_n hx hb dL_law_722 rfl (lv_at hl 3 rfl) ?_
  refine lv_iload_n hx hb dL_law_723 rfl (lv_at hl 0 rfl) ?_
  refine lv_iconst (v := 2) hx hb dL_law_724 (by decide) ?_
  refine lv_iadd hx hb dL_law_725 ?_
  refine lv_topi (fun y_12 ey_12 => ?_)
  have ty_12 := i_add (a := ii.toInt) (b := 2) rfl (by decide) ey_12 (by omega) (by omega)
  refine va_sld hx hb hX hbl hbA hS (i := y_12) (vp_of (a := y_12.toInt) rfl (by omega) (by omega)) dL_law_726 ?_
  refine lv_topi (fun y_13 ey_13 => ?_)
  have e_y_13 : y_13 = y_4 := by rw [ey_13, ey_4, ey_12, ey_3]
  have q_y_13 : y_13.toInt = y_4.toInt := by rw [ey_13, ey_4, ey_12, ey_3]
  refine lv_aload_n hx hb dL_law_727 rfl (lv_at hl 3 rfl) ?_
  refine lv_iload_n hx hb dL_law_728 rfl (lv_at hl 0 rfl) ?_
  refine lv_iconst (v := 3) hx hb dL_law_729 (by decide) ?_
  refine lv_iadd hx hb dL_law_730 ?_
  refine lv_topi (fun y_14 ey_14 => ?_)
  have ty_14 := i_add (a := ii.toInt) (b := 3) rfl (by decide) ey_14 (by omega) (by omega)
  refine va_sld hx hb hX hbl hbA hS (i := y_14) (vp_of (a := y_14.toInt) rfl (by omega) (by omega)) dL_law_731 ?_
  refine lv_topi (fun y_15 ey_15 => ?_)
  have e_y_15 : y_15 = y_6 := by rw [ey_15, ey_6, ey_14, ey_5]
  have q_y_15 : y_15.toInt = y_6.toInt := by rw [ey_15, ey_6, ey_14, ey_5]
  have hPc : va_P (dC, dI) vwCl (mW zad zkc zx0 zx1 zx2 zx3 zx4 zx5 zx6 zx7 zx8 zx9 zx10 zx11 zx12 zx13 zx14 zx15 zx16 zx17 zx18 zx19 zx20 zx21 zf0 zf1 zf2 zf3 zf4 zf5 zf6 zf7 zf8 zf9 zf10 zf11 zf12 zf13 zf14 zf15 zf16 zf17 zf18 zf19 zf20 zf21 zL zN zP zM zO) H := p_sub hP (fun _ hq => List.mem_append_right _ (List.mem_append_right _ hq))
  have hKc := hKM
  have hDc : va_D (fun q : Nat => s.heap.size ≤ q) (mW zad zkc zx0 zx1 zx2 zx3 zx4 zx5 zx6 zx7 zx8 zx9 zx10 zx11 zx12 zx13 zx14 zx15 zx16 zx17 zx18 zx19 zx20 zx21 zf0 zf1 zf2 zf3 zf4 zf5 zf6 zf7 zf8 zf9 zf10 zf11 zf12 zf13 zf14 zf15 zf16 zf17 zf18 zf19 zf20 zf21 zL zN zP zM zO) := D_right (D_right hD)
  have hFc := m_free hDc hS hA
  have hQAc : ∀ q ∈ W9, ¬ va_A (mW zad zkc zx0 zx1 zx2 zx3 zx4 zx5 zx6 zx7 zx8 zx9 zx10 zx11 zx12 zx13 zx14 zx15 zx16 zx17 zx18 zx19 zx20 zx21 zf0 zf1 zf2 zf3 zf4 zf5 zf6 zf7 zf8 zf9 zf10 zf11 zf12 zf13 zf14 zf15 zf16 zf17 zf18 zf19 zf20 zf21 zL zN zP zM zO) H.size q.1 := qn_A hQ hQN (fun x hx => List.mem_append_right _ (List.mem_append_right _ hx))
  refine va_calli (va_runV (As := [.int y_11, .int y_13, .int y_15]) (rest := []) ⟨hx, hb, hml, hown, hts⟩ (m_alive l dC dI zad zkc zx0 zx1 zx2 zx3 zx4 zx5 zx6 zx7 zx8 zx9 zx10 zx11 zx12 zx13 zx14 zx15 zx16 zx17 zx18 zx19 zx20 zx21 zf0 zf1 zf2 zf3 zf4 zf5 zf6 zf7 zf8 zf9 zf10 zf11 zf12 zf13 zf14 zf15 zf16 zf17 zf18 zf19 zf20 zf21 zL zN zP zM zO H.size y_11 y_13 y_15 hmi) (cwV 3 hts mg_L_X10_alive rfl rfl rfl (by decide +kernel) ⟨Nat.le_of_ble_eq_true rfl, Nat.le_of_ble_eq_true rfl⟩) ⟨fun a U g mk q => by obtain ⟨q0, q1, qP, qK, qD⟩ := q; exact ⟨q0, q1, qP, va_K.moved (u := U) (U := U.calling g mk a) (Vm.Alike.refl U.vm) qK, qD⟩, va_recv hKc hPc (ci := 10) (q0 := 0) rfl rfl, fun U hU hW => ⟨rfl, by rw [hU], by rw [hU]; exact hPc, va_K.moved hW.alike hKc, hDc.weaken (fun _ _ _ _ => trivial)⟩⟩ rfl rfl hl.1 rfl (lv_room (Nat.le_of_ble_eq_true rfl)) dL_law_732 ⟨by show kc9 + 0 ≤ 600000; omega, by show ks9 + 0 ≤ 7302250; omega⟩) hS (fun q _ h => hFc q h) hFc (fun r_16 u t H1 locs ht hvm hw hB hz1 hk1 hS => ?_)
  have hQo := hQ
  have hQ := qn_P hQ hQAc hk1
  have hwu := hw
  have hwt_r_16 := congrArg Int32.toInt hw
  obtain ⟨zx_17, zx_18, zx_19, zx_20, zx_21, zx_22, zf_23, zf_24, zf_25, zf_26, zf_27, zf_28, zf_29, zf_30, zf_31, zf_32, zf_33, zf_34, zf_35, hP1, hK1, hD1⟩ := hB
  rw [ht] at hP1
  have rg_zx_17 := i_rng zx_17
  have rg_zx_18 := i_rng zx_18
  have rg_zx_19 := i_rng zx_19
  have rg_zx_20 := i_rng zx_20
  have rg_zx_21 := i_rng zx_21
  have rg_zx_22 := i_rng zx_22
  have hass := (pm_as (a := [(gt, .inr (9, [.int w_9, .ref tp, .int td, .int fk, .int fpl, .ref bk, .int un, .ref mb, .ref mu, .int mk, .ref rd, .ref cm, .ref wk, .ref pp, .ref so, .ref ty])), (tp, .inl (ctp, 900, .inl ftp)), (mb, .inl (cmb, 3, .inr (.inr (.inr (.inr fmb))))), (mu, .inl (cmu, 3, .inl fmu)), (rd, .inr (6, rF r q0 q1 q2 q3 q4 q5 q6 q7)), (r 0, .inl (cb0, 18, .inl fb0)), (r 1, .inl (cb1, 18, .inl fb1)), (r 2, .inl (cb2, 18, .inl fb2)), (wk, .inr (8, [.int x0, .int x1, .ref li])), (li, .inl (cli, 24, .inl fli)), (pp, .inl (cpp, 60, .inl fpp)), (so, .inl (cso, 60, .inl fso)), (ty, .inl (cty, 26, .inl fty)), (cm, .inr (1, [.ref kA, .ref kB, .ref kG, .ref (ad 12 0), .ref o3, .ref e4, .ref e5, .ref kC, .ref kF, .ref kT, .int spn])), (kA, .inl (cA9, 6, .inr (.inr (.inr (.inr (fun i => some (ad i 0))))))), (kB, .inl (cB, 6, .inr (.inr (.inr (.inr (fun i => some (ad (6 + i) 0))))))), (kG, .inl (cg9, 6, .inl fG)), (o3, .inr (7, [.ref r3, .int n3])), (r3, .inl (c3, 6, .inr (.inl f3))), (e4, .inr (3, [.int (nI R4), .ref t4, .ref s4, .int m4])), (t4, .inl (ct4, 24 * R4, .inl ft4)), (s4, .inl (cs4, R4, .inl fs4)), (e5, .inr (3, [.int (nI R5), .ref t5, .ref s5, .int m5])), (t5, .inl (ct5, 24 * R5, .inl ft5)), (s5, .inl (cs5, R5, .inl fs5)), (kC, .inl (cC, 24, .inl fC)), (kF, .inl (cF, 24, .inl fF)), (kT, .inl (cT, 26, .inl fT))]) (b := cPL ad ca vi vl vf (List.range 13)) (c := mW zad zkc zx0 zx1 zx2 zx3 zx4 zx5 zx6 zx7 zx8 zx9 zx10 zx11 zx12 zx13 zx14 zx15 zx16 zx17 zx18 zx19 zx20 zx21 zf0 zf1 zf2 zf3 zf4 zf5 zf6 zf7 zf8 zf9 zf10 zf11 zf12 zf13 zf14 zf15 zf16 zf17 zf18 zf19 zf20 zf21 zL zN zP zM zO)).symm
  obtain ⟨hPx, hDx⟩ := pm_join hP hD hass hk1 hFc hP1 hD1
  rw [List.append_assoc] at hPx hDx
  have hQNx := qn_app (qn_sub hQN (fun x hx => List.mem_append_left _ hx)) (qn_app (qn_sub hQN (fun x hx => List.mem_append_right _ (List.mem_append_left _ hx))) (qn_new hQAc hD1))
  have hP := hPx
  have hD := hDx
  have hQN := hQNx
  generalize H1 = H at hP hS hQ ⊢
  have hmi9 := hmi
  refine lv_pop hx hb dL_law_735 rfl ?_
  refine lv_goto (tgt := 1128) hx hb dL_law_736 (by decide) ?_
  refine W.widen (k := kc9 + 195) (n := ks9 + 10960) (by omega) (by omega) ?_
  exact kk H _ ls tp bk mb mu rd cm wk pp so ty li w_9 td fk fpl un mk x0 x1 q0 q1 q2 q3 q4 q5 q6 q7 r ctp cmb cmu cb0 cb1 cb2 cli cpp cso cty ftp fmu fb0 fb1 fb2 fli fpp fso fty fmb spn kG cg9 fG o3 r3 c3 f3 n3 e4 t4 s4 R4 ct4 cs4 ft4 fs4 m4 e5 t5 s5 R5 ct5 cs5 ft5 fs5 m5 kC cC fC kF cF fF kT cT fT kA kB cA9 cB ad ca vi vl vf W9 T9 B9 zad zkc zx_17 zx1 zx2 zx3 zx4 zx5 zx6 zx7 zx8 zx9 zx10 zx11 zx_18 zx_19 zx_20 zx_21 zx16 zx17 zx18 zx19 zx_22 zx21 zf0 zf1 zf2 zf_23 zf_24 zf_25 zf_26 zf_27 zf_28 zf9 zf10 zf11 zf_29 zf_30 zf_31 zf_32 zf_33 zf_34 zf_35 zf19 zf20 zf21 zL zN zP zM zO hs1 hs2 ha3 hb3 hR4 hU4 hc4 hd4 hb_fs4 hR5 hU5 hc5 hd5 hb_fs5 hG (by omega) (by omega) hM hB9 hbk rfl hmi9 (by omega) (by omega) hrt hK hKC hKM hKQ hP hD hQ hQN hS hl
theorem dL_law_739 : decode cL_law 739 = .ok (.aload_n 1, 1) := by decide +kernel
theorem dL_law_740 : decode cL_law 740 = .ok (.aload_n 0, 1) := by decide +kernel
theorem dL_law_741 : decode cL_law 741 = .ok (.iload_n 3, 1) := by decide +kernel
theorem dL_law_742 : decode cL_law 742 = .ok (.iconst 1, 1) := by decide +kernel
theorem dL_law_743 : decode cL_law 743 = .ok (.iadd, 1) := by decide +kernel
theorem dL_law_744 : decode cL_law 744 = .ok (.iaload, 1) := by decide +kernel
theorem dL_law_745 : decode cL_law 745 = .ok (.invokevirtual 86, 3) := by decide +kernel
theorem dL_law_748 : decode cL_law 748 = .ok (.pop, 1) := by decide +kernel
theorem dL_law_749 : decode cL_law 749 = .ok (.aload_n 2, 1) := by decide +kernel
theorem dL_law_750 : decode cL_law 750 = .ok (.aload_n 0, 1) := by decide +kernel
theorem dL_law_751 : decode cL_law 751 = .ok (.iload_n 3, 1) := by decide +kernel
theorem dL_law_752 : decode cL_law 752 = .ok (.iconst 1, 1) := by decide +kernel
theorem dL_law_753 : decode cL_law 753 = .ok (.iadd, 1) := by decide +kernel
theorem dL_law_754 : decode cL_law 754 = .ok (.iaload, 1) := by decide +kernel
theorem dL_law_755 : decode cL_law 755 = .ok (.invokevirtual 89, 3) := by decide +kernel
theorem dL_law_758 : decode cL_law 758 = .ok (.pop, 1) := by decide +kernel
theorem dL_law_759 : decode cL_law 759 = .ok (.goto 369, 3) := by decide +kernel
set_option maxHeartbeats 4000000 in
set_option maxRecDepth 100000 in
/-- the law: rarest -/
theorem law_case17 {p : Program} {l : Launch} {e : Env} {s : State} {m : MethodId} {below : List Frame} {meth : Method} {c : Code} {dC : Nat → ClassId} {dI : Nat → Nat → Nat} {b L : Nat} {xs : Nat → Int32} (hLL : L ≤ 3072) (C0 : lw_At p s m meth c b L xs) (hLX : LX s) {gt mo : Nat} {H : Heap} {locs : List Loc} {kc9 ks9 : Nat} (hc9 : kc9 + 195 ≤ 600000) (hs9 : ks9 + 10960 ≤ 7302250) {ii : Int32} (hii : 0 ≤ ii.toInt ∧ ii.toInt + 6 ≤ L) {ls : Array Slot} (kk : ∀ (H1 : Heap) (locs1 : List Loc) (ls : Array Slot), LI dC dI s gt mo H1 (va_S (fun q : Nat => s.heap.size ≤ q) s.heap H1 locs1 → lv_has ls 4 [(3, .int ii), (2, .ref mo), (1, .ref gt), (0, .ref b)] → W p l e room_1 s m #[Value.ref b] below meth c H1 locs1 (kc9 + 195) (ks9 + 10960) (lw_Z below #[Value.ref b] s) (F0 m 1128 ls []))) : LI dC dI s gt mo H (va_S (fun q : Nat => s.heap.size ≤ q) s.heap H locs → lv_has ls 4 [(3, .int ii), (2, .ref mo), (1, .ref gt), (0, .ref b)] → W p l e room_1 s m #[Value.ref b] below meth c H locs kc9 ks9 (lw_Z below #[Value.ref b] s) (F0 m 739 ls [])) := by
  obtain ⟨hx, hb, hr, hml, hown, hts, hX, hbl, hlocks, hgv⟩ := id C0
  have hown : s.vm.findClass RL = some m.cls := hown
  have hA : ∀ q : Nat, s.heap.size ≤ q → (fun q : Nat => s.heap.size ≤ q) q := fun _ h => h
  have hbA : ¬ (fun q : Nat => s.heap.size ≤ q) b := Nat.not_le.mpr hbl
  obtain ⟨hcl, hcld, hAO2, hAO5, hN53, hN160, hSR, hSW, hSR2, hSW2, hOV⟩ := hLX
  unfold LI
  intro tp bk mb mu rd cm wk pp so ty li st9 td fk fpl un mk x0 x1 q0 q1 q2 q3 q4 q5 q6 q7 r ctp cmb cmu cb0 cb1 cb2 cli cpp cso cty ftp fmu fb0 fb1 fb2 fli fpp fso fty fmb spn kG cg9 fG o3 r3 c3 f3 n3 e4 t4 s4 R4 ct4 cs4 ft4 fs4 m4 e5 t5 s5 R5 ct5 cs5 ft5 fs5 m5 kC cC fC kF cF fF kT cT fT kA kB cA9 cB ad ca vi vl vf W9 T9 B9 zad zkc zx0 zx1 zx2 zx3 zx4 zx5 zx6 zx7 zx8 zx9 zx10 zx11 zx12 zx13 zx14 zx15 zx16 zx17 zx18 zx19 zx20 zx21 zf0 zf1 zf2 zf3 zf4 zf5 zf6 zf7 zf8 zf9 zf10 zf11 zf12 zf13 zf14 zf15 zf16 zf17 zf18 zf19 zf20 zf21 zL zN zP zM zO hs1 hs2 ha3 hb3 hR4 hU4 hc4 hd4 hb_fs4 hR5 hU5 hc5 hd5 hb_fs5 hG htd hmk hM hB9 hbk hmo hmi hzk hzt hrt hK hKC hKM hKQ hP hD hQ hQN hS hl
  subst hmo
  have rg_td := i_rng td
  have rg_mk := i_rng mk
  have rg_zx2 := i_rng zx2
  have rg_zx3 := i_rng zx3
  refine lv_aload_n hx hb dL_law_739 rfl (lv_at hl 2 rfl) ?_
  refine lv_aload_n hx hb dL_law_740 rfl (lv_at hl 3 rfl) ?_
  refine lv_iload_n hx hb dL_law_741 rfl (lv_at hl 0 rfl) ?_
  refine lv_iconst (v := 1) hx hb dL_law_742 (by decide) ?_
  refine lv_iadd hx hb dL_law_743 ?_
  refine lv_topi (fun y_1 ey_1 => ?_)
  have ty_1 := i_add (a := ii.toInt) (b := 1) rfl (by decide) ey_1 (by omega) (by omega)
  refine va_sld hx hb hX hbl hbA hS (i := y_1) (vp_of (a := y_1.toInt) rfl (by omega) (by omega)) dL_law_744 ?_
  refine lv_topi (fun y_2 ey_2 => ?_)
  have hPc := hP.sub (ws' := [(gt, .inr (9, [.int st9, .ref tp, .int td, .int fk, .int fpl, .ref bk, .int un, .ref mb, .ref mu, .int mk, .ref rd, .ref cm, .ref wk, .ref pp, .ref so, .ref ty]))]) [0] rfl
  have hKc := hK.sub (tys' := []) [] rfl
  have hDc := hD.sub (ws' := [(gt, .inr (9, [.int st9, .ref tp, .int td, .int fk, .int fpl, .ref bk, .int un, .ref mb, .ref mu, .int mk, .ref rd, .ref cm, .ref wk, .ref pp, .ref so, .ref ty]))]) [0] (by decide) rfl
  have hFc := va_free (wc := [(gt, .inr (9, [.int st9, .ref tp, .int td, .int fk, .int fpl, .ref bk, .int un, .ref mb, .ref mu, .int mk, .ref rd, .ref cm, .ref wk, .ref pp, .ref so, .ref ty]))]) hD hS hA [0] rfl
  have hQAc : ∀ q ∈ W9, ¬ va_A [(gt, .inr (9, [.int st9, .ref tp, .int td, .int fk, .int fpl, .ref bk, .int un, .ref mb, .ref mu, .int mk, .ref rd, .ref cm, .ref wk, .ref pp, .ref so, .ref ty]))] H.size q.1 := qn_A hQ hQN (fun x hx => mem_pl [0] rfl x hx)
  refine va_calli (va_runV (As := [.int y_2]) (rest := []) ⟨hx, hb, hml, hown, hts⟩ (s_g_rarest l dC dI W9 T9 B9 gt tp bk mb mu rd cm wk pp so ty st9 td fk fpl un mk H.size y_2 hB9 hbk) (cwV 1 hts mg_L_X9_rarest rfl rfl rfl (by decide +kernel) ⟨Nat.le_of_ble_eq_true rfl, Nat.le_of_ble_eq_true rfl⟩) ⟨fun a U g mk q => by obtain ⟨q0, q1, qP, qK, qD, qE0, qE1, qE2⟩ := q; exact ⟨q0, q1, qP, va_K.moved (u := U) (U := U.calling g mk a) (Vm.Alike.refl U.vm) qK, qD, qE0, va_K.moved (u := U) (U := U.calling g mk a) (Vm.Alike.refl U.vm) qE1, qE2⟩, va_recv hKc hPc (ci := 9) (q0 := 0) rfl rfl, fun U hU hW => ⟨rfl, by rw [hU], by rw [hU]; exact hPc, va_K.moved hW.alike hKc, hDc.weaken (fun _ _ _ _ => trivial), (by rw [hU]; exact hQ), va_K.moved hW.alike hKQ, hQAc⟩⟩ rfl rfl hl.1 rfl (lv_room (Nat.le_of_ble_eq_true rfl)) dL_law_745 ⟨by show kc9 + 0 ≤ 600000; omega, by show ks9 + 0 ≤ 7302250; omega⟩) hS (fun q _ h => hFc q h) hFc (fun r_3 u_4 t H1 locs ht hvm hw hB hz1 hk1 hS => ?_)
  have hQo := hQ
  have hQ := qn_P hQ hQAc hk1
  obtain ⟨w_5, hP1, hK1, hD1⟩ := hB
  rw [ht] at hP1
  have hQNa := qn_new hQAc hD1
  obtain ⟨hPx, hDx⟩ := va_joinQ (X := [(gt, .inr (9, [.int st9, .ref tp, .int td, .int fk, .int fpl, .ref bk, .int un, .ref mb, .ref mu, .int mk, .ref rd, .ref cm, .ref wk, .ref pp, .ref so, .ref ty])), (tp, .inl (ctp, 900, .inl ftp)), (mb, .inl (cmb, 3, .inr (.inr (.inr (.inr fmb))))), (mu, .inl (cmu, 3, .inl fmu)), (rd, .inr (6, rF r q0 q1 q2 q3 q4 q5 q6 q7)), (r 0, .inl (cb0, 18, .inl fb0)), (r 1, .inl (cb1, 18, .inl fb1)), (r 2, .inl (cb2, 18, .inl fb2)), (wk, .inr (8, [.int x0, .int x1, .ref li])), (li, .inl (cli, 24, .inl fli)), (pp, .inl (cpp, 60, .inl fpp)), (so, .inl (cso, 60, .inl fso)), (ty, .inl (cty, 26, .inl fty)), (cm, .inr (1, [.ref kA, .ref kB, .ref kG, .ref (ad 12 0), .ref o3, .ref e4, .ref e5, .ref kC, .ref kF, .ref kT, .int spn])), (kA, .inl (cA9, 6, .inr (.inr (.inr (.inr (fun i => some (ad i 0))))))), (kB, .inl (cB, 6, .inr (.inr (.inr (.inr (fun i => some (ad (6 + i) 0))))))), (kG, .inl (cg9, 6, .inl fG)), (o3, .inr (7, [.ref r3, .int n3])), (r3, .inl (c3, 6, .inr (.inl f3))), (e4, .inr (3, [.int (nI R4), .ref t4, .ref s4, .int m4])), (t4, .inl (ct4, 24 * R4, .inl ft4)), (s4, .inl (cs4, R4, .inl fs4)), (e5, .inr (3, [.int (nI R5), .ref t5, .ref s5, .int m5])), (t5, .inl (ct5, 24 * R5, .inl ft5)), (s5, .inl (cs5, R5, .inl fs5)), (kC, .inl (cC, 24, .inl fC)), (kF, .inl (cF, 24, .inl fF)), (kT, .inl (cT, 26, .inl fT))]) (cx := [(gt, .inr (9, [.int st9, .ref tp, .int td, .int fk, .int fpl, .ref bk, .int un, .ref mb, .ref mu, .int mk, .ref rd, .ref cm, .ref wk, .ref pp, .ref so, .ref ty]))]) (wr := [(tp, .inl (ctp, 900, .inl ftp)), (mb, .inl (cmb, 3, .inr (.inr (.inr (.inr fmb))))), (mu, .inl (cmu, 3, .inl fmu)), (rd, .inr (6, rF r q0 q1 q2 q3 q4 q5 q6 q7)), (r 0, .inl (cb0, 18, .inl fb0)), (r 1, .inl (cb1, 18, .inl fb1)), (r 2, .inl (cb2, 18, .inl fb2)), (wk, .inr (8, [.int x0, .int x1, .ref li])), (li, .inl (cli, 24, .inl fli)), (pp, .inl (cpp, 60, .inl fpp)), (so, .inl (cso, 60, .inl fso)), (ty, .inl (cty, 26, .inl fty)), (cm, .inr (1, [.ref kA, .ref kB, .ref kG, .ref (ad 12 0), .ref o3, .ref e4, .ref e5, .ref kC, .ref kF, .ref kT, .int spn])), (kA, .inl (cA9, 6, .inr (.inr (.inr (.inr (fun i => some (ad i 0))))))), (kB, .inl (cB, 6, .inr (.inr (.inr (.inr (fun i => some (ad (6 + i) 0))))))), (kG, .inl (cg9, 6, .inl fG)), (o3, .inr (7, [.ref r3, .int n3])), (r3, .inl (c3, 6, .inr (.inl f3))), (e4, .inr (3, [.int (nI R4), .ref t4, .ref s4, .int m4])), (t4, .inl (ct4, 24 * R4, .inl ft4)), (s4, .inl (cs4, R4, .inl fs4)), (e5, .inr (3, [.int (nI R5), .ref t5, .ref s5, .int m5])), (t5, .inl (ct5, 24 * R5, .inl ft5)), (s5, .inl (cs5, R5, .inl fs5)), (kC, .inl (cC, 24, .inl fC)), (kF, .inl (cF, 24, .inl fF)), (kT, .inl (cT, 26, .inl fT))]) (w1 := [(gt, .inr (9, [.int w_5, .ref tp, .int td, .int fk, .int fpl, .ref bk, .int un, .ref mb, .ref mu, .int mk, .ref rd, .ref cm, .ref wk, .ref pp, .ref so, .ref ty]))]) (pl := (cPL ad ca vi vl vf (List.range 13) ++ mW zad zkc zx0 zx1 zx2 zx3 zx4 zx5 zx6 zx7 zx8 zx9 zx10 zx11 zx12 zx13 zx14 zx15 zx16 zx17 zx18 zx19 zx20 zx21 zf0 zf1 zf2 zf3 zf4 zf5 zf6 zf7 zf8 zf9 zf10 zf11 zf12 zf13 zf14 zf15 zf16 zf17 zf18 zf19 zf20 zf21 zL zN zP zM zO)) hP hD [0] [1, 2, 3, 4, 5, 6, 7, 8, 9, 10, 11, 12, 13, 14, 15, 16, 17, 18, 19, 20, 21, 22, 23, 24, 25, 26, 27] rfl rfl (by decide) (by decide) hk1 hFc hP1 hD1
  have hPx := t_P (cx := [(gt, .inr (9, [.int w_5, .ref tp, .int td, .int fk, .int fpl, .ref bk, .int un, .ref mb, .ref mu, .int mk, .ref rd, .ref cm, .ref wk, .ref pp, .ref so, .ref ty])), (tp, .inl (ctp, 900, .inl ftp)), (mb, .inl (cmb, 3, .inr (.inr (.inr (.inr fmb))))), (mu, .inl (cmu, 3, .inl fmu)), (rd, .inr (6, rF r q0 q1 q2 q3 q4 q5 q6 q7)), (r 0, .inl (cb0, 18, .inl fb0)), (r 1, .inl (cb1, 18, .inl fb1)), (r 2, .inl (cb2, 18, .inl fb2)), (wk, .inr (8, [.int x0, .int x1, .ref li])), (li, .inl (cli, 24, .inl fli)), (pp, .inl (cpp, 60, .inl fpp)), (so, .inl (cso, 60, .inl fso)), (ty, .inl (cty, 26, .inl fty)), (cm, .inr (1, [.ref kA, .ref kB, .ref kG, .ref (ad 12 0), .ref o3, .ref e4, .ref e5, .ref kC, .ref kF, .ref kT, .int spn])), (kA, .inl (cA9, 6, .inr (.inr (.inr (.inr (fun i => some (ad i 0))))))), (kB, .inl (cB, 6, .inr (.inr (.inr (.inr (fun i => some (ad (6 + i) 0))))))), (kG, .inl (cg9, 6, .inl fG)), (o3, .inr (7, [.ref r3, .int n3])), (r3, .inl (c3, 6, .inr (.inl f3))), (e4, .inr (3, [.int (nI R4), .ref t4, .ref s4, .int m4])), (t4, .inl (ct4, 24 * R4, .inl ft4)), (s4, .inl (cs4, R4, .inl fs4)), (e5, .inr (3, [.int (nI R5), .ref t5, .ref s5, .int m5])), (t5, .inl (ct5, 24 * R5, .inl ft5)), (s5, .inl (cs5, R5, .inl fs5)), (kC, .inl (cC, 24, .inl fC)), (kF, .inl (cF, 24, .inl fF)), (kT, .inl (cT, 26, .inl fT))]) hPx [27, 0, 1, 2, 3, 4, 5, 6, 7, 8, 9, 10, 11, 12, 13, 14, 15, 16, 17, 18, 19, 20, 21, 22, 23, 24, 25, 26] rfl
  have hDx := va_D.part (cx := [(gt, .inr (9, [.int w_5, .ref tp, .int td, .int fk, .int fpl, .ref bk, .int un, .ref mb, .ref mu, .int mk, .ref rd, .ref cm, .ref wk, .ref pp, .ref so, .ref ty])), (tp, .inl (ctp, 900, .inl ftp)), (mb, .inl (cmb, 3, .inr (.inr (.inr (.inr fmb))))), (mu, .inl (cmu, 3, .inl fmu)), (rd, .inr (6, rF r q0 q1 q2 q3 q4 q5 q6 q7)), (r 0, .inl (cb0, 18, .inl fb0)), (r 1, .inl (cb1, 18, .inl fb1)), (r 2, .inl (cb2, 18, .inl fb2)), (wk, .inr (8, [.int x0, .int x1, .ref li])), (li, .inl (cli, 24, .inl fli)), (pp, .inl (cpp, 60, .inl fpp)), (so, .inl (cso, 60, .inl fso)), (ty, .inl (cty, 26, .inl fty)), (cm, .inr (1, [.ref kA, .ref kB, .ref kG, .ref (ad 12 0), .ref o3, .ref e4, .ref e5, .ref kC, .ref kF, .ref kT, .int spn])), (kA, .inl (cA9, 6, .inr (.inr (.inr (.inr (fun i => some (ad i 0))))))), (kB, .inl (cB, 6, .inr (.inr (.inr (.inr (fun i => some (ad (6 + i) 0))))))), (kG, .inl (cg9, 6, .inl fG)), (o3, .inr (7, [.ref r3, .int n3])), (r3, .inl (c3, 6, .inr (.inl f3))), (e4, .inr (3, [.int (nI R4), .ref t4, .ref s4, .int m4])), (t4, .inl (ct4, 24 * R4, .inl ft4)), (s4, .inl (cs4, R4, .inl fs4)), (e5, .inr (3, [.int (nI R5), .ref t5, .ref s5, .int m5])), (t5, .inl (ct5, 24 * R5, .inl ft5)), (s5, .inl (cs5, R5, .inl fs5)), (kC, .inl (cC, 24, .inl fC)), (kF, .inl (cF, 24, .inl fF)), (kT, .inl (cT, 26, .inl fT))]) hDx [27, 0, 1, 2, 3, 4, 5, 6, 7, 8, 9, 10, 11, 12, 13, 14, 15, 16, 17, 18, 19, 20, 21, 22, 23, 24, 25, 26] (by decide) rfl
  have hm9 : List.map Prod.fst ([(gt, .inr (9, [.int w_5, .ref tp, .int td, .int fk, .int fpl, .ref bk, .int un, .ref mb, .ref mu, .int mk, .ref rd, .ref cm, .ref wk, .ref pp, .ref so, .ref ty])), (tp, .inl (ctp, 900, .inl ftp)), (mb, .inl (cmb, 3, .inr (.inr (.inr (.inr fmb))))), (mu, .inl (cmu, 3, .inl fmu)), (rd, .inr (6, rF r q0 q1 q2 q3 q4 q5 q6 q7)), (r 0, .inl (cb0, 18, .inl fb0)), (r 1, .inl (cb1, 18, .inl fb1)), (r 2, .inl (cb2, 18, .inl fb2)), (wk, .inr (8, [.int x0, .int x1, .ref li])), (li, .inl (cli, 24, .inl fli)), (pp, .inl (cpp, 60, .inl fpp)), (so, .inl (cso, 60, .inl fso)), (ty, .inl (cty, 26, .inl fty)), (cm, .inr (1, [.ref kA, .ref kB, .ref kG, .ref (ad 12 0), .ref o3, .ref e4, .ref e5, .ref kC, .ref kF, .ref kT, .int spn])), (kA, .inl (cA9, 6, .inr (.inr (.inr (.inr (fun i => some (ad i 0))))))), (kB, .inl (cB, 6, .inr (.inr (.inr (.inr (fun i => some (ad (6 + i) 0))))))), (kG, .inl (cg9, 6, .inl fG)), (o3, .inr (7, [.ref r3, .int n3])), (r3, .inl (c3, 6, .inr (.inl f3))), (e4, .inr (3, [.int (nI R4), .ref t4, .ref s4, .int m4])), (t4, .inl (ct4, 24 * R4, .inl ft4)), (s4, .inl (cs4, R4, .inl fs4)), (e5, .inr (3, [.int (nI R5), .ref t5, .ref s5, .int m5])), (t5, .inl (ct5, 24 * R5, .inl ft5)), (s5, .inl (cs5, R5, .inl fs5)), (kC, .inl (cC, 24, .inl fC)), (kF, .inl (cF, 24, .inl fF)), (kT, .inl (cT, 26, .inl fT))] ++ (cPL ad ca vi vl vf (List.range 13) ++ mW zad zkc zx0 zx1 zx2 zx3 zx4 zx5 zx6 zx7 zx8 zx9 zx10 zx11 zx12 zx13 zx14 zx15 zx16 zx17 zx18 zx19 zx20 zx21 zf0 zf1 zf2 zf3 zf4 zf5 zf6 zf7 zf8 zf9 zf10 zf11 zf12 zf13 zf14 zf15 zf16 zf17 zf18 zf19 zf20 zf21 zL zN zP zM zO) : va_W) = List.map Prod.fst ([(gt, .inr (9, [.int st9, .ref tp, .int td, .int fk, .int fpl, .ref bk, .int un, .ref mb, .ref mu, .int mk, .ref rd, .ref cm, .ref wk, .ref pp, .ref so, .ref ty])), (tp, .inl (ctp, 900, .inl ftp)), (mb, .inl (cmb, 3, .inr (.inr (.inr (.inr fmb))))), (mu, .inl (cmu, 3, .inl fmu)), (rd, .inr (6, rF r q0 q1 q2 q3 q4 q5 q6 q7)), (r 0, .inl (cb0, 18, .inl fb0)), (r 1, .inl (cb1, 18, .inl fb1)), (r 2, .inl (cb2, 18, .inl fb2)), (wk, .inr (8, [.int x0, .int x1, .ref li])), (li, .inl (cli, 24, .inl fli)), (pp, .inl (cpp, 60, .inl fpp)), (so, .inl (cso, 60, .inl fso)), (ty, .inl (cty, 26, .inl fty)), (cm, .inr (1, [.ref kA, .ref kB, .ref kG, .ref (ad 12 0), .ref o3, .ref e4, .ref e5, .ref kC, .ref kF, .ref kT, .int spn])), (kA, .inl (cA9, 6, .inr (.inr (.inr (.inr (fun i => some (ad i 0))))))), (kB, .inl (cB, 6, .inr (.inr (.inr (.inr (fun i => some (ad (6 + i) 0))))))), (kG, .inl (cg9, 6, .inl fG)), (o3, .inr (7, [.ref r3, .int n3])), (r3, .inl (c3, 6, .inr (.inl f3))), (e4, .inr (3, [.int (nI R4), .ref t4, .ref s4, .int m4])), (t4, .inl (ct4, 24 * R4, .inl ft4)), (s4, .inl (cs4, R4, .inl fs4)), (e5, .inr (3, [.int (nI R5), .ref t5, .ref s5, .int m5])), (t5, .inl (ct5, 24 * R5, .inl ft5)), (s5, .inl (cs5, R5, .inl fs5)), (kC, .inl (cC, 24, .inl fC)), (kF, .inl (cF, 24, .inl fF)), (kT, .inl (cT, 26, .inl fT))] ++ (cPL ad ca vi vl vf (List.range 13) ++ mW zad zkc zx0 zx1 zx2 zx3 zx4 zx5 zx6 zx7 zx8 zx9 zx10 zx11 zx12 zx13 zx14 zx15 zx16 zx17 zx18 zx19 zx20 zx21 zf0 zf1 zf2 zf3 zf4 zf5 zf6 zf7 zf8 zf9 zf10 zf11 zf12 zf13 zf14 zf15 zf16 zf17 zf18 zf19 zf20 zf21 zL zN zP zM zO) : va_W) := rfl
  have hQNx := qn_fst hQN hm9
  have hQN := hQNx
  clear hQNx hQAc hFc hDc hPc hKc
  have hP := hPx
  have hD := hDx
  clear hPx hDx
  generalize H1 = H at hP hS hQ ⊢
  refine lv_pop hx hb dL_law_748 rfl ?_
  refine lv_aload_n hx hb dL_law_749 rfl (lv_at hl 1 rfl) ?_
  refine lv_aload_n hx hb dL_law_750 rfl (lv_at hl 3 rfl) ?_
  refine lv_iload_n hx hb dL_law_751 rfl (lv_at hl 0 rfl) ?_
  refine lv_iconst (v := 1) hx hb dL_law_752 (by decide) ?_
  refine lv_iadd hx hb dL_law_753 ?_
  refine lv_topi (fun y_6 ey_6 => ?_)
  have ty_6 := i_add (a := ii.toInt) (b := 1) rfl (by decide) ey_6 (by omega) (by omega)
  refine va_sld hx hb hX hbl hbA hS (i := y_6) (vp_of (a := y_6.toInt) rfl (by omega) (by omega)) dL_law_754 ?_
  refine lv_topi (fun y_7 ey_7 => ?_)
  have e_y_7 : y_7 = y_2 := by rw [ey_7, ey_2, ey_6, ey_1]
  have q_y_7 : y_7.toInt = y_2.toInt := by rw [ey_7, ey_2, ey_6, ey_1]
  have hPc : va_P (dC, dI) vwCl (mW zad zkc zx0 zx1 zx2 zx3 zx4 zx5 zx6 zx7 zx8 zx9 zx10 zx11 zx12 zx13 zx14 zx15 zx16 zx17 zx18 zx19 zx20 zx21 zf0 zf1 zf2 zf3 zf4 zf5 zf6 zf7 zf8 zf9 zf10 zf11 zf12 zf13 zf14 zf15 zf16 zf17 zf18 zf19 zf20 zf21 zL zN zP zM zO) H := p_sub hP (fun _ hq => List.mem_append_right _ (List.mem_append_right _ hq))
  have hKc := hKM
  have hDc : va_D (fun q : Nat => s.heap.size ≤ q) (mW zad zkc zx0 zx1 zx2 zx3 zx4 zx5 zx6 zx7 zx8 zx9 zx10 zx11 zx12 zx13 zx14 zx15 zx16 zx17 zx18 zx19 zx20 zx21 zf0 zf1 zf2 zf3 zf4 zf5 zf6 zf7 zf8 zf9 zf10 zf11 zf12 zf13 zf14 zf15 zf16 zf17 zf18 zf19 zf20 zf21 zL zN zP zM zO) := D_right (D_right hD)
  have hFc := m_free hDc hS hA
  have hQAc : ∀ q ∈ W9, ¬ va_A (mW zad zkc zx0 zx1 zx2 zx3 zx4 zx5 zx6 zx7 zx8 zx9 zx10 zx11 zx12 zx13 zx14 zx15 zx16 zx17 zx18 zx19 zx20 zx21 zf0 zf1 zf2 zf3 zf4 zf5 zf6 zf7 zf8 zf9 zf10 zf11 zf12 zf13 zf14 zf15 zf16 zf17 zf18 zf19 zf20 zf21 zL zN zP zM zO) H.size q.1 := qn_A hQ hQN (fun x hx => List.mem_append_right _ (List.mem_append_right _ hx))
  refine va_calli (va_runV (As := [.int y_7]) (rest := []) ⟨hx, hb, hml, hown, hts⟩ (m_rarest l dC dI zad zkc zx0 zx1 zx2 zx3 zx4 zx5 zx6 zx7 zx8 zx9 zx10 zx11 zx12 zx13 zx14 zx15 zx16 zx17 zx18 zx19 zx20 zx21 zf0 zf1 zf2 zf3 zf4 zf5 zf6 zf7 zf8 zf9 zf10 zf11 zf12 zf13 zf14 zf15 zf16 zf17 zf18 zf19 zf20 zf21 zL zN zP zM zO H.size y_7 hmi) (cwV 1 hts mg_L_X10_rarest rfl rfl rfl (by decide +kernel) ⟨Nat.le_of_ble_eq_true rfl, Nat.le_of_ble_eq_true rfl⟩) ⟨fun a U g mk q => by obtain ⟨q0, q1, qP, qK, qD, qE0⟩ := q; exact ⟨q0, q1, qP, va_K.moved (u := U) (U := U.calling g mk a) (Vm.Alike.refl U.vm) qK, qD, over_moved (u := U) (E := U.calling g mk a) (Vm.Alike.refl U.vm) qE0⟩, va_recv hKc hPc (ci := 10) (q0 := 0) rfl rfl, fun U hU hW => ⟨rfl, by rw [hU], by rw [hU]; exact hPc, va_K.moved hW.alike hKc, hDc.weaken (fun _ _ _ _ => trivial), over_moved hW.alike hOV⟩⟩ rfl rfl hl.1 rfl (lv_room (Nat.le_of_ble_eq_true rfl)) dL_law_755 ⟨by show kc9 + 0 ≤ 600000; omega, by show ks9 + 0 ≤ 7302250; omega⟩) hS (fun q _ h => hFc q h) hFc (fun r_8 u t H1 locs ht hvm hw hB hz1 hk1 hS => ?_)
  have hQo := hQ
  have hQ := qn_P hQ hQAc hk1
  have hwu := hw
  have hwt_r_8 := congrArg Int32.toInt hw
  obtain ⟨zx_9, zx_10, zx_11, zx_12, zx_13, zx_14, zx_15, zx_16, zx_17, zf_18, zf_19, zf_20, zf_21, zf_22, zf_23, zf_24, zf_25, zf_26, zf_27, zL_28, zNn_29, zP_30, zM_31, zO_32, h_33, hP1, hK1, hD1⟩ := hB
  rw [ht] at hP1
  have rg_zx_9 := i_rng zx_9
  have rg_zx_10 := i_rng zx_10
  have rg_zx_11 := i_rng zx_11
  have rg_zx_12 := i_rng zx_12
  have rg_zx_13 := i_rng zx_13
  have rg_zx_14 := i_rng zx_14
  have rg_zx_15 := i_rng zx_15
  have rg_zx_16 := i_rng zx_16
  have rg_zx_17 := i_rng zx_17
  have hass := (pm_as (a := [(gt, .inr (9, [.int w_5, .ref tp, .int td, .int fk, .int fpl, .ref bk, .int un, .ref mb, .ref mu, .int mk, .ref rd, .ref cm, .ref wk, .ref pp, .ref so, .ref ty])), (tp, .inl (ctp, 900, .inl ftp)), (mb, .inl (cmb, 3, .inr (.inr (.inr (.inr fmb))))), (mu, .inl (cmu, 3, .inl fmu)), (rd, .inr (6, rF r q0 q1 q2 q3 q4 q5 q6 q7)), (r 0, .inl (cb0, 18, .inl fb0)), (r 1, .inl (cb1, 18, .inl fb1)), (r 2, .inl (cb2, 18, .inl fb2)), (wk, .inr (8, [.int x0, .int x1, .ref li])), (li, .inl (cli, 24, .inl fli)), (pp, .inl (cpp, 60, .inl fpp)), (so, .inl (cso, 60, .inl fso)), (ty, .inl (cty, 26, .inl fty)), (cm, .inr (1, [.ref kA, .ref kB, .ref kG, .ref (ad 12 0), .ref o3, .ref e4, .ref e5, .ref kC, .ref kF, .ref kT, .int spn])), (kA, .inl (cA9, 6, .inr (.inr (.inr (.inr (fun i => some (ad i 0))))))), (kB, .inl (cB, 6, .inr (.inr (.inr (.inr (fun i => some (ad (6 + i) 0))))))), (kG, .inl (cg9, 6, .inl fG)), (o3, .inr (7, [.ref r3, .int n3])), (r3, .inl (c3, 6, .inr (.inl f3))), (e4, .inr (3, [.int (nI R4), .ref t4, .ref s4, .int m4])), (t4, .inl (ct4, 24 * R4, .inl ft4)), (s4, .inl (cs4, R4, .inl fs4)), (e5, .inr (3, [.int (nI R5), .ref t5, .ref s5, .int m5])), (t5, .inl (ct5, 24 * R5, .inl ft5)), (s5, .inl (cs5, R5, .inl fs5)), (kC, .inl (cC, 24, .inl fC)), (kF, .inl (cF, 24, .inl fF)), (kT, .inl (cT, 26, .inl fT))]) (b := cPL ad ca vi vl vf (List.range 13)) (c := mW zad zkc zx0 zx1 zx2 zx3 zx4 zx5 zx6 zx7 zx8 zx9 zx10 zx11 zx12 zx13 zx14 zx15 zx16 zx17 zx18 zx19 zx20 zx21 zf0 zf1 zf2 zf3 zf4 zf5 zf6 zf7 zf8 zf9 zf10 zf11 zf12 zf13 zf14 zf15 zf16 zf17 zf18 zf19 zf20 zf21 zL zN zP zM zO)).symm
  obtain ⟨hPx, hDx⟩ := pm_join hP hD hass hk1 hFc hP1 hD1
  rw [List.append_assoc] at hPx hDx
  have hQNx := qn_app (qn_sub hQN (fun x hx => List.mem_append_left _ hx)) (qn_app (qn_sub hQN (fun x hx => List.mem_append_right _ (List.mem_append_left _ hx))) (qn_new hQAc hD1))
  have hP := hPx
  have hD := hDx
  have hQN := hQNx
  generalize H1 = H at hP hS hQ ⊢
  have hmi9 := hmi.setP h_33
  refine lv_pop hx hb dL_law_758 rfl ?_
  refine lv_goto (tgt := 1128) hx hb dL_law_759 (by decide) ?_
  refine W.widen (k := kc9 + 195) (n := ks9 + 10960) (by omega) (by omega) ?_
  exact kk H _ ls tp bk mb mu rd cm wk pp so ty li w_5 td fk fpl un mk x0 x1 q0 q1 q2 q3 q4 q5 q6 q7 r ctp cmb cmu cb0 cb1 cb2 cli cpp cso cty ftp fmu fb0 fb1 fb2 fli fpp fso fty fmb spn kG cg9 fG o3 r3 c3 f3 n3 e4 t4 s4 R4 ct4 cs4 ft4 fs4 m4 e5 t5 s5 R5 ct5 cs5 ft5 fs5 m5 kC cC fC kF cF fF kT cT fT kA kB cA9 cB ad ca vi vl vf W9 T9 B9 zad zkc zx_9 zx1 zx2 zx3 zx4 zx5 zx6 zx7 zx8 zx9 zx10 zx11 zx_10 zx_11 zx_12 zx_13 zx_14 zx_15 zx_16 zx_17 zx20 zx21 zf0 zf1 zf2 zf_18 zf_19 zf_20 zf_21 zf_22 zf_23 zf_24 zf_25 zf_26 zf12 zf13 zf14 zf15 zf16 zf17 zf18 zf19 zf20 zf_27 zL_28 zNn_29 zP_30 zM_31 zO_32 hs1 hs2 ha3 hb3 hR4 hU4 hc4 hd4 hb_fs4 hR5 hU5 hc5 hd5 hb_fs5 hG (by omega) (by omega) hM hB9 hbk rfl hmi9 (by omega) (by omega) hrt hK hKC hKM hKQ hP hD hQ hQN hS hl

theorem dL_law_336 : decode cL_law 336 = .ok (.aload_n 1, 1) := by decide +kernel
theorem dL_law_337 : decode cL_law 337 = .ok (.aload_n 0, 1) := by decide +kernel
theorem dL_law_338 : decode cL_law 338 = .ok (.iload_n 3, 1) := by decide +kernel
theorem dL_law_339 : decode cL_law 339 = .ok (.iconst 1, 1) := by decide +kernel
theorem dL_law_340 : decode cL_law 340 = .ok (.iadd, 1) := by decide +kernel
theorem dL_law_341 : decode cL_law 341 = .ok (.iaload, 1) := by decide +kernel
theorem dL_law_342 : decode cL_law 342 = .ok (.aload_n 0, 1) := by decide +kernel
theorem dL_law_343 : decode cL_law 343 = .ok (.iload_n 3, 1) := by decide +kernel
theorem dL_law_344 : decode cL_law 344 = .ok (.iconst 2, 1) := by decide +kernel
theorem dL_law_345 : decode cL_law 345 = .ok (.iadd, 1) := by decide +kernel
theorem dL_law_346 : decode cL_law 346 = .ok (.iaload, 1) := by decide +kernel
theorem dL_law_347 : decode cL_law 347 = .ok (.invokevirtual 40, 3) := by decide +kernel
theorem dL_law_350 : decode cL_law 350 = .ok (.pop, 1) := by decide +kernel
theorem dL_law_351 : decode cL_law 351 = .ok (.aload_n 2, 1) := by decide +kernel
theorem dL_law_352 : decode cL_law 352 = .ok (.aload_n 0, 1) := by decide +kernel
theorem dL_law_353 : decode cL_law 353 = .ok (.iload_n 3, 1) := by decide +kernel
theorem dL_law_354 : decode cL_law 354 = .ok (.iconst 1, 1) := by decide +kernel
theorem dL_law_355 : decode cL_law 355 = .ok (.iadd, 1) := by decide +kernel
theorem dL_law_356 : decode cL_law 356 = .ok (.iaload, 1) := by decide +kernel
theorem dL_law_357 : decode cL_law 357 = .ok (.aload_n 0, 1) := by decide +kernel
theorem dL_law_358 : decode cL_law 358 = .ok (.iload_n 3, 1) := by decide +kernel
theorem dL_law_359 : decode cL_law 359 = .ok (.iconst 2, 1) := by decide +kernel
theorem dL_law_360 : decode cL_law 360 = .ok (.iadd, 1) := by decide +kernel
theorem dL_law_361 : decode cL_law 361 = .ok (.iaload, 1) := by decide +kernel
theorem dL_law_362 : decode cL_law 362 = .ok (.invokevirtual 44, 3) := by decide +kernel
theorem dL_law_365 : decode cL_law 365 = .ok (.pop, 1) := by decide +kernel
theorem dL_law_366 : decode cL_law 366 = .ok (.goto 762, 3) := by decide +kernel
set_option maxHeartbeats 4000000 in
set_option maxRecDepth 100000 in
/-- the law: document -/
theorem law_case6 {p : Program} {l : Launch} {e : Env} {s : State} {m : MethodId} {below : List Frame} {meth : Method} {c : Code} {dC : Nat → ClassId} {dI : Nat → Nat → Nat} {b L : Nat} {xs : Nat → Int32} (hLL : L ≤ 3072) (C0 : lw_At p s m meth c b L xs) (hLX : LX s) {gt mo : Nat} {H : Heap} {locs : List Loc} {kc9 ks9 : Nat} (hc9 : kc9 + 195 ≤ 600000) (hs9 : ks9 + 10960 ≤ 7302250) {ii : Int32} (hii : 0 ≤ ii.toInt ∧ ii.toInt + 6 ≤ L) {ls : Array Slot} (kk : ∀ (H1 : Heap) (locs1 : List Loc) (ls : Array Slot), LI dC dI s gt mo H1 (va_S (fun q : Nat => s.heap.size ≤ q) s.heap H1 locs1 → lv_has ls 4 [(3, .int ii), (2, .ref mo), (1, .ref gt), (0, .ref b)] → W p l e room_1 s m #[Value.ref b] below meth c H1 locs1 (kc9 + 195) (ks9 + 10960) (lw_Z below #[Value.ref b] s) (F0 m 1128 ls []))) : LI dC dI s gt mo H (va_S (fun q : Nat => s.heap.size ≤ q) s.heap H locs → lv_has ls 4 [(3, .int ii), (2, .ref mo), (1, .ref gt), (0, .ref b)] → W p l e room_1 s m #[Value.ref b] below meth c H locs kc9 ks9 (lw_Z below #[Value.ref b] s) (F0 m 336 ls [])) := by
  obtain ⟨hx, hb, hr, hml, hown, hts, hX, hbl, hlocks, hgv⟩ := id C0
  have hown : s.vm.findClass RL = some m.cls := hown
  have hA : ∀ q : Nat, s.heap.size ≤ q → (fun q : Nat => s.heap.size ≤ q) q := fun _ h => h
  have hbA : ¬ (fun q : Nat => s.heap.size ≤ q) b := Nat.not_le.mpr hbl
  obtain ⟨hcl, hcld, hAO2, hAO5, hN53, hN160, hSR, hSW, hSR2, hSW2, hOV⟩ := hLX
  unfold LI
  intro tp bk mb mu rd cm wk pp so ty li st9 td fk fpl un mk x0 x1 q0 q1 q2 q3 q4 q5 q6 q7 r ctp cmb cmu cb0 cb1 cb2 cli cpp cso cty ftp fmu fb0 fb1 fb2 fli fpp fso fty fmb spn kG cg9 fG o3 r3 c3 f3 n3 e4 t4 s4 R4 ct4 cs4 ft4 fs4 m4 e5 t5 s5 R5 ct5 cs5 ft5 fs5 m5 kC cC fC kF cF fF kT cT fT kA kB cA9 cB ad ca vi vl vf W9 T9 B9 zad zkc zx0 zx1 zx2 zx3 zx4 zx5 zx6 zx7 zx8 zx9 zx10 zx11 zx12 zx13 zx14 zx15 zx16 zx17 zx18 zx19 zx20 zx21 zf0 zf1 zf2 zf3 zf4 zf5 zf6 zf7 zf8 zf9 zf10 zf11 zf12 zf13 zf14 zf15 zf16 zf17 zf18 zf19 zf20 zf21 zL zN zP zM zO hs1 hs2 ha3 hb3 hR4 hU4 hc4 hd4 hb_fs4 hR5 hU5 hc5 hd5 hb_fs5 hG htd hmk hM hB9 hbk hmo hmi hzk hzt hrt hK hKC hKM hKQ hP hD hQ hQN hS hl
  subst hmo
  have rg_td := i_rng td
  have rg_mk := i_rng mk
  have rg_zx2 := i_rng zx2
  have rg_zx3 := i_rng zx3
  refine lv_aload_n hx hb dL_law_336 rfl (lv_at hl 2 rfl) ?_
  refine lv_aload_n hx hb dL_law_337 rfl (lv_at hl 3 rfl) ?_
  refine lv_iload_n hx hb dL_law_338 rfl (lv_at hl 0 rfl) ?_
  refine lv_iconst (v := 1) hx hb dL_law_339 (by decide) ?_
  refine lv_iadd hx hb dL_law_340 ?_
  refine lv_topi (fun y_1 ey_1 => ?_)
  have ty_1 := i_add (a := ii.toInt) (b := 1) rfl (by decide) ey_1 (by omega) (by omega)
  refine va_sld hx hb hX hbl hbA hS (i := y_1) (vp_of (a := y_1.toInt) rfl (by omega) (by omega)) dL_law_341 ?_
  refine lv_topi (fun y_2 ey_2 => ?_)
  refine lv_aload_n hx hb dL_law_342 rfl (lv_at hl 3 rfl) ?_
  refine lv_iload_n hx hb dL_law_343 rfl (lv_at hl 0 rfl) ?_
  refine lv_iconst (v := 2) hx hb dL_law_344 (by decide) ?_
  refine lv_iadd hx hb dL_law_345 ?_
  refine lv_topi (fun y_3 ey_3 => ?_)
  have ty_3 := i_add (a := ii.toInt) (b := 2) rfl (by decide) ey_3 (by omega) (by omega)
  refine va_sld hx hb hX hbl hbA hS (i := y_3) (vp_of (a := y_3.toInt) rfl (by omega) (by omega)) dL_law_346 ?_
  refine lv_topi (fun y_4 ey_4 => ?_)
  have hPc := hP.sub (ws' := [(gt, .inr (9, [.int st9, .ref tp, .int td, .int fk, .int fpl, .ref bk, .int un, .ref mb, .ref mu, .int mk, .ref rd, .ref cm, .ref wk, .ref pp, .ref so, .ref ty])), (wk, .inr (8, [.int x0, .int x1, .ref li])), (li, .inl (cli, 24, .inl fli))]) [0, 8, 9] rfl
  have hKc := hK.sub (tys' := [(cli, .int)]) [6] rfl
  have hDc := hD.sub (ws' := [(gt, .inr (9, [.int st9, .ref tp, .int td, .int fk, .int fpl, .ref bk, .int un, .ref mb, .ref mu, .int mk, .ref rd, .ref cm, .ref wk, .ref pp, .ref so, .ref ty])), (wk, .inr (8, [.int x0, .int x1, .ref li])), (li, .inl (cli, 24, .inl fli))]) [0, 8, 9] (by decide) rfl
  have hFc := va_free (wc := [(gt, .inr (9, [.int st9, .ref tp, .int td, .int fk, .int fpl, .ref bk, .int un, .ref mb, .ref mu, .int mk, .ref rd, .ref cm, .ref wk, .ref pp, .ref so, .ref ty])), (wk, .inr (8, [.int x0, .int x1, .ref li])), (li, .inl (cli, 24, .inl fli))]) hD hS hA [0, 8, 9] rfl
  have hQAc : ∀ q ∈ W9, ¬ va_A [(gt, .inr (9, [.int st9, .ref tp, .int td, .int fk, .int fpl, .ref bk, .int un, .ref mb, .ref mu, .int mk, .ref rd, .ref cm, .ref wk, .ref pp, .ref so, .ref ty])), (wk, .inr (8, [.int x0, .int x1, .ref li])), (li, .inl (cli, 24, .inl fli))] H.size q.1 := qn_A hQ hQN (fun x hx => mem_pl [0, 8, 9] rfl x hx)
  refine va_calli (va_runV (As := [.int y_2, .int y_4]) (rest := []) ⟨hx, hb, hml, hown, hts⟩ (s_g_document l dC dI W9 T9 B9 gt tp bk mb mu rd cm wk pp so ty st9 td fk fpl un mk li cli fli x0 x1 H.size y_2 y_4 hB9 hbk) (cwV 2 hts mg_L_X9_document rfl rfl rfl (by decide +kernel) ⟨Nat.le_of_ble_eq_true rfl, Nat.le_of_ble_eq_true rfl⟩) ⟨fun a U g mk q => by obtain ⟨q0, q1, qP, qK, qD, qE0, qE1, qE2⟩ := q; exact ⟨q0, q1, qP, va_K.moved (u := U) (U := U.calling g mk a) (Vm.Alike.refl U.vm) qK, qD, qE0, va_K.moved (u := U) (U := U.calling g mk a) (Vm.Alike.refl U.vm) qE1, qE2⟩, va_recv hKc hPc (ci := 9) (q0 := 0) rfl rfl, fun U hU hW => ⟨rfl, by rw [hU], by rw [hU]; exact hPc, va_K.moved hW.alike hKc, hDc.weaken (fun _ _ _ _ => trivial), (by rw [hU]; exact hQ), va_K.moved hW.alike hKQ, hQAc⟩⟩ rfl rfl hl.1 rfl (lv_room (Nat.le_of_ble_eq_true rfl)) dL_law_347 ⟨by show kc9 + 0 ≤ 600000; omega, by show ks9 + 0 ≤ 7302250; omega⟩) hS (fun q _ h => hFc q h) hFc (fun r_5 u_6 t H1 locs ht hvm hw hB hz1 hk1 hS => ?_)
  have hQo := hQ
  have hQ := qn_P hQ hQAc hk1
  obtain ⟨w_7, w_8, w_9, f_10, hP1, hK1, hD1⟩ := hB
  rw [ht] at hP1
  have hQNa := qn_new hQAc hD1
  obtain ⟨hPx, hDx⟩ := va_joinQ (X := [(gt, .inr (9, [.int st9, .ref tp, .int td, .int fk, .int fpl, .ref bk, .int un, .ref mb, .ref mu, .int mk, .ref rd, .ref cm, .ref wk, .ref pp, .ref so, .ref ty])), (tp, .inl (ctp, 900, .inl ftp)), (mb, .inl (cmb, 3, .inr (.inr (.inr (.inr fmb))))), (mu, .inl (cmu, 3, .inl fmu)), (rd, .inr (6, rF r q0 q1 q2 q3 q4 q5 q6 q7)), (r 0, .inl (cb0, 18, .inl fb0)), (r 1, .inl (cb1, 18, .inl fb1)), (r 2, .inl (cb2, 18, .inl fb2)), (wk, .inr (8, [.int x0, .int x1, .ref li])), (li, .inl (cli, 24, .inl fli)), (pp, .inl (cpp, 60, .inl fpp)), (so, .inl (cso, 60, .inl fso)), (ty, .inl (cty, 26, .inl fty)), (cm, .inr (1, [.ref kA, .ref kB, .ref kG, .ref (ad 12 0), .ref o3, .ref e4, .ref e5, .ref kC, .ref kF, .ref kT, .int spn])), (kA, .inl (cA9, 6, .inr (.inr (.inr (.inr (fun i => some (ad i 0))))))), (kB, .inl (cB, 6, .inr (.inr (.inr (.inr (fun i => some (ad (6 + i) 0))))))), (kG, .inl (cg9, 6, .inl fG)), (o3, .inr (7, [.ref r3, .int n3])), (r3, .inl (c3, 6, .inr (.inl f3))), (e4, .inr (3, [.int (nI R4), .ref t4, .ref s4, .int m4])), (t4, .inl (ct4, 24 * R4, .inl ft4)), (s4, .inl (cs4, R4, .inl fs4)), (e5, .inr (3, [.int (nI R5), .ref t5, .ref s5, .int m5])), (t5, .inl (ct5, 24 * R5, .inl ft5)), (s5, .inl (cs5, R5, .inl fs5)), (kC, .inl (cC, 24, .inl fC)), (kF, .inl (cF, 24, .inl fF)), (kT, .inl (cT, 26, .inl fT))]) (cx := [(gt, .inr (9, [.int st9, .ref tp, .int td, .int fk, .int fpl, .ref bk, .int un, .ref mb, .ref mu, .int mk, .ref rd, .ref cm, .ref wk, .ref pp, .ref so, .ref ty])), (wk, .inr (8, [.int x0, .int x1, .ref li])), (li, .inl (cli, 24, .inl fli))]) (wr := [(tp, .inl (ctp, 900, .inl ftp)), (mb, .inl (cmb, 3, .inr (.inr (.inr (.inr fmb))))), (mu, .inl (cmu, 3, .inl fmu)), (rd, .inr (6, rF r q0 q1 q2 q3 q4 q5 q6 q7)), (r 0, .inl (cb0, 18, .inl fb0)), (r 1, .inl (cb1, 18, .inl fb1)), (r 2, .inl (cb2, 18, .inl fb2)), (pp, .inl (cpp, 60, .inl fpp)), (so, .inl (cso, 60, .inl fso)), (ty, .inl (cty, 26, .inl fty)), (cm, .inr (1, [.ref kA, .ref kB, .ref kG, .ref (ad 12 0), .ref o3, .ref e4, .ref e5, .ref kC, .ref kF, .ref kT, .int spn])), (kA, .inl (cA9, 6, .inr (.inr (.inr (.inr (fun i => some (ad i 0))))))), (kB, .inl (cB, 6, .inr (.inr (.inr (.inr (fun i => some (ad (6 + i) 0))))))), (kG, .inl (cg9, 6, .inl fG)), (o3, .inr (7, [.ref r3, .int n3])), (r3, .inl (c3, 6, .inr (.inl f3))), (e4, .inr (3, [.int (nI R4), .ref t4, .ref s4, .int m4])), (t4, .inl (ct4, 24 * R4, .inl ft4)), (s4, .inl (cs4, R4, .inl fs4)), (e5, .inr (3, [.int (nI R5), .ref t5, .ref s5, .int m5])), (t5, .inl (ct5, 24 * R5, .inl ft5)), (s5, .inl (cs5, R5, .inl fs5)), (kC, .inl (cC, 24, .inl fC)), (kF, .inl (cF, 24, .inl fF)), (kT, .inl (cT, 26, .inl fT))]) (w1 := [(gt, .inr (9, [.int w_7, .ref tp, .int td, .int fk, .int fpl, .ref bk, .int un, .ref mb, .ref mu, .int mk, .ref rd, .ref cm, .ref wk, .ref pp, .ref so, .ref ty])), (wk, .inr (8, [.int w_8, .int w_9, .ref li])), (li, .inl (cli, 24, .inl f_10))]) (pl := (cPL ad ca vi vl vf (List.range 13) ++ mW zad zkc zx0 zx1 zx2 zx3 zx4 zx5 zx6 zx7 zx8 zx9 zx10 zx11 zx12 zx13 zx14 zx15 zx16 zx17 zx18 zx19 zx20 zx21 zf0 zf1 zf2 zf3 zf4 zf5 zf6 zf7 zf8 zf9 zf10 zf11 zf12 zf13 zf14 zf15 zf16 zf17 zf18 zf19 zf20 zf21 zL zN zP zM zO)) hP hD [0, 8, 9] [1, 2, 3, 4, 5, 6, 7, 10, 11, 12, 13, 14, 15, 16, 17, 18, 19, 20, 21, 22, 23, 24, 25, 26, 27] rfl rfl (by decide) (by decide) hk1 hFc hP1 hD1
  have hPx := t_P (cx := [(gt, .inr (9, [.int w_7, .ref tp, .int td, .int fk, .int fpl, .ref bk, .int un, .ref mb, .ref mu, .int mk, .ref rd, .ref cm, .ref wk, .ref pp, .ref so, .ref ty])), (tp, .inl (ctp, 900, .inl ftp)), (mb, .inl (cmb, 3, .inr (.inr (.inr (.inr fmb))))), (mu, .inl (cmu, 3, .inl fmu)), (rd, .inr (6, rF r q0 q1 q2 q3 q4 q5 q6 q7)), (r 0, .inl (cb0, 18, .inl fb0)), (r 1, .inl (cb1, 18, .inl fb1)), (r 2, .inl (cb2, 18, .inl fb2)), (wk, .inr (8, [.int w_8, .int w_9, .ref li])), (li, .inl (cli, 24, .inl f_10)), (pp, .inl (cpp, 60, .inl fpp)), (so, .inl (cso, 60, .inl fso)), (ty, .inl (cty, 26, .inl fty)), (cm, .inr (1, [.ref kA, .ref kB, .ref kG, .ref (ad 12 0), .ref o3, .ref e4, .ref e5, .ref kC, .ref kF, .ref kT, .int spn])), (kA, .inl (cA9, 6, .inr (.inr (.inr (.inr (fun i => some (ad i 0))))))), (kB, .inl (cB, 6, .inr (.inr (.inr (.inr (fun i => some (ad (6 + i) 0))))))), (kG, .inl (cg9, 6, .inl fG)), (o3, .inr (7, [.ref r3, .int n3])), (r3, .inl (c3, 6, .inr (.inl f3))), (e4, .inr (3, [.int (nI R4), .ref t4, .ref s4, .int m4])), (t4, .inl (ct4, 24 * R4, .inl ft4)), (s4, .inl (cs4, R4, .inl fs4)), (e5, .inr (3, [.int (nI R5), .ref t5, .ref s5, .int m5])), (t5, .inl (ct5, 24 * R5, .inl ft5)), (s5, .inl (cs5, R5, .inl fs5)), (kC, .inl (cC, 24, .inl fC)), (kF, .inl (cF, 24, .inl fF)), (kT, .inl (cT, 26, .inl fT))]) hPx [25, 0, 1, 2, 3, 4, 5, 6, 26, 27, 7, 8, 9, 10, 11, 12, 13, 14, 15, 16, 17, 18, 19, 20, 21, 22, 23, 24] rfl
  have hDx := va_D.part (cx := [(gt, .inr (9, [.int w_7, .ref tp, .int td, .int fk, .int fpl, .ref bk, .int un, .ref mb, .ref mu, .int mk, .ref rd, .ref cm, .ref wk, .ref pp, .ref so, .ref ty])), (tp, .inl (ctp, 900, .inl ftp)), (mb, .inl (cmb, 3, .inr (.inr (.inr (.inr fmb))))), (mu, .inl (cmu, 3, .inl fmu)), (rd, .inr (6, rF r q0 q1 q2 q3 q4 q5 q6 q7)), (r 0, .inl (cb0, 18, .inl fb0)), (r 1, .inl (cb1, 18, .inl fb1)), (r 2, .inl (cb2, 18, .inl fb2)), (wk, .inr (8, [.int w_8, .int w_9, .ref li])), (li, .inl (cli, 24, .inl f_10)), (pp, .inl (cpp, 60, .inl fpp)), (so, .inl (cso, 60, .inl fso)), (ty, .inl (cty, 26, .inl fty)), (cm, .inr (1, [.ref kA, .ref kB, .ref kG, .ref (ad 12 0), .ref o3, .ref e4, .ref e5, .ref kC, .ref kF, .ref kT, .int spn])), (kA, .inl (cA9, 6, .inr (.inr (.inr (.inr (fun i => some (ad i 0))))))), (kB, .inl (cB, 6, .inr (.inr (.inr (.inr (fun i => some (ad (6 + i) 0))))))), (kG, .inl (cg9, 6, .inl fG)), (o3, .inr (7, [.ref r3, .int n3])), (r3, .inl (c3, 6, .inr (.inl f3))), (e4, .inr (3, [.int (nI R4), .ref t4, .ref s4, .int m4])), (t4, .inl (ct4, 24 * R4, .inl ft4)), (s4, .inl (cs4, R4, .inl fs4)), (e5, .inr (3, [.int (nI R5), .ref t5, .ref s5, .int m5])), (t5, .inl (ct5, 24 * R5, .inl ft5)), (s5, .inl (cs5, R5, .inl fs5)), (kC, .inl (cC, 24, .inl fC)), (kF, .inl (cF, 24, .inl fF)), (kT, .inl (cT, 26, .inl fT))]) hDx [25, 0, 1, 2, 3, 4, 5, 6, 26, 27, 7, 8, 9, 10, 11, 12, 13, 14, 15, 16, 17, 18, 19, 20, 21, 22, 23, 24] (by decide) rfl
  have hm9 : List.map Prod.fst ([(gt, .inr (9, [.int w_7, .ref tp, .int td, .int fk, .int fpl, .ref bk, .int un, .ref mb, .ref mu, .int mk, .ref rd, .ref cm, .ref wk, .ref pp, .ref so, .ref ty])), (tp, .inl (ctp, 900, .inl ftp)), (mb, .inl (cmb, 3, .inr (.inr (.inr (.inr fmb))))), (mu, .inl (cmu, 3, .inl fmu)), (rd, .inr (6, rF r q0 q1 q2 q3 q4 q5 q6 q7)), (r 0, .inl (cb0, 18, .inl fb0)), (r 1, .inl (cb1, 18, .inl fb1)), (r 2, .inl (cb2, 18, .inl fb2)), (wk, .inr (8, [.int w_8, .int w_9, .ref li])), (li, .inl (cli, 24, .inl f_10)), (pp, .inl (cpp, 60, .inl fpp)), (so, .inl (cso, 60, .inl fso)), (ty, .inl (cty, 26, .inl fty)), (cm, .inr (1, [.ref kA, .ref kB, .ref kG, .ref (ad 12 0), .ref o3, .ref e4, .ref e5, .ref kC, .ref kF, .ref kT, .int spn])), (kA, .inl (cA9, 6, .inr (.inr (.inr (.inr (fun i => some (ad i 0))))))), (kB, .inl (cB, 6, .inr (.inr (.inr (.inr (fun i => some (ad (6 + i) 0))))))), (kG, .inl (cg9, 6, .inl fG)), (o3, .inr (7, [.ref r3, .int n3])), (r3, .inl (c3, 6, .inr (.inl f3))), (e4, .inr (3, [.int (nI R4), .ref t4, .ref s4, .int m4])), (t4, .inl (ct4, 24 * R4, .inl ft4)), (s4, .inl (cs4, R4, .inl fs4)), (e5, .inr (3, [.int (nI R5), .ref t5, .ref s5, .int m5])), (t5, .inl (ct5, 24 * R5, .inl ft5)), (s5, .inl (cs5, R5, .inl fs5)), (kC, .inl (cC, 24, .inl fC)), (kF, .inl (cF, 24, .inl fF)), (kT, .inl (cT, 26, .inl fT))] ++ (cPL ad ca vi vl vf (List.range 13) ++ mW zad zkc zx0 zx1 zx2 zx3 zx4 zx5 zx6 zx7 zx8 zx9 zx10 zx11 zx12 zx13 zx14 zx15 zx16 zx17 zx18 zx19 zx20 zx21 zf0 zf1 zf2 zf3 zf4 zf5 zf6 zf7 zf8 zf9 zf10 zf11 zf12 zf13 zf14 zf15 zf16 zf17 zf18 zf19 zf20 zf21 zL zN zP zM zO) : va_W) = List.map Prod.fst ([(gt, .inr (9, [.int st9, .ref tp, .int td, .int fk, .int fpl, .ref bk, .int un, .ref mb, .ref mu, .int mk, .ref rd, .ref cm, .ref wk, .ref pp, .ref so, .ref ty])), (tp, .inl (ctp, 900, .inl ftp)), (mb, .inl (cmb, 3, .inr (.inr (.inr (.inr fmb))))), (mu, .inl (cmu, 3, .inl fmu)), (rd, .inr (6, rF r q0 q1 q2 q3 q4 q5 q6 q7)), (r 0, .inl (cb0, 18, .inl fb0)), (r 1, .inl (cb1, 18, .inl fb1)), (r 2, .inl (cb2, 18, .inl fb2)), (wk, .inr (8, [.int x0, .int x1, .ref li])), (li, .inl (cli, 24, .inl fli)), (pp, .inl (cpp, 60, .inl fpp)), (so, .inl (cso, 60, .inl fso)), (ty, .inl (cty, 26, .inl fty)), (cm, .inr (1, [.ref kA, .ref kB, .ref kG, .ref (ad 12 0), .ref o3, .ref e4, .ref e5, .ref kC, .ref kF, .ref kT, .int spn])), (kA, .inl (cA9, 6, .inr (.inr (.inr (.inr (fun i => some (ad i 0))))))), (kB, .inl (cB, 6, .inr (.inr (.inr (.inr (fun i => some (ad (6 + i) 0))))))), (kG, .inl (cg9, 6, .inl fG)), (o3, .inr (7, [.ref r3, .int n3])), (r3, .inl (c3, 6, .inr (.inl f3))), (e4, .inr (3, [.int (nI R4), .ref t4, .ref s4, .int m4])), (t4, .inl (ct4, 24 * R4, .inl ft4)), (s4, .inl (cs4, R4, .inl fs4)), (e5, .inr (3, [.int (nI R5), .ref t5, .ref s5, .int m5])), (t5, .inl (ct5, 24 * R5, .inl ft5)), (s5, .inl (cs5, R5, .inl fs5)), (kC, .inl (cC, 24, .inl fC)), (kF, .inl (cF, 24, .inl fF)), (kT, .inl (cT, 26, .inl fT))] ++ (cPL ad ca vi vl vf (List.range 13) ++ mW zad zkc zx0 zx1 zx2 zx3 zx4 zx5 zx6 zx7 zx8 zx9 zx10 zx11 zx12 zx13 zx14 zx15 zx16 zx17 zx18 zx19 zx20 zx21 zf0 zf1 zf2 zf3 zf4 zf5 zf6 zf7 zf8 zf9 zf10 zf11 zf12 zf13 zf14 zf15 zf16 zf17 zf18 zf19 zf20 zf21 zL zN zP zM zO) : va_W) := rfl
  have hQNx := qn_fst hQN hm9
  have hQN := hQNx
  clear hQNx hQAc hFc hDc hPc hKc
  have hP := hPx
  have hD := hDx
  clear hPx hDx
  generalize H1 = H at hP hS hQ ⊢
  refine lv_pop hx hb dL_law_350 rfl ?_
  refine lv_aload_n hx hb dL_law_351 rfl (lv_at hl 1 rfl) ?_
  refine lv_aload_n hx hb dL_law_352 rfl (lv_at hl 3 rfl) ?_
  refine lv_iload_n hx hb dL_law_353 rfl (lv_at hl 0 rfl) ?_
  refine lv_iconst (v := 1) hx hb dL_law_354 (by decide) ?_
  refine lv_iadd hx hb dL_law_355 ?_
  refine lv_topi (fun y_11 ey_11 => ?_)
  have ty_11 := i_add (a := ii.toInt) (b := 1) rfl (by decide) ey_11 (by omega) (by omega)
  refine va_sld hx hb hX hbl hbA hS (i := y_11) (vp_of (a := y_11.toInt) rfl (by omega) (by omega)) dL_law_356 ?_
  refine lv_topi (fun y_12 ey_12 => ?_)
  have e_y_12 : y_12 = y_2 := by rw [ey_12, ey_2, ey_11, ey_1]
  have q_y_12 : y_12.toInt = y_2.toInt := by rw [ey_12, ey_2, ey_11, ey_1]
  refine lv_aload_n hx hb dL_law_357 rfl (lv_at hl 3 rfl) ?_
  refine lv_iload_n hx hb dL_law_358 rfl (lv_at hl 0 rfl) ?_
  refine lv_iconst (v := 2) hx hb dL_law_359 (by decide) ?_
  refine lv_iadd hx hb dL_law_360 ?_
  refine lv_topi (fun y_13 ey_13 => ?_)
  have ty_13 := i_add (a := ii.toInt) (b := 2) rfl (by decide) ey_13 (by omega) (by omega)
  refine va_sld hx hb hX hbl hbA hS (i := y_13) (vp_of (a := y_13.toInt) rfl (by omega) (by omega)) dL_law_361 ?_
  refine lv_topi (fun y_14 ey_14 => ?_)
  have e_y_14 : y_14 = y_4 := by rw [ey_14, ey_4, ey_13, ey_3]
  have q_y_14 : y_14.toInt = y_4.toInt := by rw [ey_14, ey_4, ey_13, ey_3]
  have hPc : va_P (dC, dI) vwCl (mW zad zkc zx0 zx1 zx2 zx3 zx4 zx5 zx6 zx7 zx8 zx9 zx10 zx11 zx12 zx13 zx14 zx15 zx16 zx17 zx18 zx19 zx20 zx21 zf0 zf1 zf2 zf3 zf4 zf5 zf6 zf7 zf8 zf9 zf10 zf11 zf12 zf13 zf14 zf15 zf16 zf17 zf18 zf19 zf20 zf21 zL zN zP zM zO) H := p_sub hP (fun _ hq => List.mem_append_right _ (List.mem_append_right _ hq))
  have hKc := hKM
  have hDc : va_D (fun q : Nat => s.heap.size ≤ q) (mW zad zkc zx0 zx1 zx2 zx3 zx4 zx5 zx6 zx7 zx8 zx9 zx10 zx11 zx12 zx13 zx14 zx15 zx16 zx17 zx18 zx19 zx20 zx21 zf0 zf1 zf2 zf3 zf4 zf5 zf6 zf7 zf8 zf9 zf10 zf11 zf12 zf13 zf14 zf15 zf16 zf17 zf18 zf19 zf20 zf21 zL zN zP zM zO) := D_right (D_right hD)
  have hFc := m_free hDc hS hA
  have hQAc : ∀ q ∈ W9, ¬ va_A (mW zad zkc zx0 zx1 zx2 zx3 zx4 zx5 zx6 zx7 zx8 zx9 zx10 zx11 zx12 zx13 zx14 zx15 zx16 zx17 zx18 zx19 zx20 zx21 zf0 zf1 zf2 zf3 zf4 zf5 zf6 zf7 zf8 zf9 zf10 zf11 zf12 zf13 zf14 zf15 zf16 zf17 zf18 zf19 zf20 zf21 zL zN zP zM zO) H.size q.1 := qn_A hQ hQN (fun x hx => List.mem_append_right _ (List.mem_append_right _ hx))
  refine va_calli (va_runV (As := [.int y_12, .int y_14]) (rest := []) ⟨hx, hb, hml, hown, hts⟩ (m_document l dC dI zad zkc zx0 zx1 zx2 zx3 zx4 zx5 zx6 zx7 zx8 zx9 zx10 zx11 zx12 zx13 zx14 zx15 zx16 zx17 zx18 zx19 zx20 zx21 zf0 zf1 zf2 zf3 zf4 zf5 zf6 zf7 zf8 zf9 zf10 zf11 zf12 zf13 zf14 zf15 zf16 zf17 zf18 zf19 zf20 zf21 zL zN zP zM zO H.size y_12 y_14 hmi) (cwV 2 hts mg_L_X10_document rfl rfl rfl (by decide +kernel) ⟨Nat.le_of_ble_eq_true rfl, Nat.le_of_ble_eq_true rfl⟩) ⟨fun a U g mk q => by obtain ⟨q0, q1, qP, qK, qD, qE0⟩ := q; exact ⟨q0, q1, qP, va_K.moved (u := U) (U := U.calling g mk a) (Vm.Alike.refl U.vm) qK, qD, over_moved (u := U) (E := U.calling g mk a) (Vm.Alike.refl U.vm) qE0⟩, va_recv hKc hPc (ci := 10) (q0 := 0) rfl rfl, fun U hU hW => ⟨rfl, by rw [hU], by rw [hU]; exact hPc, va_K.moved hW.alike hKc, hDc.weaken (fun _ _ _ _ => trivial), over_moved hW.alike hOV⟩⟩ rfl rfl hl.1 rfl (lv_room (Nat.le_of_ble_eq_true rfl)) dL_law_362 ⟨by show kc9 + 0 ≤ 600000; omega, by show ks9 + 0 ≤ 7302250; omega⟩) hS (fun q _ h => hFc q h) hFc (fun r_15 u t H1 locs ht hvm hw hB hz1 hk1 hS => ?_)
  have hQo := hQ
  have hQ := qn_P hQ hQAc hk1
  have hwu := hw
  have hwt_r_15 := congrArg Int32.toInt hw
  obtain ⟨zx_16, zx_17, zx_18, zx_19, zx_20, zx_21, zx_22, zx_23, zx_24, zx_25, zx_26, zf_27, zf_28, zf_29, zf_30, zf_31, zf_32, zf_33, zf_34, zf_35, zf_36, zf_37, zf_38, zf_39, zf_40, zf_41, zf_42, zf_43, zf_44, zL_45, zNn_46, zP_47, zM_48, zO_49, h_50, hP1, hK1, hD1⟩ := hB
  rw [ht] at hP1
  have rg_zx_16 := i_rng zx_16
  have rg_zx_17 := i_rng zx_17
  have rg_zx_18 := i_rng zx_18
  have rg_zx_19 := i_rng zx_19
  have rg_zx_20 := i_rng zx_20
  have rg_zx_21 := i_rng zx_21
  have rg_zx_22 := i_rng zx_22
  have rg_zx_23 := i_rng zx_23
  have rg_zx_24 := i_rng zx_24
  have rg_zx_25 := i_rng zx_25
  have rg_zx_26 := i_rng zx_26
  have hass := (pm_as (a := [(gt, .inr (9, [.int w_7, .ref tp, .int td, .int fk, .int fpl, .ref bk, .int un, .ref mb, .ref mu, .int mk, .ref rd, .ref cm, .ref wk, .ref pp, .ref so, .ref ty])), (tp, .inl (ctp, 900, .inl ftp)), (mb, .inl (cmb, 3, .inr (.inr (.inr (.inr fmb))))), (mu, .inl (cmu, 3, .inl fmu)), (rd, .inr (6, rF r q0 q1 q2 q3 q4 q5 q6 q7)), (r 0, .inl (cb0, 18, .inl fb0)), (r 1, .inl (cb1, 18, .inl fb1)), (r 2, .inl (cb2, 18, .inl fb2)), (wk, .inr (8, [.int w_8, .int w_9, .ref li])), (li, .inl (cli, 24, .inl f_10)), (pp, .inl (cpp, 60, .inl fpp)), (so, .inl (cso, 60, .inl fso)), (ty, .inl (cty, 26, .inl fty)), (cm, .inr (1, [.ref kA, .ref kB, .ref kG, .ref (ad 12 0), .ref o3, .ref e4, .ref e5, .ref kC, .ref kF, .ref kT, .int spn])), (kA, .inl (cA9, 6, .inr (.inr (.inr (.inr (fun i => some (ad i 0))))))), (kB, .inl (cB, 6, .inr (.inr (.inr (.inr (fun i => some (ad (6 + i) 0))))))), (kG, .inl (cg9, 6, .inl fG)), (o3, .inr (7, [.ref r3, .int n3])), (r3, .inl (c3, 6, .inr (.inl f3))), (e4, .inr (3, [.int (nI R4), .ref t4, .ref s4, .int m4])), (t4, .inl (ct4, 24 * R4, .inl ft4)), (s4, .inl (cs4, R4, .inl fs4)), (e5, .inr (3, [.int (nI R5), .ref t5, .ref s5, .int m5])), (t5, .inl (ct5, 24 * R5, .inl ft5)), (s5, .inl (cs5, R5, .inl fs5)), (kC, .inl (cC, 24, .inl fC)), (kF, .inl (cF, 24, .inl fF)), (kT, .inl (cT, 26, .inl fT))]) (b := cPL ad ca vi vl vf (List.range 13)) (c := mW zad zkc zx0 zx1 zx2 zx3 zx4 zx5 zx6 zx7 zx8 zx9 zx10 zx11 zx12 zx13 zx14 zx15 zx16 zx17 zx18 zx19 zx20 zx21 zf0 zf1 zf2 zf3 zf4 zf5 zf6 zf7 zf8 zf9 zf10 zf11 zf12 zf13 zf14 zf15 zf16 zf17 zf18 zf19 zf20 zf21 zL zN zP zM zO)).symm
  obtain ⟨hPx, hDx⟩ := pm_join hP hD hass hk1 hFc hP1 hD1
  rw [List.append_assoc] at hPx hDx
  have hQNx := qn_app (qn_sub hQN (fun x hx => List.mem_append_left _ hx)) (qn_app (qn_sub hQN (fun x hx => List.mem_append_right _ (List.mem_append_left _ hx))) (qn_new hQAc hD1))
  have hP := hPx
  have hD := hDx
  have hQN := hQNx
  generalize H1 = H at hP hS hQ ⊢
  have hmi9 := hmi.setP h_50
  refine lv_pop hx hb dL_law_365 rfl ?_
  refine lv_goto (tgt := 1128) hx hb dL_law_366 (by decide) ?_
  refine W.widen (k := kc9 + 195) (n := ks9 + 10960) (by omega) (by omega) ?_
  exact kk H _ ls tp bk mb mu rd cm wk pp so ty li w_7 td fk fpl un mk w_8 w_9 q0 q1 q2 q3 q4 q5 q6 q7 r ctp cmb cmu cb0 cb1 cb2 cli cpp cso cty ftp fmu fb0 fb1 fb2 f_10 fpp fso fty fmb spn kG cg9 fG o3 r3 c3 f3 n3 e4 t4 s4 R4 ct4 cs4 ft4 fs4 m4 e5 t5 s5 R5 ct5 cs5 ft5 fs5 m5 kC cC fC kF cF fF kT cT fT kA kB cA9 cB ad ca vi vl vf W9 T9 B9 zad zkc zx_16 zx1 zx2 zx3 zx4 zx5 zx6 zx7 zx8 zx9 zx10 zx11 zx_17 zx_18 zx_19 zx_20 zx_21 zx_22 zx_23 zx_24 zx_25 zx_26 zf0 zf1 zf2 zf_27 zf_28 zf_29 zf_30 zf_31 zf_32 zf_33 zf_34 zf_35 zf_36 zf_37 zf_38 zf_39 zf_40 zf_41 zf_42 zf_43 zf_44 zf21 zL_45 zNn_46 zP_47 zM_48 zO_49 hs1 hs2 ha3 hb3 hR4 hU4 hc4 hd4 hb_fs4 hR5 hU5 hc5 hd5 hb_fs5 hG (by omega) (by omega) hM hB9 hbk rfl hmi9 (by omega) (by omega) hrt hK hKC hKM hKQ hP hD hQ hQN hS hl
theorem dL_law_369 : decode cL_law 369 = .ok (.aload_n 1, 1) := by decide +kernel
theorem dL_law_370 : decode cL_law 370 = .ok (.aload_n 0, 1) := by decide +kernel
theorem dL_law_371 : decode cL_law 371 = .ok (.iload_n 3, 1) := by decide +kernel
theorem dL_law_372 : decode cL_law 372 = .ok (.iconst 1, 1) := by decide +kernel
theorem dL_law_373 : decode cL_law 373 = .ok (.iadd, 1) := by decide +kernel
theorem dL_law_374 : decode cL_law 374 = .ok (.iaload, 1) := by decide +kernel
theorem dL_law_375 : decode cL_law 375 = .ok (.aload_n 0, 1) := by decide +kernel
theorem dL_law_376 : decode cL_law 376 = .ok (.iload_n 3, 1) := by decide +kernel
theorem dL_law_377 : decode cL_law 377 = .ok (.iconst 2, 1) := by decide +kernel
theorem dL_law_378 : decode cL_law 378 = .ok (.iadd, 1) := by decide +kernel
theorem dL_law_379 : decode cL_law 379 = .ok (.iaload, 1) := by decide +kernel
theorem dL_law_380 : decode cL_law 380 = .ok (.invokevirtual 45, 3) := by decide +kernel
theorem dL_law_383 : decode cL_law 383 = .ok (.pop, 1) := by decide +kernel
theorem dL_law_384 : decode cL_law 384 = .ok (.aload_n 2, 1) := by decide +kernel
theorem dL_law_385 : decode cL_law 385 = .ok (.aload_n 0, 1) := by decide +kernel
theorem dL_law_386 : decode cL_law 386 = .ok (.iload_n 3, 1) := by decide +kernel
theorem dL_law_387 : decode cL_law 387 = .ok (.iconst 1, 1) := by decide +kernel
theorem dL_law_388 : decode cL_law 388 = .ok (.iadd, 1) := by decide +kernel
theorem dL_law_389 : decode cL_law 389 = .ok (.iaload, 1) := by decide +kernel
theorem dL_law_390 : decode cL_law 390 = .ok (.aload_n 0, 1) := by decide +kernel
theorem dL_law_391 : decode cL_law 391 = .ok (.iload_n 3, 1) := by decide +kernel
theorem dL_law_392 : decode cL_law 392 = .ok (.iconst 2, 1) := by decide +kernel
theorem dL_law_393 : decode cL_law 393 = .ok (.iadd, 1) := by decide +kernel
theorem dL_law_394 : decode cL_law 394 = .ok (.iaload, 1) := by decide +kernel
theorem dL_law_395 : decode cL_law 395 = .ok (.invokevirtual 48, 3) := by decide +kernel
theorem dL_law_398 : decode cL_law 398 = .ok (.pop, 1) := by decide +kernel
theorem dL_law_399 : decode cL_law 399 = .ok (.goto 729, 3) := by decide +kernel
set_option maxHeartbeats 4000000 in
set_option maxRecDepth 100000 in
/-- the law: letter -/
theorem law_case7 {p : Program} {l : Launch} {e : Env} {s : State} {m : MethodId} {below : List Frame} {meth : Method} {c : Code} {dC : Nat → ClassId} {dI : Nat → Nat → Nat} {b L : Nat} {xs : Nat → Int32} (hLL : L ≤ 3072) (C0 : lw_At p s m meth c b L xs) (hLX : LX s) {gt mo : Nat} {H : Heap} {locs : List Loc} {kc9 ks9 : Nat} (hc9 : kc9 + 195 ≤ 600000) (hs9 : ks9 + 10960 ≤ 7302250) {ii : Int32} (hii : 0 ≤ ii.toInt ∧ ii.toInt + 6 ≤ L) {ls : Array Slot} (kk : ∀ (H1 : Heap) (locs1 : List Loc) (ls : Array Slot), LI dC dI s gt mo H1 (va_S (fun q : Nat => s.heap.size ≤ q) s.heap H1 locs1 → lv_has ls 4 [(3, .int ii), (2, .ref mo), (1, .ref gt), (0, .ref b)] → W p l e room_1 s m #[Value.ref b] below meth c H1 locs1 (kc9 + 195) (ks9 + 10960) (lw_Z below #[Value.ref b] s) (F0 m 1128 ls []))) : LI dC dI s gt mo H (va_S (fun q : Nat => s.heap.size ≤ q) s.heap H locs → lv_has ls 4 [(3, .int ii), (2, .ref mo), (1, .ref gt), (0, .ref b)] → W p l e room_1 s m #[Value.ref b] below meth c H locs kc9 ks9 (lw_Z below #[Value.ref b] s) (F0 m 369 ls [])) := by
  obtain ⟨hx, hb, hr, hml, hown, hts, hX, hbl, hlocks, hgv⟩ := id C0
  have hown : s.vm.findClass RL = some m.cls := hown
  have hA : ∀ q : Nat, s.heap.size ≤ q → (fun q : Nat => s.heap.size ≤ q) q := fun _ h => h
  have hbA : ¬ (fun q : Nat => s.heap.size ≤ q) b := Nat.not_le.mpr hbl
  obtain ⟨hcl, hcld, hAO2, hAO5, hN53, hN160, hSR, hSW, hSR2, hSW2, hOV⟩ := hLX
  unfold LI
  intro tp bk mb mu rd cm wk pp so ty li st9 td fk fpl un mk x0 x1 q0 q1 q2 q3 q4 q5 q6 q7 r ctp cmb cmu cb0 cb1 cb2 cli cpp cso cty ftp fmu fb0 fb1 fb2 fli fpp fso fty fmb spn kG cg9 fG o3 r3 c3 f3 n3 e4 t4 s4 R4 ct4 cs4 ft4 fs4 m4 e5 t5 s5 R5 ct5 cs5 ft5 fs5 m5 kC cC fC kF cF fF kT cT fT kA kB cA9 cB ad ca vi vl vf W9 T9 B9 zad zkc zx0 zx1 zx2 zx3 zx4 zx5 zx6 zx7 zx8 zx9 zx10 zx11 zx12 zx13 zx14 zx15 zx16 zx17 zx18 zx19 zx20 zx21 zf0 zf1 zf2 zf3 zf4 zf5 zf6 zf7 zf8 zf9 zf10 zf11 zf12 zf13 zf14 zf15 zf16 zf17 zf18 zf19 zf20 zf21 zL zN zP zM zO hs1 hs2 ha3 hb3 hR4 hU4 hc4 hd4 hb_fs4 hR5 hU5 hc5 hd5 hb_fs5 hG htd hmk hM hB9 hbk hmo hmi hzk hzt hrt hK hKC hKM hKQ hP hD hQ hQN hS hl
  subst hmo
  have rg_td := i_rng td
  have rg_mk := i_rng mk
  have rg_zx2 := i_rng zx2
  have rg_zx3 := i_rng zx3
  refine lv_aload_n hx hb dL_law_369 rfl (lv_at hl 2 rfl) ?_
  refine lv_aload_n hx hb dL_law_370 rfl (lv_at hl 3 rfl) ?_
  refine lv_iload_n hx hb dL_law_371 rfl (lv_at hl 0 rfl) ?_
  refine lv_iconst (v := 1) hx hb dL_law_372 (by decide) ?_
  refine lv_iadd hx hb dL_law_373 ?_
  refine lv_topi (fun y_1 ey_1 => ?_)
  have ty_1 := i_add (a := ii.toInt) (b := 1) rfl (by decide) ey_1 (by omega) (by omega)
  refine va_sld hx hb hX hbl hbA hS (i := y_1) (vp_of (a := y_1.toInt) rfl (by omega) (by omega)) dL_law_374 ?_
  refine lv_topi (fun y_2 ey_2 => ?_)
  refine lv_aload_n hx hb dL_law_375 rfl (lv_at hl 3 rfl) ?_
  refine lv_iload_n hx hb dL_law_376 rfl (lv_at hl 0 rfl) ?_
  refine lv_iconst (v := 2) hx hb dL_law_377 (by decide) ?_
  refine lv_iadd hx hb dL_law_378 ?_
  refine lv_topi (fun y_3 ey_3 => ?_)
  have ty_3 := i_add (a := ii.toInt) (b := 2) rfl (by decide) ey_3 (by omega) (by omega)
  refine va_sld hx hb hX hbl hbA hS (i := y_3) (vp_of (a := y_3.toInt) rfl (by omega) (by omega)) dL_law_379 ?_
  refine lv_topi (fun y_4 ey_4 => ?_)
  have hPc := hP.sub (ws' := [(gt, .inr (9, [.int st9, .ref tp, .int td, .int fk, .int fpl, .ref bk, .int un, .ref mb, .ref mu, .int mk, .ref rd, .ref cm, .ref wk, .ref pp, .ref so, .ref ty]))]) [0] rfl
  have hKc := hK.sub (tys' := []) [] rfl
  have hDc := hD.sub (ws' := [(gt, .inr (9, [.int st9, .ref tp, .int td, .int fk, .int fpl, .ref bk, .int un, .ref mb, .ref mu, .int mk, .ref rd, .ref cm, .ref wk, .ref pp, .ref so, .ref ty]))]) [0] (by decide) rfl
  have hFc := va_free (wc := [(gt, .inr (9, [.int st9, .ref tp, .int td, .int fk, .int fpl, .ref bk, .int un, .ref mb, .ref mu, .int mk, .ref rd, .ref cm, .ref wk, .ref pp, .ref so, .ref ty]))]) hD hS hA [0] rfl
  have hQAc : ∀ q ∈ W9, ¬ va_A [(gt, .inr (9, [.int st9, .ref tp, .int td, .int fk, .int fpl, .ref bk, .int un, .ref mb, .ref mu, .int mk, .ref rd, .ref cm, .ref wk, .ref pp, .ref so, .ref ty]))] H.size q.1 := qn_A hQ hQN (fun x hx => mem_pl [0] rfl x hx)
  refine va_calli (va_runV (As := [.int y_2, .int y_4]) (rest := []) ⟨hx, hb, hml, hown, hts⟩ (s_g_letter l dC dI W9 T9 B9 gt tp bk mb mu rd cm wk pp so ty st9 td fk fpl un mk H.size y_2 y_4 hB9 hbk) (cwV 2 hts mg_L_X9_letter rfl rfl rfl (by decide +kernel) ⟨Nat.le_of_ble_eq_true rfl, Nat.le_of_ble_eq_true rfl⟩) ⟨fun a U g mk q => by obtain ⟨q0, q1, qP, qK, qD, qE0, qE1, qE2⟩ := q; exact ⟨q0, q1, qP, va_K.moved (u := U) (U := U.calling g mk a) (Vm.Alike.refl U.vm) qK, qD, qE0, va_K.moved (u := U) (U := U.calling g mk a) (Vm.Alike.refl U.vm) qE1, qE2⟩, va_recv hKc hPc (ci := 9) (q0 := 0) rfl rfl, fun U hU hW => ⟨rfl, by rw [hU], by rw [hU]; exact hPc, va_K.moved hW.alike hKc, hDc.weaken (fun _ _ _ _ => trivial), (by rw [hU]; exact hQ), va_K.moved hW.alike hKQ, hQAc⟩⟩ rfl rfl hl.1 rfl (lv_room (Nat.le_of_ble_eq_true rfl)) dL_law_380 ⟨by show kc9 + 0 ≤ 600000; omega, by show ks9 + 0 ≤ 7302250; omega⟩) hS (fun q _ h => hFc q h) hFc (fun r_5 u_6 t H1 locs ht hvm hw hB hz1 hk1 hS => ?_)
  have hQo := hQ
  have hQ := qn_P hQ hQAc hk1
  obtain ⟨w_7, hP1, hK1, hD1⟩ := hB
  rw [ht] at hP1
  have hQNa := qn_new hQAc hD1
  obtain ⟨hPx, hDx⟩ := va_joinQ (X := [(gt, .inr (9, [.int st9, .ref tp, .int td, .int fk, .int fpl, .ref bk, .int un, .ref mb, .ref mu, .int mk, .ref rd, .ref cm, .ref wk, .ref pp, .ref so, .ref ty])), (tp, .inl (ctp, 900, .inl ftp)), (mb, .inl (cmb, 3, .inr (.inr (.inr (.inr fmb))))), (mu, .inl (cmu, 3, .inl fmu)), (rd, .inr (6, rF r q0 q1 q2 q3 q4 q5 q6 q7)), (r 0, .inl (cb0, 18, .inl fb0)), (r 1, .inl (cb1, 18, .inl fb1)), (r 2, .inl (cb2, 18, .inl fb2)), (wk, .inr (8, [.int x0, .int x1, .ref li])), (li, .inl (cli, 24, .inl fli)), (pp, .inl (cpp, 60, .inl fpp)), (so, .inl (cso, 60, .inl fso)), (ty, .inl (cty, 26, .inl fty)), (cm, .inr (1, [.ref kA, .ref kB, .ref kG, .ref (ad 12 0), .ref o3, .ref e4, .ref e5, .ref kC, .ref kF, .ref kT, .int spn])), (kA, .inl (cA9, 6, .inr (.inr (.inr (.inr (fun i => some (ad i 0))))))), (kB, .inl (cB, 6, .inr (.inr (.inr (.inr (fun i => some (ad (6 + i) 0))))))), (kG, .inl (cg9, 6, .inl fG)), (o3, .inr (7, [.ref r3, .int n3])), (r3, .inl (c3, 6, .inr (.inl f3))), (e4, .inr (3, [.int (nI R4), .ref t4, .ref s4, .int m4])), (t4, .inl (ct4, 24 * R4, .inl ft4)), (s4, .inl (cs4, R4, .inl fs4)), (e5, .inr (3, [.int (nI R5), .ref t5, .ref s5, .int m5])), (t5, .inl (ct5, 24 * R5, .inl ft5)), (s5, .inl (cs5, R5, .inl fs5)), (kC, .inl (cC, 24, .inl fC)), (kF, .inl (cF, 24, .inl fF)), (kT, .inl (cT, 26, .inl fT))]) (cx := [(gt, .inr (9, [.int st9, .ref tp, .int td, .int fk, .int fpl, .ref bk, .int un, .ref mb, .ref mu, .int mk, .ref rd, .ref cm, .ref wk, .ref pp, .ref so, .ref ty]))]) (wr := [(tp, .inl (ctp, 900, .inl ftp)), (mb, .inl (cmb, 3, .inr (.inr (.inr (.inr fmb))))), (mu, .inl (cmu, 3, .inl fmu)), (rd, .inr (6, rF r q0 q1 q2 q3 q4 q5 q6 q7)), (r 0, .inl (cb0, 18, .inl fb0)), (r 1, .inl (cb1, 18, .inl fb1)), (r 2, .inl (cb2, 18, .inl fb2)), (wk, .inr (8, [.int x0, .int x1, .ref li])), (li, .inl (cli, 24, .inl fli)), (pp, .inl (cpp, 60, .inl fpp)), (so, .inl (cso, 60, .inl fso)), (ty, .inl (cty, 26, .inl fty)), (cm, .inr (1, [.ref kA, .ref kB, .ref kG, .ref (ad 12 0), .ref o3, .ref e4, .ref e5, .ref kC, .ref kF, .ref kT, .int spn])), (kA, .inl (cA9, 6, .inr (.inr (.inr (.inr (fun i => some (ad i 0))))))), (kB, .inl (cB, 6, .inr (.inr (.inr (.inr (fun i => some (ad (6 + i) 0))))))), (kG, .inl (cg9, 6, .inl fG)), (o3, .inr (7, [.ref r3, .int n3])), (r3, .inl (c3, 6, .inr (.inl f3))), (e4, .inr (3, [.int (nI R4), .ref t4, .ref s4, .int m4])), (t4, .inl (ct4, 24 * R4, .inl ft4)), (s4, .inl (cs4, R4, .inl fs4)), (e5, .inr (3, [.int (nI R5), .ref t5, .ref s5, .int m5])), (t5, .inl (ct5, 24 * R5, .inl ft5)), (s5, .inl (cs5, R5, .inl fs5)), (kC, .inl (cC, 24, .inl fC)), (kF, .inl (cF, 24, .inl fF)), (kT, .inl (cT, 26, .inl fT))]) (w1 := [(gt, .inr (9, [.int w_7, .ref tp, .int td, .int fk, .int fpl, .ref bk, .int un, .ref mb, .ref mu, .int mk, .ref rd, .ref cm, .ref wk, .ref pp, .ref so, .ref ty]))]) (pl := (cPL ad ca vi vl vf (List.range 13) ++ mW zad zkc zx0 zx1 zx2 zx3 zx4 zx5 zx6 zx7 zx8 zx9 zx10 zx11 zx12 zx13 zx14 zx15 zx16 zx17 zx18 zx19 zx20 zx21 zf0 zf1 zf2 zf3 zf4 zf5 zf6 zf7 zf8 zf9 zf10 zf11 zf12 zf13 zf14 zf15 zf16 zf17 zf18 zf19 zf20 zf21 zL zN zP zM zO)) hP hD [0] [1, 2, 3, 4, 5, 6, 7, 8, 9, 10, 11, 12, 13, 14, 15, 16, 17, 18, 19, 20, 21, 22, 23, 24, 25, 26, 27] rfl rfl (by decide) (by decide) hk1 hFc hP1 hD1
  have hPx := t_P (cx := [(gt, .inr (9, [.int w_7, .ref tp, .int td, .int fk, .int fpl, .ref bk, .int un, .ref mb, .ref mu, .int mk, .ref rd, .ref cm, .ref wk, .ref pp, .ref so, .ref ty])), (tp, .inl (ctp, 900, .inl ftp)), (mb, .inl (cmb, 3, .inr (.inr (.inr (.inr fmb))))), (mu, .inl (cmu, 3, .inl fmu)), (rd, .inr (6, rF r q0 q1 q2 q3 q4 q5 q6 q7)), (r 0, .inl (cb0, 18, .inl fb0)), (r 1, .inl (cb1, 18, .inl fb1)), (r 2, .inl (cb2, 18, .inl fb2)), (wk, .inr (8, [.int x0, .int x1, .ref li])), (li, .inl (cli, 24, .inl fli)), (pp, .inl (cpp, 60, .inl fpp)), (so, .inl (cso, 60, .inl fso)), (ty, .inl (cty, 26, .inl fty)), (cm, .inr (1, [.ref kA, .ref kB, .ref kG, .ref (ad 12 0), .ref o3, .ref e4, .ref e5, .ref kC, .ref kF, .ref kT, .int spn])), (kA, .inl (cA9, 6, .inr (.inr (.inr (.inr (fun i => some (ad i 0))))))), (kB, .inl (cB, 6, .inr (.inr (.inr (.inr (fun i => some (ad (6 + i) 0))))))), (kG, .inl (cg9, 6, .inl fG)), (o3, .inr (7, [.ref r3, .int n3])), (r3, .inl (c3, 6, .inr (.inl f3))), (e4, .inr (3, [.int (nI R4), .ref t4, .ref s4, .int m4])), (t4, .inl (ct4, 24 * R4, .inl ft4)), (s4, .inl (cs4, R4, .inl fs4)), (e5, .inr (3, [.int (nI R5), .ref t5, .ref s5, .int m5])), (t5, .inl (ct5, 24 * R5, .inl ft5)), (s5, .inl (cs5, R5, .inl fs5)), (kC, .inl (cC, 24, .inl fC)), (kF, .inl (cF, 24, .inl fF)), (kT, .inl (cT, 26, .inl fT))]) hPx [27, 0, 1, 2, 3, 4, 5, 6, 7, 8, 9, 10, 11, 12, 13, 14, 15, 16, 17, 18, 19, 20, 21, 22, 23, 24, 25, 26] rfl
  have hDx := va_D.part (cx := [(gt, .inr (9, [.int w_7, .ref tp, .int td, .int fk, .int fpl, .ref bk, .int un, .ref mb, .ref mu, .int mk, .ref rd, .ref cm, .ref wk, .ref pp, .ref so, .ref ty])), (tp, .inl (ctp, 900, .inl ftp)), (mb, .inl (cmb, 3, .inr (.inr (.inr (.inr fmb))))), (mu, .inl (cmu, 3, .inl fmu)), (rd, .inr (6, rF r q0 q1 q2 q3 q4 q5 q6 q7)), (r 0, .inl (cb0, 18, .inl fb0)), (r 1, .inl (cb1, 18, .inl fb1)), (r 2, .inl (cb2, 18, .inl fb2)), (wk, .inr (8, [.int x0, .int x1, .ref li])), (li, .inl (cli, 24, .inl fli)), (pp, .inl (cpp, 60, .inl fpp)), (so, .inl (cso, 60, .inl fso)), (ty, .inl (cty, 26, .inl fty)), (cm, .inr (1, [.ref kA, .ref kB, .ref kG, .ref (ad 12 0), .ref o3, .ref e4, .ref e5, .ref kC, .ref kF, .ref kT, .int spn])), (kA, .inl (cA9, 6, .inr (.inr (.inr (.inr (fun i => some (ad i 0))))))), (kB, .inl (cB, 6, .inr (.inr (.inr (.inr (fun i => some (ad (6 + i) 0))))))), (kG, .inl (cg9, 6, .inl fG)), (o3, .inr (7, [.ref r3, .int n3])), (r3, .inl (c3, 6, .inr (.inl f3))), (e4, .inr (3, [.int (nI R4), .ref t4, .ref s4, .int m4])), (t4, .inl (ct4, 24 * R4, .inl ft4)), (s4, .inl (cs4, R4, .inl fs4)), (e5, .inr (3, [.int (nI R5), .ref t5, .ref s5, .int m5])), (t5, .inl (ct5, 24 * R5, .inl ft5)), (s5, .inl (cs5, R5, .inl fs5)), (kC, .inl (cC, 24, .inl fC)), (kF, .inl (cF, 24, .inl fF)), (kT, .inl (cT, 26, .inl fT))]) hDx [27, 0, 1, 2, 3, 4, 5, 6, 7, 8, 9, 10, 11, 12, 13, 14, 15, 16, 17, 18, 19, 20, 21, 22, 23, 24, 25, 26] (by decide) rfl
  have hm9 : List.map Prod.fst ([(gt, .inr (9, [.int w_7, .ref tp, .int td, .int fk, .int fpl, .ref bk, .int un, .ref mb, .ref mu, .int mk, .ref rd, .ref cm, .ref wk, .ref pp, .ref so, .ref ty])), (tp, .inl (ctp, 900, .inl ftp)), (mb, .inl (cmb, 3, .inr (.inr (.inr (.inr fmb))))), (mu, .inl (cmu, 3, .inl fmu)), (rd, .inr (6, rF r q0 q1 q2 q3 q4 q5 q6 q7)), (r 0, .inl (cb0, 18, .inl fb0)), (r 1, .inl (cb1, 18, .inl fb1)), (r 2, .inl (cb2, 18, .inl fb2)), (wk, .inr (8, [.int x0, .int x1, .ref li])), (li, .inl (cli, 24, .inl fli)), (pp, .inl (cpp, 60, .inl fpp)), (so, .inl (cso, 60, .inl fso)), (ty, .inl (cty, 26, .inl fty)), (cm, .inr (1, [.ref kA, .ref kB, .ref kG, .ref (ad 12 0), .ref o3, .ref e4, .ref e5, .ref kC, .ref kF, .ref kT, .int spn])), (kA, .inl (cA9, 6, .inr (.inr (.inr (.inr (fun i => some (ad i 0))))))), (kB, .inl (cB, 6, .inr (.inr (.inr (.inr (fun i => some (ad (6 + i) 0))))))), (kG, .inl (cg9, 6, .inl fG)), (o3, .inr (7, [.ref r3, .int n3])), (r3, .inl (c3, 6, .inr (.inl f3))), (e4, .inr (3, [.int (nI R4), .ref t4, .ref s4, .int m4])), (t4, .inl (ct4, 24 * R4, .inl ft4)), (s4, .inl (cs4, R4, .inl fs4)), (e5, .inr (3, [.int (nI R5), .ref t5, .ref s5, .int m5])), (t5, .inl (ct5, 24 * R5, .inl ft5)), (s5, .inl (cs5, R5, .inl fs5)), (kC, .inl (cC, 24, .inl fC)), (kF, .inl (cF, 24, .inl fF)), (kT, .inl (cT, 26, .inl fT))] ++ (cPL ad ca vi vl vf (List.range 13) ++ mW zad zkc zx0 zx1 zx2 zx3 zx4 zx5 zx6 zx7 zx8 zx9 zx10 zx11 zx12 zx13 zx14 zx15 zx16 zx17 zx18 zx19 zx20 zx21 zf0 zf1 zf2 zf3 zf4 zf5 zf6 zf7 zf8 zf9 zf10 zf11 zf12 zf13 zf14 zf15 zf16 zf17 zf18 zf19 zf20 zf21 zL zN zP zM zO) : va_W) = List.map Prod.fst ([(gt, .inr (9, [.int st9, .ref tp, .int td, .int fk, .int fpl, .ref bk, .int un, .ref mb, .ref mu, .int mk, .ref rd, .ref cm, .ref wk, .ref pp, .ref so, .ref ty])), (tp, .inl (ctp, 900, .inl ftp)), (mb, .inl (cmb, 3, .inr (.inr (.inr (.inr fmb))))), (mu, .inl (cmu, 3, .inl fmu)), (rd, .inr (6, rF r q0 q1 q2 q3 q4 q5 q6 q7)), (r 0, .inl (cb0, 18, .inl fb0)), (r 1, .inl (cb1, 18, .inl fb1)), (r 2, .inl (cb2, 18, .inl fb2)), (wk, .inr (8, [.int x0, .int x1, .ref li])), (li, .inl (cli, 24, .inl fli)), (pp, .inl (cpp, 60, .inl fpp)), (so, .inl (cso, 60, .inl fso)), (ty, .inl (cty, 26, .inl fty)), (cm, .inr (1, [.ref kA, .ref kB, .ref kG, .ref (ad 12 0), .ref o3, .ref e4, .ref e5, .ref kC, .ref kF, .ref kT, .int spn])), (kA, .inl (cA9, 6, .inr (.inr (.inr (.inr (fun i => some (ad i 0))))))), (kB, .inl (cB, 6, .inr (.inr (.inr (.inr (fun i => some (ad (6 + i) 0))))))), (kG, .inl (cg9, 6, .inl fG)), (o3, .inr (7, [.ref r3, .int n3])), (r3, .inl (c3, 6, .inr (.inl f3))), (e4, .inr (3, [.int (nI R4), .ref t4, .ref s4, .int m4])), (t4, .inl (ct4, 24 * R4, .inl ft4)), (s4, .inl (cs4, R4, .inl fs4)), (e5, .inr (3, [.int (nI R5), .ref t5, .ref s5, .int m5])), (t5, .inl (ct5, 24 * R5, .inl ft5)), (s5, .inl (cs5, R5, .inl fs5)), (kC, .inl (cC, 24, .inl fC)), (kF, .inl (cF, 24, .inl fF)), (kT, .inl (cT, 26, .inl fT))] ++ (cPL ad ca vi vl vf (List.range 13) ++ mW zad zkc zx0 zx1 zx2 zx3 zx4 zx5 zx6 zx7 zx8 zx9 zx10 zx11 zx12 zx13 zx14 zx15 zx16 zx17 zx18 zx19 zx20 zx21 zf0 zf1 zf2 zf3 zf4 zf5 zf6 zf7 zf8 zf9 zf10 zf11 zf12 zf13 zf14 zf15 zf16 zf17 zf18 zf19 zf20 zf21 zL zN zP zM zO) : va_W) := rfl
  have hQNx := qn_fst hQN hm9
  have hQN := hQNx
  clear hQNx hQAc hFc hDc hPc hKc
  have hP := hPx
  have hD := hDx
  clear hPx hDx
  generalize H1 = H at hP hS hQ ⊢
  refine lv_pop hx hb dL_law_383 rfl ?_
  refine lv_aload_n hx hb dL_law_384 rfl (lv_at hl 1 rfl) ?_
  refine lv_aload_n hx hb dL_law_385 rfl (lv_at hl 3 rfl) ?_
  refine lv_iload_n hx hb dL_law_386 rfl (lv_at hl 0 rfl) ?_
  refine lv_iconst (v := 1) hx hb dL_law_387 (by decide) ?_
  refine lv_iadd hx hb dL_law_388 ?_
  refine lv_topi (fun y_8 ey_8 => ?_)
  have ty_8 := i_add (a := ii.toInt) (b := 1) rfl (by decide) ey_8 (by omega) (by omega)
  refine va_sld hx hb hX hbl hbA hS (i := y_8) (vp_of (a := y_8.toInt) rfl (by omega) (by omega)) dL_law_389 ?_
  refine lv_topi (fun y_9 ey_9 => ?_)
  have e_y_9 : y_9 = y_2 := by rw [ey_9, ey_2, ey_8, ey_1]
  have q_y_9 : y_9.toInt = y_2.toInt := by rw [ey_9, ey_2, ey_8, ey_1]
  refine lv_aload_n hx hb dL_law_390 rfl (lv_at hl 3 rfl) ?_
  refine lv_iload_n hx hb dL_law_391 rfl (lv_at hl 0 rfl) ?_
  refine lv_iconst (v := 2) hx hb dL_law_392 (by decide) ?_
  refine lv_iadd hx hb dL_law_393 ?_
  refine lv_topi (fun y_10 ey_10 => ?_)
  have ty_10 := i_add (a := ii.toInt) (b := 2) rfl (by decide) ey_10 (by omega) (by omega)
  refine va_sld hx hb hX hbl hbA hS (i := y_10) (vp_of (a := y_10.toInt) rfl (by omega) (by omega)) dL_law_394 ?_
  refine lv_topi (fun y_11 ey_11 => ?_)
  have e_y_11 : y_11 = y_4 := by rw [ey_11, ey_4, ey_10, ey_3]
  have q_y_11 : y_11.toInt = y_4.toInt := by rw [ey_11, ey_4, ey_10, ey_3]
  have hPc : va_P (dC, dI) vwCl (mW zad zkc zx0 zx1 zx2 zx3 zx4 zx5 zx6 zx7 zx8 zx9 zx10 zx11 zx12 zx13 zx14 zx15 zx16 zx17 zx18 zx19 zx20 zx21 zf0 zf1 zf2 zf3 zf4 zf5 zf6 zf7 zf8 zf9 zf10 zf11 zf12 zf13 zf14 zf15 zf16 zf17 zf18 zf19 zf20 zf21 zL zN zP zM zO) H := p_sub hP (fun _ hq => List.mem_append_right _ (List.mem_append_right _ hq))
  have hKc := hKM
  have hDc : va_D (fun q : Nat => s.heap.size ≤ q) (mW zad zkc zx0 zx1 zx2 zx3 zx4 zx5 zx6 zx7 zx8 zx9 zx10 zx11 zx12 zx13 zx14 zx15 zx16 zx17 zx18 zx19 zx20 zx21 zf0 zf1 zf2 zf3 zf4 zf5 zf6 zf7 zf8 zf9 zf10 zf11 zf12 zf13 zf14 zf15 zf16 zf17 zf18 zf19 zf20 zf21 zL zN zP zM zO) := D_right (D_right hD)
  have hFc := m_free hDc hS hA
  have hQAc : ∀ q ∈ W9, ¬ va_A (mW zad zkc zx0 zx1 zx2 zx3 zx4 zx5 zx6 zx7 zx8 zx9 zx10 zx11 zx12 zx13 zx14 zx15 zx16 zx17 zx18 zx19 zx20 zx21 zf0 zf1 zf2 zf3 zf4 zf5 zf6 zf7 zf8 zf9 zf10 zf11 zf12 zf13 zf14 zf15 zf16 zf17 zf18 zf19 zf20 zf21 zL zN zP zM zO) H.size q.1 := qn_A hQ hQN (fun x hx => List.mem_append_right _ (List.mem_append_right _ hx))
  refine va_calli (va_runV (As := [.int y_9, .int y_11]) (rest := []) ⟨hx, hb, hml, hown, hts⟩ (m_letter l dC dI zad zkc zx0 zx1 zx2 zx3 zx4 zx5 zx6 zx7 zx8 zx9 zx10 zx11 zx12 zx13 zx14 zx15 zx16 zx17 zx18 zx19 zx20 zx21 zf0 zf1 zf2 zf3 zf4 zf5 zf6 zf7 zf8 zf9 zf10 zf11 zf12 zf13 zf14 zf15 zf16 zf17 zf18 zf19 zf20 zf21 zL zN zP zM zO H.size y_9 y_11 hmi) (cwV 2 hts mg_L_X10_letter rfl rfl rfl (by decide +kernel) ⟨Nat.le_of_ble_eq_true rfl, Nat.le_of_ble_eq_true rfl⟩) ⟨fun a U g mk q => by obtain ⟨q0, q1, qP, qK, qD⟩ := q; exact ⟨q0, q1, qP, va_K.moved (u := U) (U := U.calling g mk a) (Vm.Alike.refl U.vm) qK, qD⟩, va_recv hKc hPc (ci := 10) (q0 := 0) rfl rfl, fun U hU hW => ⟨rfl, by rw [hU], by rw [hU]; exact hPc, va_K.moved hW.alike hKc, hDc.weaken (fun _ _ _ _ => trivial)⟩⟩ rfl rfl hl.1 rfl (lv_room (Nat.le_of_ble_eq_true rfl)) dL_law_395 ⟨by show kc9 + 0 ≤ 600000; omega, by show ks9 + 0 ≤ 7302250; omega⟩) hS (fun q _ h => hFc q h) hFc (fun r_12 u t H1 locs ht hvm hw hB hz1 hk1 hS => ?_)
  have hQo := hQ
  have hQ := qn_P hQ hQAc hk1
  have hwu := hw
  have hwt_r_12 := congrArg Int32.toInt hw
  obtain ⟨zx_13, hP1, hK1, hD1⟩ := hB
  rw [ht] at hP1
  have rg_zx_13 := i_rng zx_13
  have hass := (pm_as (a := [(gt, .inr (9, [.int w_7, .ref tp, .int td, .int fk, .int fpl, .ref bk, .int un, .ref mb, .ref mu, .int mk, .ref rd, .ref cm, .ref wk, .ref pp, .ref so, .ref ty])), (tp, .inl (ctp, 900, .inl ftp)), (mb, .inl (cmb, 3, .inr (.inr (.inr (.inr fmb))))), (mu, .inl (cmu, 3, .inl fmu)), (rd, .inr (6, rF r q0 q1 q2 q3 q4 q5 q6 q7)), (r 0, .inl (cb0, 18, .inl fb0)), (r 1, .inl (cb1, 18, .inl fb1)), (r 2, .inl (cb2, 18, .inl fb2)), (wk, .inr (8, [.int x0, .int x1, .ref li])), (li, .inl (cli, 24, .inl fli)), (pp, .inl (cpp, 60, .inl fpp)), (so, .inl (cso, 60, .inl fso)), (ty, .inl (cty, 26, .inl fty)), (cm, .inr (1, [.ref kA, .ref kB, .ref kG, .ref (ad 12 0), .ref o3, .ref e4, .ref e5, .ref kC, .ref kF, .ref kT, .int spn])), (kA, .inl (cA9, 6, .inr (.inr (.inr (.inr (fun i => some (ad i 0))))))), (kB, .inl (cB, 6, .inr (.inr (.inr (.inr (fun i => some (ad (6 + i) 0))))))), (kG, .inl (cg9, 6, .inl fG)), (o3, .inr (7, [.ref r3, .int n3])), (r3, .inl (c3, 6, .inr (.inl f3))), (e4, .inr (3, [.int (nI R4), .ref t4, .ref s4, .int m4])), (t4, .inl (ct4, 24 * R4, .inl ft4)), (s4, .inl (cs4, R4, .inl fs4)), (e5, .inr (3, [.int (nI R5), .ref t5, .ref s5, .int m5])), (t5, .inl (ct5, 24 * R5, .inl ft5)), (s5, .inl (cs5, R5, .inl fs5)), (kC, .inl (cC, 24, .inl fC)), (kF, .inl (cF, 24, .inl fF)), (kT, .inl (cT, 26, .inl fT))]) (b := cPL ad ca vi vl vf (List.range 13)) (c := mW zad zkc zx0 zx1 zx2 zx3 zx4 zx5 zx6 zx7 zx8 zx9 zx10 zx11 zx12 zx13 zx14 zx15 zx16 zx17 zx18 zx19 zx20 zx21 zf0 zf1 zf2 zf3 zf4 zf5 zf6 zf7 zf8 zf9 zf10 zf11 zf12 zf13 zf14 zf15 zf16 zf17 zf18 zf19 zf20 zf21 zL zN zP zM zO)).symm
  obtain ⟨hPx, hDx⟩ := pm_join hP hD hass hk1 hFc hP1 hD1
  rw [List.append_assoc] at hPx hDx
  have hQNx := qn_app (qn_sub hQN (fun x hx => List.mem_append_left _ hx)) (qn_app (qn_sub hQN (fun x hx => List.mem_append_right _ (List.mem_append_left _ hx))) (qn_new hQAc hD1))
  have hP := hPx
  have hD := hDx
  have hQN := hQNx
  generalize H1 = H at hP hS hQ ⊢
  have hmi9 := hmi
  refine lv_pop hx hb dL_law_398 rfl ?_
  refine lv_goto (tgt := 1128) hx hb dL_law_399 (by decide) ?_
  refine W.widen (k := kc9 + 195) (n := ks9 + 10960) (by omega) (by omega) ?_
  exact kk H _ ls tp bk mb mu rd cm wk pp so ty li w_7 td fk fpl un mk x0 x1 q0 q1 q2 q3 q4 q5 q6 q7 r ctp cmb cmu cb0 cb1 cb2 cli cpp cso cty ftp fmu fb0 fb1 fb2 fli fpp fso fty fmb spn kG cg9 fG o3 r3 c3 f3 n3 e4 t4 s4 R4 ct4 cs4 ft4 fs4 m4 e5 t5 s5 R5 ct5 cs5 ft5 fs5 m5 kC cC fC kF cF fF kT cT fT kA kB cA9 cB ad ca vi vl vf W9 T9 B9 zad zkc zx_13 zx1 zx2 zx3 zx4 zx5 zx6 zx7 zx8 zx9 zx10 zx11 zx12 zx13 zx14 zx15 zx16 zx17 zx18 zx19 zx20 zx21 zf0 zf1 zf2 zf3 zf4 zf5 zf6 zf7 zf8 zf9 zf10 zf11 zf12 zf13 zf14 zf15 zf16 zf17 zf18 zf19 zf20 zf21 zL zN zP zM zO hs1 hs2 ha3 hb3 hR4 hU4 hc4 hd4 hb_fs4 hR5 hU5 hc5 hd5 hb_fs5 hG (by omega) (by omega) hM hB9 hbk rfl hmi9 (by omega) (by omega) hrt hK hKC hKM hKQ hP hD hQ hQN hS hl
theorem dL_law_402 : decode cL_law 402 = .ok (.aload_n 1, 1) := by decide +kernel
theorem dL_law_403 : decode cL_law 403 = .ok (.aload_n 0, 1) := by decide +kernel
theorem dL_law_404 : decode cL_law 404 = .ok (.iload_n 3, 1) := by decide +kernel
theorem dL_law_405 : decode cL_law 405 = .ok (.iconst 1, 1) := by decide +kernel
theorem dL_law_406 : decode cL_law 406 = .ok (.iadd, 1) := by decide +kernel
theorem dL_law_407 : decode cL_law 407 = .ok (.iaload, 1) := by decide +kernel
theorem dL_law_408 : decode cL_law 408 = .ok (.aload_n 0, 1) := by decide +kernel
theorem dL_law_409 : decode cL_law 409 = .ok (.iload_n 3, 1) := by decide +kernel
theorem dL_law_410 : decode cL_law 410 = .ok (.iconst 2, 1) := by decide +kernel
theorem dL_law_411 : decode cL_law 411 = .ok (.iadd, 1) := by decide +kernel
theorem dL_law_412 : decode cL_law 412 = .ok (.iaload, 1) := by decide +kernel
theorem dL_law_413 : decode cL_law 413 = .ok (.invokevirtual 49, 3) := by decide +kernel
theorem dL_law_416 : decode cL_law 416 = .ok (.pop, 1) := by decide +kernel
theorem dL_law_417 : decode cL_law 417 = .ok (.aload_n 2, 1) := by decide +kernel
theorem dL_law_418 : decode cL_law 418 = .ok (.aload_n 0, 1) := by decide +kernel
theorem dL_law_419 : decode cL_law 419 = .ok (.iload_n 3, 1) := by decide +kernel
theorem dL_law_420 : decode cL_law 420 = .ok (.iconst 1, 1) := by decide +kernel
theorem dL_law_421 : decode cL_law 421 = .ok (.iadd, 1) := by decide +kernel
theorem dL_law_422 : decode cL_law 422 = .ok (.iaload, 1) := by decide +kernel
theorem dL_law_423 : decode cL_law 423 = .ok (.aload_n 0, 1) := by decide +kernel
theorem dL_law_424 : decode cL_law 424 = .ok (.iload_n 3, 1) := by decide +kernel
theorem dL_law_425 : decode cL_law 425 = .ok (.iconst 2, 1) := by decide +kernel
theorem dL_law_426 : decode cL_law 426 = .ok (.iadd, 1) := by decide +kernel
theorem dL_law_427 : decode cL_law 427 = .ok (.iaload, 1) := by decide +kernel
theorem dL_law_428 : decode cL_law 428 = .ok (.invokevirtual 52, 3) := by decide +kernel
theorem dL_law_431 : decode cL_law 431 = .ok (.pop, 1) := by decide +kernel
theorem dL_law_432 : decode cL_law 432 = .ok (.goto 696, 3) := by decide +kernel
set_option maxHeartbeats 4000000 in
set_option maxRecDepth 100000 in
/-- the law: pattern -/
theorem law_case8 {p : Program} {l : Launch} {e : Env} {s : State} {m : MethodId} {below : List Frame} {meth : Method} {c : Code} {dC : Nat → ClassId} {dI : Nat → Nat → Nat} {b L : Nat} {xs : Nat → Int32} (hLL : L ≤ 3072) (C0 : lw_At p s m meth c b L xs) (hLX : LX s) {gt mo : Nat} {H : Heap} {locs : List Loc} {kc9 ks9 : Nat} (hc9 : kc9 + 195 ≤ 600000) (hs9 : ks9 + 10960 ≤ 7302250) {ii : Int32} (hii : 0 ≤ ii.toInt ∧ ii.toInt + 6 ≤ L) {ls : Array Slot} (kk : ∀ (H1 : Heap) (locs1 : List Loc) (ls : Array Slot), LI dC dI s gt mo H1 (va_S (fun q : Nat => s.heap.size ≤ q) s.heap H1 locs1 → lv_has ls 4 [(3, .int ii), (2, .ref mo), (1, .ref gt), (0, .ref b)] → W p l e room_1 s m #[Value.ref b] below meth c H1 locs1 (kc9 + 195) (ks9 + 10960) (lw_Z below #[Value.ref b] s) (F0 m 1128 ls []))) : LI dC dI s gt mo H (va_S (fun q : Nat => s.heap.size ≤ q) s.heap H locs → lv_has ls 4 [(3, .int ii), (2, .ref mo), (1, .ref gt), (0, .ref b)] → W p l e room_1 s m #[Value.ref b] below meth c H locs kc9 ks9 (lw_Z below #[Value.ref b] s) (F0 m 402 ls [])) := by
  obtain ⟨hx, hb, hr, hml, hown, hts, hX, hbl, hlocks, hgv⟩ := id C0
  have hown : s.vm.findClass RL = some m.cls := hown
  have hA : ∀ q : Nat, s.heap.size ≤ q → (fun q : Nat => s.heap.size ≤ q) q := fun _ h => h
  have hbA : ¬ (fun q : Nat => s.heap.size ≤ q) b := Nat.not_le.mpr hbl
  obtain ⟨hcl, hcld, hAO2, hAO5, hN53, hN160, hSR, hSW, hSR2, hSW2, hOV⟩ := hLX
  unfold LI
  intro tp bk mb mu rd cm wk pp so ty li st9 td fk fpl un mk x0 x1 q0 q1 q2 q3 q4 q5 q6 q7 r ctp cmb cmu cb0 cb1 cb2 cli cpp cso cty ftp fmu fb0 fb1 fb2 fli fpp fso fty fmb spn kG cg9 fG o3 r3 c3 f3 n3 e4 t4 s4 R4 ct4 cs4 ft4 fs4 m4 e5 t5 s5 R5 ct5 cs5 ft5 fs5 m5 kC cC fC kF cF fF kT cT fT kA kB cA9 cB ad ca vi vl vf W9 T9 B9 zad zkc zx0 zx1 zx2 zx3 zx4 zx5 zx6 zx7 zx8 zx9 zx10 zx11 zx12 zx13 zx14 zx15 zx16 zx17 zx18 zx19 zx20 zx21 zf0 zf1 zf2 zf3 zf4 zf5 zf6 zf7 zf8 zf9 zf10 zf11 zf12 zf13 zf14 zf15 zf16 zf17 zf18 zf19 zf20 zf21 zL zN zP zM zO hs1 hs2 ha3 hb3 hR4 hU4 hc4 hd4 hb_fs4 hR5 hU5 hc5 hd5 hb_fs5 hG htd hmk hM hB9 hbk hmo hmi hzk hzt hrt hK hKC hKM hKQ hP hD hQ hQN hS hl
  subst hmo
  have rg_td := i_rng td
  have rg_mk := i_rng mk
  have rg_zx2 := i_rng zx2
  have rg_zx3 := i_rng zx3
  refine lv_aload_n hx hb dL_law_402 rfl (lv_at hl 2 rfl) ?_
  refine lv_aload_n hx hb dL_law_403 rfl (lv_at hl 3 rfl) ?_
  refine lv_iload_n hx hb dL_law_404 rfl (lv_at hl 0 rfl) ?_
  refine lv_iconst (v := 1) hx hb dL_law_405 (by decide) ?_
  refine lv_iadd hx hb dL_law_406 ?_
  refine lv_topi (fun y_1 ey_1 => ?_)
  have ty_1 := i_add (a := ii.toInt) (b := 1) rfl (by decide) ey_1 (by omega) (by omega)
  refine va_sld hx hb hX hbl hbA hS (i := y_1) (vp_of (a := y_1.toInt) rfl (by omega) (by omega)) dL_law_407 ?_
  refine lv_topi (fun y_2 ey_2 => ?_)
  refine lv_aload_n hx hb dL_law_408 rfl (lv_at hl 3 rfl) ?_
  refine lv_iload_n hx hb dL_law_409 rfl (lv_at hl 0 rfl) ?_
  refine lv_iconst (v := 2) hx hb dL_law_410 (by decide) ?_
  refine lv_iadd hx hb dL_law_411 ?_
  refine lv_topi (fun y_3 ey_3 => ?_)
  have ty_3 := i_add (a := ii.toInt) (b := 2) rfl (by decide) ey_3 (by omega) (by omega)
  refine va_sld hx hb hX hbl hbA hS (i := y_3) (vp_of (a := y_3.toInt) rfl (by omega) (by omega)) dL_law_412 ?_
  refine lv_topi (fun y_4 ey_4 => ?_)
  have hPc := hP.sub (ws' := [(gt, .inr (9, [.int st9, .ref tp, .int td, .int fk, .int fpl, .ref bk, .int un, .ref mb, .ref mu, .int mk, .ref rd, .ref cm, .ref wk, .ref pp, .ref so, .ref ty]))]) [0] rfl
  have hKc := hK.sub (tys' := []) [] rfl
  have hDc := hD.sub (ws' := [(gt, .inr (9, [.int st9, .ref tp, .int td, .int fk, .int fpl, .ref bk, .int un, .ref mb, .ref mu, .int mk, .ref rd, .ref cm, .ref wk, .ref pp, .ref so, .ref ty]))]) [0] (by decide) rfl
  have hFc := va_free (wc := [(gt, .inr (9, [.int st9, .ref tp, .int td, .int fk, .int fpl, .ref bk, .int un, .ref mb, .ref mu, .int mk, .ref rd, .ref cm, .ref wk, .ref pp, .ref so, .ref ty]))]) hD hS hA [0] rfl
  have hQAc : ∀ q ∈ W9, ¬ va_A [(gt, .inr (9, [.int st9, .ref tp, .int td, .int fk, .int fpl, .ref bk, .int un, .ref mb, .ref mu, .int mk, .ref rd, .ref cm, .ref wk, .ref pp, .ref so, .ref ty]))] H.size q.1 := qn_A hQ hQN (fun x hx => mem_pl [0] rfl x hx)
  refine va_calli (va_runV (As := [.int y_2, .int y_4]) (rest := []) ⟨hx, hb, hml, hown, hts⟩ (s_g_pattern l dC dI W9 T9 B9 gt tp bk mb mu rd cm wk pp so ty st9 td fk fpl un mk H.size y_2 y_4 hB9 hbk) (cwV 2 hts mg_L_X9_pattern rfl rfl rfl (by decide +kernel) ⟨Nat.le_of_ble_eq_true rfl, Nat.le_of_ble_eq_true rfl⟩) ⟨fun a U g mk q => by obtain ⟨q0, q1, qP, qK, qD, qE0, qE1, qE2⟩ := q; exact ⟨q0, q1, qP, va_K.moved (u := U) (U := U.calling g mk a) (Vm.Alike.refl U.vm) qK, qD, qE0, va_K.moved (u := U) (U := U.calling g mk a) (Vm.Alike.refl U.vm) qE1, qE2⟩, va_recv hKc hPc (ci := 9) (q0 := 0) rfl rfl, fun U hU hW => ⟨rfl, by rw [hU], by rw [hU]; exact hPc, va_K.moved hW.alike hKc, hDc.weaken (fun _ _ _ _ => trivial), (by rw [hU]; exact hQ), va_K.moved hW.alike hKQ, hQAc⟩⟩ rfl rfl hl.1 rfl (lv_room (Nat.le_of_ble_eq_true rfl)) dL_law_413 ⟨by show kc9 + 0 ≤ 600000; omega, by show ks9 + 0 ≤ 7302250; omega⟩) hS (fun q _ h => hFc q h) hFc (fun r_5 u_6 t H1 locs ht hvm hw hB hz1 hk1 hS => ?_)
  have hQo := hQ
  have hQ := qn_P hQ hQAc hk1
  obtain ⟨w_7, hP1, hK1, hD1⟩ := hB
  rw [ht] at hP1
  have hQNa := qn_new hQAc hD1
  obtain ⟨hPx, hDx⟩ := va_joinQ (X := [(gt, .inr (9, [.int st9, .ref tp, .int td, .int fk, .int fpl, .ref bk, .int un, .ref mb, .ref mu, .int mk, .ref rd, .ref cm, .ref wk, .ref pp, .ref so, .ref ty])), (tp, .inl (ctp, 900, .inl ftp)), (mb, .inl (cmb, 3, .inr (.inr (.inr (.inr fmb))))), (mu, .inl (cmu, 3, .inl fmu)), (rd, .inr (6, rF r q0 q1 q2 q3 q4 q5 q6 q7)), (r 0, .inl (cb0, 18, .inl fb0)), (r 1, .inl (cb1, 18, .inl fb1)), (r 2, .inl (cb2, 18, .inl fb2)), (wk, .inr (8, [.int x0, .int x1, .ref li])), (li, .inl (cli, 24, .inl fli)), (pp, .inl (cpp, 60, .inl fpp)), (so, .inl (cso, 60, .inl fso)), (ty, .inl (cty, 26, .inl fty)), (cm, .inr (1, [.ref kA, .ref kB, .ref kG, .ref (ad 12 0), .ref o3, .ref e4, .ref e5, .ref kC, .ref kF, .ref kT, .int spn])), (kA, .inl (cA9, 6, .inr (.inr (.inr (.inr (fun i => some (ad i 0))))))), (kB, .inl (cB, 6, .inr (.inr (.inr (.inr (fun i => some (ad (6 + i) 0))))))), (kG, .inl (cg9, 6, .inl fG)), (o3, .inr (7, [.ref r3, .int n3])), (r3, .inl (c3, 6, .inr (.inl f3))), (e4, .inr (3, [.int (nI R4), .ref t4, .ref s4, .int m4])), (t4, .inl (ct4, 24 * R4, .inl ft4)), (s4, .inl (cs4, R4, .inl fs4)), (e5, .inr (3, [.int (nI R5), .ref t5, .ref s5, .int m5])), (t5, .inl (ct5, 24 * R5, .inl ft5)), (s5, .inl (cs5, R5, .inl fs5)), (kC, .inl (cC, 24, .inl fC)), (kF, .inl (cF, 24, .inl fF)), (kT, .inl (cT, 26, .inl fT))]) (cx := [(gt, .inr (9, [.int st9, .ref tp, .int td, .int fk, .int fpl, .ref bk, .int un, .ref mb, .ref mu, .int mk, .ref rd, .ref cm, .ref wk, .ref pp, .ref so, .ref ty]))]) (wr := [(tp, .inl (ctp, 900, .inl ftp)), (mb, .inl (cmb, 3, .inr (.inr (.inr (.inr fmb))))), (mu, .inl (cmu, 3, .inl fmu)), (rd, .inr (6, rF r q0 q1 q2 q3 q4 q5 q6 q7)), (r 0, .inl (cb0, 18, .inl fb0)), (r 1, .inl (cb1, 18, .inl fb1)), (r 2, .inl (cb2, 18, .inl fb2)), (wk, .inr (8, [.int x0, .int x1, .ref li])), (li, .inl (cli, 24, .inl fli)), (pp, .inl (cpp, 60, .inl fpp)), (so, .inl (cso, 60, .inl fso)), (ty, .inl (cty, 26, .inl fty)), (cm, .inr (1, [.ref kA, .ref kB, .ref kG, .ref (ad 12 0), .ref o3, .ref e4, .ref e5, .ref kC, .ref kF, .ref kT, .int spn])), (kA, .inl (cA9, 6, .inr (.inr (.inr (.inr (fun i => some (ad i 0))))))), (kB, .inl (cB, 6, .inr (.inr (.inr (.inr (fun i => some (ad (6 + i) 0))))))), (kG, .inl (cg9, 6, .inl fG)), (o3, .inr (7, [.ref r3, .int n3])), (r3, .inl (c3, 6, .inr (.inl f3))), (e4, .inr (3, [.int (nI R4), .ref t4, .ref s4, .int m4])), (t4, .inl (ct4, 24 * R4, .inl ft4)), (s4, .inl (cs4, R4, .inl fs4)), (e5, .inr (3, [.int (nI R5), .ref t5, .ref s5, .int m5])), (t5, .inl (ct5, 24 * R5, .inl ft5)), (s5, .inl (cs5, R5, .inl fs5)), (kC, .inl (cC, 24, .inl fC)), (kF, .inl (cF, 24, .inl fF)), (kT, .inl (cT, 26, .inl fT))]) (w1 := [(gt, .inr (9, [.int w_7, .ref tp, .int td, .int fk, .int fpl, .ref bk, .int un, .ref mb, .ref mu, .int mk, .ref rd, .ref cm, .ref wk, .ref pp, .ref so, .ref ty]))]) (pl := (cPL ad ca vi vl vf (List.range 13) ++ mW zad zkc zx0 zx1 zx2 zx3 zx4 zx5 zx6 zx7 zx8 zx9 zx10 zx11 zx12 zx13 zx14 zx15 zx16 zx17 zx18 zx19 zx20 zx21 zf0 zf1 zf2 zf3 zf4 zf5 zf6 zf7 zf8 zf9 zf10 zf11 zf12 zf13 zf14 zf15 zf16 zf17 zf18 zf19 zf20 zf21 zL zN zP zM zO)) hP hD [0] [1, 2, 3, 4, 5, 6, 7, 8, 9, 10, 11, 12, 13, 14, 15, 16, 17, 18, 19, 20, 21, 22, 23, 24, 25, 26, 27] rfl rfl (by decide) (by decide) hk1 hFc hP1 hD1
  have hPx := t_P (cx := [(gt, .inr (9, [.int w_7, .ref tp, .int td, .int fk, .int fpl, .ref bk, .int un, .ref mb, .ref mu, .int mk, .ref rd, .ref cm, .ref wk, .ref pp, .ref so, .ref ty])), (tp, .inl (ctp, 900, .inl ftp)), (mb, .inl (cmb, 3, .inr (.inr (.inr (.inr fmb))))), (mu, .inl (cmu, 3, .inl fmu)), (rd, .inr (6, rF r q0 q1 q2 q3 q4 q5 q6 q7)), (r 0, .inl (cb0, 18, .inl fb0)), (r 1, .inl (cb1, 18, .inl fb1)), (r 2, .inl (cb2, 18, .inl fb2)), (wk, .inr (8, [.int x0, .int x1, .ref li])), (li, .inl (cli, 24, .inl fli)), (pp, .inl (cpp, 60, .inl fpp)), (so, .inl (cso, 60, .inl fso)), (ty, .inl (cty, 26, .inl fty)), (cm, .inr (1, [.ref kA, .ref kB, .ref kG, .ref (ad 12 0), .ref o3, .ref e4, .ref e5, .ref kC, .ref kF, .ref kT, .int spn])), (kA, .inl (cA9, 6, .inr (.inr (.inr (.inr (fun i => some (ad i 0))))))), (kB, .inl (cB, 6, .inr (.inr (.inr (.inr (fun i => some (ad (6 + i) 0))))))), (kG, .inl (cg9, 6, .inl fG)), (o3, .inr (7, [.ref r3, .int n3])), (r3, .inl (c3, 6, .inr (.inl f3))), (e4, .inr (3, [.int (nI R4), .ref t4, .ref s4, .int m4])), (t4, .inl (ct4, 24 * R4, .inl ft4)), (s4, .inl (cs4, R4, .inl fs4)), (e5, .inr (3, [.int (nI R5), .ref t5, .ref s5, .int m5])), (t5, .inl (ct5, 24 * R5, .inl ft5)), (s5, .inl (cs5, R5, .inl fs5)), (kC, .inl (cC, 24, .inl fC)), (kF, .inl (cF, 24, .inl fF)), (kT, .inl (cT, 26, .inl fT))]) hPx [27, 0, 1, 2, 3, 4, 5, 6, 7, 8, 9, 10, 11, 12, 13, 14, 15, 16, 17, 18, 19, 20, 21, 22, 23, 24, 25, 26] rfl
  have hDx := va_D.part (cx := [(gt, .inr (9, [.int w_7, .ref tp, .int td, .int fk, .int fpl, .ref bk, .int un, .ref mb, .ref mu, .int mk, .ref rd, .ref cm, .ref wk, .ref pp, .ref so, .ref ty])), (tp, .inl (ctp, 900, .inl ftp)), (mb, .inl (cmb, 3, .inr (.inr (.inr (.inr fmb))))), (mu, .inl (cmu, 3, .inl fmu)), (rd, .inr (6, rF r q0 q1 q2 q3 q4 q5 q6 q7)), (r 0, .inl (cb0, 18, .inl fb0)), (r 1, .inl (cb1, 18, .inl fb1)), (r 2, .inl (cb2, 18, .inl fb2)), (wk, .inr (8, [.int x0, .int x1, .ref li])), (li, .inl (cli, 24, .inl fli)), (pp, .inl (cpp, 60, .inl fpp)), (so, .inl (cso, 60, .inl fso)), (ty, .inl (cty, 26, .inl fty)), (cm, .inr (1, [.ref kA, .ref kB, .ref kG, .ref (ad 12 0), .ref o3, .ref e4, .ref e5, .ref kC, .ref kF, .ref kT, .int spn])), (kA, .inl (cA9, 6, .inr (.inr (.inr (.inr (fun i => some (ad i 0))))))), (kB, .inl (cB, 6, .inr (.inr (.inr (.inr (fun i => some (ad (6 + i) 0))))))), (kG, .inl (cg9, 6, .inl fG)), (o3, .inr (7, [.ref r3, .int n3])), (r3, .inl (c3, 6, .inr (.inl f3))), (e4, .inr (3, [.int (nI R4), .ref t4, .ref s4, .int m4])), (t4, .inl (ct4, 24 * R4, .inl ft4)), (s4, .inl (cs4, R4, .inl fs4)), (e5, .inr (3, [.int (nI R5), .ref t5, .ref s5, .int m5])), (t5, .inl (ct5, 24 * R5, .inl ft5)), (s5, .inl (cs5, R5, .inl fs5)), (kC, .inl (cC, 24, .inl fC)), (kF, .inl (cF, 24, .inl fF)), (kT, .inl (cT, 26, .inl fT))]) hDx [27, 0, 1, 2, 3, 4, 5, 6, 7, 8, 9, 10, 11, 12, 13, 14, 15, 16, 17, 18, 19, 20, 21, 22, 23, 24, 25, 26] (by decide) rfl
  have hm9 : List.map Prod.fst ([(gt, .inr (9, [.int w_7, .ref tp, .int td, .int fk, .int fpl, .ref bk, .int un, .ref mb, .ref mu, .int mk, .ref rd, .ref cm, .ref wk, .ref pp, .ref so, .ref ty])), (tp, .inl (ctp, 900, .inl ftp)), (mb, .inl (cmb, 3, .inr (.inr (.inr (.inr fmb))))), (mu, .inl (cmu, 3, .inl fmu)), (rd, .inr (6, rF r q0 q1 q2 q3 q4 q5 q6 q7)), (r 0, .inl (cb0, 18, .inl fb0)), (r 1, .inl (cb1, 18, .inl fb1)), (r 2, .inl (cb2, 18, .inl fb2)), (wk, .inr (8, [.int x0, .int x1, .ref li])), (li, .inl (cli, 24, .inl fli)), (pp, .inl (cpp, 60, .inl fpp)), (so, .inl (cso, 60, .inl fso)), (ty, .inl (cty, 26, .inl fty)), (cm, .inr (1, [.ref kA, .ref kB, .ref kG, .ref (ad 12 0), .ref o3, .ref e4, .ref e5, .ref kC, .ref kF, .ref kT, .int spn])), (kA, .inl (cA9, 6, .inr (.inr (.inr (.inr (fun i => some (ad i 0))))))), (kB, .inl (cB, 6, .inr (.inr (.inr (.inr (fun i => some (ad (6 + i) 0))))))), (kG, .inl (cg9, 6, .inl fG)), (o3, .inr (7, [.ref r3, .int n3])), (r3, .inl (c3, 6, .inr (.inl f3))), (e4, .inr (3, [.int (nI R4), .ref t4, .ref s4, .int m4])), (t4, .inl (ct4, 24 * R4, .inl ft4)), (s4, .inl (cs4, R4, .inl fs4)), (e5, .inr (3, [.int (nI R5), .ref t5, .ref s5, .int m5])), (t5, .inl (ct5, 24 * R5, .inl ft5)), (s5, .inl (cs5, R5, .inl fs5)), (kC, .inl (cC, 24, .inl fC)), (kF, .inl (cF, 24, .inl fF)), (kT, .inl (cT, 26, .inl fT))] ++ (cPL ad ca vi vl vf (List.range 13) ++ mW zad zkc zx0 zx1 zx2 zx3 zx4 zx5 zx6 zx7 zx8 zx9 zx10 zx11 zx12 zx13 zx14 zx15 zx16 zx17 zx18 zx19 zx20 zx21 zf0 zf1 zf2 zf3 zf4 zf5 zf6 zf7 zf8 zf9 zf10 zf11 zf12 zf13 zf14 zf15 zf16 zf17 zf18 zf19 zf20 zf21 zL zN zP zM zO) : va_W) = List.map Prod.fst ([(gt, .inr (9, [.int st9, .ref tp, .int td, .int fk, .int fpl, .ref bk, .int un, .ref mb, .ref mu, .int mk, .ref rd, .ref cm, .ref wk, .ref pp, .ref so, .ref ty])), (tp, .inl (ctp, 900, .inl ftp)), (mb, .inl (cmb, 3, .inr (.inr (.inr (.inr fmb))))), (mu, .inl (cmu, 3, .inl fmu)), (rd, .inr (6, rF r q0 q1 q2 q3 q4 q5 q6 q7)), (r 0, .inl (cb0, 18, .inl fb0)), (r 1, .inl (cb1, 18, .inl fb1)), (r 2, .inl (cb2, 18, .inl fb2)), (wk, .inr (8, [.int x0, .int x1, .ref li])), (li, .inl (cli, 24, .inl fli)), (pp, .inl (cpp, 60, .inl fpp)), (so, .inl (cso, 60, .inl fso)), (ty, .inl (cty, 26, .inl fty)), (cm, .inr (1, [.ref kA, .ref kB, .ref kG, .ref (ad 12 0), .ref o3, .ref e4, .ref e5, .ref kC, .ref kF, .ref kT, .int spn])), (kA, .inl (cA9, 6, .inr (.inr (.inr (.inr (fun i => some (ad i 0))))))), (kB, .inl (cB, 6, .inr (.inr (.inr (.inr (fun i => some (ad (6 + i) 0))))))), (kG, .inl (cg9, 6, .inl fG)), (o3, .inr (7, [.ref r3, .int n3])), (r3, .inl (c3, 6, .inr (.inl f3))), (e4, .inr (3, [.int (nI R4), .ref t4, .ref s4, .int m4])), (t4, .inl (ct4, 24 * R4, .inl ft4)), (s4, .inl (cs4, R4, .inl fs4)), (e5, .inr (3, [.int (nI R5), .ref t5, .ref s5, .int m5])), (t5, .inl (ct5, 24 * R5, .inl ft5)), (s5, .inl (cs5, R5, .inl fs5)), (kC, .inl (cC, 24, .inl fC)), (kF, .inl (cF, 24, .inl fF)), (kT, .inl (cT, 26, .inl fT))] ++ (cPL ad ca vi vl vf (List.range 13) ++ mW zad zkc zx0 zx1 zx2 zx3 zx4 zx5 zx6 zx7 zx8 zx9 zx10 zx11 zx12 zx13 zx14 zx15 zx16 zx17 zx18 zx19 zx20 zx21 zf0 zf1 zf2 zf3 zf4 zf5 zf6 zf7 zf8 zf9 zf10 zf11 zf12 zf13 zf14 zf15 zf16 zf17 zf18 zf19 zf20 zf21 zL zN zP zM zO) : va_W) := rfl
  have hQNx := qn_fst hQN hm9
  have hQN := hQNx
  clear hQNx hQAc hFc hDc hPc hKc
  have hP := hPx
  have hD := hDx
  clear hPx hDx
  generalize H1 = H at hP hS hQ ⊢
  refine lv_pop hx hb dL_law_416 rfl ?_
  refine lv_aload_n hx hb dL_law_417 rfl (lv_at hl 1 rfl) ?_
  refine lv_aload_n hx hb dL_law_418 rfl (lv_at hl 3 rfl) ?_
  refine lv_iload_n hx hb dL_law_419 rfl (lv_at hl 0 rfl) ?_
  refine lv_iconst (v := 1) hx hb dL_law_420 (by decide) ?_
  refine lv_iadd hx hb dL_law_421 ?_
  refine lv_topi (fun y_8 ey_8 => ?_)
  have ty_8 := i_add (a := ii.toInt) (b := 1) rfl (by decide) ey_8 (by omega) (by omega)
  refine va_sld hx hb hX hbl hbA hS (i := y_8) (vp_of (a := y_8.toInt) rfl (by omega) (by omega)) dL_law_422 ?_
  refine lv_topi (fun y_9 ey_9 => ?_)
  have e_y_9 : y_9 = y_2 := by rw [ey_9, ey_2, ey_8, ey_1]
  have q_y_9 : y_9.toInt = y_2.toInt := by rw [ey_9, ey_2, ey_8, ey_1]
  refine lv_aload_n hx hb dL_law_423 rfl (lv_at hl 3 rfl) ?_
  refine lv_iload_n hx hb dL_law_424 rfl (lv_at hl 0 rfl) ?_
  refine lv_iconst (v := 2) hx hb dL_law_425 (by decide) ?_
  refine lv_iadd hx hb dL_law_426 ?_
  refine lv_topi (fun y_10 ey_10 => ?_)
  have ty_10 := i_add (a := ii.toInt) (b := 2) rfl (by decide) ey_10 (by omega) (by omega)
  refine va_sld hx hb hX hbl hbA hS (i := y_10) (vp_of (a := y_10.toInt) rfl (by omega) (by omega)) dL_law_427 ?_
  refine lv_topi (fun y_11 ey_11 => ?_)
  have e_y_11 : y_11 = y_4 := by rw [ey_11, ey_4, ey_10, ey_3]
  have q_y_11 : y_11.toInt = y_4.toInt := by rw [ey_11, ey_4, ey_10, ey_3]
  have hPc : va_P (dC, dI) vwCl (mW zad zkc zx0 zx1 zx2 zx3 zx4 zx5 zx6 zx7 zx8 zx9 zx10 zx11 zx12 zx13 zx14 zx15 zx16 zx17 zx18 zx19 zx20 zx21 zf0 zf1 zf2 zf3 zf4 zf5 zf6 zf7 zf8 zf9 zf10 zf11 zf12 zf13 zf14 zf15 zf16 zf17 zf18 zf19 zf20 zf21 zL zN zP zM zO) H := p_sub hP (fun _ hq => List.mem_append_right _ (List.mem_append_right _ hq))
  have hKc := hKM
  have hDc : va_D (fun q : Nat => s.heap.size ≤ q) (mW zad zkc zx0 zx1 zx2 zx3 zx4 zx5 zx6 zx7 zx8 zx9 zx10 zx11 zx12 zx13 zx14 zx15 zx16 zx17 zx18 zx19 zx20 zx21 zf0 zf1 zf2 zf3 zf4 zf5 zf6 zf7 zf8 zf9 zf10 zf11 zf12 zf13 zf14 zf15 zf16 zf17 zf18 zf19 zf20 zf21 zL zN zP zM zO) := D_right (D_right hD)
  have hFc := m_free hDc hS hA
  have hQAc : ∀ q ∈ W9, ¬ va_A (mW zad zkc zx0 zx1 zx2 zx3 zx4 zx5 zx6 zx7 zx8 zx9 zx10 zx11 zx12 zx13 zx14 zx15 zx16 zx17 zx18 zx19 zx20 zx21 zf0 zf1 zf2 zf3 zf4 zf5 zf6 zf7 zf8 zf9 zf10 zf11 zf12 zf13 zf14 zf15 zf16 zf17 zf18 zf19 zf20 zf21 zL zN zP zM zO) H.size q.1 := qn_A hQ hQN (fun x hx => List.mem_append_right _ (List.mem_append_right _ hx))
  refine va_calli (va_runV (As := [.int y_9, .int y_11]) (rest := []) ⟨hx, hb, hml, hown, hts⟩ (m_pattern l dC dI zad zkc zx0 zx1 zx2 zx3 zx4 zx5 zx6 zx7 zx8 zx9 zx10 zx11 zx12 zx13 zx14 zx15 zx16 zx17 zx18 zx19 zx20 zx21 zf0 zf1 zf2 zf3 zf4 zf5 zf6 zf7 zf8 zf9 zf10 zf11 zf12 zf13 zf14 zf15 zf16 zf17 zf18 zf19 zf20 zf21 zL zN zP zM zO H.size y_9 y_11 hmi) (cwV 2 hts mg_L_X10_pattern rfl rfl rfl (by decide +kernel) ⟨Nat.le_of_ble_eq_true rfl, Nat.le_of_ble_eq_true rfl⟩) ⟨fun a U g mk q => by obtain ⟨q0, q1, qP, qK, qD, qE0⟩ := q; exact ⟨q0, q1, qP, va_K.moved (u := U) (U := U.calling g mk a) (Vm.Alike.refl U.vm) qK, qD, over_moved (u := U) (E := U.calling g mk a) (Vm.Alike.refl U.vm) qE0⟩, va_recv hKc hPc (ci := 10) (q0 := 0) rfl rfl, fun U hU hW => ⟨rfl, by rw [hU], by rw [hU]; exact hPc, va_K.moved hW.alike hKc, hDc.weaken (fun _ _ _ _ => trivial), over_moved hW.alike hOV⟩⟩ rfl rfl hl.1 rfl (lv_room (Nat.le_of_ble_eq_true rfl)) dL_law_428 ⟨by show kc9 + 0 ≤ 600000; omega, by show ks9 + 0 ≤ 7302250; omega⟩) hS (fun q _ h => hFc q h) hFc (fun r_12 u t H1 locs ht hvm hw hB hz1 hk1 hS => ?_)
  have hQo := hQ
  have hQ := qn_P hQ hQAc hk1
  have hwu := hw
  have hwt_r_12 := congrArg Int32.toInt hw
  obtain ⟨zx_13, zx_14, zx_15, zx_16, zx_17, zx_18, zx_19, zx_20, zx_21, zx_22, zf_23, zf_24, zf_25, zf_26, zf_27, zf_28, zf_29, zf_30, zf_31, zf_32, zf_33, zf_34, zf_35, zf_36, zf_37, zf_38, zf_39, zL_40, zNn_41, zP_42, zM_43, zO_44, h_45, hP1, hK1, hD1⟩ := hB
  rw [ht] at hP1
  have rg_zx_13 := i_rng zx_13
  have rg_zx_14 := i_rng zx_14
  have rg_zx_15 := i_rng zx_15
  have rg_zx_16 := i_rng zx_16
  have rg_zx_17 := i_rng zx_17
  have rg_zx_18 := i_rng zx_18
  have rg_zx_19 := i_rng zx_19
  have rg_zx_20 := i_rng zx_20
  have rg_zx_21 := i_rng zx_21
  have rg_zx_22 := i_rng zx_22
  have hass := (pm_as (a := [(gt, .inr (9, [.int w_7, .ref tp, .int td, .int fk, .int fpl, .ref bk, .int un, .ref mb, .ref mu, .int mk, .ref rd, .ref cm, .ref wk, .ref pp, .ref so, .ref ty])), (tp, .inl (ctp, 900, .inl ftp)), (mb, .inl (cmb, 3, .inr (.inr (.inr (.inr fmb))))), (mu, .inl (cmu, 3, .inl fmu)), (rd, .inr (6, rF r q0 q1 q2 q3 q4 q5 q6 q7)), (r 0, .inl (cb0, 18, .inl fb0)), (r 1, .inl (cb1, 18, .inl fb1)), (r 2, .inl (cb2, 18, .inl fb2)), (wk, .inr (8, [.int x0, .int x1, .ref li])), (li, .inl (cli, 24, .inl fli)), (pp, .inl (cpp, 60, .inl fpp)), (so, .inl (cso, 60, .inl fso)), (ty, .inl (cty, 26, .inl fty)), (cm, .inr (1, [.ref kA, .ref kB, .ref kG, .ref (ad 12 0), .ref o3, .ref e4, .ref e5, .ref kC, .ref kF, .ref kT, .int spn])), (kA, .inl (cA9, 6, .inr (.inr (.inr (.inr (fun i => some (ad i 0))))))), (kB, .inl (cB, 6, .inr (.inr (.inr (.inr (fun i => some (ad (6 + i) 0))))))), (kG, .inl (cg9, 6, .inl fG)), (o3, .inr (7, [.ref r3, .int n3])), (r3, .inl (c3, 6, .inr (.inl f3))), (e4, .inr (3, [.int (nI R4), .ref t4, .ref s4, .int m4])), (t4, .inl (ct4, 24 * R4, .inl ft4)), (s4, .inl (cs4, R4, .inl fs4)), (e5, .inr (3, [.int (nI R5), .ref t5, .ref s5, .int m5])), (t5, .inl (ct5, 24 * R5, .inl ft5)), (s5, .inl (cs5, R5, .inl fs5)), (kC, .inl (cC, 24, .inl fC)), (kF, .inl (cF, 24, .inl fF)), (kT, .inl (cT, 26, .inl fT))]) (b := cPL ad ca vi vl vf (List.range 13)) (c := mW zad zkc zx0 zx1 zx2 zx3 zx4 zx5 zx6 zx7 zx8 zx9 zx10 zx11 zx12 zx13 zx14 zx15 zx16 zx17 zx18 zx19 zx20 zx21 zf0 zf1 zf2 zf3 zf4 zf5 zf6 zf7 zf8 zf9 zf10 zf11 zf12 zf13 zf14 zf15 zf16 zf17 zf18 zf19 zf20 zf21 zL zN zP zM zO)).symm
  obtain ⟨hPx, hDx⟩ := pm_join hP hD hass hk1 hFc hP1 hD1
  rw [List.append_assoc] at hPx hDx
  have hQNx := qn_app (qn_sub hQN (fun x hx => List.mem_append_left _ hx)) (qn_app (qn_sub hQN (fun x hx => List.mem_append_right _ (List.mem_append_left _ hx))) (qn_new hQAc hD1))
  have hP := hPx
  have hD := hDx
  have hQN := hQNx
  generalize H1 = H at hP hS hQ ⊢
  have hmi9 := hmi.setP h_45
  refine lv_pop hx hb dL_law_431 rfl ?_
  refine lv_goto (tgt := 1128) hx hb dL_law_432 (by decide) ?_
  refine W.widen (k := kc9 + 195) (n := ks9 + 10960) (by omega) (by omega) ?_
  exact kk H _ ls tp bk mb mu rd cm wk pp so ty li w_7 td fk fpl un mk x0 x1 q0 q1 q2 q3 q4 q5 q6 q7 r ctp cmb cmu cb0 cb1 cb2 cli cpp cso cty ftp fmu fb0 fb1 fb2 fli fpp fso fty fmb spn kG cg9 fG o3 r3 c3 f3 n3 e4 t4 s4 R4 ct4 cs4 ft4 fs4 m4 e5 t5 s5 R5 ct5 cs5 ft5 fs5 m5 kC cC fC kF cF fF kT cT fT kA kB cA9 cB ad ca vi vl vf W9 T9 B9 zad zkc zx_13 zx1 zx2 zx3 zx4 zx5 zx6 zx7 zx8 zx9 zx10 zx11 zx_14 zx_15 zx_16 zx_17 zx_18 zx_19 zx_20 zx_21 zx_22 zx21 zf0 zf1 zf2 zf_23 zf_24 zf_25 zf_26 zf_27 zf_28 zf_29 zf_30 zf_31 zf_32 zf_33 zf_34 zf_35 zf_36 zf_37 zf_38 zf19 zf20 zf_39 zL_40 zNn_41 zP_42 zM_43 zO_44 hs1 hs2 ha3 hb3 hR4 hU4 hc4 hd4 hb_fs4 hR5 hU5 hc5 hd5 hb_fs5 hG (by omega) (by omega) hM hB9 hbk rfl hmi9 (by omega) (by omega) hrt hK hKC hKM hKQ hP hD hQ hQN hS hl
theorem dL_law_435 : decode cL_law 435 = .ok (.aload_n 1, 1) := by decide +kernel
theorem dL_law_436 : decode cL_law 436 = .ok (.aload_n 0, 1) := by decide +kernel
theorem dL_law_437 : decode cL_law 437 = .ok (.iload_n 3, 1) := by decide +kernel
theorem dL_law_438 : decode cL_law 438 = .ok (.iconst 1, 1) := by decide +kernel
theorem dL_law_439 : decode cL_law 439 = .ok (.iadd, 1) := by decide +kernel
theorem dL_law_440 : decode cL_law 440 = .ok (.iaload, 1) := by decide +kernel
theorem dL_law_441 : decode cL_law 441 = .ok (.aload_n 0, 1) := by decide +kernel
theorem dL_law_442 : decode cL_law 442 = .ok (.iload_n 3, 1) := by decide +kernel
theorem dL_law_443 : decode cL_law 443 = .ok (.iconst 2, 1) := by decide +kernel
theorem dL_law_444 : decode cL_law 444 = .ok (.iadd, 1) := by decide +kernel
theorem dL_law_445 : decode cL_law 445 = .ok (.iaload, 1) := by decide +kernel
theorem dL_law_446 : decode cL_law 446 = .ok (.invokevirtual 53, 3) := by decide +kernel
theorem dL_law_449 : decode cL_law 449 = .ok (.pop, 1) := by decide +kernel
theorem dL_law_450 : decode cL_law 450 = .ok (.aload_n 2, 1) := by decide +kernel
theorem dL_law_451 : decode cL_law 451 = .ok (.aload_n 0, 1) := by decide +kernel
theorem dL_law_452 : decode cL_law 452 = .ok (.iload_n 3, 1) := by decide +kernel
theorem dL_law_453 : decode cL_law 453 = .ok (.iconst 1, 1) := by decide +kernel
theorem dL_law_454 : decode cL_law 454 = .ok (.iadd, 1) := by decide +kernel
theorem dL_law_455 : decode cL_law 455 = .ok (.iaload, 1) := by decide +kernel
theorem dL_law_456 : decode cL_law 456 = .ok (.aload_n 0, 1) := by decide +kernel
theorem dL_law_457 : decode cL_law 457 = .ok (.iload_n 3, 1) := by decide +kernel
theorem dL_law_458 : decode cL_law 458 = .ok (.iconst 2, 1) := by decide +kernel
theorem dL_law_459 : decode cL_law 459 = .ok (.iadd, 1) := by decide +kernel
theorem dL_law_460 : decode cL_law 460 = .ok (.iaload, 1) := by decide +kernel
theorem dL_law_461 : decode cL_law 461 = .ok (.invokevirtual 56, 3) := by decide +kernel
theorem dL_law_464 : decode cL_law 464 = .ok (.pop, 1) := by decide +kernel
theorem dL_law_465 : decode cL_law 465 = .ok (.goto 663, 3) := by decide +kernel
set_option maxHeartbeats 4000000 in
set_option maxRecDepth 100000 in
/-- the law: sign -/
theorem law_case9 {p : Program} {l : Launch} {e : Env} {s : State} {m : MethodId} {below : List Frame} {meth : Method} {c : Code} {dC : Nat → ClassId} {dI : Nat → Nat → Nat} {b L : Nat} {xs : Nat → Int32} (hLL : L ≤ 3072) (C0 : lw_At p s m meth c b L xs) (hLX : LX s) {gt mo : Nat} {H : Heap} {locs : List Loc} {kc9 ks9 : Nat} (hc9 : kc9 + 195 ≤ 600000) (hs9 : ks9 + 10960 ≤ 7302250) {ii : Int32} (hii : 0 ≤ ii.toInt ∧ ii.toInt + 6 ≤ L) {ls : Array Slot} (kk : ∀ (H1 : Heap) (locs1 : List Loc) (ls : Array Slot), LI dC dI s gt mo H1 (va_S (fun q : Nat => s.heap.size ≤ q) s.heap H1 locs1 → lv_has ls 4 [(3, .int ii), (2, .ref mo), (1, .ref gt), (0, .ref b)] → W p l e room_1 s m #[Value.ref b] below meth c H1 locs1 (kc9 + 195) (ks9 + 10960) (lw_Z below #[Value.ref b] s) (F0 m 1128 ls []))) : LI dC dI s gt mo H (va_S (fun q : Nat => s.heap.size ≤ q) s.heap H locs → lv_has ls 4 [(3, .int ii), (2, .ref mo), (1, .ref gt), (0, .ref b)] → W p l e room_1 s m #[Value.ref b] below meth c H locs kc9 ks9 (lw_Z below #[Value.ref b] s) (F0 m 435 ls [])) := by
  obtain ⟨hx, hb, hr, hml, hown, hts, hX, hbl, hlocks, hgv⟩ := id C0
  have hown : s.vm.findClass RL = some m.cls := hown
  have hA : ∀ q : Nat, s.heap.size ≤ q → (fun q : Nat => s.heap.size ≤ q) q := fun _ h => h
  have hbA : ¬ (fun q : Nat => s.heap.size ≤ q) b := Nat.not_le.mpr hbl
  obtain ⟨hcl, hcld, hAO2, hAO5, hN53, hN160, hSR, hSW, hSR2, hSW2, hOV⟩ := hLX
  unfold LI
  intro tp bk mb mu rd cm wk pp so ty li st9 td fk fpl un mk x0 x1 q0 q1 q2 q3 q4 q5 q6 q7 r ctp cmb cmu cb0 cb1 cb2 cli cpp cso cty ftp fmu fb0 fb1 fb2 fli fpp fso fty fmb spn kG cg9 fG o3 r3 c3 f3 n3 e4 t4 s4 R4 ct4 cs4 ft4 fs4 m4 e5 t5 s5 R5 ct5 cs5 ft5 fs5 m5 kC cC fC kF cF fF kT cT fT kA kB cA9 cB ad ca vi vl vf W9 T9 B9 zad zkc zx0 zx1 zx2 zx3 zx4 zx5 zx6 zx7 zx8 zx9 zx10 zx11 zx12 zx13 zx14 zx15 zx16 zx17 zx18 zx19 zx20 zx21 zf0 zf1 zf2 zf3 zf4 zf5 zf6 zf7 zf8 zf9 zf10 zf11 zf12 zf13 zf14 zf15 zf16 zf17 zf18 zf19 zf20 zf21 zL zN zP zM zO hs1 hs2 ha3 hb3 hR4 hU4 hc4 hd4 hb_fs4 hR5 hU5 hc5 hd5 hb_fs5 hG htd hmk hM hB9 hbk hmo hmi hzk hzt hrt hK hKC hKM hKQ hP hD hQ hQN hS hl
  subst hmo
  have rg_td := i_rng td
  have rg_mk := i_rng mk
  have rg_zx2 := i_rng zx2
  have rg_zx3 := i_rng zx3
  refine lv_aload_n hx hb dL_law_435 rfl (lv_at hl 2 rfl) ?_
  refine lv_aload_n hx hb dL_law_436 rfl (lv_at hl 3 rfl) ?_
  refine lv_iload_n hx hb dL_law_437 rfl (lv_at hl 0 rfl) ?_
  refine lv_iconst (v := 1) hx hb dL_law_438 (by decide) ?_
  refine lv_iadd hx hb dL_law_439 ?_
  refine lv_topi (fun y_1 ey_1 => ?_)
  have ty_1 := i_add (a := ii.toInt) (b := 1) rfl (by decide) ey_1 (by omega) (by omega)
  refine va_sld hx hb hX hbl hbA hS (i := y_1) (vp_of (a := y_1.toInt) rfl (by omega) (by omega)) dL_law_440 ?_
  refine lv_topi (fun y_2 ey_2 => ?_)
  refine lv_aload_n hx hb dL_law_441 rfl (lv_at hl 3 rfl) ?_
  refine lv_iload_n hx hb dL_law_442 rfl (lv_at hl 0 rfl) ?_
  refine lv_iconst (v := 2) hx hb dL_law_443 (by decide) ?_
  refine lv_iadd hx hb dL_law_444 ?_
  refine lv_topi (fun y_3 ey_3 => ?_)
  have ty_3 := i_add (a := ii.toInt) (b := 2) rfl (by decide) ey_3 (by omega) (by omega)
  refine va_sld hx hb hX hbl hbA hS (i := y_3) (vp_of (a := y_3.toInt) rfl (by omega) (by omega)) dL_law_445 ?_
  refine lv_topi (fun y_4 ey_4 => ?_)
  have hPc := hP.sub (ws' := [(gt, .inr (9, [.int st9, .ref tp, .int td, .int fk, .int fpl, .ref bk, .int un, .ref mb, .ref mu, .int mk, .ref rd, .ref cm, .ref wk, .ref pp, .ref so, .ref ty]))]) [0] rfl
  have hKc := hK.sub (tys' := []) [] rfl
  have hDc := hD.sub (ws' := [(gt, .inr (9, [.int st9, .ref tp, .int td, .int fk, .int fpl, .ref bk, .int un, .ref mb, .ref mu, .int mk, .ref rd, .ref cm, .ref wk, .ref pp, .ref so, .ref ty]))]) [0] (by decide) rfl
  have hFc := va_free (wc := [(gt, .inr (9, [.int st9, .ref tp, .int td, .int fk, .int fpl, .ref bk, .int un, .ref mb, .ref mu, .int mk, .ref rd, .ref cm, .ref wk, .ref pp, .ref so, .ref ty]))]) hD hS hA [0] rfl
  have hQAc : ∀ q ∈ W9, ¬ va_A [(gt, .inr (9, [.int st9, .ref tp, .int td, .int fk, .int fpl, .ref bk, .int un, .ref mb, .ref mu, .int mk, .ref rd, .ref cm, .ref wk, .ref pp, .ref so, .ref ty]))] H.size q.1 := qn_A hQ hQN (fun x hx => mem_pl [0] rfl x hx)
  refine va_calli (va_runV (As := [.int y_2, .int y_4]) (rest := []) ⟨hx, hb, hml, hown, hts⟩ (s_g_sign l dC dI W9 T9 B9 gt tp bk mb mu rd cm wk pp so ty st9 td fk fpl un mk H.size y_2 y_4 hB9 hbk) (cwV 2 hts mg_L_X9_sign rfl rfl rfl (by decide +kernel) ⟨Nat.le_of_ble_eq_true rfl, Nat.le_of_ble_eq_true rfl⟩) ⟨fun a U g mk q => by obtain ⟨q0, q1, qP, qK, qD, qE0, qE1, qE2⟩ := q; exact ⟨q0, q1, qP, va_K.moved (u := U) (U := U.calling g mk a) (Vm.Alike.refl U.vm) qK, qD, qE0, va_K.moved (u := U) (U := U.calling g mk a) (Vm.Alike.refl U.vm) qE1, qE2⟩, va_recv hKc hPc (ci := 9) (q0 := 0) rfl rfl, fun U hU hW => ⟨rfl, by rw [hU], by rw [hU]; exact hPc, va_K.moved hW.alike hKc, hDc.weaken (fun _ _ _ _ => trivial), (by rw [hU]; exact hQ), va_K.moved hW.alike hKQ, hQAc⟩⟩ rfl rfl hl.1 rfl (lv_room (Nat.le_of_ble_eq_true rfl)) dL_law_446 ⟨by show kc9 + 0 ≤ 600000; omega, by show ks9 + 0 ≤ 7302250; omega⟩) hS (fun q _ h => hFc q h) hFc (fun r_5 u_6 t H1 locs ht hvm hw hB hz1 hk1 hS => ?_)
  have hQo := hQ
  have hQ := qn_P hQ hQAc hk1
  obtain ⟨w_7, hP1, hK1, hD1⟩ := hB
  rw [ht] at hP1
  have hQNa := qn_new hQAc hD1
  obtain ⟨hPx, hDx⟩ := va_joinQ (X := [(gt, .inr (9, [.int st9, .ref tp, .int td, .int fk, .int fpl, .ref bk, .int un, .ref mb, .ref mu, .int mk, .ref rd, .ref cm, .ref wk, .ref pp, .ref so, .ref ty])), (tp, .inl (ctp, 900, .inl ftp)), (mb, .inl (cmb, 3, .inr (.inr (.inr (.inr fmb))))), (mu, .inl (cmu, 3, .inl fmu)), (rd, .inr (6, rF r q0 q1 q2 q3 q4 q5 q6 q7)), (r 0, .inl (cb0, 18, .inl fb0)), (r 1, .inl (cb1, 18, .inl fb1)), (r 2, .inl (cb2, 18, .inl fb2)), (wk, .inr (8, [.int x0, .int x1, .ref li])), (li, .inl (cli, 24, .inl fli)), (pp, .inl (cpp, 60, .inl fpp)), (so, .inl (cso, 60, .inl fso)), (ty, .inl (cty, 26, .inl fty)), (cm, .inr (1, [.ref kA, .ref kB, .ref kG, .ref (ad 12 0), .ref o3, .ref e4, .ref e5, .ref kC, .ref kF, .ref kT, .int spn])), (kA, .inl (cA9, 6, .inr (.inr (.inr (.inr (fun i => some (ad i 0))))))), (kB, .inl (cB, 6, .inr (.inr (.inr (.inr (fun i => some (ad (6 + i) 0))))))), (kG, .inl (cg9, 6, .inl fG)), (o3, .inr (7, [.ref r3, .int n3])), (r3, .inl (c3, 6, .inr (.inl f3))), (e4, .inr (3, [.int (nI R4), .ref t4, .ref s4, .int m4])), (t4, .inl (ct4, 24 * R4, .inl ft4)), (s4, .inl (cs4, R4, .inl fs4)), (e5, .inr (3, [.int (nI R5), .ref t5, .ref s5, .int m5])), (t5, .inl (ct5, 24 * R5, .inl ft5)), (s5, .inl (cs5, R5, .inl fs5)), (kC, .inl (cC, 24, .inl fC)), (kF, .inl (cF, 24, .inl fF)), (kT, .inl (cT, 26, .inl fT))]) (cx := [(gt, .inr (9, [.int st9, .ref tp, .int td, .int fk, .int fpl, .ref bk, .int un, .ref mb, .ref mu, .int mk, .ref rd, .ref cm, .ref wk, .ref pp, .ref so, .ref ty]))]) (wr := [(tp, .inl (ctp, 900, .inl ftp)), (mb, .inl (cmb, 3, .inr (.inr (.inr (.inr fmb))))), (mu, .inl (cmu, 3, .inl fmu)), (rd, .inr (6, rF r q0 q1 q2 q3 q4 q5 q6 q7)), (r 0, .inl (cb0, 18, .inl fb0)), (r 1, .inl (cb1, 18, .inl fb1)), (r 2, .inl (cb2, 18, .inl fb2)), (wk, .inr (8, [.int x0, .int x1, .ref li])), (li, .inl (cli, 24, .inl fli)), (pp, .inl (cpp, 60, .inl fpp)), (so, .inl (cso, 60, .inl fso)), (ty, .inl (cty, 26, .inl fty)), (cm, .inr (1, [.ref kA, .ref kB, .ref kG, .ref (ad 12 0), .ref o3, .ref e4, .ref e5, .ref kC, .ref kF, .ref kT, .int spn])), (kA, .inl (cA9, 6, .inr (.inr (.inr (.inr (fun i => some (ad i 0))))))), (kB, .inl (cB, 6, .inr (.inr (.inr (.inr (fun i => some (ad (6 + i) 0))))))), (kG, .inl (cg9, 6, .inl fG)), (o3, .inr (7, [.ref r3, .int n3])), (r3, .inl (c3, 6, .inr (.inl f3))), (e4, .inr (3, [.int (nI R4), .ref t4, .ref s4, .int m4])), (t4, .inl (ct4, 24 * R4, .inl ft4)), (s4, .inl (cs4, R4, .inl fs4)), (e5, .inr (3, [.int (nI R5), .ref t5, .ref s5, .int m5])), (t5, .inl (ct5, 24 * R5, .inl ft5)), (s5, .inl (cs5, R5, .inl fs5)), (kC, .inl (cC, 24, .inl fC)), (kF, .inl (cF, 24, .inl fF)), (kT, .inl (cT, 26, .inl fT))]) (w1 := [(gt, .inr (9, [.int w_7, .ref tp, .int td, .int fk, .int fpl, .ref bk, .int un, .ref mb, .ref mu, .int mk, .ref rd, .ref cm, .ref wk, .ref pp, .ref so, .ref ty]))]) (pl := (cPL ad ca vi vl vf (List.range 13) ++ mW zad zkc zx0 zx1 zx2 zx3 zx4 zx5 zx6 zx7 zx8 zx9 zx10 zx11 zx12 zx13 zx14 zx15 zx16 zx17 zx18 zx19 zx20 zx21 zf0 zf1 zf2 zf3 zf4 zf5 zf6 zf7 zf8 zf9 zf10 zf11 zf12 zf13 zf14 zf15 zf16 zf17 zf18 zf19 zf20 zf21 zL zN zP zM zO)) hP hD [0] [1, 2, 3, 4, 5, 6, 7, 8, 9, 10, 11, 12, 13, 14, 15, 16, 17, 18, 19, 20, 21, 22, 23, 24, 25, 26, 27] rfl rfl (by decide) (by decide) hk1 hFc hP1 hD1
  have hPx := t_P (cx := [(gt, .inr (9, [.int w_7, .ref tp, .int td, .int fk, .int fpl, .ref bk, .int un, .ref mb, .ref mu, .int mk, .ref rd, .ref cm, .ref wk, .ref pp, .ref so, .ref ty])), (tp, .inl (ctp, 900, .inl ftp)), (mb, .inl (cmb, 3, .inr (.inr (.inr (.inr fmb))))), (mu, .inl (cmu, 3, .inl fmu)), (rd, .inr (6, rF r q0 q1 q2 q3 q4 q5 q6 q7)), (r 0, .inl (cb0, 18, .inl fb0)), (r 1, .inl (cb1, 18, .inl fb1)), (r 2, .inl (cb2, 18, .inl fb2)), (wk, .inr (8, [.int x0, .int x1, .ref li])), (li, .inl (cli, 24, .inl fli)), (pp, .inl (cpp, 60, .inl fpp)), (so, .inl (cso, 60, .inl fso)), (ty, .inl (cty, 26, .inl fty)), (cm, .inr (1, [.ref kA, .ref kB, .ref kG, .ref (ad 12 0), .ref o3, .ref e4, .ref e5, .ref kC, .ref kF, .ref kT, .int spn])), (kA, .inl (cA9, 6, .inr (.inr (.inr (.inr (fun i => some (ad i 0))))))), (kB, .inl (cB, 6, .inr (.inr (.inr (.inr (fun i => some (ad (6 + i) 0))))))), (kG, .inl (cg9, 6, .inl fG)), (o3, .inr (7, [.ref r3, .int n3])), (r3, .inl (c3, 6, .inr (.inl f3))), (e4, .inr (3, [.int (nI R4), .ref t4, .ref s4, .int m4])), (t4, .inl (ct4, 24 * R4, .inl ft4)), (s4, .inl (cs4, R4, .inl fs4)), (e5, .inr (3, [.int (nI R5), .ref t5, .ref s5, .int m5])), (t5, .inl (ct5, 24 * R5, .inl ft5)), (s5, .inl (cs5, R5, .inl fs5)), (kC, .inl (cC, 24, .inl fC)), (kF, .inl (cF, 24, .inl fF)), (kT, .inl (cT, 26, .inl fT))]) hPx [27, 0, 1, 2, 3, 4, 5, 6, 7, 8, 9, 10, 11, 12, 13, 14, 15, 16, 17, 18, 19, 20, 21, 22, 23, 24, 25, 26] rfl
  have hDx := va_D.part (cx := [(gt, .inr (9, [.int w_7, .ref tp, .int td, .int fk, .int fpl, .ref bk, .int un, .ref mb, .ref mu, .int mk, .ref rd, .ref cm, .ref wk, .ref pp, .ref so, .ref ty])), (tp, .inl (ctp, 900, .inl ftp)), (mb, .inl (cmb, 3, .inr (.inr (.inr (.inr fmb))))), (mu, .inl (cmu, 3, .inl fmu)), (rd, .inr (6, rF r q0 q1 q2 q3 q4 q5 q6 q7)), (r 0, .inl (cb0, 18, .inl fb0)), (r 1, .inl (cb1, 18, .inl fb1)), (r 2, .inl (cb2, 18, .inl fb2)), (wk, .inr (8, [.int x0, .int x1, .ref li])), (li, .inl (cli, 24, .inl fli)), (pp, .inl (cpp, 60, .inl fpp)), (so, .inl (cso, 60, .inl fso)), (ty, .inl (cty, 26, .inl fty)), (cm, .inr (1, [.ref kA, .ref kB, .ref kG, .ref (ad 12 0), .ref o3, .ref e4, .ref e5, .ref kC, .ref kF, .ref kT, .int spn])), (kA, .inl (cA9, 6, .inr (.inr (.inr (.inr (fun i => some (ad i 0))))))), (kB, .inl (cB, 6, .inr (.inr (.inr (.inr (fun i => some (ad (6 + i) 0))))))), (kG, .inl (cg9, 6, .inl fG)), (o3, .inr (7, [.ref r3, .int n3])), (r3, .inl (c3, 6, .inr (.inl f3))), (e4, .inr (3, [.int (nI R4), .ref t4, .ref s4, .int m4])), (t4, .inl (ct4, 24 * R4, .inl ft4)), (s4, .inl (cs4, R4, .inl fs4)), (e5, .inr (3, [.int (nI R5), .ref t5, .ref s5, .int m5])), (t5, .inl (ct5, 24 * R5, .inl ft5)), (s5, .inl (cs5, R5, .inl fs5)), (kC, .inl (cC, 24, .inl fC)), (kF, .inl (cF, 24, .inl fF)), (kT, .inl (cT, 26, .inl fT))]) hDx [27, 0, 1, 2, 3, 4, 5, 6, 7, 8, 9, 10, 11, 12, 13, 14, 15, 16, 17, 18, 19, 20, 21, 22, 23, 24, 25, 26] (by decide) rfl
  have hm9 : List.map Prod.fst ([(gt, .inr (9, [.int w_7, .ref tp, .int td, .int fk, .int fpl, .ref bk, .int un, .ref mb, .ref mu, .int mk, .ref rd, .ref cm, .ref wk, .ref pp, .ref so, .ref ty])), (tp, .inl (ctp, 900, .inl ftp)), (mb, .inl (cmb, 3, .inr (.inr (.inr (.inr fmb))))), (mu, .inl (cmu, 3, .inl fmu)), (rd, .inr (6, rF r q0 q1 q2 q3 q4 q5 q6 q7)), (r 0, .inl (cb0, 18, .inl fb0)), (r 1, .inl (cb1, 18, .inl fb1)), (r 2, .inl (cb2, 18, .inl fb2)), (wk, .inr (8, [.int x0, .int x1, .ref li])), (li, .inl (cli, 24, .inl fli)), (pp, .inl (cpp, 60, .inl fpp)), (so, .inl (cso, 60, .inl fso)), (ty, .inl (cty, 26, .inl fty)), (cm, .inr (1, [.ref kA, .ref kB, .ref kG, .ref (ad 12 0), .ref o3, .ref e4, .ref e5, .ref kC, .ref kF, .ref kT, .int spn])), (kA, .inl (cA9, 6, .inr (.inr (.inr (.inr (fun i => some (ad i 0))))))), (kB, .inl (cB, 6, .inr (.inr (.inr (.inr (fun i => some (ad (6 + i) 0))))))), (kG, .inl (cg9, 6, .inl fG)), (o3, .inr (7, [.ref r3, .int n3])), (r3, .inl (c3, 6, .inr (.inl f3))), (e4, .inr (3, [.int (nI R4), .ref t4, .ref s4, .int m4])), (t4, .inl (ct4, 24 * R4, .inl ft4)), (s4, .inl (cs4, R4, .inl fs4)), (e5, .inr (3, [.int (nI R5), .ref t5, .ref s5, .int m5])), (t5, .inl (ct5, 24 * R5, .inl ft5)), (s5, .inl (cs5, R5, .inl fs5)), (kC, .inl (cC, 24, .inl fC)), (kF, .inl (cF, 24, .inl fF)), (kT, .inl (cT, 26, .inl fT))] ++ (cPL ad ca vi vl vf (List.range 13) ++ mW zad zkc zx0 zx1 zx2 zx3 zx4 zx5 zx6 zx7 zx8 zx9 zx10 zx11 zx12 zx13 zx14 zx15 zx16 zx17 zx18 zx19 zx20 zx21 zf0 zf1 zf2 zf3 zf4 zf5 zf6 zf7 zf8 zf9 zf10 zf11 zf12 zf13 zf14 zf15 zf16 zf17 zf18 zf19 zf20 zf21 zL zN zP zM zO) : va_W) = List.map Prod.fst ([(gt, .inr (9, [.int st9, .ref tp, .int td, .int fk, .int fpl, .ref bk, .int un, .ref mb, .ref mu, .int mk, .ref rd, .ref cm, .ref wk, .ref pp, .ref so, .ref ty])), (tp, .inl (ctp, 900, .inl ftp)), (mb, .inl (cmb, 3, .inr (.inr (.inr (.inr fmb))))), (mu, .inl (cmu, 3, .inl fmu)), (rd, .inr (6, rF r q0 q1 q2 q3 q4 q5 q6 q7)), (r 0, .inl (cb0, 18, .inl fb0)), (r 1, .inl (cb1, 18, .inl fb1)), (r 2, .inl (cb2, 18, .inl fb2)), (wk, .inr (8, [.int x0, .int x1, .ref li])), (li, .inl (cli, 24, .inl fli)), (pp, .inl (cpp, 60, .inl fpp)), (so, .inl (cso, 60, .inl fso)), (ty, .inl (cty, 26, .inl fty)), (cm, .inr (1, [.ref kA, .ref kB, .ref kG, .ref (ad 12 0), .ref o3, .ref e4, .ref e5, .ref kC, .ref kF, .ref kT, .int spn])), (kA, .inl (cA9, 6, .inr (.inr (.inr (.inr (fun i => some (ad i 0))))))), (kB, .inl (cB, 6, .inr (.inr (.inr (.inr (fun i => some (ad (6 + i) 0))))))), (kG, .inl (cg9, 6, .inl fG)), (o3, .inr (7, [.ref r3, .int n3])), (r3, .inl (c3, 6, .inr (.inl f3))), (e4, .inr (3, [.int (nI R4), .ref t4, .ref s4, .int m4])), (t4, .inl (ct4, 24 * R4, .inl ft4)), (s4, .inl (cs4, R4, .inl fs4)), (e5, .inr (3, [.int (nI R5), .ref t5, .ref s5, .int m5])), (t5, .inl (ct5, 24 * R5, .inl ft5)), (s5, .inl (cs5, R5, .inl fs5)), (kC, .inl (cC, 24, .inl fC)), (kF, .inl (cF, 24, .inl fF)), (kT, .inl (cT, 26, .inl fT))] ++ (cPL ad ca vi vl vf (List.range 13) ++ mW zad zkc zx0 zx1 zx2 zx3 zx4 zx5 zx6 zx7 zx8 zx9 zx10 zx11 zx12 zx13 zx14 zx15 zx16 zx17 zx18 zx19 zx20 zx21 zf0 zf1 zf2 zf3 zf4 zf5 zf6 zf7 zf8 zf9 zf10 zf11 zf12 zf13 zf14 zf15 zf16 zf17 zf18 zf19 zf20 zf21 zL zN zP zM zO) : va_W) := rfl
  have hQNx := qn_fst hQN hm9
  have hQN := hQNx
  clear hQNx hQAc hFc hDc hPc hKc
  have hP := hPx
  have hD := hDx
  clear hPx hDx
  generalize H1 = H at hP hS hQ ⊢
  refine lv_pop hx hb dL_law_449 rfl ?_
  refine lv_aload_n hx hb dL_law_450 rfl (lv_at hl 1 rfl) ?_
  refine lv_aload_n hx hb dL_law_451 rfl (lv_at hl 3 rfl) ?_
  refine lv_iload_n hx hb dL_law_452 rfl (lv_at hl 0 rfl) ?_
  refine lv_iconst (v := 1) hx hb dL_law_453 (by decide) ?_
  refine lv_iadd hx hb dL_law_454 ?_
  refine lv_topi (fun y_8 ey_8 => ?_)
  have ty_8 := i_add (a := ii.toInt) (b := 1) rfl (by decide) ey_8 (by omega) (by omega)
  refine va_sld hx hb hX hbl hbA hS (i := y_8) (vp_of (a := y_8.toInt) rfl (by omega) (by omega)) dL_law_455 ?_
  refine lv_topi (fun y_9 ey_9 => ?_)
  have e_y_9 : y_9 = y_2 := by rw [ey_9, ey_2, ey_8, ey_1]
  have q_y_9 : y_9.toInt = y_2.toInt := by rw [ey_9, ey_2, ey_8, ey_1]
  refine lv_aload_n hx hb dL_law_456 rfl (lv_at hl 3 rfl) ?_
  refine lv_iload_n hx hb dL_law_457 rfl (lv_at hl 0 rfl) ?_
  refine lv_iconst (v := 2) hx hb dL_law_458 (by decide) ?_
  refine lv_iadd hx hb dL_law_459 ?_
  refine lv_topi (fun y_10 ey_10 => ?_)
  have ty_10 := i_add (a := ii.toInt) (b := 2) rfl (by decide) ey_10 (by omega) (by omega)
  refine va_sld hx hb hX hbl hbA hS (i := y_10) (vp_of (a := y_10.toInt) rfl (by omega) (by omega)) dL_law_460 ?_
  refine lv_topi (fun y_11 ey_11 => ?_)
  have e_y_11 : y_11 = y_4 := by rw [ey_11, ey_4, ey_10, ey_3]
  have q_y_11 : y_11.toInt = y_4.toInt := by rw [ey_11, ey_4, ey_10, ey_3]
  have hPc : va_P (dC, dI) vwCl (mW zad zkc zx0 zx1 zx2 zx3 zx4 zx5 zx6 zx7 zx8 zx9 zx10 zx11 zx12 zx13 zx14 zx15 zx16 zx17 zx18 zx19 zx20 zx21 zf0 zf1 zf2 zf3 zf4 zf5 zf6 zf7 zf8 zf9 zf10 zf11 zf12 zf13 zf14 zf15 zf16 zf17 zf18 zf19 zf20 zf21 zL zN zP zM zO) H := p_sub hP (fun _ hq => List.mem_append_right _ (List.mem_append_right _ hq))
  have hKc := hKM
  have hDc : va_D (fun q : Nat => s.heap.size ≤ q) (mW zad zkc zx0 zx1 zx2 zx3 zx4 zx5 zx6 zx7 zx8 zx9 zx10 zx11 zx12 zx13 zx14 zx15 zx16 zx17 zx18 zx19 zx20 zx21 zf0 zf1 zf2 zf3 zf4 zf5 zf6 zf7 zf8 zf9 zf10 zf11 zf12 zf13 zf14 zf15 zf16 zf17 zf18 zf19 zf20 zf21 zL zN zP zM zO) := D_right (D_right hD)
  have hFc := m_free hDc hS hA
  have hQAc : ∀ q ∈ W9, ¬ va_A (mW zad zkc zx0 zx1 zx2 zx3 zx4 zx5 zx6 zx7 zx8 zx9 zx10 zx11 zx12 zx13 zx14 zx15 zx16 zx17 zx18 zx19 zx20 zx21 zf0 zf1 zf2 zf3 zf4 zf5 zf6 zf7 zf8 zf9 zf10 zf11 zf12 zf13 zf14 zf15 zf16 zf17 zf18 zf19 zf20 zf21 zL zN zP zM zO) H.size q.1 := qn_A hQ hQN (fun x hx => List.mem_append_right _ (List.mem_append_right _ hx))
  refine va_calli (va_runV (As := [.int y_9, .int y_11]) (rest := []) ⟨hx, hb, hml, hown, hts⟩ (m_sign l dC dI zad zkc zx0 zx1 zx2 zx3 zx4 zx5 zx6 zx7 zx8 zx9 zx10 zx11 zx12 zx13 zx14 zx15 zx16 zx17 zx18 zx19 zx20 zx21 zf0 zf1 zf2 zf3 zf4 zf5 zf6 zf7 zf8 zf9 zf10 zf11 zf12 zf13 zf14 zf15 zf16 zf17 zf18 zf19 zf20 zf21 zL zN zP zM zO H.size y_9 y_11 hmi) (cwV 2 hts mg_L_X10_sign rfl rfl rfl (by decide +kernel) ⟨Nat.le_of_ble_eq_true rfl, Nat.le_of_ble_eq_true rfl⟩) ⟨fun a U g mk q => by obtain ⟨q0, q1, qP, qK, qD⟩ := q; exact ⟨q0, q1, qP, va_K.moved (u := U) (U := U.calling g mk a) (Vm.Alike.refl U.vm) qK, qD⟩, va_recv hKc hPc (ci := 10) (q0 := 0) rfl rfl, fun U hU hW => ⟨rfl, by rw [hU], by rw [hU]; exact hPc, va_K.moved hW.alike hKc, hDc.weaken (fun _ _ _ _ => trivial)⟩⟩ rfl rfl hl.1 rfl (lv_room (Nat.le_of_ble_eq_true rfl)) dL_law_461 ⟨by show kc9 + 0 ≤ 600000; omega, by show ks9 + 0 ≤ 7302250; omega⟩) hS (fun q _ h => hFc q h) hFc (fun r_12 u t H1 locs ht hvm hw hB hz1 hk1 hS => ?_)
  have hQo := hQ
  have hQ := qn_P hQ hQAc hk1
  have hwu := hw
  have hwt_r_12 := congrArg Int32.toInt hw
  obtain ⟨zx_13, hP1, hK1, hD1⟩ := hB
  rw [ht] at hP1
  have rg_zx_13 := i_rng zx_13
  have hass := (pm_as (a := [(gt, .inr (9, [.int w_7, .ref tp, .int td, .int fk, .int fpl, .ref bk, .int un, .ref mb, .ref mu, .int mk, .ref rd, .ref cm, .ref wk, .ref pp, .ref so, .ref ty])), (tp, .inl (ctp, 900, .inl ftp)), (mb, .inl (cmb, 3, .inr (.inr (.inr (.inr fmb))))), (mu, .inl (cmu, 3, .inl fmu)), (rd, .inr (6, rF r q0 q1 q2 q3 q4 q5 q6 q7)), (r 0, .inl (cb0, 18, .inl fb0)), (r 1, .inl (cb1, 18, .inl fb1)), (r 2, .inl (cb2, 18, .inl fb2)), (wk, .inr (8, [.int x0, .int x1, .ref li])), (li, .inl (cli, 24, .inl fli)), (pp, .inl (cpp, 60, .inl fpp)), (so, .inl (cso, 60, .inl fso)), (ty, .inl (cty, 26, .inl fty)), (cm, .inr (1, [.ref kA, .ref kB, .ref kG, .ref (ad 12 0), .ref o3, .ref e4, .ref e5, .ref kC, .ref kF, .ref kT, .int spn])), (kA, .inl (cA9, 6, .inr (.inr (.inr (.inr (fun i => some (ad i 0))))))), (kB, .inl (cB, 6, .inr (.inr (.inr (.inr (fun i => some (ad (6 + i) 0))))))), (kG, .inl (cg9, 6, .inl fG)), (o3, .inr (7, [.ref r3, .int n3])), (r3, .inl (c3, 6, .inr (.inl f3))), (e4, .inr (3, [.int (nI R4), .ref t4, .ref s4, .int m4])), (t4, .inl (ct4, 24 * R4, .inl ft4)), (s4, .inl (cs4, R4, .inl fs4)), (e5, .inr (3, [.int (nI R5), .ref t5, .ref s5, .int m5])), (t5, .inl (ct5, 24 * R5, .inl ft5)), (s5, .inl (cs5, R5, .inl fs5)), (kC, .inl (cC, 24, .inl fC)), (kF, .inl (cF, 24, .inl fF)), (kT, .inl (cT, 26, .inl fT))]) (b := cPL ad ca vi vl vf (List.range 13)) (c := mW zad zkc zx0 zx1 zx2 zx3 zx4 zx5 zx6 zx7 zx8 zx9 zx10 zx11 zx12 zx13 zx14 zx15 zx16 zx17 zx18 zx19 zx20 zx21 zf0 zf1 zf2 zf3 zf4 zf5 zf6 zf7 zf8 zf9 zf10 zf11 zf12 zf13 zf14 zf15 zf16 zf17 zf18 zf19 zf20 zf21 zL zN zP zM zO)).symm
  obtain ⟨hPx, hDx⟩ := pm_join hP hD hass hk1 hFc hP1 hD1
  rw [List.append_assoc] at hPx hDx
  have hQNx := qn_app (qn_sub hQN (fun x hx => List.mem_append_left _ hx)) (qn_app (qn_sub hQN (fun x hx => List.mem_append_right _ (List.mem_append_left _ hx))) (qn_new hQAc hD1))
  have hP := hPx
  have hD := hDx
  have hQN := hQNx
  generalize H1 = H at hP hS hQ ⊢
  have hmi9 := hmi
  refine lv_pop hx hb dL_law_464 rfl ?_
  refine lv_goto (tgt := 1128) hx hb dL_law_465 (by decide) ?_
  refine W.widen (k := kc9 + 195) (n := ks9 + 10960) (by omega) (by omega) ?_
  exact kk H _ ls tp bk mb mu rd cm wk pp so ty li w_7 td fk fpl un mk x0 x1 q0 q1 q2 q3 q4 q5 q6 q7 r ctp cmb cmu cb0 cb1 cb2 cli cpp cso cty ftp fmu fb0 fb1 fb2 fli fpp fso fty fmb spn kG cg9 fG o3 r3 c3 f3 n3 e4 t4 s4 R4 ct4 cs4 ft4 fs4 m4 e5 t5 s5 R5 ct5 cs5 ft5 fs5 m5 kC cC fC kF cF fF kT cT fT kA kB cA9 cB ad ca vi vl vf W9 T9 B9 zad zkc zx_13 zx1 zx2 zx3 zx4 zx5 zx6 zx7 zx8 zx9 zx10 zx11 zx12 zx13 zx14 zx15 zx16 zx17 zx18 zx19 zx20 zx21 zf0 zf1 zf2 zf3 zf4 zf5 zf6 zf7 zf8 zf9 zf10 zf11 zf12 zf13 zf14 zf15 zf16 zf17 zf18 zf19 zf20 zf21 zL zN zP zM zO hs1 hs2 ha3 hb3 hR4 hU4 hc4 hd4 hb_fs4 hR5 hU5 hc5 hd5 hb_fs5 hG (by omega) (by omega) hM hB9 hbk rfl hmi9 (by omega) (by omega) hrt hK hKC hKM hKQ hP hD hQ hQN hS hl
theorem dL_law_468 : decode cL_law 468 = .ok (.aload_n 1, 1) := by decide +kernel
theorem dL_law_469 : decode cL_law 469 = .ok (.aload_n 0, 1) := by decide +kernel
theorem dL_law_470 : decode cL_law 470 = .ok (.iload_n 3, 1) := by decide +kernel
theorem dL_law_471 : decode cL_law 471 = .ok (.iconst 1, 1) := by decide +kernel
theorem dL_law_472 : decode cL_law 472 = .ok (.iadd, 1) := by decide +kernel
theorem dL_law_473 : decode cL_law 473 = .ok (.iaload, 1) := by decide +kernel
theorem dL_law_474 : decode cL_law 474 = .ok (.aload_n 0, 1) := by decide +kernel
theorem dL_law_475 : decode cL_law 475 = .ok (.iload_n 3, 1) := by decide +kernel
theorem dL_law_476 : decode cL_law 476 = .ok (.iconst 2, 1) := by decide +kernel
theorem dL_law_477 : decode cL_law 477 = .ok (.iadd, 1) := by decide +kernel
theorem dL_law_478 : decode cL_law 478 = .ok (.iaload, 1) := by decide +kernel
theorem dL_law_479 : decode cL_law 479 = .ok (.aload_n 0, 1) := by decide +kernel
theorem dL_law_480 : decode cL_law 480 = .ok (.iload_n 3, 1) := by decide +kernel
theorem dL_law_481 : decode cL_law 481 = .ok (.iconst 3, 1) := by decide +kernel
theorem dL_law_482 : decode cL_law 482 = .ok (.iadd, 1) := by decide +kernel
theorem dL_law_483 : decode cL_law 483 = .ok (.iaload, 1) := by decide +kernel
theorem dL_law_484 : decode cL_law 484 = .ok (.invokevirtual 57, 3) := by decide +kernel
theorem dL_law_487 : decode cL_law 487 = .ok (.pop, 1) := by decide +kernel
theorem dL_law_488 : decode cL_law 488 = .ok (.aload_n 2, 1) := by decide +kernel
theorem dL_law_489 : decode cL_law 489 = .ok (.aload_n 0, 1) := by decide +kernel
theorem dL_law_490 : decode cL_law 490 = .ok (.iload_n 3, 1) := by decide +kernel
theorem dL_law_491 : decode cL_law 491 = .ok (.iconst 1, 1) := by decide +kernel
theorem dL_law_492 : decode cL_law 492 = .ok (.iadd, 1) := by decide +kernel
theorem dL_law_493 : decode cL_law 493 = .ok (.iaload, 1) := by decide +kernel
theorem dL_law_494 : decode cL_law 494 = .ok (.aload_n 0, 1) := by decide +kernel
theorem dL_law_495 : decode cL_law 495 = .ok (.iload_n 3, 1) := by decide +kernel
theorem dL_law_496 : decode cL_law 496 = .ok (.iconst 2, 1) := by decide +kernel
theorem dL_law_497 : decode cL_law 497 = .ok (.iadd, 1) := by decide +kernel
theorem dL_law_498 : decode cL_law 498 = .ok (.iaload, 1) := by decide +kernel
theorem dL_law_499 : decode cL_law 499 = .ok (.aload_n 0, 1) := by decide +kernel
theorem dL_law_500 : decode cL_law 500 = .ok (.iload_n 3, 1) := by decide +kernel
theorem dL_law_501 : decode cL_law 501 = .ok (.iconst 3, 1) := by decide +kernel
theorem dL_law_502 : decode cL_law 502 = .ok (.iadd, 1) := by decide +kernel
theorem dL_law_503 : decode cL_law 503 = .ok (.iaload, 1) := by decide +kernel
theorem dL_law_504 : decode cL_law 504 = .ok (.invokevirtual 61, 3) := by decide +kernel
theorem dL_law_507 : decode cL_law 507 = .ok (.pop, 1) := by decide +kernel
theorem dL_law_508 : decode cL_law 508 = .ok (.goto 620, 3) := by decide +kernel
set_option maxHeartbeats 4000000 in
set_option maxRecDepth 100000 in
/-- the law: exact -/
theorem law_case10 {p : Program} {l : Launch} {e : Env} {s : State} {m : MethodId} {below : List Frame} {meth : Method} {c : Code} {dC : Nat → ClassId} {dI : Nat → Nat → Nat} {b L : Nat} {xs : Nat → Int32} (hLL : L ≤ 3072) (C0 : lw_At p s m meth c b L xs) (hLX : LX s) {gt mo : Nat} {H : Heap} {locs : List Loc} {kc9 ks9 : Nat} (hc9 : kc9 + 195 ≤ 600000) (hs9 : ks9 + 10960 ≤ 7302250) {ii : Int32} (hii : 0 ≤ ii.toInt ∧ ii.toInt + 6 ≤ L) {ls : Array Slot} (kk : ∀ (H1 : Heap) (locs1 : List Loc) (ls : Array Slot), LI dC dI s gt mo H1 (va_S (fun q : Nat => s.heap.size ≤ q) s.heap H1 locs1 → lv_has ls 4 [(3, .int ii), (2, .ref mo), (1, .ref gt), (0, .ref b)] → W p l e room_1 s m #[Value.ref b] below meth c H1 locs1 (kc9 + 195) (ks9 + 10960) (lw_Z below #[Value.ref b] s) (F0 m 1128 ls []))) : LI dC dI s gt mo H (va_S (fun q : Nat => s.heap.size ≤ q) s.heap H locs → lv_has ls 4 [(3, .int ii), (2, .ref mo), (1, .ref gt), (0, .ref b)] → W p l e room_1 s m #[Value.ref b] below meth c H locs kc9 ks9 (lw_Z below #[Value.ref b] s) (F0 m 468 ls [])) := by
  obtain ⟨hx, hb, hr, hml, hown, hts, hX, hbl, hlocks, hgv⟩ := id C0
  have hown : s.vm.findClass RL = some m.cls := hown
  have hA : ∀ q : Nat, s.heap.size ≤ q → (fun q : Nat => s.heap.size ≤ q) q := fun _ h => h
  have hbA : ¬ (fun q : Nat => s.heap.size ≤ q) b := Nat.not_le.mpr hbl
  obtain ⟨hcl, hcld, hAO2, hAO5, hN53, hN160, hSR, hSW, hSR2, hSW2, hOV⟩ := hLX
  unfold LI
  intro tp bk mb mu rd cm wk pp so ty li st9 td fk fpl un mk x0 x1 q0 q1 q2 q3 q4 q5 q6 q7 r ctp cmb cmu cb0 cb1 cb2 cli cpp cso cty ftp fmu fb0 fb1 fb2 fli fpp fso fty fmb spn kG cg9 fG o3 r3 c3 f3 n3 e4 t4 s4 R4 ct4 cs4 ft4 fs4 m4 e5 t5 s5 R5 ct5 cs5 ft5 fs5 m5 kC cC fC kF cF fF kT cT fT kA kB cA9 cB ad ca vi vl vf W9 T9 B9 zad zkc zx0 zx1 zx2 zx3 zx4 zx5 zx6 zx7 zx8 zx9 zx10 zx11 zx12 zx13 zx14 zx15 zx16 zx17 zx18 zx19 zx20 zx21 zf0 zf1 zf2 zf3 zf4 zf5 zf6 zf7 zf8 zf9 zf10 zf11 zf12 zf13 zf14 zf15 zf16 zf17 zf18 zf19 zf20 zf21 zL zN zP zM zO hs1 hs2 ha3 hb3 hR4 hU4 hc4 hd4 hb_fs4 hR5 hU5 hc5 hd5 hb_fs5 hG htd hmk hM hB9 hbk hmo hmi hzk hzt hrt hK hKC hKM hKQ hP hD hQ hQN hS hl
  subst hmo
  have rg_td := i_rng td
  have rg_mk := i_rng mk
  have rg_zx2 := i_rng zx2
  have rg_zx3 := i_rng zx3
  refine lv_aload_n hx hb dL_law_468 rfl (lv_at hl 2 rfl) ?_
  refine lv_aload_n hx hb dL_law_469 rfl (lv_at hl 3 rfl) ?_
  refine lv_iload_n hx hb dL_law_470 rfl (lv_at hl 0 rfl) ?_
  refine lv_iconst (v := 1) hx hb dL_law_471 (by decide) ?_
  refine lv_iadd hx hb dL_law_472 ?_
  refine lv_topi (fun y_1 ey_1 => ?_)
  have ty_1 := i_add (a := ii.toInt) (b := 1) rfl (by decide) ey_1 (by omega) (by omega)
  refine va_sld hx hb hX hbl hbA hS (i := y_1) (vp_of (a := y_1.toInt) rfl (by omega) (by omega)) dL_law_473 ?_
  refine lv_topi (fun y_2 ey_2 => ?_)
  refine lv_aload_n hx hb dL_law_474 rfl (lv_at hl 3 rfl) ?_
  refine lv_iload_n hx hb dL_law_475 rfl (lv_at hl 0 rfl) ?_
  refine lv_iconst (v := 2) hx hb dL_law_476 (by decide) ?_
  refine lv_iadd hx hb dL_law_477 ?_
  refine lv_topi (fun y_3 ey_3 => ?_)
  have ty_3 := i_add (a := ii.toInt) (b := 2) rfl (by decide) ey_3 (by omega) (by omega)
  refine va_sld hx hb hX hbl hbA hS (i := y_3) (vp_of (a := y_3.toInt) rfl (by omega) (by omega)) dL_law_478 ?_
  refine lv_topi (fun y_4 ey_4 => ?_)
  refine lv_aload_n hx hb dL_law_479 rfl (lv_at hl 3 rfl) ?_
  refine lv_iload_n hx hb dL_law_480 rfl (lv_at hl 0 rfl) ?_
  refine lv_iconst (v := 3) hx hb dL_law_481 (by decide) ?_
  refine lv_iadd hx hb dL_law_482 ?_
  refine lv_topi (fun y_5 ey_5 => ?_)
  have ty_5 := i_add (a := ii.toInt) (b := 3) rfl (by decide) ey_5 (by omega) (by omega)
  refine va_sld hx hb hX hbl hbA hS (i := y_5) (vp_of (a := y_5.toInt) rfl (by omega) (by omega)) dL_law_483 ?_
  refine lv_topi (fun y_6 ey_6 => ?_)
  have hPc := hP.sub (ws' := [(gt, .inr (9, [.int st9, .ref tp, .int td, .int fk, .int fpl, .ref bk, .int un, .ref mb, .ref mu, .int mk, .ref rd, .ref cm, .ref wk, .ref pp, .ref so, .ref ty]))]) [0] rfl
  have hKc := hK.sub (tys' := []) [] rfl
  have hDc := hD.sub (ws' := [(gt, .inr (9, [.int st9, .ref tp, .int td, .int fk, .int fpl, .ref bk, .int un, .ref mb, .ref mu, .int mk, .ref rd, .ref cm, .ref wk, .ref pp, .ref so, .ref ty]))]) [0] (by decide) rfl
  have hFc := va_free (wc := [(gt, .inr (9, [.int st9, .ref tp, .int td, .int fk, .int fpl, .ref bk, .int un, .ref mb, .ref mu, .int mk, .ref rd, .ref cm, .ref wk, .ref pp, .ref so, .ref ty]))]) hD hS hA [0] rfl
  have hQAc : ∀ q ∈ W9, ¬ va_A [(gt, .inr (9, [.int st9, .ref tp, .int td, .int fk, .int fpl, .ref bk, .int un, .ref mb, .ref mu, .int mk, .ref rd, .ref cm, .ref wk, .ref pp, .ref so, .ref ty]))] H.size q.1 := qn_A hQ hQN (fun x hx => mem_pl [0] rfl x hx)
  refine va_calli (va_runV (As := [.int y_2, .int y_4, .int y_6]) (rest := []) ⟨hx, hb, hml, hown, hts⟩ (s_g_exact l dC dI W9 T9 B9 gt tp bk mb mu rd cm wk pp so ty st9 td fk fpl un mk H.size y_2 y_4 y_6 hB9 hbk) (cwV 3 hts mg_L_X9_exact rfl rfl rfl (by decide +kernel) ⟨Nat.le_of_ble_eq_true rfl, Nat.le_of_ble_eq_true rfl⟩) ⟨fun a U g mk q => by obtain ⟨q0, q1, qP, qK, qD, qE0, qE1, qE2⟩ := q; exact ⟨q0, q1, qP, va_K.moved (u := U) (U := U.calling g mk a) (Vm.Alike.refl U.vm) qK, qD, qE0, va_K.moved (u := U) (U := U.calling g mk a) (Vm.Alike.refl U.vm) qE1, qE2⟩, va_recv hKc hPc (ci := 9) (q0 := 0) rfl rfl, fun U hU hW => ⟨rfl, by rw [hU], by rw [hU]; exact hPc, va_K.moved hW.alike hKc, hDc.weaken (fun _ _ _ _ => trivial), (by rw [hU]; exact hQ), va_K.moved hW.alike hKQ, hQAc⟩⟩ rfl rfl hl.1 rfl (lv_room (Nat.le_of_ble_eq_true rfl)) dL_law_484 ⟨by show kc9 + 0 ≤ 600000; omega, by show ks9 + 0 ≤ 7302250; omega⟩) hS (fun q _ h => hFc q h) hFc (fun r_7 u_8 t H1 locs ht hvm hw hB hz1 hk1 hS => ?_)
  have hQo := hQ
  have hQ := qn_P hQ hQAc hk1
  obtain ⟨w_9, hP1, hK1, hD1⟩ := hB
  rw [ht] at hP1
  have hQNa := qn_new hQAc hD1
  obtain ⟨hPx, hDx⟩ := va_joinQ (X := [(gt, .inr (9, [.int st9, .ref tp, .int td, .int fk, .int fpl, .ref bk, .int un, .ref mb, .ref mu, .int mk, .ref rd, .ref cm, .ref wk, .ref pp, .ref so, .ref ty])), (tp, .inl (ctp, 900, .inl ftp)), (mb, .inl (cmb, 3, .inr (.inr (.inr (.inr fmb))))), (mu, .inl (cmu, 3, .inl fmu)), (rd, .inr (6, rF r q0 q1 q2 q3 q4 q5 q6 q7)), (r 0, .inl (cb0, 18, .inl fb0)), (r 1, .inl (cb1, 18, .inl fb1)), (r 2, .inl (cb2, 18, .inl fb2)), (wk, .inr (8, [.int x0, .int x1, .ref li])), (li, .inl (cli, 24, .inl fli)), (pp, .inl (cpp, 60, .inl fpp)), (so, .inl (cso, 60, .inl fso)), (ty, .inl (cty, 26, .inl fty)), (cm, .inr (1, [.ref kA, .ref kB, .ref kG, .ref (ad 12 0), .ref o3, .ref e4, .ref e5, .ref kC, .ref kF, .ref kT, .int spn])), (kA, .inl (cA9, 6, .inr (.inr (.inr (.inr (fun i => some (ad i 0))))))), (kB, .inl (cB, 6, .inr (.inr (.inr (.inr (fun i => some (ad (6 + i) 0))))))), (kG, .inl (cg9, 6, .inl fG)), (o3, .inr (7, [.ref r3, .int n3])), (r3, .inl (c3, 6, .inr (.inl f3))), (e4, .inr (3, [.int (nI R4), .ref t4, .ref s4, .int m4])), (t4, .inl (ct4, 24 * R4, .inl ft4)), (s4, .inl (cs4, R4, .inl fs4)), (e5, .inr (3, [.int (nI R5), .ref t5, .ref s5, .int m5])), (t5, .inl (ct5, 24 * R5, .inl ft5)), (s5, .inl (cs5, R5, .inl fs5)), (kC, .inl (cC, 24, .inl fC)), (kF, .inl (cF, 24, .inl fF)), (kT, .inl (cT, 26, .inl fT))]) (cx := [(gt, .inr (9, [.int st9, .ref tp, .int td, .int fk, .int fpl, .ref bk, .int un, .ref mb, .ref mu, .int mk, .ref rd, .ref cm, .ref wk, .ref pp, .ref so, .ref ty]))]) (wr := [(tp, .inl (ctp, 900, .inl ftp)), (mb, .inl (cmb, 3, .inr (.inr (.inr (.inr fmb))))), (mu, .inl (cmu, 3, .inl fmu)), (rd, .inr (6, rF r q0 q1 q2 q3 q4 q5 q6 q7)), (r 0, .inl (cb0, 18, .inl fb0)), (r 1, .inl (cb1, 18, .inl fb1)), (r 2, .inl (cb2, 18, .inl fb2)), (wk, .inr (8, [.int x0, .int x1, .ref li])), (li, .inl (cli, 24, .inl fli)), (pp, .inl (cpp, 60, .inl fpp)), (so, .inl (cso, 60, .inl fso)), (ty, .inl (cty, 26, .inl fty)), (cm, .inr (1, [.ref kA, .ref kB, .ref kG, .ref (ad 12 0), .ref o3, .ref e4, .ref e5, .ref kC, .ref kF, .ref kT, .int spn])), (kA, .inl (cA9, 6, .inr (.inr (.inr (.inr (fun i => some (ad i 0))))))), (kB, .inl (cB, 6, .inr (.inr (.inr (.inr (fun i => some (ad (6 + i) 0))))))), (kG, .inl (cg9, 6, .inl fG)), (o3, .inr (7, [.ref r3, .int n3])), (r3, .inl (c3, 6, .inr (.inl f3))), (e4, .inr (3, [.int (nI R4), .ref t4, .ref s4, .int m4])), (t4, .inl (ct4, 24 * R4, .inl ft4)), (s4, .inl (cs4, R4, .inl fs4)), (e5, .inr (3, [.int (nI R5), .ref t5, .ref s5, .int m5])), (t5, .inl (ct5, 24 * R5, .inl ft5)), (s5, .inl (cs5, R5, .inl fs5)), (kC, .inl (cC, 24, .inl fC)), (kF, .inl (cF, 24, .inl fF)), (kT, .inl (cT, 26, .inl fT))]) (w1 := [(gt, .inr (9, [.int w_9, .ref tp, .int td, .int fk, .int fpl, .ref bk, .int un, .ref mb, .ref mu, .int mk, .ref rd, .ref cm, .ref wk, .ref pp, .ref so, .ref ty]))]) (pl := (cPL ad ca vi vl vf (List.range 13) ++ mW zad zkc zx0 zx1 zx2 zx3 zx4 zx5 zx6 zx7 zx8 zx9 zx10 zx11 zx12 zx13 zx14 zx15 zx16 zx17 zx18 zx19 zx20 zx21 zf0 zf1 zf2 zf3 zf4 zf5 zf6 zf7 zf8 zf9 zf10 zf11 zf12 zf13 zf14 zf15 zf16 zf17 zf18 zf19 zf20 zf21 zL zN zP zM zO)) hP hD [0] [1, 2, 3, 4, 5, 6, 7, 8, 9, 10, 11, 12, 13, 14, 15, 16, 17, 18, 19, 20, 21, 22, 23, 24, 25, 26, 27] rfl rfl (by decide) (by decide) hk1 hFc hP1 hD1
  have hPx := t_P (cx := [(gt, .inr (9, [.int w_9, .ref tp, .int td, .int fk, .int fpl, .ref bk, .int un, .ref mb, .ref mu, .int mk, .ref rd, .ref cm, .ref wk, .ref pp, .ref so, .ref ty])), (tp, .inl (ctp, 900, .inl ftp)), (mb, .inl (cmb, 3, .inr (.inr (.inr (.inr fmb))))), (mu, .inl (cmu, 3, .inl fmu)), (rd, .inr (6, rF r q0 q1 q2 q3 q4 q5 q6 q7)), (r 0, .inl (cb0, 18, .inl fb0)), (r 1, .inl (cb1, 18, .inl fb1)), (r 2, .inl (cb2, 18, .inl fb2)), (wk, .inr (8, [.int x0, .int x1, .ref li])), (li, .inl (cli, 24, .inl fli)), (pp, .inl (cpp, 60, .inl fpp)), (so, .inl (cso, 60, .inl fso)), (ty, .inl (cty, 26, .inl fty)), (cm, .inr (1, [.ref kA, .ref kB, .ref kG, .ref (ad 12 0), .ref o3, .ref e4, .ref e5, .ref kC, .ref kF, .ref kT, .int spn])), (kA, .inl (cA9, 6, .inr (.inr (.inr (.inr (fun i => some (ad i 0))))))), (kB, .inl (cB, 6, .inr (.inr (.inr (.inr (fun i => some (ad (6 + i) 0))))))), (kG, .inl (cg9, 6, .inl fG)), (o3, .inr (7, [.ref r3, .int n3])), (r3, .inl (c3, 6, .inr (.inl f3))), (e4, .inr (3, [.int (nI R4), .ref t4, .ref s4, .int m4])), (t4, .inl (ct4, 24 * R4, .inl ft4)), (s4, .inl (cs4, R4, .inl fs4)), (e5, .inr (3, [.int (nI R5), .ref t5, .ref s5, .int m5])), (t5, .inl (ct5, 24 * R5, .inl ft5)), (s5, .inl (cs5, R5, .inl fs5)), (kC, .inl (cC, 24, .inl fC)), (kF, .inl (cF, 24, .inl fF)), (kT, .inl (cT, 26, .inl fT))]) hPx [27, 0, 1, 2, 3, 4, 5, 6, 7, 8, 9, 10, 11, 12, 13, 14, 15, 16, 17, 18, 19, 20, 21, 22, 23, 24, 25, 26] rfl
  have hDx := va_D.part (cx := [(gt, .inr (9, [.int w_9, .ref tp, .int td, .int fk, .int fpl, .ref bk, .int un, .ref mb, .ref mu, .int mk, .ref rd, .ref cm, .ref wk, .ref pp, .ref so, .ref ty])), (tp, .inl (ctp, 900, .inl ftp)), (mb, .inl (cmb, 3, .inr (.inr (.inr (.inr fmb))))), (mu, .inl (cmu, 3, .inl fmu)), (rd, .inr (6, rF r q0 q1 q2 q3 q4 q5 q6 q7)), (r 0, .inl (cb0, 18, .inl fb0)), (r 1, .inl (cb1, 18, .inl fb1)), (r 2, .inl (cb2, 18, .inl fb2)), (wk, .inr (8, [.int x0, .int x1, .ref li])), (li, .inl (cli, 24, .inl fli)), (pp, .inl (cpp, 60, .inl fpp)), (so, .inl (cso, 60, .inl fso)), (ty, .inl (cty, 26, .inl fty)), (cm, .inr (1, [.ref kA, .ref kB, .ref kG, .ref (ad 12 0), .ref o3, .ref e4, .ref e5, .ref kC, .ref kF, .ref kT, .int spn])), (kA, .inl (cA9, 6, .inr (.inr (.inr (.inr (fun i => some (ad i 0))))))), (kB, .inl (cB, 6, .inr (.inr (.inr (.inr (fun i => some (ad (6 + i) 0))))))), (kG, .inl (cg9, 6, .inl fG)), (o3, .inr (7, [.ref r3, .int n3])), (r3, .inl (c3, 6, .inr (.inl f3))), (e4, .inr (3, [.int (nI R4), .ref t4, .ref s4, .int m4])), (t4, .inl (ct4, 24 * R4, .inl ft4)), (s4, .inl (cs4, R4, .inl fs4)), (e5, .inr (3, [.int (nI R5), .ref t5, .ref s5, .int m5])), (t5, .inl (ct5, 24 * R5, .inl ft5)), (s5, .inl (cs5, R5, .inl fs5)), (kC, .inl (cC, 24, .inl fC)), (kF, .inl (cF, 24, .inl fF)), (kT, .inl (cT, 26, .inl fT))]) hDx [27, 0, 1, 2, 3, 4, 5, 6, 7, 8, 9, 10, 11, 12, 13, 14, 15, 16, 17, 18, 19, 20, 21, 22, 23, 24, 25, 26] (by decide) rfl
  have hm9 : List.map Prod.fst ([(gt, .inr (9, [.int w_9, .ref tp, .int td, .int fk, .int fpl, .ref bk, .int un, .ref mb, .ref mu, .int mk, .ref rd, .ref cm, .ref wk, .ref pp, .ref so, .ref ty])), (tp, .inl (ctp, 900, .inl ftp)), (mb, .inl (cmb, 3, .inr (.inr (.inr (.inr fmb))))), (mu, .inl (cmu, 3, .inl fmu)), (rd, .inr (6, rF r q0 q1 q2 q3 q4 q5 q6 q7)), (r 0, .inl (cb0, 18, .inl fb0)), (r 1, .inl (cb1, 18, .inl fb1)), (r 2, .inl (cb2, 18, .inl fb2)), (wk, .inr (8, [.int x0, .int x1, .ref li])), (li, .inl (cli, 24, .inl fli)), (pp, .inl (cpp, 60, .inl fpp)), (so, .inl (cso, 60, .inl fso)), (ty, .inl (cty, 26, .inl fty)), (cm, .inr (1, [.ref kA, .ref kB, .ref kG, .ref (ad 12 0), .ref o3, .ref e4, .ref e5, .ref kC, .ref kF, .ref kT, .int spn])), (kA, .inl (cA9, 6, .inr (.inr (.inr (.inr (fun i => some (ad i 0))))))), (kB, .inl (cB, 6, .inr (.inr (.inr (.inr (fun i => some (ad (6 + i) 0))))))), (kG, .inl (cg9, 6, .inl fG)), (o3, .inr (7, [.ref r3, .int n3])), (r3, .inl (c3, 6, .inr (.inl f3))), (e4, .inr (3, [.int (nI R4), .ref t4, .ref s4, .int m4])), (t4, .inl (ct4, 24 * R4, .inl ft4)), (s4, .inl (cs4, R4, .inl fs4)), (e5, .inr (3, [.int (nI R5), .ref t5, .ref s5, .int m5])), (t5, .inl (ct5, 24 * R5, .inl ft5)), (s5, .inl (cs5, R5, .inl fs5)), (kC, .inl (cC, 24, .inl fC)), (kF, .inl (cF, 24, .inl fF)), (kT, .inl (cT, 26, .inl fT))] ++ (cPL ad ca vi vl vf (List.range 13) ++ mW zad zkc zx0 zx1 zx2 zx3 zx4 zx5 zx6 zx7 zx8 zx9 zx10 zx11 zx12 zx13 zx14 zx15 zx16 zx17 zx18 zx19 zx20 zx21 zf0 zf1 zf2 zf3 zf4 zf5 zf6 zf7 zf8 zf9 zf10 zf11 zf12 zf13 zf14 zf15 zf16 zf17 zf18 zf19 zf20 zf21 zL zN zP zM zO) : va_W) = List.map Prod.fst ([(gt, .inr (9, [.int st9, .ref tp, .int td, .int fk, .int fpl, .ref bk, .int un, .ref mb, .ref mu, .int mk, .ref rd, .ref cm, .ref wk, .ref pp, .ref so, .ref ty])), (tp, .inl (ctp, 900, .inl ftp)), (mb, .inl (cmb, 3, .inr (.inr (.inr (.inr fmb))))), (mu, .inl (cmu, 3, .inl fmu)), (rd, .inr (6, rF r q0 q1 q2 q3 q4 q5 q6 q7)), (r 0, .inl (cb0, 18, .inl fb0)), (r 1, .inl (cb1, 18, .inl fb1)), (r 2, .inl (cb2, 18, .inl fb2)), (wk, .inr (8, [.int x0, .int x1, .ref li])), (li, .inl (cli, 24, .inl fli)), (pp, .inl (cpp, 60, .inl fpp)), (so, .inl (cso, 60, .inl fso)), (ty, .inl (cty, 26, .inl fty)), (cm, .inr (1, [.ref kA, .ref kB, .ref kG, .ref (ad 12 0), .ref o3, .ref e4, .ref e5, .ref kC, .ref kF, .ref kT, .int spn])), (kA, .inl (cA9, 6, .inr (.inr (.inr (.inr (fun i => some (ad i 0))))))), (kB, .inl (cB, 6, .inr (.inr (.inr (.inr (fun i => some (ad (6 + i) 0))))))), (kG, .inl (cg9, 6, .inl fG)), (o3, .inr (7, [.ref r3, .int n3])), (r3, .inl (c3, 6, .inr (.inl f3))), (e4, .inr (3, [.int (nI R4), .ref t4, .ref s4, .int m4])), (t4, .inl (ct4, 24 * R4, .inl ft4)), (s4, .inl (cs4, R4, .inl fs4)), (e5, .inr (3, [.int (nI R5), .ref t5, .ref s5, .int m5])), (t5, .inl (ct5, 24 * R5, .inl ft5)), (s5, .inl (cs5, R5, .inl fs5)), (kC, .inl (cC, 24, .inl fC)), (kF, .inl (cF, 24, .inl fF)), (kT, .inl (cT, 26, .inl fT))] ++ (cPL ad ca vi vl vf (List.range 13) ++ mW zad zkc zx0 zx1 zx2 zx3 zx4 zx5 zx6 zx7 zx8 zx9 zx10 zx11 zx12 zx13 zx14 zx15 zx16 zx17 zx18 zx19 zx20 zx21 zf0 zf1 zf2 zf3 zf4 zf5 zf6 zf7 zf8 zf9 zf10 zf11 zf12 zf13 zf14 zf15 zf16 zf17 zf18 zf19 zf20 zf21 zL zN zP zM zO) : va_W) := rfl
  have hQNx := qn_fst hQN hm9
  have hQN := hQNx
  clear hQNx hQAc hFc hDc hPc hKc
  have hP := hPx
  have hD := hDx
  clear hPx hDx
  generalize H1 = H at hP hS hQ ⊢
  refine lv_pop hx hb dL_law_487 rfl ?_
  refine lv_aload_n hx hb dL_law_488 rfl (lv_at hl 1 rfl) ?_
  refine lv_aload_n hx hb dL_law_489 rfl (lv_at hl 3 rfl) ?_
  refine lv_iload_n hx hb dL_law_490 rfl (lv_at hl 0 rfl) ?_
  refine lv_iconst (v := 1) hx hb dL_law_491 (by decide) ?_
  refine lv_iadd hx hb dL_law_492 ?_
  refine lv_topi (fun y_10 ey_10 => ?_)
  have ty_10 := i_add (a := ii.toInt) (b := 1) rfl (by decide) ey_10 (by omega) (by omega)
  refine va_sld hx hb hX hbl hbA hS (i := y_10) (vp_of (a := y_10.toInt) rfl (by omega) (by omega)) dL_law_493 ?_
  refine lv_topi (fun y_11 ey_11 => ?_)
  have e_y_11 : y_11 = y_2 := by rw [ey_11, ey_2, ey_10, ey_1]
  have q_y_11 : y_11.toInt = y_2.toInt := by rw [ey_11, ey_2, ey_10, ey_1]
  refine lv_aload_n hx hb dL_law_494 rfl (lv_at hl 3 rfl) ?_
  refine lv_iload_n hx hb dL_law_495 rfl (lv_at hl 0 rfl) ?_
  refine lv_iconst (v := 2) hx hb dL_law_496 (by decide) ?_
  refine lv_iadd hx hb dL_law_497 ?_
  refine lv_topi (fun y_12 ey_12 => ?_)
  have ty_12 := i_add (a := ii.toInt) (b := 2) rfl (by decide) ey_12 (by omega) (by omega)
  refine va_sld hx hb hX hbl hbA hS (i := y_12) (vp_of (a := y_12.toInt) rfl (by omega) (by omega)) dL_law_498 ?_
  refine lv_topi (fun y_13 ey_13 => ?_)
  have e_y_13 : y_13 = y_4 := by rw [ey_13, ey_4, ey_12, ey_3]
  have q_y_13 : y_13.toInt = y_4.toInt := by rw [ey_13, ey_4, ey_12, ey_3]
  refine lv_aload_n hx hb dL_law_499 rfl (lv_at hl 3 rfl) ?_
  refine lv_iload_n hx hb dL_law_500 rfl (lv_at hl 0 rfl) ?_
  refine lv_iconst (v := 3) hx hb dL_law_501 (by decide) ?_
  refine lv_iadd hx hb dL_law_502 ?_
  refine lv_topi (fun y_14 ey_14 => ?_)
  have ty_14 := i_add (a := ii.toInt) (b := 3) rfl (by decide) ey_14 (by omega) (by omega)
  refine va_sld hx hb hX hbl hbA hS (i := y_14) (vp_of (a := y_14.toInt) rfl (by omega) (by omega)) dL_law_503 ?_
  refine lv_topi (fun y_15 ey_15 => ?_)
  have e_y_15 : y_15 = y_6 := by rw [ey_15, ey_6, ey_14, ey_5]
  have q_y_15 : y_15.toInt = y_6.toInt := by rw [ey_15, ey_6, ey_14, ey_5]
  have hPc : va_P (dC, dI) vwCl (mW zad zkc zx0 zx1 zx2 zx3 zx4 zx5 zx6 zx7 zx8 zx9 zx10 zx11 zx12 zx13 zx14 zx15 zx16 zx17 zx18 zx19 zx20 zx21 zf0 zf1 zf2 zf3 zf4 zf5 zf6 zf7 zf8 zf9 zf10 zf11 zf12 zf13 zf14 zf15 zf16 zf17 zf18 zf19 zf20 zf21 zL zN zP zM zO) H := p_sub hP (fun _ hq => List.mem_append_right _ (List.mem_append_right _ hq))
  have hKc := hKM
  have hDc : va_D (fun q : Nat => s.heap.size ≤ q) (mW zad zkc zx0 zx1 zx2 zx3 zx4 zx5 zx6 zx7 zx8 zx9 zx10 zx11 zx12 zx13 zx14 zx15 zx16 zx17 zx18 zx19 zx20 zx21 zf0 zf1 zf2 zf3 zf4 zf5 zf6 zf7 zf8 zf9 zf10 zf11 zf12 zf13 zf14 zf15 zf16 zf17 zf18 zf19 zf20 zf21 zL zN zP zM zO) := D_right (D_right hD)
  have hFc := m_free hDc hS hA
  have hQAc : ∀ q ∈ W9, ¬ va_A (mW zad zkc zx0 zx1 zx2 zx3 zx4 zx5 zx6 zx7 zx8 zx9 zx10 zx11 zx12 zx13 zx14 zx15 zx16 zx17 zx18 zx19 zx20 zx21 zf0 zf1 zf2 zf3 zf4 zf5 zf6 zf7 zf8 zf9 zf10 zf11 zf12 zf13 zf14 zf15 zf16 zf17 zf18 zf19 zf20 zf21 zL zN zP zM zO) H.size q.1 := qn_A hQ hQN (fun x hx => List.mem_append_right _ (List.mem_append_right _ hx))
  refine va_calli (va_runV (As := [.int y_11, .int y_13, .int y_15]) (rest := []) ⟨hx, hb, hml, hown, hts⟩ (m_exact l dC dI zad zkc zx0 zx1 zx2 zx3 zx4 zx5 zx6 zx7 zx8 zx9 zx10 zx11 zx12 zx13 zx14 zx15 zx16 zx17 zx18 zx19 zx20 zx21 zf0 zf1 zf2 zf3 zf4 zf5 zf6 zf7 zf8 zf9 zf10 zf11 zf12 zf13 zf14 zf15 zf16 zf17 zf18 zf19 zf20 zf21 zL zN zP zM zO H.size y_11 y_13 y_15 hmi) (cwV 3 hts mg_L_X10_exact rfl rfl rfl (by decide +kernel) ⟨Nat.le_of_ble_eq_true rfl, Nat.le_of_ble_eq_true rfl⟩) ⟨fun a U g mk q => by obtain ⟨q0, q1, qP, qK, qD, qE0⟩ := q; exact ⟨q0, q1, qP, va_K.moved (u := U) (U := U.calling g mk a) (Vm.Alike.refl U.vm) qK, qD, over_moved (u := U) (E := U.calling g mk a) (Vm.Alike.refl U.vm) qE0⟩, va_recv hKc hPc (ci := 10) (q0 := 0) rfl rfl, fun U hU hW => ⟨rfl, by rw [hU], by rw [hU]; exact hPc, va_K.moved hW.alike hKc, hDc.weaken (fun _ _ _ _ => trivial), over_moved hW.alike hOV⟩⟩ rfl rfl hl.1 rfl (lv_room (Nat.le_of_ble_eq_true rfl)) dL_law_504 ⟨by show kc9 + 0 ≤ 600000; omega, by show ks9 + 0 ≤ 7302250; omega⟩) hS (fun q _ h => hFc q h) hFc (fun r_16 u t H1 locs ht hvm hw hB hz1 hk1 hS => ?_)
  have hQo := hQ
  have hQ := qn_P hQ hQAc hk1
  have hwu := hw
  have hwt_r_16 := congrArg Int32.toInt hw
  obtain ⟨zx_17, zx_18, zx_19, zx_20, zx_21, zx_22, zx_23, zx_24, zx_25, zf_26, zf_27, zf_28, zf_29, zf_30, zf_31, zf_32, zf_33, zf_34, zL_35, zNn_36, zP_37, zM_38, zO_39, h_40, hP1, hK1, hD1⟩ := hB
  rw [ht] at hP1
  have rg_zx_17 := i_rng zx_17
  have rg_zx_18 := i_rng zx_18
  have rg_zx_19 := i_rng zx_19
  have rg_zx_20 := i_rng zx_20
  have rg_zx_21 := i_rng zx_21
  have rg_zx_22 := i_rng zx_22
  have rg_zx_23 := i_rng zx_23
  have rg_zx_24 := i_rng zx_24
  have rg_zx_25 := i_rng zx_25
  have hass := (pm_as (a := [(gt, .inr (9, [.int w_9, .ref tp, .int td, .int fk, .int fpl, .ref bk, .int un, .ref mb, .ref mu, .int mk, .ref rd, .ref cm, .ref wk, .ref pp, .ref so, .ref ty])), (tp, .inl (ctp, 900, .inl ftp)), (mb, .inl (cmb, 3, .inr (.inr (.inr (.inr fmb))))), (mu, .inl (cmu, 3, .inl fmu)), (rd, .inr (6, rF r q0 q1 q2 q3 q4 q5 q6 q7)), (r 0, .inl (cb0, 18, .inl fb0)), (r 1, .inl (cb1, 18, .inl fb1)), (r 2, .inl (cb2, 18, .inl fb2)), (wk, .inr (8, [.int x0, .int x1, .ref li])), (li, .inl (cli, 24, .inl fli)), (pp, .inl (cpp, 60, .inl fpp)), (so, .inl (cso, 60, .inl fso)), (ty, .inl (cty, 26, .inl fty)), (cm, .inr (1, [.ref kA, .ref kB, .ref kG, .ref (ad 12 0), .ref o3, .ref e4, .ref e5, .ref kC, .ref kF, .ref kT, .int spn])), (kA, .inl (cA9, 6, .inr (.inr (.inr (.inr (fun i => some (ad i 0))))))), (kB, .inl (cB, 6, .inr (.inr (.inr (.inr (fun i => some (ad (6 + i) 0))))))), (kG, .inl (cg9, 6, .inl fG)), (o3, .inr (7, [.ref r3, .int n3])), (r3, .inl (c3, 6, .inr (.inl f3))), (e4, .inr (3, [.int (nI R4), .ref t4, .ref s4, .int m4])), (t4, .inl (ct4, 24 * R4, .inl ft4)), (s4, .inl (cs4, R4, .inl fs4)), (e5, .inr (3, [.int (nI R5), .ref t5, .ref s5, .int m5])), (t5, .inl (ct5, 24 * R5, .inl ft5)), (s5, .inl (cs5, R5, .inl fs5)), (kC, .inl (cC, 24, .inl fC)), (kF, .inl (cF, 24, .inl fF)), (kT, .inl (cT, 26, .inl fT))]) (b := cPL ad ca vi vl vf (List.range 13)) (c := mW zad zkc zx0 zx1 zx2 zx3 zx4 zx5 zx6 zx7 zx8 zx9 zx10 zx11 zx12 zx13 zx14 zx15 zx16 zx17 zx18 zx19 zx20 zx21 zf0 zf1 zf2 zf3 zf4 zf5 zf6 zf7 zf8 zf9 zf10 zf11 zf12 zf13 zf14 zf15 zf16 zf17 zf18 zf19 zf20 zf21 zL zN zP zM zO)).symm
  obtain ⟨hPx, hDx⟩ := pm_join hP hD hass hk1 hFc hP1 hD1
  rw [List.append_assoc] at hPx hDx
  have hQNx := qn_app (qn_sub hQN (fun x hx => List.mem_append_left _ hx)) (qn_app (qn_sub hQN (fun x hx => List.mem_append_right _ (List.mem_append_left _ hx))) (qn_new hQAc hD1))
  have hP := hPx
  have hD := hDx
  have hQN := hQNx
  generalize H1 = H at hP hS hQ ⊢
  have hmi9 := hmi.setP h_40
  refine lv_pop hx hb dL_law_507 rfl ?_
  refine lv_goto (tgt := 1128) hx hb dL_law_508 (by decide) ?_
  refine W.widen (k := kc9 + 195) (n := ks9 + 10960) (by omega) (by omega) ?_
  exact kk H _ ls tp bk mb mu rd cm wk pp so ty li w_9 td fk fpl un mk x0 x1 q0 q1 q2 q3 q4 q5 q6 q7 r ctp cmb cmu cb0 cb1 cb2 cli cpp cso cty ftp fmu fb0 fb1 fb2 fli fpp fso fty fmb spn kG cg9 fG o3 r3 c3 f3 n3 e4 t4 s4 R4 ct4 cs4 ft4 fs4 m4 e5 t5 s5 R5 ct5 cs5 ft5 fs5 m5 kC cC fC kF cF fF kT cT fT kA kB cA9 cB ad ca vi vl vf W9 T9 B9 zad zkc zx_17 zx1 zx2 zx3 zx4 zx5 zx6 zx7 zx8 zx9 zx10 zx11 zx_18 zx_19 zx_20 zx_21 zx_22 zx_23 zx_24 zx_25 zx20 zx21 zf0 zf1 zf2 zf_26 zf_27 zf_28 zf_29 zf_30 zf_31 zf_32 zf_33 zf_34 zf12 zf13 zf14 zf15 zf16 zf17 zf18 zf19 zf20 zf21 zL_35 zNn_36 zP_37 zM_38 zO_39 hs1 hs2 ha3 hb3 hR4 hU4 hc4 hd4 hb_fs4 hR5 hU5 hc5 hd5 hb_fs5 hG (by omega) (by omega) hM hB9 hbk rfl hmi9 (by omega) (by omega) hrt hK hKC hKM hKQ hP hD hQ hQN hS hl
theorem dL_law_511 : decode cL_law 511 = .ok (.aload_n 1, 1) := by decide +kernel
theorem dL_law_512 : decode cL_law 512 = .ok (.aload_n 0, 1) := by decide +kernel
theorem dL_law_513 : decode cL_law 513 = .ok (.iload_n 3, 1) := by decide +kernel
theorem dL_law_514 : decode cL_law 514 = .ok (.iconst 1, 1) := by decide +kernel
theorem dL_law_515 : decode cL_law 515 = .ok (.iadd, 1) := by decide +kernel
theorem dL_law_516 : decode cL_law 516 = .ok (.iaload, 1) := by decide +kernel
theorem dL_law_517 : decode cL_law 517 = .ok (.aload_n 0, 1) := by decide +kernel
theorem dL_law_518 : decode cL_law 518 = .ok (.iload_n 3, 1) := by decide +kernel
theorem dL_law_519 : decode cL_law 519 = .ok (.iconst 2, 1) := by decide +kernel
theorem dL_law_520 : decode cL_law 520 = .ok (.iadd, 1) := by decide +kernel
theorem dL_law_521 : decode cL_law 521 = .ok (.iaload, 1) := by decide +kernel
theorem dL_law_522 : decode cL_law 522 = .ok (.aload_n 0, 1) := by decide +kernel
theorem dL_law_523 : decode cL_law 523 = .ok (.iload_n 3, 1) := by decide +kernel
theorem dL_law_524 : decode cL_law 524 = .ok (.iconst 3, 1) := by decide +kernel
theorem dL_law_525 : decode cL_law 525 = .ok (.iadd, 1) := by decide +kernel
theorem dL_law_526 : decode cL_law 526 = .ok (.iaload, 1) := by decide +kernel
theorem dL_law_527 : decode cL_law 527 = .ok (.invokevirtual 62, 3) := by decide +kernel
theorem dL_law_530 : decode cL_law 530 = .ok (.pop, 1) := by decide +kernel
theorem dL_law_531 : decode cL_law 531 = .ok (.aload_n 2, 1) := by decide +kernel
theorem dL_law_532 : decode cL_law 532 = .ok (.aload_n 0, 1) := by decide +kernel
theorem dL_law_533 : decode cL_law 533 = .ok (.iload_n 3, 1) := by decide +kernel
theorem dL_law_534 : decode cL_law 534 = .ok (.iconst 1, 1) := by decide +kernel
theorem dL_law_535 : decode cL_law 535 = .ok (.iadd, 1) := by decide +kernel
theorem dL_law_536 : decode cL_law 536 = .ok (.iaload, 1) := by decide +kernel
theorem dL_law_537 : decode cL_law 537 = .ok (.aload_n 0, 1) := by decide +kernel
theorem dL_law_538 : decode cL_law 538 = .ok (.iload_n 3, 1) := by decide +kernel
theorem dL_law_539 : decode cL_law 539 = .ok (.iconst 2, 1) := by decide +kernel
theorem dL_law_540 : decode cL_law 540 = .ok (.iadd, 1) := by decide +kernel
theorem dL_law_541 : decode cL_law 541 = .ok (.iaload, 1) := by decide +kernel
theorem dL_law_542 : decode cL_law 542 = .ok (.aload_n 0, 1) := by decide +kernel
theorem dL_law_543 : decode cL_law 543 = .ok (.iload_n 3, 1) := by decide +kernel
theorem dL_law_544 : decode cL_law 544 = .ok (.iconst 3, 1) := by decide +kernel
theorem dL_law_545 : decode cL_law 545 = .ok (.iadd, 1) := by decide +kernel
theorem dL_law_546 : decode cL_law 546 = .ok (.iaload, 1) := by decide +kernel
theorem dL_law_547 : decode cL_law 547 = .ok (.invokevirtual 65, 3) := by decide +kernel
theorem dL_law_550 : decode cL_law 550 = .ok (.pop, 1) := by decide +kernel
theorem dL_law_551 : decode cL_law 551 = .ok (.goto 577, 3) := by decide +kernel
set_option maxHeartbeats 4000000 in
set_option maxRecDepth 100000 in
/-- the law: need -/
theorem law_case11 {p : Program} {l : Launch} {e : Env} {s : State} {m : MethodId} {below : List Frame} {meth : Method} {c : Code} {dC : Nat → ClassId} {dI : Nat → Nat → Nat} {b L : Nat} {xs : Nat → Int32} (hLL : L ≤ 3072) (C0 : lw_At p s m meth c b L xs) (hLX : LX s) {gt mo : Nat} {H : Heap} {locs : List Loc} {kc9 ks9 : Nat} (hc9 : kc9 + 195 ≤ 600000) (hs9 : ks9 + 10960 ≤ 7302250) {ii : Int32} (hii : 0 ≤ ii.toInt ∧ ii.toInt + 6 ≤ L) {ls : Array Slot} (kk : ∀ (H1 : Heap) (locs1 : List Loc) (ls : Array Slot), LI dC dI s gt mo H1 (va_S (fun q : Nat => s.heap.size ≤ q) s.heap H1 locs1 → lv_has ls 4 [(3, .int ii), (2, .ref mo), (1, .ref gt), (0, .ref b)] → W p l e room_1 s m #[Value.ref b] below meth c H1 locs1 (kc9 + 195) (ks9 + 10960) (lw_Z below #[Value.ref b] s) (F0 m 1128 ls []))) : LI dC dI s gt mo H (va_S (fun q : Nat => s.heap.size ≤ q) s.heap H locs → lv_has ls 4 [(3, .int ii), (2, .ref mo), (1, .ref gt), (0, .ref b)] → W p l e room_1 s m #[Value.ref b] below meth c H locs kc9 ks9 (lw_Z below #[Value.ref b] s) (F0 m 511 ls [])) := by
  obtain ⟨hx, hb, hr, hml, hown, hts, hX, hbl, hlocks, hgv⟩ := id C0
  have hown : s.vm.findClass RL = some m.cls := hown
  have hA : ∀ q : Nat, s.heap.size ≤ q → (fun q : Nat => s.heap.size ≤ q) q := fun _ h => h
  have hbA : ¬ (fun q : Nat => s.heap.size ≤ q) b := Nat.not_le.mpr hbl
  obtain ⟨hcl, hcld, hAO2, hAO5, hN53, hN160, hSR, hSW, hSR2, hSW2, hOV⟩ := hLX
  unfold LI
  intro tp bk mb mu rd cm wk pp so ty li st9 td fk fpl un mk x0 x1 q0 q1 q2 q3 q4 q5 q6 q7 r ctp cmb cmu cb0 cb1 cb2 cli cpp cso cty ftp fmu fb0 fb1 fb2 fli fpp fso fty fmb spn kG cg9 fG o3 r3 c3 f3 n3 e4 t4 s4 R4 ct4 cs4 ft4 fs4 m4 e5 t5 s5 R5 ct5 cs5 ft5 fs5 m5 kC cC fC kF cF fF kT cT fT kA kB cA9 cB ad ca vi vl vf W9 T9 B9 zad zkc zx0 zx1 zx2 zx3 zx4 zx5 zx6 zx7 zx8 zx9 zx10 zx11 zx12 zx13 zx14 zx15 zx16 zx17 zx18 zx19 zx20 zx21 zf0 zf1 zf2 zf3 zf4 zf5 zf6 zf7 zf8 zf9 zf10 zf11 zf12 zf13 zf14 zf15 zf16 zf17 zf18 zf19 zf20 zf21 zL zN zP zM zO hs1 hs2 ha3 hb3 hR4 hU4 hc4 hd4 hb_fs4 hR5 hU5 hc5 hd5 hb_fs5 hG htd hmk hM hB9 hbk hmo hmi hzk hzt hrt hK hKC hKM hKQ hP hD hQ hQN hS hl
  subst hmo
  have rg_td := i_rng td
  have rg_mk := i_rng mk
  have rg_zx2 := i_rng zx2
  have rg_zx3 := i_rng zx3
  refine lv_aload_n hx hb dL_law_511 rfl (lv_at hl 2 rfl) ?_
  refine lv_aload_n hx hb dL_law_512 rfl (lv_at hl 3 rfl) ?_
  refine lv_iload_n hx hb dL_law_513 rfl (lv_at hl 0 rfl) ?_
  refine lv_iconst (v := 1) hx hb dL_law_514 (by decide) ?_
  refine lv_iadd hx hb dL_law_515 ?_
  refine lv_topi (fun y_1 ey_1 => ?_)
  have ty_1 := i_add (a := ii.toInt) (b := 1) rfl (by decide) ey_1 (by omega) (by omega)
  refine va_sld hx hb hX hbl hbA hS (i := y_1) (vp_of (a := y_1.toInt) rfl (by omega) (by omega)) dL_law_516 ?_
  refine lv_topi (fun y_2 ey_2 => ?_)
  refine lv_aload_n hx hb dL_law_517 rfl (lv_at hl 3 rfl) ?_
  refine lv_iload_n hx hb dL_law_518 rfl (lv_at hl 0 rfl) ?_
  refine lv_iconst (v := 2) hx hb dL_law_519 (by decide) ?_
  refine lv_iadd hx hb dL_law_520 ?_
  refine lv_topi (fun y_3 ey_3 => ?_)
  have ty_3 := i_add (a := ii.toInt) (b := 2) rfl (by decide) ey_3 (by omega) (by omega)
  refine va_sld hx hb hX hbl hbA hS (i := y_3) (vp_of (a := y_3.toInt) rfl (by omega) (by omega)) dL_law_521 ?_
  refine lv_topi (fun y_4 ey_4 => ?_)
  refine lv_aload_n hx hb dL_law_522 rfl (lv_at hl 3 rfl) ?_
  refine lv_iload_n hx hb dL_law_523 rfl (lv_at hl 0 rfl) ?_
  refine lv_iconst (v := 3) hx hb dL_law_524 (by decide) ?_
  refine lv_iadd hx hb dL_law_525 ?_
  refine lv_topi (fun y_5 ey_5 => ?_)
  have ty_5 := i_add (a := ii.toInt) (b := 3) rfl (by decide) ey_5 (by omega) (by omega)
  refine va_sld hx hb hX hbl hbA hS (i := y_5) (vp_of (a := y_5.toInt) rfl (by omega) (by omega)) dL_law_526 ?_
  refine lv_topi (fun y_6 ey_6 => ?_)
  have hPc := hP.sub (ws' := [(gt, .inr (9, [.int st9, .ref tp, .int td, .int fk, .int fpl, .ref bk, .int un, .ref mb, .ref mu, .int mk, .ref rd, .ref cm, .ref wk, .ref pp, .ref so, .ref ty]))]) [0] rfl
  have hKc := hK.sub (tys' := []) [] rfl
  have hDc := hD.sub (ws' := [(gt, .inr (9, [.int st9, .ref tp, .int td, .int fk, .int fpl, .ref bk, .int un, .ref mb, .ref mu, .int mk, .ref rd, .ref cm, .ref wk, .ref pp, .ref so, .ref ty]))]) [0] (by decide) rfl
  have hFc := va_free (wc := [(gt, .inr (9, [.int st9, .ref tp, .int td, .int fk, .int fpl, .ref bk, .int un, .ref mb, .ref mu, .int mk, .ref rd, .ref cm, .ref wk, .ref pp, .ref so, .ref ty]))]) hD hS hA [0] rfl
  have hQAc : ∀ q ∈ W9, ¬ va_A [(gt, .inr (9, [.int st9, .ref tp, .int td, .int fk, .int fpl, .ref bk, .int un, .ref mb, .ref mu, .int mk, .ref rd, .ref cm, .ref wk, .ref pp, .ref so, .ref ty]))] H.size q.1 := qn_A hQ hQN (fun x hx => mem_pl [0] rfl x hx)
  refine va_calli (va_runV (As := [.int y_2, .int y_4, .int y_6]) (rest := []) ⟨hx, hb, hml, hown, hts⟩ (s_g_need l dC dI W9 T9 B9 gt tp bk mb mu rd cm wk pp so ty st9 td fk fpl un mk H.size y_2 y_4 y_6 hB9 hbk) (cwV 3 hts mg_L_X9_need rfl rfl rfl (by decide +kernel) ⟨Nat.le_of_ble_eq_true rfl, Nat.le_of_ble_eq_true rfl⟩) ⟨fun a U g mk q => by obtain ⟨q0, q1, qP, qK, qD, qE0, qE1, qE2⟩ := q; exact ⟨q0, q1, qP, va_K.moved (u := U) (U := U.calling g mk a) (Vm.Alike.refl U.vm) qK, qD, qE0, va_K.moved (u := U) (U := U.calling g mk a) (Vm.Alike.refl U.vm) qE1, qE2⟩, va_recv hKc hPc (ci := 9) (q0 := 0) rfl rfl, fun U hU hW => ⟨rfl, by rw [hU], by rw [hU]; exact hPc, va_K.moved hW.alike hKc, hDc.weaken (fun _ _ _ _ => trivial), (by rw [hU]; exact hQ), va_K.moved hW.alike hKQ, hQAc⟩⟩ rfl rfl hl.1 rfl (lv_room (Nat.le_of_ble_eq_true rfl)) dL_law_527 ⟨by show kc9 + 0 ≤ 600000; omega, by show ks9 + 0 ≤ 7302250; omega⟩) hS (fun q _ h => hFc q h) hFc (fun r_7 u_8 t H1 locs ht hvm hw hB hz1 hk1 hS => ?_)
  have hQo := hQ
  have hQ := qn_P hQ hQAc hk1
  obtain ⟨w_9, hP1, hK1, hD1⟩ := hB
  rw [ht] at hP1
  have hQNa := qn_new hQAc hD1
  obtain ⟨hPx, hDx⟩ := va_joinQ (X := [(gt, .inr (9, [.int st9, .ref tp, .int td, .int fk, .int fpl, .ref bk, .int un, .ref mb, .ref mu, .int mk, .ref rd, .ref cm, .ref wk, .ref pp, .ref so, .ref ty])), (tp, .inl (ctp, 900, .inl ftp)), (mb, .inl (cmb, 3, .inr (.inr (.inr (.inr fmb))))), (mu, .inl (cmu, 3, .inl fmu)), (rd, .inr (6, rF r q0 q1 q2 q3 q4 q5 q6 q7)), (r 0, .inl (cb0, 18, .inl fb0)), (r 1, .inl (cb1, 18, .inl fb1)), (r 2, .inl (cb2, 18, .inl fb2)), (wk, .inr (8, [.int x0, .int x1, .ref li])), (li, .inl (cli, 24, .inl fli)), (pp, .inl (cpp, 60, .inl fpp)), (so, .inl (cso, 60, .inl fso)), (ty, .inl (cty, 26, .inl fty)), (cm, .inr (1, [.ref kA, .ref kB, .ref kG, .ref (ad 12 0), .ref o3, .ref e4, .ref e5, .ref kC, .ref kF, .ref kT, .int spn])), (kA, .inl (cA9, 6, .inr (.inr (.inr (.inr (fun i => some (ad i 0))))))), (kB, .inl (cB, 6, .inr (.inr (.inr (.inr (fun i => some (ad (6 + i) 0))))))), (kG, .inl (cg9, 6, .inl fG)), (o3, .inr (7, [.ref r3, .int n3])), (r3, .inl (c3, 6, .inr (.inl f3))), (e4, .inr (3, [.int (nI R4), .ref t4, .ref s4, .int m4])), (t4, .inl (ct4, 24 * R4, .inl ft4)), (s4, .inl (cs4, R4, .inl fs4)), (e5, .inr (3, [.int (nI R5), .ref t5, .ref s5, .int m5])), (t5, .inl (ct5, 24 * R5, .inl ft5)), (s5, .inl (cs5, R5, .inl fs5)), (kC, .inl (cC, 24, .inl fC)), (kF, .inl (cF, 24, .inl fF)), (kT, .inl (cT, 26, .inl fT))]) (cx := [(gt, .inr (9, [.int st9, .ref tp, .int td, .int fk, .int fpl, .ref bk, .int un, .ref mb, .ref mu, .int mk, .ref rd, .ref cm, .ref wk, .ref pp, .ref so, .ref ty]))]) (wr := [(tp, .inl (ctp, 900, .inl ftp)), (mb, .inl (cmb, 3, .inr (.inr (.inr (.inr fmb))))), (mu, .inl (cmu, 3, .inl fmu)), (rd, .inr (6, rF r q0 q1 q2 q3 q4 q5 q6 q7)), (r 0, .inl (cb0, 18, .inl fb0)), (r 1, .inl (cb1, 18, .inl fb1)), (r 2, .inl (cb2, 18, .inl fb2)), (wk, .inr (8, [.int x0, .int x1, .ref li])), (li, .inl (cli, 24, .inl fli)), (pp, .inl (cpp, 60, .inl fpp)), (so, .inl (cso, 60, .inl fso)), (ty, .inl (cty, 26, .inl fty)), (cm, .inr (1, [.ref kA, .ref kB, .ref kG, .ref (ad 12 0), .ref o3, .ref e4, .ref e5, .ref kC, .ref kF, .ref kT, .int spn])), (kA, .inl (cA9, 6, .inr (.inr (.inr (.inr (fun i => some (ad i 0))))))), (kB, .inl (cB, 6, .inr (.inr (.inr (.inr (fun i => some (ad (6 + i) 0))))))), (kG, .inl (cg9, 6, .inl fG)), (o3, .inr (7, [.ref r3, .int n3])), (r3, .inl (c3, 6, .inr (.inl f3))), (e4, .inr (3, [.int (nI R4), .ref t4, .ref s4, .int m4])), (t4, .inl (ct4, 24 * R4, .inl ft4)), (s4, .inl (cs4, R4, .inl fs4)), (e5, .inr (3, [.int (nI R5), .ref t5, .ref s5, .int m5])), (t5, .inl (ct5, 24 * R5, .inl ft5)), (s5, .inl (cs5, R5, .inl fs5)), (kC, .inl (cC, 24, .inl fC)), (kF, .inl (cF, 24, .inl fF)), (kT, .inl (cT, 26, .inl fT))]) (w1 := [(gt, .inr (9, [.int w_9, .ref tp, .int td, .int fk, .int fpl, .ref bk, .int un, .ref mb, .ref mu, .int mk, .ref rd, .ref cm, .ref wk, .ref pp, .ref so, .ref ty]))]) (pl := (cPL ad ca vi vl vf (List.range 13) ++ mW zad zkc zx0 zx1 zx2 zx3 zx4 zx5 zx6 zx7 zx8 zx9 zx10 zx11 zx12 zx13 zx14 zx15 zx16 zx17 zx18 zx19 zx20 zx21 zf0 zf1 zf2 zf3 zf4 zf5 zf6 zf7 zf8 zf9 zf10 zf11 zf12 zf13 zf14 zf15 zf16 zf17 zf18 zf19 zf20 zf21 zL zN zP zM zO)) hP hD [0] [1, 2, 3, 4, 5, 6, 7, 8, 9, 10, 11, 12, 13, 14, 15, 16, 17, 18, 19, 20, 21, 22, 23, 24, 25, 26, 27] rfl rfl (by decide) (by decide) hk1 hFc hP1 hD1
  have hPx := t_P (cx := [(gt, .inr (9, [.int w_9, .ref tp, .int td, .int fk, .int fpl, .ref bk, .int un, .ref mb, .ref mu, .int mk, .ref rd, .ref cm, .ref wk, .ref pp, .ref so, .ref ty])), (tp, .inl (ctp, 900, .inl ftp)), (mb, .inl (cmb, 3, .inr (.inr (.inr (.inr fmb))))), (mu, .inl (cmu, 3, .inl fmu)), (rd, .inr (6, rF r q0 q1 q2 q3 q4 q5 q6 q7)), (r 0, .inl (cb0, 18, .inl fb0)), (r 1, .inl (cb1, 18, .inl fb1)), (r 2, .inl (cb2, 18, .inl fb2)), (wk, .inr (8, [.int x0, .int x1, .ref li])), (li, .inl (cli, 24, .inl fli)), (pp, .inl (cpp, 60, .inl fpp)), (so, .inl (cso, 60, .inl fso)), (ty, .inl (cty, 26, .inl fty)), (cm, .inr (1, [.ref kA, .ref kB, .ref kG, .ref (ad 12 0), .ref o3, .ref e4, .ref e5, .ref kC, .ref kF, .ref kT, .int spn])), (kA, .inl (cA9, 6, .inr (.inr (.inr (.inr (fun i => some (ad i 0))))))), (kB, .inl (cB, 6, .inr (.inr (.inr (.inr (fun i => some (ad (6 + i) 0))))))), (kG, .inl (cg9, 6, .inl fG)), (o3, .inr (7, [.ref r3, .int n3])), (r3, .inl (c3, 6, .inr (.inl f3))), (e4, .inr (3, [.int (nI R4), .ref t4, .ref s4, .int m4])), (t4, .inl (ct4, 24 * R4, .inl ft4)), (s4, .inl (cs4, R4, .inl fs4)), (e5, .inr (3, [.int (nI R5), .ref t5, .ref s5, .int m5])), (t5, .inl (ct5, 24 * R5, .inl ft5)), (s5, .inl (cs5, R5, .inl fs5)), (kC, .inl (cC, 24, .inl fC)), (kF, .inl (cF, 24, .inl fF)), (kT, .inl (cT, 26, .inl fT))]) hPx [27, 0, 1, 2, 3, 4, 5, 6, 7, 8, 9, 10, 11, 12, 13, 14, 15, 16, 17, 18, 19, 20, 21, 22, 23, 24, 25, 26] rfl
  have hDx := va_D.part (cx := [(gt, .inr (9, [.int w_9, .ref tp, .int td, .int fk, .int fpl, .ref bk, .int un, .ref mb, .ref mu, .int mk, .ref rd, .ref cm, .ref wk, .ref pp, .ref so, .ref ty])), (tp, .inl (ctp, 900, .inl ftp)), (mb, .inl (cmb, 3, .inr (.inr (.inr (.inr fmb))))), (mu, .inl (cmu, 3, .inl fmu)), (rd, .inr (6, rF r q0 q1 q2 q3 q4 q5 q6 q7)), (r 0, .inl (cb0, 18, .inl fb0)), (r 1, .inl (cb1, 18, .inl fb1)), (r 2, .inl (cb2, 18, .inl fb2)), (wk, .inr (8, [.int x0, .int x1, .ref li])), (li, .inl (cli, 24, .inl fli)), (pp, .inl (cpp, 60, .inl fpp)), (so, .inl (cso, 60, .inl fso)), (ty, .inl (cty, 26, .inl fty)), (cm, .inr (1, [.ref kA, .ref kB, .ref kG, .ref (ad 12 0), .ref o3, .ref e4, .ref e5, .ref kC, .ref kF, .ref kT, .int spn])), (kA, .inl (cA9, 6, .inr (.inr (.inr (.inr (fun i => some (ad i 0))))))), (kB, .inl (cB, 6, .inr (.inr (.inr (.inr (fun i => some (ad (6 + i) 0))))))), (kG, .inl (cg9, 6, .inl fG)), (o3, .inr (7, [.ref r3, .int n3])), (r3, .inl (c3, 6, .inr (.inl f3))), (e4, .inr (3, [.int (nI R4), .ref t4, .ref s4, .int m4])), (t4, .inl (ct4, 24 * R4, .inl ft4)), (s4, .inl (cs4, R4, .inl fs4)), (e5, .inr (3, [.int (nI R5), .ref t5, .ref s5, .int m5])), (t5, .inl (ct5, 24 * R5, .inl ft5)), (s5, .inl (cs5, R5, .inl fs5)), (kC, .inl (cC, 24, .inl fC)), (kF, .inl (cF, 24, .inl fF)), (kT, .inl (cT, 26, .inl fT))]) hDx [27, 0, 1, 2, 3, 4, 5, 6, 7, 8, 9, 10, 11, 12, 13, 14, 15, 16, 17, 18, 19, 20, 21, 22, 23, 24, 25, 26] (by decide) rfl
  have hm9 : List.map Prod.fst ([(gt, .inr (9, [.int w_9, .ref tp, .int td, .int fk, .int fpl, .ref bk, .int un, .ref mb, .ref mu, .int mk, .ref rd, .ref cm, .ref wk, .ref pp, .ref so, .ref ty])), (tp, .inl (ctp, 900, .inl ftp)), (mb, .inl (cmb, 3, .inr (.inr (.inr (.inr fmb))))), (mu, .inl (cmu, 3, .inl fmu)), (rd, .inr (6, rF r q0 q1 q2 q3 q4 q5 q6 q7)), (r 0, .inl (cb0, 18, .inl fb0)), (r 1, .inl (cb1, 18, .inl fb1)), (r 2, .inl (cb2, 18, .inl fb2)), (wk, .inr (8, [.int x0, .int x1, .ref li])), (li, .inl (cli, 24, .inl fli)), (pp, .inl (cpp, 60, .inl fpp)), (so, .inl (cso, 60, .inl fso)), (ty, .inl (cty, 26, .inl fty)), (cm, .inr (1, [.ref kA, .ref kB, .ref kG, .ref (ad 12 0), .ref o3, .ref e4, .ref e5, .ref kC, .ref kF, .ref kT, .int spn])), (kA, .inl (cA9, 6, .inr (.inr (.inr (.inr (fun i => some (ad i 0))))))), (kB, .inl (cB, 6, .inr (.inr (.inr (.inr (fun i => some (ad (6 + i) 0))))))), (kG, .inl (cg9, 6, .inl fG)), (o3, .inr (7, [.ref r3, .int n3])), (r3, .inl (c3, 6, .inr (.inl f3))), (e4, .inr (3, [.int (nI R4), .ref t4, .ref s4, .int m4])), (t4, .inl (ct4, 24 * R4, .inl ft4)), (s4, .inl (cs4, R4, .inl fs4)), (e5, .inr (3, [.int (nI R5), .ref t5, .ref s5, .int m5])), (t5, .inl (ct5, 24 * R5, .inl ft5)), (s5, .inl (cs5, R5, .inl fs5)), (kC, .inl (cC, 24, .inl fC)), (kF, .inl (cF, 24, .inl fF)), (kT, .inl (cT, 26, .inl fT))] ++ (cPL ad ca vi vl vf (List.range 13) ++ mW zad zkc zx0 zx1 zx2 zx3 zx4 zx5 zx6 zx7 zx8 zx9 zx10 zx11 zx12 zx13 zx14 zx15 zx16 zx17 zx18 zx19 zx20 zx21 zf0 zf1 zf2 zf3 zf4 zf5 zf6 zf7 zf8 zf9 zf10 zf11 zf12 zf13 zf14 zf15 zf16 zf17 zf18 zf19 zf20 zf21 zL zN zP zM zO) : va_W) = List.map Prod.fst ([(gt, .inr (9, [.int st9, .ref tp, .int td, .int fk, .int fpl, .ref bk, .int un, .ref mb, .ref mu, .int mk, .ref rd, .ref cm, .ref wk, .ref pp, .ref so, .ref ty])), (tp, .inl (ctp, 900, .inl ftp)), (mb, .inl (cmb, 3, .inr (.inr (.inr (.inr fmb))))), (mu, .inl (cmu, 3, .inl fmu)), (rd, .inr (6, rF r q0 q1 q2 q3 q4 q5 q6 q7)), (r 0, .inl (cb0, 18, .inl fb0)), (r 1, .inl (cb1, 18, .inl fb1)), (r 2, .inl (cb2, 18, .inl fb2)), (wk, .inr (8, [.int x0, .int x1, .ref li])), (li, .inl (cli, 24, .inl fli)), (pp, .inl (cpp, 60, .inl fpp)), (so, .inl (cso, 60, .inl fso)), (ty, .inl (cty, 26, .inl fty)), (cm, .inr (1, [.ref kA, .ref kB, .ref kG, .ref (ad 12 0), .ref o3, .ref e4, .ref e5, .ref kC, .ref kF, .ref kT, .int spn])), (kA, .inl (cA9, 6, .inr (.inr (.inr (.inr (fun i => some (ad i 0))))))), (kB, .inl (cB, 6, .inr (.inr (.inr (.inr (fun i => some (ad (6 + i) 0))))))), (kG, .inl (cg9, 6, .inl fG)), (o3, .inr (7, [.ref r3, .int n3])), (r3, .inl (c3, 6, .inr (.inl f3))), (e4, .inr (3, [.int (nI R4), .ref t4, .ref s4, .int m4])), (t4, .inl (ct4, 24 * R4, .inl ft4)), (s4, .inl (cs4, R4, .inl fs4)), (e5, .inr (3, [.int (nI R5), .ref t5, .ref s5, .int m5])), (t5, .inl (ct5, 24 * R5, .inl ft5)), (s5, .inl (cs5, R5, .inl fs5)), (kC, .inl (cC, 24, .inl fC)), (kF, .inl (cF, 24, .inl fF)), (kT, .inl (cT, 26, .inl fT))] ++ (cPL ad ca vi vl vf (List.range 13) ++ mW zad zkc zx0 zx1 zx2 zx3 zx4 zx5 zx6 zx7 zx8 zx9 zx10 zx11 zx12 zx13 zx14 zx15 zx16 zx17 zx18 zx19 zx20 zx21 zf0 zf1 zf2 zf3 zf4 zf5 zf6 zf7 zf8 zf9 zf10 zf11 zf12 zf13 zf14 zf15 zf16 zf17 zf18 zf19 zf20 zf21 zL zN zP zM zO) : va_W) := rfl
  have hQNx := qn_fst hQN hm9
  have hQN := hQNx
  clear hQNx hQAc hFc hDc hPc hKc
  have hP := hPx
  have hD := hDx
  clear hPx hDx
  generalize H1 = H at hP hS hQ ⊢
  refine lv_pop hx hb dL_law_530 rfl ?_
  refine lv_aload_n hx hb dL_law_531 rfl (lv_at hl 1 rfl) ?_
  refine lv_aload_n hx hb dL_law_532 rfl (lv_at hl 3 rfl) ?_
  refine lv_iload_n hx hb dL_law_533 rfl (lv_at hl 0 rfl) ?_
  refine lv_iconst (v := 1) hx hb dL_law_534 (by decide) ?_
  refine lv_iadd hx hb dL_law_535 ?_
  refine lv_topi (fun y_10 ey_10 => ?_)
  have ty_10 := i_add (a := ii.toInt) (b := 1) rfl (by decide) ey_10 (by omega) (by omega)
  refine va_sld hx hb hX hbl hbA hS (i := y_10) (vp_of (a := y_10.toInt) rfl (by omega) (by omega)) dL_law_536 ?_
  refine lv_topi (fun y_11 ey_11 => ?_)
  have e_y_11 : y_11 = y_2 := by rw [ey_11, ey_2, ey_10, ey_1]
  have q_y_11 : y_11.toInt = y_2.toInt := by rw [ey_11, ey_2, ey_10, ey_1]
  refine lv_aload_n hx hb dL_law_537 rfl (lv_at hl 3 rfl) ?_
  refine lv_iload_n hx hb dL_law_538 rfl (lv_at hl 0 rfl) ?_
  refine lv_iconst (v := 2) hx hb dL_law_539 (by decide) ?_
  refine lv_iadd hx hb dL_law_540 ?_
  refine lv_topi (fun y_12 ey_12 => ?_)
  have ty_12 := i_add (a := ii.toInt) (b := 2) rfl (by decide) ey_12 (by omega) (by omega)
  refine va_sld hx hb hX hbl hbA hS (i := y_12) (vp_of (a := y_12.toInt) rfl (by omega) (by omega)) dL_law_541 ?_
  refine lv_topi (fun y_13 ey_13 => ?_)
  have e_y_13 : y_13 = y_4 := by rw [ey_13, ey_4, ey_12, ey_3]
  have q_y_13 : y_13.toInt = y_4.toInt := by rw [ey_13, ey_4, ey_12, ey_3]
  refine lv_aload_n hx hb dL_law_542 rfl (lv_at hl 3 rfl) ?_
  refine lv_iload_n hx hb dL_law_543 rfl (lv_at hl 0 rfl) ?_
  refine lv_iconst (v := 3) hx hb dL_law_544 (by decide) ?_
  refine lv_iadd hx hb dL_law_545 ?_
  refine lv_topi (fun y_14 ey_14 => ?_)
  have ty_14 := i_add (a := ii.toInt) (b := 3) rfl (by decide) ey_14 (by omega) (by omega)
  refine va_sld hx hb hX hbl hbA hS (i := y_14) (vp_of (a := y_14.toInt) rfl (by omega) (by omega)) dL_law_546 ?_
  refine lv_topi (fun y_15 ey_15 => ?_)
  have e_y_15 : y_15 = y_6 := by rw [ey_15, ey_6, ey_14, ey_5]
  have q_y_15 : y_15.toInt = y_6.toInt := by rw [ey_15, ey_6, ey_14, ey_5]
  have hPc : va_P (dC, dI) vwCl (mW zad zkc zx0 zx1 zx2 zx3 zx4 zx5 zx6 zx7 zx8 zx9 zx10 zx11 zx12 zx13 zx14 zx15 zx16 zx17 zx18 zx19 zx20 zx21 zf0 zf1 zf2 zf3 zf4 zf5 zf6 zf7 zf8 zf9 zf10 zf11 zf12 zf13 zf14 zf15 zf16 zf17 zf18 zf19 zf20 zf21 zL zN zP zM zO) H := p_sub hP (fun _ hq => List.mem_append_right _ (List.mem_append_right _ hq))
  have hKc := hKM
  have hDc : va_D (fun q : Nat => s.heap.size ≤ q) (mW zad zkc zx0 zx1 zx2 zx3 zx4 zx5 zx6 zx7 zx8 zx9 zx10 zx11 zx12 zx13 zx14 zx15 zx16 zx17 zx18 zx19 zx20 zx21 zf0 zf1 zf2 zf3 zf4 zf5 zf6 zf7 zf8 zf9 zf10 zf11 zf12 zf13 zf14 zf15 zf16 zf17 zf18 zf19 zf20 zf21 zL zN zP zM zO) := D_right (D_right hD)
  have hFc := m_free hDc hS hA
  have hQAc : ∀ q ∈ W9, ¬ va_A (mW zad zkc zx0 zx1 zx2 zx3 zx4 zx5 zx6 zx7 zx8 zx9 zx10 zx11 zx12 zx13 zx14 zx15 zx16 zx17 zx18 zx19 zx20 zx21 zf0 zf1 zf2 zf3 zf4 zf5 zf6 zf7 zf8 zf9 zf10 zf11 zf12 zf13 zf14 zf15 zf16 zf17 zf18 zf19 zf20 zf21 zL zN zP zM zO) H.size q.1 := qn_A hQ hQN (fun x hx => List.mem_append_right _ (List.mem_append_right _ hx))
  refine va_calli (va_runV (As := [.int y_11, .int y_13, .int y_15]) (rest := []) ⟨hx, hb, hml, hown, hts⟩ (m_need l dC dI zad zkc zx0 zx1 zx2 zx3 zx4 zx5 zx6 zx7 zx8 zx9 zx10 zx11 zx12 zx13 zx14 zx15 zx16 zx17 zx18 zx19 zx20 zx21 zf0 zf1 zf2 zf3 zf4 zf5 zf6 zf7 zf8 zf9 zf10 zf11 zf12 zf13 zf14 zf15 zf16 zf17 zf18 zf19 zf20 zf21 zL zN zP zM zO H.size y_11 y_13 y_15 hmi) (cwV 3 hts mg_L_X10_need rfl rfl rfl (by decide +kernel) ⟨Nat.le_of_ble_eq_true rfl, Nat.le_of_ble_eq_true rfl⟩) ⟨fun a U g mk q => by obtain ⟨q0, q1, qP, qK, qD, qE0⟩ := q; exact ⟨q0, q1, qP, va_K.moved (u := U) (U := U.calling g mk a) (Vm.Alike.refl U.vm) qK, qD, over_moved (u := U) (E := U.calling g mk a) (Vm.Alike.refl U.vm) qE0⟩, va_recv hKc hPc (ci := 10) (q0 := 0) rfl rfl, fun U hU hW => ⟨rfl, by rw [hU], by rw [hU]; exact hPc, va_K.moved hW.alike hKc, hDc.weaken (fun _ _ _ _ => trivial), over_moved hW.alike hOV⟩⟩ rfl rfl hl.1 rfl (lv_room (Nat.le_of_ble_eq_true rfl)) dL_law_547 ⟨by show kc9 + 0 ≤ 600000; omega, by show ks9 + 0 ≤ 7302250; omega⟩) hS (fun q _ h => hFc q h) hFc (fun r_16 u t H1 locs ht hvm hw hB hz1 hk1 hS => ?_)
  have hQo := hQ
  have hQ := qn_P hQ hQAc hk1
  have hwu := hw
  have hwt_r_16 := congrArg Int32.toInt hw
  obtain ⟨zx_17, zx_18, zx_19, zx_20, zx_21, zx_22, zx_23, zx_24, zx_25, zf_26, zf_27, zf_28, zf_29, zf_30, zf_31, zf_32, zf_33, zf_34, zL_35, zNn_36, zP_37, zM_38, zO_39, h_40, hP1, hK1, hD1⟩ := hB
  rw [ht] at hP1
  have rg_zx_17 := i_rng zx_17
  have rg_zx_18 := i_rng zx_18
  have rg_zx_19 := i_rng zx_19
  have rg_zx_20 := i_rng zx_20
  have rg_zx_21 := i_rng zx_21
  have rg_zx_22 := i_rng zx_22
  have rg_zx_23 := i_rng zx_23
  have rg_zx_24 := i_rng zx_24
  have rg_zx_25 := i_rng zx_25
  have hass := (pm_as (a := [(gt, .inr (9, [.int w_9, .ref tp, .int td, .int fk, .int fpl, .ref bk, .int un, .ref mb, .ref mu, .int mk, .ref rd, .ref cm, .ref wk, .ref pp, .ref so, .ref ty])), (tp, .inl (ctp, 900, .inl ftp)), (mb, .inl (cmb, 3, .inr (.inr (.inr (.inr fmb))))), (mu, .inl (cmu, 3, .inl fmu)), (rd, .inr (6, rF r q0 q1 q2 q3 q4 q5 q6 q7)), (r 0, .inl (cb0, 18, .inl fb0)), (r 1, .inl (cb1, 18, .inl fb1)), (r 2, .inl (cb2, 18, .inl fb2)), (wk, .inr (8, [.int x0, .int x1, .ref li])), (li, .inl (cli, 24, .inl fli)), (pp, .inl (cpp, 60, .inl fpp)), (so, .inl (cso, 60, .inl fso)), (ty, .inl (cty, 26, .inl fty)), (cm, .inr (1, [.ref kA, .ref kB, .ref kG, .ref (ad 12 0), .ref o3, .ref e4, .ref e5, .ref kC, .ref kF, .ref kT, .int spn])), (kA, .inl (cA9, 6, .inr (.inr (.inr (.inr (fun i => some (ad i 0))))))), (kB, .inl (cB, 6, .inr (.inr (.inr (.inr (fun i => some (ad (6 + i) 0))))))), (kG, .inl (cg9, 6, .inl fG)), (o3, .inr (7, [.ref r3, .int n3])), (r3, .inl (c3, 6, .inr (.inl f3))), (e4, .inr (3, [.int (nI R4), .ref t4, .ref s4, .int m4])), (t4, .inl (ct4, 24 * R4, .inl ft4)), (s4, .inl (cs4, R4, .inl fs4)), (e5, .inr (3, [.int (nI R5), .ref t5, .ref s5, .int m5])), (t5, .inl (ct5, 24 * R5, .inl ft5)), (s5, .inl (cs5, R5, .inl fs5)), (kC, .inl (cC, 24, .inl fC)), (kF, .inl (cF, 24, .inl fF)), (kT, .inl (cT, 26, .inl fT))]) (b := cPL ad ca vi vl vf (List.range 13)) (c := mW zad zkc zx0 zx1 zx2 zx3 zx4 zx5 zx6 zx7 zx8 zx9 zx10 zx11 zx12 zx13 zx14 zx15 zx16 zx17 zx18 zx19 zx20 zx21 zf0 zf1 zf2 zf3 zf4 zf5 zf6 zf7 zf8 zf9 zf10 zf11 zf12 zf13 zf14 zf15 zf16 zf17 zf18 zf19 zf20 zf21 zL zN zP zM zO)).symm
  obtain ⟨hPx, hDx⟩ := pm_join hP hD hass hk1 hFc hP1 hD1
  rw [List.append_assoc] at hPx hDx
  have hQNx := qn_app (qn_sub hQN (fun x hx => List.mem_append_left _ hx)) (qn_app (qn_sub hQN (fun x hx => List.mem_append_right _ (List.mem_append_left _ hx))) (qn_new hQAc hD1))
  have hP := hPx
  have hD := hDx
  have hQN := hQNx
  generalize H1 = H at hP hS hQ ⊢
  have hmi9 := hmi.setP h_40
  refine lv_pop hx hb dL_law_550 rfl ?_
  refine lv_goto (tgt := 1128) hx hb dL_law_551 (by decide) ?_
  refine W.widen (k := kc9 + 195) (n := ks9 + 10960) (by omega) (by omega) ?_
  exact kk H _ ls tp bk mb mu rd cm wk pp so ty li w_9 td fk fpl un mk x0 x1 q0 q1 q2 q3 q4 q5 q6 q7 r ctp cmb cmu cb0 cb1 cb2 cli cpp cso cty ftp fmu fb0 fb1 fb2 fli fpp fso fty fmb spn kG cg9 fG o3 r3 c3 f3 n3 e4 t4 s4 R4 ct4 cs4 ft4 fs4 m4 e5 t5 s5 R5 ct5 cs5 ft5 fs5 m5 kC cC fC kF cF fF kT cT fT kA kB cA9 cB ad ca vi vl vf W9 T9 B9 zad zkc zx_17 zx1 zx2 zx3 zx4 zx5 zx6 zx7 zx8 zx9 zx10 zx11 zx_18 zx_19 zx_20 zx_21 zx_22 zx_23 zx_24 zx_25 zx20 zx21 zf0 zf1 zf2 zf_26 zf_27 zf_28 zf_29 zf_30 zf_31 zf_32 zf_33 zf_34 zf12 zf13 zf14 zf15 zf16 zf17 zf18 zf19 zf20 zf21 zL_35 zNn_36 zP_37 zM_38 zO_39 hs1 hs2 ha3 hb3 hR4 hU4 hc4 hd4 hb_fs4 hR5 hU5 hc5 hd5 hb_fs5 hG (by omega) (by omega) hM hB9 hbk rfl hmi9 (by omega) (by omega) hrt hK hKC hKM hKQ hP hD hQ hQN hS hl

/-- a letter is in a set -/
def hB (s k : Int32) : Int := if (s >>> (k &&& 31)) &&& 1 = 1 then 1 else 0
theorem hB_01 (s k : Int32) : hB s k = 0 ∨ hB s k = 1 := by
  unfold hB
  split
  · exact Or.inr rfl
  · exact Or.inl rfl
def hcn (s : Int32) : Nat → Int
  | 0 => 0
  | k + 1 => hcn s k + hB s (nI k)
theorem hcn_le (s : Int32) : ∀ k : Nat, 0 ≤ hcn s k ∧ hcn s k ≤ k
  | 0 => ⟨Int.le_refl _, Int.le_refl _⟩
  | k + 1 => by
    have h1 := hcn_le s k
    have h2 := hB_01 s (nI k)
    show 0 ≤ hcn s k + hB s (nI k) ∧ hcn s k + hB s (nI k) ≤ ((k + 1 : Nat) : Int)
    omega
theorem hcn_st {s kk y : Int32} (h0 : 0 ≤ kk.toInt) (hy : y.toInt = kk.toInt + 1) : hcn s y.toInt.toNat = hcn s kk.toInt.toNat + hB s kk := by
  obtain ⟨j, hj, e⟩ := nI_of (i_nn (x := kk) rfl h0)
  subst e
  rw [nI_toInt hj] at hy ⊢
  rw [hy, show ((j : Int) + 1).toNat = j + 1 by omega, Int.toNat_natCast]
  rfl
/-- nothing has changed below the tops but one set and one need -/
def wF (L : Nat → Nat → Int64) (rm nm : Nat → Int32) (R : Nat → Nat → Int32) (L' : Nat → Nat → Int64) (rm' nm' : Nat → Int32) (R' : Nat → Nat → Int32) (s n S N : Int) : Prop := (∀ z : Int, 0 ≤ z → z < S → z ≠ s → vI rm' z = vI rm z ∧ L' z.toNat = L z.toNat) ∧ (∀ z : Int, 0 ≤ z → z < N → z ≠ n → vI nm' z = vI nm z) ∧ ∀ a, IR a → ((a < 300 + 12 * N.toNat ∧ (a < 300 + 12 * n.toNat ∨ 312 + 12 * n.toNat ≤ a)) ∨ 1300 ≤ a) → R' a = R a
section WFS
variable {L L1 L2 : Nat → Nat → Int64} {rm rm1 rm2 nm nm1 nm2 : Nat → Int32} {R R1 R2 : Nat → Nat → Int32} {s n S N : Int}
theorem wF.rf : wF L rm nm R L rm nm R s n S N := ⟨fun _ _ _ _ => ⟨rfl, rfl⟩, fun _ _ _ _ => rfl, fun _ _ _ => rfl⟩
theorem wF.tr (h : wF L rm nm R L1 rm1 nm1 R1 s n S N) (k : wF L1 rm1 nm1 R1 L2 rm2 nm2 R2 s n S N) : wF L rm nm R L2 rm2 nm2 R2 s n S N := ⟨fun z a b c => ⟨(k.1 z a b c).1.trans (h.1 z a b c).1, (k.1 z a b c).2.trans (h.1 z a b c).2⟩, fun z a b c => (k.2.1 z a b c).trans (h.2.1 z a b c), fun a b c => (k.2.2 a b c).trans (h.2.2 a b c)⟩
theorem wF.out {s' n' S' N' : Int} (h : wF L rm nm R L1 rm1 nm1 R1 s' n' S' N') (h1 : S ≤ s' ∨ s' = s) (h2 : N ≤ n' ∨ n' = n) (h3 : S ≤ S') (h4 : N ≤ N') (hN : 0 ≤ N) : wF L rm nm R L1 rm1 nm1 R1 s n S N := by
  refine ⟨fun z a b c => h.1 z a (by omega) (by omega), fun z a b c => h.2.1 z a (by omega) (by omega), fun a b c => h.2.2 a b ?_⟩
  rcases c with c | c
  · left
    refine ⟨by omega, ?_⟩
    rcases h2 with h2 | h2
    · omega
    · subst h2; exact c.2
  · exact Or.inr c
theorem wF.row {t : Int} (h : sFr L rm L1 rm1 t) (ht : S ≤ t ∨ t = s) (h0 : 0 ≤ t) : wF L rm nm R L1 rm1 nm R s n S N := ⟨fun z a b c => ⟨h.1 z a (by omega), h.2 z.toNat (by omega)⟩, fun _ _ _ _ => rfl, fun _ _ _ => rfl⟩
theorem wF.need {t : Int} (h : nFm R R1 t) (hm : ∀ z : Int, 0 ≤ z → z ≠ t → vI nm1 z = vI nm z) (ht : N ≤ t ∨ t = n) (h0 : 0 ≤ t) (hN : t < 60 ∧ N ≤ 60) : wF L rm nm R L rm nm1 R1 s n S N := by
  refine ⟨fun _ _ _ _ => ⟨rfl, rfl⟩, fun z a b c => hm z a (by omega), fun a b c => h a b (by unfold IR at b; omega) ?_⟩
  unfold IR at b
  rcases c with c | c
  · rcases ht with ht | ht
    · omega
    · subst ht; exact c.2
  · omega
/-- a set that isn't touched -/
theorem sOK.wf {t c b s' n' S' N' : Int} (q : sOK L rm t c b) (h : wF L rm nm R L1 rm1 nm1 R1 s' n' S' N') (h0 : 0 ≤ t) (h1 : t < S') (h2 : t ≠ s') : sOK L1 rm1 t c b := q.congr (h.1 t h0 h1 h2).2 (h.1 t h0 h1 h2).1
theorem nOK.wf {P : Nat → Nat → Nat} {t b s' n' S' N' : Int} (q : nOK R P nm t b) (hP : PI P) (h : wF L rm nm R L1 rm1 nm1 R1 s' n' S' N') (h0 : 0 ≤ t) (h1 : t < N') (h2 : t ≠ n') (h3 : N' ≤ 60) (h4 : 0 ≤ n') : nOK R1 P nm1 t b := by
  obtain ⟨a1, a2, a3⟩ := q
  have e := h.2.1 t h0 h1 h2
  refine ⟨by omega, by omega, fun i hi => ?_⟩
  have hp := (hP t.toNat i (by omega)).1
  rw [h.2.2 (300 + (12 * t.toNat + P t.toNat i)) (by unfold IR; omega) (by omega)]
  exact a3 i (by omega)
end WFS
theorem aR.fr {L L' : Nat → Nat → Int64} {rm rm' : Nat → Int32} {s : Int} {row : Int64} (h : aR L rm L' rm' s row) : sFr L rm L' rm' s := ⟨h.1, h.2.1⟩
theorem cS.fr {L L' : Nat → Nat → Int64} {rm rm' : Nat → Int32} {s t : Int} (h : cS L rm L' rm' s t) : sFr L rm L' rm' t := ⟨h.1, h.2.1⟩
/-- parts that are left -/
def tsI (V : Nat → Int → Int) (R : Int → Int → Int → Prop) (k hi m : Int) : Prop := (k = -1 ∧ m = 0) ∨ (0 ≤ k ∧ k < hi ∧ 1 ≤ m ∧ ∃ n la, tSib V R n k la hi m)
theorem tpos_sib {V : Nat → Int → Int} {R : Int → Int → Int → Prop} (hR : ∀ a b m, R a b m → 1 ≤ m) : ∀ (n : Nat) {a la b m : Int}, tSib V R n a la b m → 1 ≤ m
  | 0, _, _, _, _, h => hR _ _ _ h.1
  | n + 1, _, _, _, _, h => by
    obtain ⟨k, m1, m2, h1, -, h2, e⟩ := h
    have e1 := hR _ _ _ h1
    have e2 := tpos_sib hR n h2
    omega
theorem ts_cont {V : Nat → Int → Int} {R : Int → Int → Int → Prop} (hm : ∀ a b m, R a b m → a < b) (hp : ∀ a b m, R a b m → 1 ≤ m) {k hi m : Int} (h : tsI V R k hi m) (hk : k ≠ -1) : ∃ h1 m1, R k h1 m1 ∧ 0 ≤ k ∧ k < h1 ∧ h1 ≤ hi ∧ 1 ≤ m1 ∧ m1 ≤ m ∧ tsI V R (V 2 k) hi (m - m1) := by
  rcases h with ⟨h, _⟩ | ⟨h0, h1, h2, n, la, h3⟩
  · exact absurd h hk
  · cases n with
    | zero =>
      have e1 := hm _ _ _ h3.1
      exact ⟨hi, m, h3.1, h0, e1, Int.le_refl _, h2, Int.le_refl _, Or.inl ⟨h3.2.2, by omega⟩⟩
    | succ n =>
      obtain ⟨k', m1, m2, a1, a2, a3, a4⟩ := h3
      have e1 := hm _ _ _ a1
      have e2 := hp _ _ _ a1
      have e3 := tm_sib hm n a3
      have e4 := tpos_sib hp n a3
      refine ⟨k', m1, a1, h0, e1, by omega, e2, by omega, Or.inr ?_⟩
      rw [a2]
      exact ⟨by omega, by omega, by omega, n, la, by rw [show m - m1 = m2 by omega]; exact a3⟩
theorem ts_exit {V : Nat → Int → Int} {R : Int → Int → Int → Prop} {k hi m : Int} (h : tsI V R k hi m) (hk : k = -1) : m = 0 := by
  rcases h with h | h
  · exact h.2
  · omega
theorem tpos_item {V : Nat → Int → Int} {S : Int → Int → Int → Prop} (hS : ∀ a b m, S a b m → 1 ≤ m) {a b m : Int} (h : tItem V S a b m) : 1 ≤ m := by
  rcases h.2.2.2 with q | q
  · have := q.2.2.2.2; omega
  · exact hS _ _ _ q
theorem tpos_branch {V : Nat → Int → Int} {S : Int → Int → Int → Prop} (hS : ∀ a b m, S a b m → 1 ≤ m) {a b m : Int} (h : tBranch V S a b m) : 1 ≤ m := by
  obtain ⟨-, -, n, la, h1⟩ := h
  exact tpos_sib (fun _ _ _ q => tpos_item hS q) n h1
theorem tpos_pat {V : Nat → Int → Int} : ∀ (d : Nat) (a b m : Int), tPat V d a b m → 1 ≤ m
  | 0, a, b, m, h => by
    obtain ⟨-, -, n, la, h1⟩ := h
    exact tpos_sib (fun _ _ _ q => tpos_branch (fun _ _ _ z => absurd z id) q) n h1
  | d + 1, a, b, m, h => by
    obtain ⟨-, -, n, la, h1⟩ := h
    exact tpos_sib (fun _ _ _ q => tpos_branch (tpos_pat d) q) n h1
theorem tpos_sub {V : Nat → Int → Int} (d : Nat) (a b m : Int) (h : tSub V d a b m) : 1 ≤ m := by
  cases d with
  | zero => exact absurd h id
  | succ d => exact tpos_pat d a b m h
theorem hp_item (V : Nat → Int → Int) (d : Nat) : ∀ a b m : Int, tItem V (tSub V d) a b m → 1 ≤ m := fun _ _ _ h => tpos_item (tpos_sub d) h
theorem hp_branch (V : Nat → Int → Int) (d : Nat) : ∀ a b m : Int, tBranch V (tSub V d) a b m → 1 ≤ m := fun _ _ _ h => tpos_branch (tpos_sub d) h
theorem ts_init {V : Nat → Int → Int} {R : Int → Int → Int → Prop} (hm : ∀ a b m, R a b m → a < b) (hp : ∀ a b m, R a b m → 1 ≤ m) {k hi m : Int} (h0 : 0 ≤ k) (h : V 1 k = k + 1 ∧ ∃ n la, tSib V R n (k + 1) la hi m) : tsI V R (V 1 k) hi m := by
  obtain ⟨h1, n, la, h2⟩ := h
  have e1 := tm_sib hm n h2
  have e2 := tpos_sib hp n h2
  rw [h1]
  exact Or.inr ⟨by omega, by omega, e2, n, la, h2⟩
/-- what a branch holds so far -/
def brH (L : Nat → Nat → Int64) (rm nm : Nat → Int32) (R : Nat → Nat → Int32) (P : Nat → Nat → Nat) (t n e s : Int) : Prop := ∃ bR bN : Int, 0 ≤ bR ∧ 0 ≤ bN ∧ bN ≤ s ∧ bN + bR ≤ s + 2 ∧ (e = 1 → bR ≤ s) ∧ sOK L rm t 6 bR ∧ nOK R P nm n bN
def mwX10_hasmD : List Cond := .code yX10_has cX10_has 2 (some .boolean) :: ([])
set_option maxHeartbeats 4000000 in
set_option maxRecDepth 100000 in
theorem m_hasD (l : Launch) (dC : Nat → ClassId) (dI : Nat → Nat → Nat)  (i1 i2 : Int32) : Met l yX10_has mwX10_hasmD ({ frames := 0, cells := 0, slots := 0, locals := 0 }) (va_Pc [.int i1, .int i2] (fun _ => True)) (vp_Si (fun o9 => (o9.toInt = hB i1 i2) ∧ (o9.toInt = 0 ∨ o9.toInt = 1))) 0 0 (fun _ => False) := by
  refine Met.ofW (cc := cX10_has) (maxL := 2) (ret := (some .boolean)) (by decide +kernel) rfl ?_
  intro p e s m args below meth c s₁ B hml hv
  obtain ⟨rfl, -⟩ := hv
  have hx := B.exec
  have hb := B.bytes
  have hr := B.returns
  have hts := atoms_spec (ws := mwX10_hasmD) B.pre
  have hown : s.vm.findClass RX10 = some m.cls := findClass_of_methodNamed B.named
  have hlocks := B.notSynchronized
  have hl := lv_entry ([.int i1, .int i2]) (n := 2) (Nat.le_of_ble_eq_true rfl)
  rw [lg_entry_eq]
  generalize (lg_sl ([.int i1, .int i2]) ++ List.replicate (2 - (lg_sl ([.int i1, .int i2])).length) Slot.unset).toArray = ls at hl ⊢
  have hl : lv_has ls 2 [(0, .int i1), (1, .int i2)] := hl
  have rg_i1 := i_rng i1
  have rg_i2 := i_rng i2
  refine lv_iload_n hx hb dX10_has_0 rfl (lv_at hl 0 rfl) ?_
  refine lv_iload_n hx hb dX10_has_1 rfl (lv_at hl 1 rfl) ?_
  refine lv_ishr hx hb dX10_has_2 ?_
  refine lv_topi (fun y_1 ey_1 => ?_)
  have rg_y_1 := i_rng y_1
  refine lv_iconst (v := 1) hx hb dX10_has_3 (by decide) ?_
  refine lv_iand hx hb dX10_has_4 ?_
  refine lv_topi (fun y_2 ey_2 => ?_)
  have ty_2 := i_and (b := 1) (by decide) (by decide) ey_2
  refine lv_iconst (v := 1) hx hb dX10_has_5 (by decide) ?_
  refine lv_icmp_ne (tgt := 13) hx hb dX10_has_6 (by decide) (fun k_3 => ?_) (fun k_3 => ?_)
  · have tk_3 := c_ne (a := y_2.toInt) (b := 1) rfl (by decide) k_3
    refine lv_iconst (v := 0) hx hb dX10_has_13 (by decide) ?_
    have lit_3 : (0 : Int32).toInt = 0 := by decide
    exact W.zret hx hb hr (z_nar (by first | assumption | decide | exact z_of (by omega))) (fun t ht hW => ⟨_, rfl, ⟨(by unfold hB; rw [← ey_1, ← ey_2]; first | (rw [if_pos (by assumption)]; decide) | (rw [if_neg (by assumption)]; decide)), (by first | omega | assumption | rfl | decide)⟩, ht⟩) t_nil dX10_has_14
  · have tk_3 := c_eq (a := y_2.toInt) (b := 1) rfl (by decide) k_3
    refine lv_iconst (v := 1) hx hb dX10_has_9 (by decide) ?_
    refine lv_goto (tgt := 14) hx hb dX10_has_10 (by decide) ?_
    have lit_4 : (1 : Int32).toInt = 1 := by decide
    exact W.zret hx hb hr (z_nar (by first | assumption | decide | exact z_of (by omega))) (fun t ht hW => ⟨_, rfl, ⟨(by unfold hB; rw [← ey_1, ← ey_2]; first | (rw [if_pos (by assumption)]; decide) | (rw [if_neg (by assumption)]; decide)), (by first | omega | assumption | rfl | decide)⟩, ht⟩) t_nil dX10_has_14
theorem dX10_worksSpot_0 : decode cX10_worksSpot 0 = .ok (.iconst 0, 1) := by decide +kernel
theorem dX10_worksSpot_1 : decode cX10_worksSpot 1 = .ok (.istore 4, 2) := by decide +kernel
theorem dX10_worksSpot_3 : decode cX10_worksSpot 3 = .ok (.aload_n 0, 1) := by decide +kernel
theorem dX10_worksSpot_4 : decode cX10_worksSpot 4 = .ok (.getfield 51, 3) := by decide +kernel
theorem dX10_worksSpot_7 : decode cX10_worksSpot 7 = .ok (.iload_n 2, 1) := by decide +kernel
theorem dX10_worksSpot_8 : decode cX10_worksSpot 8 = .ok (.iconst 0, 1) := by decide +kernel
theorem dX10_worksSpot_9 : decode cX10_worksSpot 9 = .ok (.iastore, 1) := by decide +kernel
theorem dX10_worksSpot_10 : decode cX10_worksSpot 10 = .ok (.aload_n 0, 1) := by decide +kernel
theorem dX10_worksSpot_11 : decode cX10_worksSpot 11 = .ok (.iload_n 3, 1) := by decide +kernel
theorem dX10_worksSpot_12 : decode cX10_worksSpot 12 = .ok (.invokevirtual 303, 3) := by decide +kernel
theorem dX10_worksSpot_15 : decode cX10_worksSpot 15 = .ok (.iconst 0, 1) := by decide +kernel
theorem dX10_worksSpot_16 : decode cX10_worksSpot 16 = .ok (.istore 5, 2) := by decide +kernel
theorem dX10_worksSpot_18 : decode cX10_worksSpot 18 = .ok (.iload 5, 2) := by decide +kernel
theorem dX10_worksSpot_20 : decode cX10_worksSpot 20 = .ok (.bipush 26, 2) := by decide +kernel
theorem dX10_worksSpot_22 : decode cX10_worksSpot 22 = .ok (.if_icmp .ge 33, 3) := by decide +kernel
theorem dX10_worksSpot_25 : decode cX10_worksSpot 25 = .ok (.iload 4, 2) := by decide +kernel
theorem dX10_worksSpot_27 : decode cX10_worksSpot 27 = .ok (.aload_n 0, 1) := by decide +kernel
theorem dX10_worksSpot_28 : decode cX10_worksSpot 28 = .ok (.getfield 37, 3) := by decide +kernel
theorem dX10_worksSpot_31 : decode cX10_worksSpot 31 = .ok (.iload_n 1, 1) := by decide +kernel
theorem dX10_worksSpot_32 : decode cX10_worksSpot 32 = .ok (.iaload, 1) := by decide +kernel
theorem dX10_worksSpot_33 : decode cX10_worksSpot 33 = .ok (.iload 5, 2) := by decide +kernel
theorem dX10_worksSpot_35 : decode cX10_worksSpot 35 = .ok (.invokestatic 170, 3) := by decide +kernel
theorem dX10_worksSpot_38 : decode cX10_worksSpot 38 = .ok (.ifCond .eq 7, 3) := by decide +kernel
theorem dX10_worksSpot_41 : decode cX10_worksSpot 41 = .ok (.iconst 1, 1) := by decide +kernel
theorem dX10_worksSpot_42 : decode cX10_worksSpot 42 = .ok (.goto 4, 3) := by decide +kernel
theorem dX10_worksSpot_45 : decode cX10_worksSpot 45 = .ok (.iconst 0, 1) := by decide +kernel
theorem dX10_worksSpot_46 : decode cX10_worksSpot 46 = .ok (.iadd, 1) := by decide +kernel
theorem dX10_worksSpot_47 : decode cX10_worksSpot 47 = .ok (.istore 4, 2) := by decide +kernel
theorem dX10_worksSpot_49 : decode cX10_worksSpot 49 = .ok (.iinc 5 1, 3) := by decide +kernel
theorem dX10_worksSpot_52 : decode cX10_worksSpot 52 = .ok (.goto (-34), 3) := by decide +kernel
theorem dX10_worksSpot_55 : decode cX10_worksSpot 55 = .ok (.iload 4, 2) := by decide +kernel
theorem dX10_worksSpot_57 : decode cX10_worksSpot 57 = .ok (.bipush 6, 2) := by decide +kernel
theorem dX10_worksSpot_59 : decode cX10_worksSpot 59 = .ok (.if_icmp .le 5, 3) := by decide +kernel
theorem dX10_worksSpot_62 : decode cX10_worksSpot 62 = .ok (.iconst 0, 1) := by decide +kernel
theorem dX10_worksSpot_63 : decode cX10_worksSpot 63 = .ok (.ireturn, 1) := by decide +kernel
theorem dX10_worksSpot_64 : decode cX10_worksSpot 64 = .ok (.iconst 0, 1) := by decide +kernel
theorem dX10_worksSpot_65 : decode cX10_worksSpot 65 = .ok (.istore 5, 2) := by decide +kernel
theorem dX10_worksSpot_67 : decode cX10_worksSpot 67 = .ok (.iload 5, 2) := by decide +kernel
theorem dX10_worksSpot_69 : decode cX10_worksSpot 69 = .ok (.bipush 26, 2) := by decide +kernel
theorem dX10_worksSpot_71 : decode cX10_worksSpot 71 = .ok (.if_icmp .ge 34, 3) := by decide +kernel
theorem dX10_worksSpot_74 : decode cX10_worksSpot 74 = .ok (.aload_n 0, 1) := by decide +kernel
theorem dX10_worksSpot_75 : decode cX10_worksSpot 75 = .ok (.getfield 37, 3) := by decide +kernel
theorem dX10_worksSpot_78 : decode cX10_worksSpot 78 = .ok (.iload_n 1, 1) := by decide +kernel
theorem dX10_worksSpot_79 : decode cX10_worksSpot 79 = .ok (.iaload, 1) := by decide +kernel
theorem dX10_worksSpot_80 : decode cX10_worksSpot 80 = .ok (.iload 5, 2) := by decide +kernel
theorem dX10_worksSpot_82 : decode cX10_worksSpot 82 = .ok (.invokestatic 170, 3) := by decide +kernel
theorem dX10_worksSpot_85 : decode cX10_worksSpot 85 = .ok (.ifCond .eq 14, 3) := by decide +kernel
theorem dX10_worksSpot_88 : decode cX10_worksSpot 88 = .ok (.aload_n 0, 1) := by decide +kernel
theorem dX10_worksSpot_89 : decode cX10_worksSpot 89 = .ok (.iload_n 2, 1) := by decide +kernel
theorem dX10_worksSpot_90 : decode cX10_worksSpot 90 = .ok (.lconst 0, 1) := by decide +kernel
theorem dX10_worksSpot_91 : decode cX10_worksSpot 91 = .ok (.iload 5, 2) := by decide +kernel
theorem dX10_worksSpot_93 : decode cX10_worksSpot 93 = .ok (.invokestatic 264, 3) := by decide +kernel
theorem dX10_worksSpot_96 : decode cX10_worksSpot 96 = .ok (.invokevirtual 285, 3) := by decide +kernel
theorem dX10_worksSpot_99 : decode cX10_worksSpot 99 = .ok (.iinc 5 1, 3) := by decide +kernel
theorem dX10_worksSpot_102 : decode cX10_worksSpot 102 = .ok (.goto (-35), 3) := by decide +kernel
theorem dX10_worksSpot_105 : decode cX10_worksSpot 105 = .ok (.iconst 1, 1) := by decide +kernel
theorem dX10_worksSpot_106 : decode cX10_worksSpot 106 = .ok (.ireturn, 1) := by decide +kernel
def mwX10_worksSpotm : List Cond := .code yX10_worksSpot cX10_worksSpot 6 (some .boolean) :: ([.fieldLink RX10 51 "PatternGateModel" "rowMany" "[I", .code yX10_oneEmpty cX10_oneEmpty 2 none, .fieldLink RX10 64 "PatternGateModel" "needMany" "[I", .fieldLink RX10 56 "PatternGateModel" "needs" "[[[I", .methodLink RX10 303 yX10_oneEmpty, .instanceMethod yX10_oneEmpty, .selects RX10 yX10_oneEmpty yX10_oneEmpty, .initialized RX10, .fieldLink RX10 37 "PatternGateModel" "letters" "[I", .code yX10_has cX10_has 2 (some .boolean), .methodLink RX10 170 yX10_has, .static yX10_has, .code yX10_with cX10_with 3 (some .long), .constantLong RX10 254 (1125899906842624), .code yX10_longOf cX10_longOf 2 (some .int), .methodLink RX10 256 yX10_longOf, .static yX10_longOf, .methodLink RX10 264 yX10_with, .static yX10_with, .code yX10_addsRow cX10_addsRow 5 none, .fieldLink RX10 48 "PatternGateModel" "rows" "[[J", .methodLink RX10 285 yX10_addsRow, .instanceMethod yX10_addsRow, .selects RX10 yX10_addsRow yX10_addsRow] ++ wsX100)
theorem fin_X10_worksSpotm_X10 : ∀ w ∈ wsX100, w ∈ mwX10_worksSpotm := fun w h => List.mem_cons_of_mem _ (List.mem_append_right _ h)
set_option maxRecDepth 20000 in
theorem mg_X10_worksSpotm_X10_oneEmpty_303 : GoodIn mwX10_worksSpotm (wsV RX10 303 RX10 yX10_oneEmpty mwX10_oneEmptym) := goodIn_r _ [5, 6, 7, 8, 2, 3, 4, 25, 26, 27, 28, 29, 30, 31, 32, 33, 34, 35, 36, 37, 38, 39, 40, 41, 42, 43, 44, 45, 46, 47, 48, 49, 50, 51, 52, 53, 54, 55, 56, 57, 58, 59, 60, 61, 62, 63, 64, 65, 66, 67, 68, 69, 70, 71, 72] (by decide +kernel) (by decide +kernel)
set_option maxRecDepth 20000 in
theorem mg_X10_worksSpotm_X10_has_170 : GoodIn mwX10_worksSpotm (va_wsS RX10 170 yX10_has mwX10_hasmD) := goodIn_r _ [11, 12, 8, 10] (by decide +kernel) (by decide +kernel)
set_option maxRecDepth 20000 in
theorem mg_X10_worksSpotm_X10_with_264 : GoodIn mwX10_worksSpotm (va_wsS RX10 264 yX10_with mwX10_withm) := goodIn_r _ [18, 19, 8, 13, 14, 15, 16, 17, 8] (by decide +kernel) (by decide +kernel)
set_option maxRecDepth 20000 in
theorem mg_X10_worksSpotm_X10_addsRow_285 : GoodIn mwX10_worksSpotm (wsV RX10 285 RX10 yX10_addsRow mwX10_addsRowm) := goodIn_r _ [22, 23, 24, 8, 20, 1, 21, 25, 26, 27, 28, 29, 30, 31, 32, 33, 34, 35, 36, 37, 38, 39, 40, 41, 42, 43, 44, 45, 46, 47, 48, 49, 50, 51, 52, 53, 54, 55, 56, 57, 58, 59, 60, 61, 62, 63, 64, 65, 66, 67, 68, 69, 70, 71, 72] (by decide +kernel) (by decide +kernel)
set_option maxHeartbeats 4000000 in
set_option maxRecDepth 100000 in
theorem m_worksSpot (l : Launch) (dC : Nat → ClassId) (dI : Nat → Nat → Nat) (ad : Nat → Nat) (kc : Nat → ClassId) (x0 x1 x2 x3 x4 x5 x6 x7 x8 x9 x10 x11 x12 x13 x14 x15 x16 x17 x18 x19 x20 x21 : Int32) (f0 f1 f2 f3 f4 f5 f6 f7 f8 f9 f10 f11 f12 f13 f14 f15 f16 f17 f18 f19 f20 f21 : Nat → Int32) (fL : Nat → Nat → Int64) (fN : Nat → Nat → Int32) (fP : Nat → Nat → Nat) (fM : Nat → Nat → Int32) (fO : Nat → Nat → Int32) (sz : Nat) (i1 i2 i3 : Int32) (q0 : 0 ≤ i1.toInt ∧ i1.toInt < 1600) (q1 : 0 ≤ i2.toInt ∧ i2.toInt < x16.toInt) (q2 : x16.toInt + 0 ≤ 90) (q3 : 0 ≤ i3.toInt ∧ i3.toInt < x17.toInt) (q4 : x17.toInt + 0 ≤ 60) (q5 : PI fP) : Met l yX10_worksSpot mwX10_worksSpotm ({ frames := 2, cells := 0, slots := 0, locals := 120 }) (va_Pc [.ref (ad 0), .int i1, .int i2, .int i3] (fun U => U.heap.size = sz ∧ va_P (dC, dI) vwCl (mW ad kc x0 x1 x2 x3 x4 x5 x6 x7 x8 x9 x10 x11 x12 x13 x14 x15 x16 x17 x18 x19 x20 x21 f0 f1 f2 f3 f4 f5 f6 f7 f8 f9 f10 f11 f12 f13 f14 f15 f16 f17 f18 f19 f20 f21 fL fN fP fM fO) U.heap ∧ va_K (dC, dI) vwCl (mT kc) U ∧ va_D (fun _ => True) (mW ad kc x0 x1 x2 x3 x4 x5 x6 x7 x8 x9 x10 x11 x12 x13 x14 x15 x16 x17 x18 x19 x20 x21 f0 f1 f2 f3 f4 f5 f6 f7 f8 f9 f10 f11 f12 f13 f14 f15 f16 f17 f18 f19 f20 f21 fL fN fP fM fO))) (va_Qi (fun (o9 u9 : Int32) => o9 = u9) (fun (o9 : Int32) t => ∃ (y16 y17 y18 : Int32) (g9 g10 g11 : Nat → Int32) (L9 : Nat → Nat → Int64) (Nn9 : Nat → Nat → Int32) (M9 : Nat → Nat → Int32) (O9 : Nat → Nat → Int32), (o9.toInt = 0 ∨ o9.toInt = 1) ∧ (y16.toInt = x16.toInt) ∧ (y17.toInt = x17.toInt) ∧ (wF fL f9 f10 (rO fN fM fO) L9 g9 g10 (rO Nn9 M9 O9) i2.toInt i3.toInt x16.toInt x17.toInt) ∧ (nOK (rO Nn9 M9 O9) fP g10 i3.toInt 1) ∧ (o9.toInt = 1 → sOK L9 g9 i2.toInt 6 1) ∧ va_P (dC, dI) vwCl (mW ad kc x0 x1 x2 x3 x4 x5 x6 x7 x8 x9 x10 x11 x12 x13 x14 x15 y16 y17 y18 x19 x20 x21 f0 f1 f2 f3 f4 f5 f6 f7 f8 g9 g10 g11 f12 f13 f14 f15 f16 f17 f18 f19 f20 f21 L9 Nn9 fP M9 O9) t.heap ∧ va_K (dC, dI) vwCl (mT kc) t ∧ va_D (va_A (mW ad kc x0 x1 x2 x3 x4 x5 x6 x7 x8 x9 x10 x11 x12 x13 x14 x15 x16 x17 x18 x19 x20 x21 f0 f1 f2 f3 f4 f5 f6 f7 f8 f9 f10 f11 f12 f13 f14 f15 f16 f17 f18 f19 f20 f21 fL fN fP fM fO) sz) (mW ad kc x0 x1 x2 x3 x4 x5 x6 x7 x8 x9 x10 x11 x12 x13 x14 x15 y16 y17 y18 x19 x20 x21 f0 f1 f2 f3 f4 f5 f6 f7 f8 g9 g10 g11 f12 f13 f14 f15 f16 f17 f18 f19 f20 f21 L9 Nn9 fP M9 O9)) (va_A (mW ad kc x0 x1 x2 x3 x4 x5 x6 x7 x8 x9 x10 x11 x12 x13 x14 x15 x16 x17 x18 x19 x20 x21 f0 f1 f2 f3 f4 f5 f6 f7 f8 f9 f10 f11 f12 f13 f14 f15 f16 f17 f18 f19 f20 f21 fL fN fP fM fO) sz)) 0 0 (va_A (mW ad kc x0 x1 x2 x3 x4 x5 x6 x7 x8 x9 x10 x11 x12 x13 x14 x15 x16 x17 x18 x19 x20 x21 f0 f1 f2 f3 f4 f5 f6 f7 f8 f9 f10 f11 f12 f13 f14 f15 f16 f17 f18 f19 f20 f21 fL fN fP fM fO) sz) := by
  refine Met.ofW (cc := cX10_worksSpot) (maxL := 6) (ret := (some .boolean)) (by decide +kernel) rfl ?_
  intro p e s m args below meth c s₁ B hml hv
  obtain ⟨rfl, hsz, hP, hK, hD0⟩ := hv
  have hx := B.exec
  have hb := B.bytes
  have hr := B.returns
  have hts := atoms_spec (ws := mwX10_worksSpotm) B.pre
  have hown : s.vm.findClass RX10 = some m.cls := findClass_of_methodNamed B.named
  have hlocks := B.notSynchronized
  subst hsz
  have hD := hD0.self (sz := s.heap.size)
  generalize hAe : va_A (mW ad kc x0 x1 x2 x3 x4 x5 x6 x7 x8 x9 x10 x11 x12 x13 x14 x15 x16 x17 x18 x19 x20 x21 f0 f1 f2 f3 f4 f5 f6 f7 f8 f9 f10 f11 f12 f13 f14 f15 f16 f17 f18 f19 f20 f21 fL fN fP fM fO) s.heap.size = A at hD ⊢
  have hA : ∀ q : Nat, s.heap.size ≤ q → A q := fun q h => by rw [← hAe]; exact Or.inr h
  have hP : va_P (dC, dI) vwCl (mW ad kc x0 x1 x2 x3 x4 x5 x6 x7 x8 x9 x10 x11 x12 x13 x14 x15 x16 x17 x18 x19 x20 x21 f0 f1 f2 f3 f4 f5 f6 f7 f8 f9 f10 f11 f12 f13 f14 f15 f16 f17 f18 f19 f20 f21 fL fN fP fM fO) s.heap := hP
  have hD : va_D A (mW ad kc x0 x1 x2 x3 x4 x5 x6 x7 x8 x9 x10 x11 x12 x13 x14 x15 x16 x17 x18 x19 x20 x21 f0 f1 f2 f3 f4 f5 f6 f7 f8 f9 f10 f11 f12 f13 f14 f15 f16 f17 f18 f19 f20 f21 fL fN fP fM fO) := hD
  have hK : va_K (dC, dI) vwCl (mT kc) s := hK
  generalize hH : s.heap = H at hP ⊢
  have hS : va_S A s.heap H [] := by rw [← hH]; exact va_S.rf
  have hl := lv_entry ([.ref (ad 0), .int i1, .int i2, .int i3]) (n := 6) (Nat.le_of_ble_eq_true rfl)
  rw [lg_entry_eq]
  generalize (lg_sl ([.ref (ad 0), .int i1, .int i2, .int i3]) ++ List.replicate (6 - (lg_sl ([.ref (ad 0), .int i1, .int i2, .int i3])).length) Slot.unset).toArray = ls at hl ⊢
  have hl : lv_has ls 6 [(0, .ref (ad 0)), (1, .int i1), (2, .int i2), (3, .int i3)] := hl
  have rg_i1 := i_rng i1
  have rg_i2 := i_rng i2
  have rg_i3 := i_rng i3
  refine lv_iconst (v := 0) hx hb dX10_worksSpot_0 (by decide) ?_
  refine lv_istore (lv' := [(4, .int 0), (0, .ref (ad 0)), (1, .int i1), (2, .int i2), (3, .int i3)]) hx hb dX10_worksSpot_1 hl (by decide) rfl (fun ls hl => ?_)
  refine lv_aload_n hx hb dX10_worksSpot_3 rfl (lv_at hl 1 rfl) ?_
  refine va_get (D := (dC, dI)) (ci := 10) (v := .ref (ad 10)) (C := RX10) (T := TX10) (N := 48) hx hb hts fin_X10_worksSpotm_X10 hown hK hP 0 rfl rfl 26 (by decide) (hts (.fieldLink RX10 51 "PatternGateModel" "rowMany" "[I") (List.mem_of_getElem? (i := 1) (by decide +kernel))) (fun _ h9 => h9) rfl dX10_worksSpot_4 ?_
  refine lv_iload_n hx hb dX10_worksSpot_7 rfl (lv_at hl 3 rfl) ?_
  refine lv_iconst (v := 0) hx hb dX10_worksSpot_8 (by decide) ?_
  refine va_iast hx hb hK hP hD hS 10 9 rfl rfl (i := i2) (vp_of (a := i2.toInt) rfl (by omega) (by omega)) dX10_worksSpot_9 (fun H locs hP hD hS => ?_)
  generalize hf_f_1 : upd f9 _ _ = f_1 at hP hD
  have uf_1 := vI_up (a := i2.toInt) (b := 0) hf_f_1 (by first | omega | decide) (by omega) (by decide)
  have hP : va_P (dC, dI) vwCl (mW ad kc x0 x1 x2 x3 x4 x5 x6 x7 x8 x9 x10 x11 x12 x13 x14 x15 x16 x17 x18 x19 x20 x21 f0 f1 f2 f3 f4 f5 f6 f7 f8 f_1 f10 f11 f12 f13 f14 f15 f16 f17 f18 f19 f20 f21 fL fN fP fM fO) H := hP
  have hD : va_D A (mW ad kc x0 x1 x2 x3 x4 x5 x6 x7 x8 x9 x10 x11 x12 x13 x14 x15 x16 x17 x18 x19 x20 x21 f0 f1 f2 f3 f4 f5 f6 f7 f8 f_1 f10 f11 f12 f13 f14 f15 f16 f17 f18 f19 f20 f21 fL fN fP fM fO) := hD
  refine lv_aload_n hx hb dX10_worksSpot_10 rfl (lv_at hl 1 rfl) ?_
  refine lv_iload_n hx hb dX10_worksSpot_11 rfl (lv_at hl 4 rfl) ?_
  have hFc := m_free hD hS hA
  refine va_callv (va_runV (As := [.int i3]) (rest := []) ⟨hx, hb, hml, hown, hts⟩ (m_oneEmpty l dC dI ad kc x0 x1 x2 x3 x4 x5 x6 x7 x8 x9 x10 x11 x12 x13 x14 x15 x16 x17 x18 x19 x20 x21 f0 f1 f2 f3 f4 f5 f6 f7 f8 f_1 f10 f11 f12 f13 f14 f15 f16 f17 f18 f19 f20 f21 fL fN fP fM fO H.size i3 (by first | omega | assumption | decide | (have l0 := Int32.toInt_zero; omega)) (by first | omega | assumption | decide | (have l0 := Int32.toInt_zero; omega))) (cwV 1 hts mg_X10_worksSpotm_X10_oneEmpty_303 rfl rfl rfl (by decide +kernel) ⟨Nat.le_of_ble_eq_true rfl, Nat.le_of_ble_eq_true rfl⟩) ⟨fun a U g mk q => by obtain ⟨q0, q1, qP, qK, qD⟩ := q; exact ⟨q0, q1, qP, va_K.moved (u := U) (U := U.calling g mk a) (Vm.Alike.refl U.vm) qK, qD⟩, va_recv hK hP (ci := 10) (q0 := 0) rfl rfl, fun U hU hW => ⟨rfl, by rw [hU], by rw [hU]; exact hP, va_K.moved hW.alike hK, hD.weaken (fun _ _ _ _ => trivial)⟩⟩ rfl rfl hl.1 rfl (lv_room (Nat.le_of_ble_eq_true rfl)) dX10_worksSpot_12 ⟨Nat.le_of_ble_eq_true rfl, Nat.le_of_ble_eq_true rfl⟩) hS (fun q _ h => hFc q h) hFc (fun u t H1 locs ht hvm hw hB hz1 hk1 hS => ?_)
  obtain ⟨f_3, Nn_4, M_5, O_6, hr_2_0, hr_2_1, hr_2_2, hP, hK1, hD1⟩ := hB
  rw [ht] at hP
  have hD := hD1.weaken (fun k q _ h => hFc q.1 h)
  clear hz1 hk1 hFc hD1 hK1 hvm
  generalize H1 = H at hP hS ⊢
  have hP : va_P (dC, dI) vwCl (mW ad kc x0 x1 x2 x3 x4 x5 x6 x7 x8 x9 x10 x11 x12 x13 x14 x15 x16 x17 x18 x19 x20 x21 f0 f1 f2 f3 f4 f5 f6 f7 f8 f_1 f_3 f11 f12 f13 f14 f15 f16 f17 f18 f19 f20 f21 fL Nn_4 fP M_5 O_6) H := hP
  have hD : va_D A (mW ad kc x0 x1 x2 x3 x4 x5 x6 x7 x8 x9 x10 x11 x12 x13 x14 x15 x16 x17 x18 x19 x20 x21 f0 f1 f2 f3 f4 f5 f6 f7 f8 f_1 f_3 f11 f12 f13 f14 f15 f16 f17 f18 f19 f20 f21 fL Nn_4 fP M_5 O_6) := hD
  refine lv_iconst (v := 0) hx hb dX10_worksSpot_15 (by decide) ?_
  refine lv_istore (lv' := [(5, .int 0), (4, .int 0), (0, .ref (ad 0)), (1, .int i1), (2, .int i2), (3, .int i3)]) hx hb dX10_worksSpot_16 hl (by decide) rfl (fun ls hl => ?_)
  have loop18 : ∀ (lm18 : Nat) (nn kk : Int32), (0 ≤ kk.toInt) → (kk.toInt ≤ 26) → (nn.toInt = hcn (f6 i1.toNatClampNeg) kk.toInt.toNat) → (0 ≤ nn.toInt ∧ nn.toInt ≤ kk.toInt) → ((26 - kk.toInt).toNat) < lm18 → ∀ (H : Heap) (locs : List Loc) (ls : Array Slot), va_P (dC, dI) vwCl (mW ad kc x0 x1 x2 x3 x4 x5 x6 x7 x8 x9 x10 x11 x12 x13 x14 x15 x16 x17 x18 x19 x20 x21 f0 f1 f2 f3 f4 f5 f6 f7 f8 f_1 f_3 f11 f12 f13 f14 f15 f16 f17 f18 f19 f20 f21 fL Nn_4 fP M_5 O_6) H → va_D A (mW ad kc x0 x1 x2 x3 x4 x5 x6 x7 x8 x9 x10 x11 x12 x13 x14 x15 x16 x17 x18 x19 x20 x21 f0 f1 f2 f3 f4 f5 f6 f7 f8 f_1 f_3 f11 f12 f13 f14 f15 f16 f17 f18 f19 f20 f21 fL Nn_4 fP M_5 O_6) → va_S A s.heap H locs → lv_has ls 6 [(5, .int kk), (4, .int nn), (0, .ref (ad 0)), (1, .int i1), (2, .int i2), (3, .int i3)] → W p l e (headSpec mwX10_worksSpotm ({ frames := 2, cells := 0, slots := 0, locals := 120 })).room s m ([.ref (ad 0), .int i1, .int i2, .int i3]).toArray below meth c H locs 0 0 (MQ below (va_Qi (fun (o9 u9 : Int32) => o9 = u9) (fun (o9 : Int32) t => ∃ (y16 y17 y18 : Int32) (g9 g10 g11 : Nat → Int32) (L9 : Nat → Nat → Int64) (Nn9 : Nat → Nat → Int32) (M9 : Nat → Nat → Int32) (O9 : Nat → Nat → Int32), (o9.toInt = 0 ∨ o9.toInt = 1) ∧ (y16.toInt = x16.toInt) ∧ (y17.toInt = x17.toInt) ∧ (wF fL f9 f10 (rO fN fM fO) L9 g9 g10 (rO Nn9 M9 O9) i2.toInt i3.toInt x16.toInt x17.toInt) ∧ (nOK (rO Nn9 M9 O9) fP g10 i3.toInt 1) ∧ (o9.toInt = 1 → sOK L9 g9 i2.toInt 6 1) ∧ va_P (dC, dI) vwCl (mW ad kc x0 x1 x2 x3 x4 x5 x6 x7 x8 x9 x10 x11 x12 x13 x14 x15 y16 y17 y18 x19 x20 x21 f0 f1 f2 f3 f4 f5 f6 f7 f8 g9 g10 g11 f12 f13 f14 f15 f16 f17 f18 f19 f20 f21 L9 Nn9 fP M9 O9) t.heap ∧ va_K (dC, dI) vwCl (mT kc) t ∧ va_D A (mW ad kc x0 x1 x2 x3 x4 x5 x6 x7 x8 x9 x10 x11 x12 x13 x14 x15 y16 y17 y18 x19 x20 x21 f0 f1 f2 f3 f4 f5 f6 f7 f8 g9 g10 g11 f12 f13 f14 f15 f16 f17 f18 f19 f20 f21 L9 Nn9 fP M9 O9)) A) ([.ref (ad 0), .int i1, .int i2, .int i3]).toArray s 0 0 A) (F0 m 18 ls []) := by
    intro lm18
    induction lm18 with
    | zero => intro nn kk v18_0 v18_1 v18_2 v18_3 hm18; exact absurd hm18 (Nat.not_lt_zero _)
    | succ lm18 ih18 =>
      intro nn kk v18_0 v18_1 v18_2 v18_3 hm18 H locs ls hP hD hS hl
      have rg_nn := i_rng nn
      have rg_kk := i_rng kk
      refine lv_iload hx hb dX10_worksSpot_18 (lv_at hl 0 rfl) ?_
      refine lv_bipush (v := 26) hx hb dX10_worksSpot_20 (by decide) ?_
      refine lv_icmp_ge (tgt := 55) hx hb dX10_worksSpot_22 (by decide) (fun k_7 => ?_) (fun k_7 => ?_)
      · have tk_7 := c_ge (a := kk.toInt) (b := 26) rfl (by decide) k_7
        refine lv_iload hx hb dX10_worksSpot_55 (lv_at hl 1 rfl) ?_
        refine lv_bipush (v := 6) hx hb dX10_worksSpot_57 (by decide) ?_
        refine lv_icmp_le (tgt := 64) hx hb dX10_worksSpot_59 (by decide) (fun k_8 => ?_) (fun k_8 => ?_)
        · have tk_8 := c_le (a := nn.toInt) (b := 6) rfl (by decide) k_8
          refine lv_iconst (v := 0) hx hb dX10_worksSpot_64 (by decide) ?_
          refine lv_istore (lv' := [(5, .int 0), (4, .int nn), (0, .ref (ad 0)), (1, .int i1), (2, .int i2), (3, .int i3)]) hx hb dX10_worksSpot_65 hl (by decide) rfl (fun ls hl => ?_)
          have loop67 : ∀ (lm67 : Nat) (k2 : Int32) (ga : Nat → Int32) (la : Nat → Nat → Int64), (0 ≤ k2.toInt) → (k2.toInt ≤ 26) → (sFr fL f9 la ga i2.toInt) → (sOK la ga i2.toInt (hcn (f6 i1.toNatClampNeg) k2.toInt.toNat) 1) → ((26 - k2.toInt).toNat) < lm67 → ∀ (H : Heap) (locs : List Loc) (ls : Array Slot), va_P (dC, dI) vwCl (mW ad kc x0 x1 x2 x3 x4 x5 x6 x7 x8 x9 x10 x11 x12 x13 x14 x15 x16 x17 x18 x19 x20 x21 f0 f1 f2 f3 f4 f5 f6 f7 f8 ga f_3 f11 f12 f13 f14 f15 f16 f17 f18 f19 f20 f21 la Nn_4 fP M_5 O_6) H → va_D A (mW ad kc x0 x1 x2 x3 x4 x5 x6 x7 x8 x9 x10 x11 x12 x13 x14 x15 x16 x17 x18 x19 x20 x21 f0 f1 f2 f3 f4 f5 f6 f7 f8 ga f_3 f11 f12 f13 f14 f15 f16 f17 f18 f19 f20 f21 la Nn_4 fP M_5 O_6) → va_S A s.heap H locs → lv_has ls 6 [(5, .int k2), (4, .int nn), (0, .ref (ad 0)), (1, .int i1), (2, .int i2), (3, .int i3)] → W p l e (headSpec mwX10_worksSpotm ({ frames := 2, cells := 0, slots := 0, locals := 120 })).room s m ([.ref (ad 0), .int i1, .int i2, .int i3]).toArray below meth c H locs 0 0 (MQ below (va_Qi (fun (o9 u9 : Int32) => o9 = u9) (fun (o9 : Int32) t => ∃ (y16 y17 y18 : Int32) (g9 g10 g11 : Nat → Int32) (L9 : Nat → Nat → Int64) (Nn9 : Nat → Nat → Int32) (M9 : Nat → Nat → Int32) (O9 : Nat → Nat → Int32), (o9.toInt = 0 ∨ o9.toInt = 1) ∧ (y16.toInt = x16.toInt) ∧ (y17.toInt = x17.toInt) ∧ (wF fL f9 f10 (rO fN fM fO) L9 g9 g10 (rO Nn9 M9 O9) i2.toInt i3.toInt x16.toInt x17.toInt) ∧ (nOK (rO Nn9 M9 O9) fP g10 i3.toInt 1) ∧ (o9.toInt = 1 → sOK L9 g9 i2.toInt 6 1) ∧ va_P (dC, dI) vwCl (mW ad kc x0 x1 x2 x3 x4 x5 x6 x7 x8 x9 x10 x11 x12 x13 x14 x15 y16 y17 y18 x19 x20 x21 f0 f1 f2 f3 f4 f5 f6 f7 f8 g9 g10 g11 f12 f13 f14 f15 f16 f17 f18 f19 f20 f21 L9 Nn9 fP M9 O9) t.heap ∧ va_K (dC, dI) vwCl (mT kc) t ∧ va_D A (mW ad kc x0 x1 x2 x3 x4 x5 x6 x7 x8 x9 x10 x11 x12 x13 x14 x15 y16 y17 y18 x19 x20 x21 f0 f1 f2 f3 f4 f5 f6 f7 f8 g9 g10 g11 f12 f13 f14 f15 f16 f17 f18 f19 f20 f21 L9 Nn9 fP M9 O9)) A) ([.ref (ad 0), .int i1, .int i2, .int i3]).toArray s 0 0 A) (F0 m 67 ls []) := by
            intro lm67
            induction lm67 with
            | zero => intro k2 ga la v67_0 v67_1 v67_2 v67_3 hm67; exact absurd hm67 (Nat.not_lt_zero _)
            | succ lm67 ih67 =>
              intro k2 ga la v67_0 v67_1 v67_2 v67_3 hm67 H locs ls hP hD hS hl
              have rg_k2 := i_rng k2
              refine lv_iload hx hb dX10_worksSpot_67 (lv_at hl 0 rfl) ?_
              refine lv_bipush (v := 26) hx hb dX10_worksSpot_69 (by decide) ?_
              refine lv_icmp_ge (tgt := 105) hx hb dX10_worksSpot_71 (by decide) (fun k_9 => ?_) (fun k_9 => ?_)
              · have tk_9 := c_ge (a := k2.toInt) (b := 26) rfl (by decide) k_9
                refine lv_iconst (v := 1) hx hb dX10_worksSpot_105 (by decide) ?_
                have lit_9 : (1 : Int32).toInt = 1 := by decide
                exact W.zret hx hb hr (z_nar (by first | assumption | decide | exact z_of (by omega))) (fun t ht hW => ⟨⟨_, _, rfl, rfl, x16, x17, x18, ga, f_3, f11, la, Nn_4, M_5, O_6, (by first | omega | assumption | rfl | decide), (by first | omega | assumption | rfl | decide), (by first | omega | assumption | rfl | decide), ((wF.row v67_2 (Or.inr rfl) (by omega)).tr (wF.need hr_2_1 hr_2_2 (Or.inr rfl) (by omega) (by omega))), (hr_2_0.mono (by omega)), (fun _ => v67_3.mono (by rw [show k2.toInt.toNat = 26 by omega]; rw [show kk.toInt.toNat = 26 by omega] at v18_2; omega) (by omega)), by rw [ht]; exact hP, va_K.moved hW.alike hK, hD⟩, hS.F ht⟩) hS.2.2 dX10_worksSpot_106
              · have tk_9 := c_nge (a := k2.toInt) (b := 26) rfl (by decide) k_9
                refine lv_aload_n hx hb dX10_worksSpot_74 rfl (lv_at hl 2 rfl) ?_
                refine va_get (D := (dC, dI)) (ci := 10) (v := .ref (ad 7)) (C := RX10) (T := TX10) (N := 48) hx hb hts fin_X10_worksSpotm_X10 hown hK hP 0 rfl rfl 18 (by decide) (hts (.fieldLink RX10 37 "PatternGateModel" "letters" "[I") (List.mem_of_getElem? (i := 9) (by decide +kernel))) (fun _ h9 => h9) rfl dX10_worksSpot_75 ?_
                refine lv_iload_n hx hb dX10_worksSpot_78 rfl (lv_at hl 3 rfl) ?_
                refine va_iald hx hb hK hP 7 6 rfl rfl (i := i1) (vp_of (a := i1.toInt) rfl (by omega) (by omega)) dX10_worksSpot_79 ?_
                refine lv_topi (fun y_11 ey_11 => ?_)
                have rg_y_11 := i_rng y_11
                have hly_11 : y_11 = f6 i1.toNatClampNeg := ey_11
                refine lv_iload hx hb dX10_worksSpot_80 (lv_at hl 0 rfl) ?_
                refine vp_callSi (W.runS (As := [.int y_11, .int k2]) (rest := []) ⟨hx, hb, hml, hown, hts⟩ (m_hasD l dC dI  y_11 k2 ) (va_cwS 2 hts mg_X10_worksSpotm_X10_has_170 rfl rfl rfl (by decide +kernel) ⟨Nat.le_of_ble_eq_true rfl, Nat.le_of_ble_eq_true rfl⟩) ⟨fun a U g mk q => ⟨q.1, trivial⟩, fun U hU hW => ⟨rfl, trivial⟩⟩ rfl rfl hl.1 rfl (lv_room (Nat.le_of_ble_eq_true rfl)) dX10_worksSpot_82 ⟨Nat.le_of_ble_eq_true rfl, Nat.le_of_ble_eq_true rfl⟩) (fun r_12 hr_12 => ?_)
                have rg_r_12 := i_rng r_12
                have hqr_12 := hr_12.1
                rw [hly_11] at hqr_12
                refine lv_if_eq (tgt := 99) hx hb dX10_worksSpot_85 (by decide) (fun k_13 => ?_) (fun k_13 => ?_)
                · have tk_13 := c_eq (a := r_12.toInt) (b := 0) rfl (by decide) k_13
                  obtain ⟨y_14, ey_14⟩ : ∃ y : Int32, y = k2 + 1 := ⟨_, rfl⟩
                  first | have ty_14 := i_add (a := k2.toInt) (b := 1) rfl (by decide) ey_14 (by omega) (by omega) | skip
                  refine lv_iinc (v := y_14) (lv' := [(5, .int y_14), (4, .int nn), (0, .ref (ad 0)), (1, .int i1), (2, .int i2), (3, .int i3)]) hx hb dX10_worksSpot_99 hl (k := 0) rfl (by rw [ey_14]; rfl) (by decide) rfl (fun ls hl => ?_)
                  refine lv_goto (tgt := 67) hx hb dX10_worksSpot_102 (by decide) ?_
                  exact ih67 y_14 ga la (by first | omega | assumption | decide) (by first | omega | assumption | decide) v67_2 (by rw [hcn_st (kk := k2) (by omega) (by omega), show hB (f6 i1.toNatClampNeg) k2 = 0 by omega]; exact v67_3.mono (by omega) (by omega)) (by omega) _ _ ls hP hD hS (lv_sub hl [0, 1, 2, 3, 4, 5] rfl)
                · have tk_13 := c_ne (a := r_12.toInt) (b := 0) rfl (by decide) k_13
                  refine lv_aload_n hx hb dX10_worksSpot_88 rfl (lv_at hl 2 rfl) ?_
                  refine lv_iload_n hx hb dX10_worksSpot_89 rfl (lv_at hl 4 rfl) ?_
                  refine lv_lconst (v := 0) hx hb dX10_worksSpot_90 (by decide) ?_
                  refine lv_iload hx hb dX10_worksSpot_91 (lv_at hl 0 rfl) ?_
                  refine vp_callSl (W.runS (As := [.long 0, .int k2]) (rest := [.int i2, .ref (ad 0)]) ⟨hx, hb, hml, hown, hts⟩ (m_with l dC dI  k2 0 ) (va_cwS 2 hts mg_X10_worksSpotm_X10_with_264 rfl rfl rfl (by decide +kernel) ⟨Nat.le_of_ble_eq_true rfl, Nat.le_of_ble_eq_true rfl⟩) ⟨fun a U g mk q => ⟨q.1, trivial⟩, fun U hU hW => ⟨rfl, trivial⟩⟩ rfl rfl hl.1 rfl (lv_room (Nat.le_of_ble_eq_true rfl)) dX10_worksSpot_93 ⟨Nat.le_of_ble_eq_true rfl, Nat.le_of_ble_eq_true rfl⟩) (fun r_15 hr_15 => ?_)
                  have hw9 := hr_15 0 (by omega) (by omega) (by omega) rLen_0
                  have hFc := m_free hD hS hA
                  refine va_callv (va_runV (As := [.int i2, .long r_15]) (rest := []) ⟨hx, hb, hml, hown, hts⟩ (m_addsRow l dC dI ad kc x0 x1 x2 x3 x4 x5 x6 x7 x8 x9 x10 x11 x12 x13 x14 x15 x16 x17 x18 x19 x20 x21 f0 f1 f2 f3 f4 f5 f6 f7 f8 ga f_3 f11 f12 f13 f14 f15 f16 f17 f18 f19 f20 f21 la Nn_4 fP M_5 O_6 H.size i2 r_15 (by first | omega | assumption | decide | (have l0 := Int32.toInt_zero; omega)) (by first | omega | assumption | decide | (have l0 := Int32.toInt_zero; omega)) v67_3.1 (by have h9 := v67_3.2.1; have h8 := hcn_le (f6 i1.toNatClampNeg) k2.toInt.toNat; omega)) (cwV 2 hts mg_X10_worksSpotm_X10_addsRow_285 rfl rfl rfl (by decide +kernel) ⟨Nat.le_of_ble_eq_true rfl, Nat.le_of_ble_eq_true rfl⟩) ⟨fun a U g mk q => by obtain ⟨q0, q1, qP, qK, qD⟩ := q; exact ⟨q0, q1, qP, va_K.moved (u := U) (U := U.calling g mk a) (Vm.Alike.refl U.vm) qK, qD⟩, va_recv hK hP (ci := 10) (q0 := 0) rfl rfl, fun U hU hW => ⟨rfl, by rw [hU], by rw [hU]; exact hP, va_K.moved hW.alike hK, hD.weaken (fun _ _ _ _ => trivial)⟩⟩ rfl rfl hl.1 rfl (lv_room (Nat.le_of_ble_eq_true rfl)) dX10_worksSpot_96 ⟨Nat.le_of_ble_eq_true rfl, Nat.le_of_ble_eq_true rfl⟩) hS (fun q _ h => hFc q h) hFc (fun u t H1 locs ht hvm hw hB hz1 hk1 hS => ?_)
                  obtain ⟨f_17, L_18, hr_16_0, hP, hK1, hD1⟩ := hB
                  rw [ht] at hP
                  have hD := hD1.weaken (fun k q _ h => hFc q.1 h)
                  clear hz1 hk1 hFc hD1 hK1 hvm
                  generalize H1 = H at hP hS ⊢
                  have hP : va_P (dC, dI) vwCl (mW ad kc x0 x1 x2 x3 x4 x5 x6 x7 x8 x9 x10 x11 x12 x13 x14 x15 x16 x17 x18 x19 x20 x21 f0 f1 f2 f3 f4 f5 f6 f7 f8 f_17 f_3 f11 f12 f13 f14 f15 f16 f17 f18 f19 f20 f21 L_18 Nn_4 fP M_5 O_6) H := hP
                  have hD : va_D A (mW ad kc x0 x1 x2 x3 x4 x5 x6 x7 x8 x9 x10 x11 x12 x13 x14 x15 x16 x17 x18 x19 x20 x21 f0 f1 f2 f3 f4 f5 f6 f7 f8 f_17 f_3 f11 f12 f13 f14 f15 f16 f17 f18 f19 f20 f21 L_18 Nn_4 fP M_5 O_6) := hD
                  obtain ⟨y_19, ey_19⟩ : ∃ y : Int32, y = k2 + 1 := ⟨_, rfl⟩
                  first | have ty_19 := i_add (a := k2.toInt) (b := 1) rfl (by decide) ey_19 (by omega) (by omega) | skip
                  refine lv_iinc (v := y_19) (lv' := [(5, .int y_19), (4, .int nn), (0, .ref (ad 0)), (1, .int i1), (2, .int i2), (3, .int i3)]) hx hb dX10_worksSpot_99 hl (k := 0) rfl (by rw [ey_19]; rfl) (by decide) rfl (fun ls hl => ?_)
                  refine lv_goto (tgt := 67) hx hb dX10_worksSpot_102 (by decide) ?_
                  exact ih67 y_19 f_17 L_18 (by first | omega | assumption | decide) (by first | omega | assumption | decide) (v67_2.add hr_16_0) (by rw [hcn_st (kk := k2) (by omega) (by omega), show hB (f6 i1.toNatClampNeg) k2 = 1 by omega]; exact v67_3.add hr_16_0 hw9 (by omega) (by omega)) (by omega) _ _ ls hP hD hS (lv_sub hl [0, 1, 2, 3, 4, 5] rfl)
          have lit_19 : (0 : Int32).toInt = 0 := by decide
          exact loop67 _ 0 f_1 fL (by first | omega | assumption | decide) (by first | omega | assumption | decide) (sFr.up uf_1) (sOK.zero uf_1.1 (Int.le_refl _)) (Nat.lt_succ_self _) _ _ ls hP hD hS (lv_sub hl [0, 1, 2, 3, 4, 5] rfl)
        · have tk_8 := c_nle (a := nn.toInt) (b := 6) rfl (by decide) k_8
          refine lv_iconst (v := 0) hx hb dX10_worksSpot_62 (by decide) ?_
          have lit_20 : (0 : Int32).toInt = 0 := by decide
          exact W.zret hx hb hr (z_nar (by first | assumption | decide | exact z_of (by omega))) (fun t ht hW => ⟨⟨_, _, rfl, rfl, x16, x17, x18, f_1, f_3, f11, fL, Nn_4, M_5, O_6, (by first | omega | assumption | rfl | decide), (by first | omega | assumption | rfl | decide), (by first | omega | assumption | rfl | decide), ((wF.row (sFr.up uf_1) (Or.inr rfl) (by omega)).tr (wF.need hr_2_1 hr_2_2 (Or.inr rfl) (by omega) (by omega))), (hr_2_0.mono (by omega)), (fun h9 => by omega), by rw [ht]; exact hP, va_K.moved hW.alike hK, hD⟩, hS.F ht⟩) hS.2.2 dX10_worksSpot_63
      · have tk_7 := c_nge (a := kk.toInt) (b := 26) rfl (by decide) k_7
        refine lv_iload hx hb dX10_worksSpot_25 (lv_at hl 1 rfl) ?_
        refine lv_aload_n hx hb dX10_worksSpot_27 rfl (lv_at hl 2 rfl) ?_
        refine va_get (D := (dC, dI)) (ci := 10) (v := .ref (ad 7)) (C := RX10) (T := TX10) (N := 48) hx hb hts fin_X10_worksSpotm_X10 hown hK hP 0 rfl rfl 18 (by decide) (hts (.fieldLink RX10 37 "PatternGateModel" "letters" "[I") (List.mem_of_getElem? (i := 9) (by decide +kernel))) (fun _ h9 => h9) rfl dX10_worksSpot_28 ?_
        refine lv_iload_n hx hb dX10_worksSpot_31 rfl (lv_at hl 3 rfl) ?_
        refine va_iald hx hb hK hP 7 6 rfl rfl (i := i1) (vp_of (a := i1.toInt) rfl (by omega) (by omega)) dX10_worksSpot_32 ?_
        refine lv_topi (fun y_22 ey_22 => ?_)
        have rg_y_22 := i_rng y_22
        have hly_22 : y_22 = f6 i1.toNatClampNeg := ey_22
        refine lv_iload hx hb dX10_worksSpot_33 (lv_at hl 0 rfl) ?_
        refine vp_callSi (W.runS (As := [.int y_22, .int kk]) (rest := [.int nn]) ⟨hx, hb, hml, hown, hts⟩ (m_hasD l dC dI  y_22 kk ) (va_cwS 2 hts mg_X10_worksSpotm_X10_has_170 rfl rfl rfl (by decide +kernel) ⟨Nat.le_of_ble_eq_true rfl, Nat.le_of_ble_eq_true rfl⟩) ⟨fun a U g mk q => ⟨q.1, trivial⟩, fun U hU hW => ⟨rfl, trivial⟩⟩ rfl rfl hl.1 rfl (lv_room (Nat.le_of_ble_eq_true rfl)) dX10_worksSpot_35 ⟨Nat.le_of_ble_eq_true rfl, Nat.le_of_ble_eq_true rfl⟩) (fun r_23 hr_23 => ?_)
        have rg_r_23 := i_rng r_23
        have hqr_23 := hr_23.1
        rw [hly_22] at hqr_23
        refine lv_if_eq (tgt := 45) hx hb dX10_worksSpot_38 (by decide) (fun k_24 => ?_) (fun k_24 => ?_)
        · have tk_24 := c_eq (a := r_23.toInt) (b := 0) rfl (by decide) k_24
          refine lv_iconst (v := 0) hx hb dX10_worksSpot_45 (by decide) ?_
          refine lv_iadd hx hb dX10_worksSpot_46 ?_
          refine lv_topi (fun y_25 ey_25 => ?_)
          first | have ty_25 := i_add (a := nn.toInt) (b := 0) rfl (by decide) ey_25 (by omega) (by omega) | skip
          refine lv_istore (lv' := [(4, .int y_25), (5, .int kk), (0, .ref (ad 0)), (1, .int i1), (2, .int i2), (3, .int i3)]) hx hb dX10_worksSpot_47 hl (by decide) rfl (fun ls hl => ?_)
          obtain ⟨y_26, ey_26⟩ : ∃ y : Int32, y = kk + 1 := ⟨_, rfl⟩
          first | have ty_26 := i_add (a := kk.toInt) (b := 1) rfl (by decide) ey_26 (by omega) (by omega) | skip
          refine lv_iinc (v := y_26) (lv' := [(5, .int y_26), (4, .int y_25), (0, .ref (ad 0)), (1, .int i1), (2, .int i2), (3, .int i3)]) hx hb dX10_worksSpot_49 hl (k := 1) rfl (by rw [ey_26]; rfl) (by decide) rfl (fun ls hl => ?_)
          refine lv_goto (tgt := 18) hx hb dX10_worksSpot_52 (by decide) ?_
          exact ih18 y_25 y_26 (by first | omega | assumption | decide) (by first | omega | assumption | decide) (by rw [hcn_st (kk := kk) (by omega) (by omega)]; omega) (by first | omega | assumption | decide) (by omega) _ _ ls hP hD hS (lv_sub hl [0, 1, 2, 3, 4, 5] rfl)
        · have tk_24 := c_ne (a := r_23.toInt) (b := 0) rfl (by decide) k_24
          refine lv_iconst (v := 1) hx hb dX10_worksSpot_41 (by decide) ?_
          refine lv_goto (tgt := 46) hx hb dX10_worksSpot_42 (by decide) ?_
          refine lv_iadd hx hb dX10_worksSpot_46 ?_
          refine lv_topi (fun y_27 ey_27 => ?_)
          first | have ty_27 := i_add (a := nn.toInt) (b := 1) rfl (by decide) ey_27 (by omega) (by omega) | skip
          refine lv_istore (lv' := [(4, .int y_27), (5, .int kk), (0, .ref (ad 0)), (1, .int i1), (2, .int i2), (3, .int i3)]) hx hb dX10_worksSpot_47 hl (by decide) rfl (fun ls hl => ?_)
          obtain ⟨y_28, ey_28⟩ : ∃ y : Int32, y = kk + 1 := ⟨_, rfl⟩
          first | have ty_28 := i_add (a := kk.toInt) (b := 1) rfl (by decide) ey_28 (by omega) (by omega) | skip
          refine lv_iinc (v := y_28) (lv' := [(5, .int y_28), (4, .int y_27), (0, .ref (ad 0)), (1, .int i1), (2, .int i2), (3, .int i3)]) hx hb dX10_worksSpot_49 hl (k := 1) rfl (by rw [ey_28]; rfl) (by decide) rfl (fun ls hl => ?_)
          refine lv_goto (tgt := 18) hx hb dX10_worksSpot_52 (by decide) ?_
          exact ih18 y_27 y_28 (by first | omega | assumption | decide) (by first | omega | assumption | decide) (by rw [hcn_st (kk := kk) (by omega) (by omega)]; omega) (by first | omega | assumption | decide) (by omega) _ _ ls hP hD hS (lv_sub hl [0, 1, 2, 3, 4, 5] rfl)
  have lit_28 : (0 : Int32).toInt = 0 := by decide
  have lit_29 : (0 : Int32).toInt = 0 := by decide
  exact loop18 _ 0 0 (by first | omega | assumption | decide) (by first | omega | assumption | decide) rfl (by first | omega | assumption | decide) (Nat.lt_succ_self _) _ _ ls hP hD hS (lv_sub hl [0, 1, 2, 3, 4, 5] rfl)
theorem dX10_worksOut_0 : decode cX10_worksOut 0 = .ok (.aload_n 0, 1) := by decide +kernel
theorem dX10_worksOut_1 : decode cX10_worksOut 1 = .ok (.getfield 28, 3) := by decide +kernel
theorem dX10_worksOut_4 : decode cX10_worksOut 4 = .ok (.iload_n 1, 1) := by decide +kernel
theorem dX10_worksOut_5 : decode cX10_worksOut 5 = .ok (.iaload, 1) := by decide +kernel
theorem dX10_worksOut_6 : decode cX10_worksOut 6 = .ok (.ifCond .ne 11, 3) := by decide +kernel
theorem dX10_worksOut_9 : decode cX10_worksOut 9 = .ok (.aload_n 0, 1) := by decide +kernel
theorem dX10_worksOut_10 : decode cX10_worksOut 10 = .ok (.iload_n 1, 1) := by decide +kernel
theorem dX10_worksOut_11 : decode cX10_worksOut 11 = .ok (.iload_n 2, 1) := by decide +kernel
theorem dX10_worksOut_12 : decode cX10_worksOut 12 = .ok (.iload_n 3, 1) := by decide +kernel
theorem dX10_worksOut_13 : decode cX10_worksOut 13 = .ok (.invokevirtual 319, 3) := by decide +kernel
theorem dX10_worksOut_16 : decode cX10_worksOut 16 = .ok (.ireturn, 1) := by decide +kernel
def mwX10_worksOutmS : List Cond := .code yX10_worksOut cX10_worksOut 4 (some .boolean) :: ([.fieldLink RX10 28 "PatternGateModel" "kind" "[I", .code yX10_worksSpot cX10_worksSpot 6 (some .boolean), .fieldLink RX10 51 "PatternGateModel" "rowMany" "[I", .code yX10_oneEmpty cX10_oneEmpty 2 none, .fieldLink RX10 64 "PatternGateModel" "needMany" "[I", .fieldLink RX10 56 "PatternGateModel" "needs" "[[[I", .methodLink RX10 303 yX10_oneEmpty, .instanceMethod yX10_oneEmpty, .selects RX10 yX10_oneEmpty yX10_oneEmpty, .initialized RX10, .fieldLink RX10 37 "PatternGateModel" "letters" "[I", .code yX10_has cX10_has 2 (some .boolean), .methodLink RX10 170 yX10_has, .static yX10_has, .code yX10_with cX10_with 3 (some .long), .constantLong RX10 254 (1125899906842624), .code yX10_longOf cX10_longOf 2 (some .int), .methodLink RX10 256 yX10_longOf, .static yX10_longOf, .methodLink RX10 264 yX10_with, .static yX10_with, .code yX10_addsRow cX10_addsRow 5 none, .fieldLink RX10 48 "PatternGateModel" "rows" "[[J", .methodLink RX10 285 yX10_addsRow, .instanceMethod yX10_addsRow, .selects RX10 yX10_addsRow yX10_addsRow, .methodLink RX10 319 yX10_worksSpot, .instanceMethod yX10_worksSpot, .selects RX10 yX10_worksSpot yX10_worksSpot] ++ wsX100)
theorem fin_X10_worksOutmS_X10 : ∀ w ∈ wsX100, w ∈ mwX10_worksOutmS := fun w h => List.mem_cons_of_mem _ (List.mem_append_right _ h)
set_option maxRecDepth 20000 in
theorem mg_X10_worksOutmS_X10_worksSpot_319 : GoodIn mwX10_worksOutmS (wsV RX10 319 RX10 yX10_worksSpot mwX10_worksSpotm) := goodIn_r _ [27, 28, 29, 10, 2, 3, 4, 5, 6, 7, 8, 9, 10, 11, 12, 13, 14, 15, 16, 17, 18, 19, 20, 21, 22, 23, 24, 25, 26, 30, 31, 32, 33, 34, 35, 36, 37, 38, 39, 40, 41, 42, 43, 44, 45, 46, 47, 48, 49, 50, 51, 52, 53, 54, 55, 56, 57, 58, 59, 60, 61, 62, 63, 64, 65, 66, 67, 68, 69, 70, 71, 72, 73, 74, 75, 76, 77] (by decide +kernel) (by decide +kernel)
set_option maxHeartbeats 4000000 in
set_option maxRecDepth 100000 in
theorem m_worksOutS (l : Launch) (dC : Nat → ClassId) (dI : Nat → Nat → Nat) (ad : Nat → Nat) (kc : Nat → ClassId) (x0 x1 x2 x3 x4 x5 x6 x7 x8 x9 x10 x11 x12 x13 x14 x15 x16 x17 x18 x19 x20 x21 : Int32) (f0 f1 f2 f3 f4 f5 f6 f7 f8 f9 f10 f11 f12 f13 f14 f15 f16 f17 f18 f19 f20 f21 : Nat → Int32) (fL : Nat → Nat → Int64) (fN : Nat → Nat → Int32) (fP : Nat → Nat → Nat) (fM : Nat → Nat → Int32) (fO : Nat → Nat → Int32) (sz : Nat) (i1 i2 i3 : Int32) (hi : Int) (q0 : 0 ≤ i1.toInt ∧ i1.toInt < 1600) (q1 : 0 ≤ i2.toInt ∧ i2.toInt < x16.toInt) (q2 : x16.toInt + 0 ≤ 90) (q3 : 0 ≤ i3.toInt ∧ i3.toInt < x17.toInt) (q4 : x17.toInt + 0 ≤ 60) (q5 : PI fP) (q6 : tSpot (mV f3 f4 f5 f7) i1.toInt hi 1) : Met l yX10_worksOut mwX10_worksOutmS ({ frames := 3, cells := 0, slots := 0, locals := 180 }) (va_Pc [.ref (ad 0), .int i1, .int i2, .int i3] (fun U => U.heap.size = sz ∧ va_P (dC, dI) vwCl (mW ad kc x0 x1 x2 x3 x4 x5 x6 x7 x8 x9 x10 x11 x12 x13 x14 x15 x16 x17 x18 x19 x20 x21 f0 f1 f2 f3 f4 f5 f6 f7 f8 f9 f10 f11 f12 f13 f14 f15 f16 f17 f18 f19 f20 f21 fL fN fP fM fO) U.heap ∧ va_K (dC, dI) vwCl (mT kc) U ∧ va_D (fun _ => True) (mW ad kc x0 x1 x2 x3 x4 x5 x6 x7 x8 x9 x10 x11 x12 x13 x14 x15 x16 x17 x18 x19 x20 x21 f0 f1 f2 f3 f4 f5 f6 f7 f8 f9 f10 f11 f12 f13 f14 f15 f16 f17 f18 f19 f20 f21 fL fN fP fM fO))) (va_Qi (fun (o9 u9 : Int32) => o9 = u9) (fun (o9 : Int32) t => ∃ (y16 y17 y18 : Int32) (g9 g10 g11 : Nat → Int32) (L9 : Nat → Nat → Int64) (Nn9 : Nat → Nat → Int32) (M9 : Nat → Nat → Int32) (O9 : Nat → Nat → Int32), (o9.toInt = 0 ∨ o9.toInt = 1) ∧ (y16.toInt = x16.toInt) ∧ (y17.toInt = x17.toInt) ∧ (wF fL f9 f10 (rO fN fM fO) L9 g9 g10 (rO Nn9 M9 O9) i2.toInt i3.toInt x16.toInt x17.toInt) ∧ (nOK (rO Nn9 M9 O9) fP g10 i3.toInt 1) ∧ (o9.toInt = 1 → sOK L9 g9 i2.toInt 6 1) ∧ va_P (dC, dI) vwCl (mW ad kc x0 x1 x2 x3 x4 x5 x6 x7 x8 x9 x10 x11 x12 x13 x14 x15 y16 y17 y18 x19 x20 x21 f0 f1 f2 f3 f4 f5 f6 f7 f8 g9 g10 g11 f12 f13 f14 f15 f16 f17 f18 f19 f20 f21 L9 Nn9 fP M9 O9) t.heap ∧ va_K (dC, dI) vwCl (mT kc) t ∧ va_D (va_A (mW ad kc x0 x1 x2 x3 x4 x5 x6 x7 x8 x9 x10 x11 x12 x13 x14 x15 x16 x17 x18 x19 x20 x21 f0 f1 f2 f3 f4 f5 f6 f7 f8 f9 f10 f11 f12 f13 f14 f15 f16 f17 f18 f19 f20 f21 fL fN fP fM fO) sz) (mW ad kc x0 x1 x2 x3 x4 x5 x6 x7 x8 x9 x10 x11 x12 x13 x14 x15 y16 y17 y18 x19 x20 x21 f0 f1 f2 f3 f4 f5 f6 f7 f8 g9 g10 g11 f12 f13 f14 f15 f16 f17 f18 f19 f20 f21 L9 Nn9 fP M9 O9)) (va_A (mW ad kc x0 x1 x2 x3 x4 x5 x6 x7 x8 x9 x10 x11 x12 x13 x14 x15 x16 x17 x18 x19 x20 x21 f0 f1 f2 f3 f4 f5 f6 f7 f8 f9 f10 f11 f12 f13 f14 f15 f16 f17 f18 f19 f20 f21 fL fN fP fM fO) sz)) 0 0 (va_A (mW ad kc x0 x1 x2 x3 x4 x5 x6 x7 x8 x9 x10 x11 x12 x13 x14 x15 x16 x17 x18 x19 x20 x21 f0 f1 f2 f3 f4 f5 f6 f7 f8 f9 f10 f11 f12 f13 f14 f15 f16 f17 f18 f19 f20 f21 fL fN fP fM fO) sz) := by
  refine Met.ofW (cc := cX10_worksOut) (maxL := 4) (ret := (some .boolean)) (by decide +kernel) rfl ?_
  intro p e s m args below meth c s₁ B hml hv
  obtain ⟨rfl, hsz, hP, hK, hD0⟩ := hv
  have hx := B.exec
  have hb := B.bytes
  have hr := B.returns
  have hts := atoms_spec (ws := mwX10_worksOutmS) B.pre
  have hown : s.vm.findClass RX10 = some m.cls := findClass_of_methodNamed B.named
  have hlocks := B.notSynchronized
  subst hsz
  have hD := hD0.self (sz := s.heap.size)
  generalize hAe : va_A (mW ad kc x0 x1 x2 x3 x4 x5 x6 x7 x8 x9 x10 x11 x12 x13 x14 x15 x16 x17 x18 x19 x20 x21 f0 f1 f2 f3 f4 f5 f6 f7 f8 f9 f10 f11 f12 f13 f14 f15 f16 f17 f18 f19 f20 f21 fL fN fP fM fO) s.heap.size = A at hD ⊢
  have hA : ∀ q : Nat, s.heap.size ≤ q → A q := fun q h => by rw [← hAe]; exact Or.inr h
  have hP : va_P (dC, dI) vwCl (mW ad kc x0 x1 x2 x3 x4 x5 x6 x7 x8 x9 x10 x11 x12 x13 x14 x15 x16 x17 x18 x19 x20 x21 f0 f1 f2 f3 f4 f5 f6 f7 f8 f9 f10 f11 f12 f13 f14 f15 f16 f17 f18 f19 f20 f21 fL fN fP fM fO) s.heap := hP
  have hD : va_D A (mW ad kc x0 x1 x2 x3 x4 x5 x6 x7 x8 x9 x10 x11 x12 x13 x14 x15 x16 x17 x18 x19 x20 x21 f0 f1 f2 f3 f4 f5 f6 f7 f8 f9 f10 f11 f12 f13 f14 f15 f16 f17 f18 f19 f20 f21 fL fN fP fM fO) := hD
  have hK : va_K (dC, dI) vwCl (mT kc) s := hK
  generalize hH : s.heap = H at hP ⊢
  have hS : va_S A s.heap H [] := by rw [← hH]; exact va_S.rf
  have hl := lv_entry ([.ref (ad 0), .int i1, .int i2, .int i3]) (n := 4) (Nat.le_of_ble_eq_true rfl)
  rw [lg_entry_eq]
  generalize (lg_sl ([.ref (ad 0), .int i1, .int i2, .int i3]) ++ List.replicate (4 - (lg_sl ([.ref (ad 0), .int i1, .int i2, .int i3])).length) Slot.unset).toArray = ls at hl ⊢
  have hl : lv_has ls 4 [(0, .ref (ad 0)), (1, .int i1), (2, .int i2), (3, .int i3)] := hl
  have rg_i1 := i_rng i1
  have rg_i2 := i_rng i2
  have rg_i3 := i_rng i3
  have hkd : vI f3 i1.toInt = 0 := q6.1
  refine lv_aload_n hx hb dX10_worksOut_0 rfl (lv_at hl 0 rfl) ?_
  refine va_get (D := (dC, dI)) (ci := 10) (v := .ref (ad 4)) (C := RX10) (T := TX10) (N := 48) hx hb hts fin_X10_worksOutmS_X10 hown hK hP 0 rfl rfl 15 (by decide) (hts (.fieldLink RX10 28 "PatternGateModel" "kind" "[I") (List.mem_of_getElem? (i := 1) (by decide +kernel))) (fun _ h9 => h9) rfl dX10_worksOut_1 ?_
  refine lv_iload_n hx hb dX10_worksOut_4 rfl (lv_at hl 1 rfl) ?_
  refine va_iald hx hb hK hP 4 3 rfl rfl (i := i1) (vp_of (a := i1.toInt) rfl (by omega) (by omega)) dX10_worksOut_5 ?_
  refine lv_topi (fun y_1 ey_1 => ?_)
  have rg_y_1 := i_rng y_1
  have vy_1 := vI_lda (f := f3) (i := i1) (a := i1.toInt) ey_1 (by first | omega | decide)
  have rg_y_1 := i_rng y_1
  refine lv_if_ne (tgt := 17) hx hb dX10_worksOut_6 (by decide) (fun k_2 => absurd (Int32.toInt_inj.mp (by have h8 : (0 : Int32).toInt = 0 := (by decide); omega)) k_2) (fun k_2 => ?_)
  have tk_2 := c_eq (a := y_1.toInt) (b := 0) rfl (by decide) k_2
  refine lv_aload_n hx hb dX10_worksOut_9 rfl (lv_at hl 0 rfl) ?_
  refine lv_iload_n hx hb dX10_worksOut_10 rfl (lv_at hl 1 rfl) ?_
  refine lv_iload_n hx hb dX10_worksOut_11 rfl (lv_at hl 2 rfl) ?_
  refine lv_iload_n hx hb dX10_worksOut_12 rfl (lv_at hl 3 rfl) ?_
  have hFc := m_free hD hS hA
  refine va_calli (va_runV (As := [.int i1, .int i2, .int i3]) (rest := []) ⟨hx, hb, hml, hown, hts⟩ (m_worksSpot l dC dI ad kc x0 x1 x2 x3 x4 x5 x6 x7 x8 x9 x10 x11 x12 x13 x14 x15 x16 x17 x18 x19 x20 x21 f0 f1 f2 f3 f4 f5 f6 f7 f8 f9 f10 f11 f12 f13 f14 f15 f16 f17 f18 f19 f20 f21 fL fN fP fM fO H.size i1 i2 i3 (by first | omega | assumption | decide | (have l0 := Int32.toInt_zero; omega)) (by first | omega | assumption | decide | (have l0 := Int32.toInt_zero; omega)) (by first | omega | assumption | decide | (have l0 := Int32.toInt_zero; omega)) (by first | omega | assumption | decide | (have l0 := Int32.toInt_zero; omega)) (by first | omega | assumption | decide | (have l0 := Int32.toInt_zero; omega)) (by first | omega | assumption | decide | (have l0 := Int32.toInt_zero; omega))) (cwV 3 hts mg_X10_worksOutmS_X10_worksSpot_319 rfl rfl rfl (by decide +kernel) ⟨Nat.le_of_ble_eq_true rfl, Nat.le_of_ble_eq_true rfl⟩) ⟨fun a U g mk q => by obtain ⟨q0, q1, qP, qK, qD⟩ := q; exact ⟨q0, q1, qP, va_K.moved (u := U) (U := U.calling g mk a) (Vm.Alike.refl U.vm) qK, qD⟩, va_recv hK hP (ci := 10) (q0 := 0) rfl rfl, fun U hU hW => ⟨rfl, by rw [hU], by rw [hU]; exact hP, va_K.moved hW.alike hK, hD.weaken (fun _ _ _ _ => trivial)⟩⟩ rfl rfl hl.1 rfl (lv_room (Nat.le_of_ble_eq_true rfl)) dX10_worksOut_13 ⟨Nat.le_of_ble_eq_true rfl, Nat.le_of_ble_eq_true rfl⟩) hS (fun q _ h => hFc q h) hFc (fun r_3 u t H1 locs ht hvm hw hB hz1 hk1 hS => ?_)
  subst hw
  obtain ⟨x_4, x_5, x_6, f_7, f_8, f_9, L_10, Nn_11, M_12, O_13, hr_3_0, hr_3_1, hr_3_2, hr_3_3, hr_3_4, hr_3_5, hP, hK1, hD1⟩ := hB
  rw [ht] at hP
  have hD := hD1.weaken (fun k q _ h => hFc q.1 h)
  clear hz1 hk1 hFc hD1 hK1 hvm
  generalize H1 = H at hP hS ⊢
  have rg_x_4 := i_rng x_4
  have rg_x_5 := i_rng x_5
  have rg_x_6 := i_rng x_6
  have rg_r_3 := i_rng r_3
  have hP : va_P (dC, dI) vwCl (mW ad kc x0 x1 x2 x3 x4 x5 x6 x7 x8 x9 x10 x11 x12 x13 x14 x15 x_4 x_5 x_6 x19 x20 x21 f0 f1 f2 f3 f4 f5 f6 f7 f8 f_7 f_8 f_9 f12 f13 f14 f15 f16 f17 f18 f19 f20 f21 L_10 Nn_11 fP M_12 O_13) H := hP
  have hD : va_D A (mW ad kc x0 x1 x2 x3 x4 x5 x6 x7 x8 x9 x10 x11 x12 x13 x14 x15 x_4 x_5 x_6 x19 x20 x21 f0 f1 f2 f3 f4 f5 f6 f7 f8 f_7 f_8 f_9 f12 f13 f14 f15 f16 f17 f18 f19 f20 f21 L_10 Nn_11 fP M_12 O_13) := hD
  exact W.zret hx hb hr (z_nar (by first | assumption | decide | exact z_of (by omega))) (fun t ht hW => ⟨⟨_, _, rfl, rfl, x_4, x_5, x_6, f_7, f_8, f_9, L_10, Nn_11, M_12, O_13, (by first | omega | assumption | rfl | decide), (by first | omega | assumption | rfl | decide), (by first | omega | assumption | rfl | decide), hr_3_3, hr_3_4, hr_3_5, by rw [ht]; exact hP, va_K.moved hW.alike hK, hD⟩, hS.F ht⟩) hS.2.2 dX10_worksOut_16

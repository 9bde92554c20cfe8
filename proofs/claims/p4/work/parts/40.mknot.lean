theorem mV_c {K K' F F' N N' S S' : Nat → Int32} {q : Nat} {z : Int} (h0 : vI K' z = vI K z) (h1 : vI F' z = vI F z) (h2 : vI N' z = vI N z) (h3 : vI S' z = vI S z) : mV K' F' N' S' q z = mV K F N S q z := by
  unfold mV
  rw [h0, h1, h2, h3]
theorem mV_1 {K F F' N S : Nat → Int32} {q : Nat} {z w : Int} (h : z ≠ w → vI F' z = vI F z) (hq : q ≠ 1 ∨ z ≠ w) : mV K F' N S q z = mV K F N S q z := by
  unfold mV
  by_cases c : q = 1
  · subst c
    rw [h (by omega)]
  · simp only [if_neg c]
theorem mV_2 {K F N N' S : Nat → Int32} {q : Nat} {z w : Int} (h : z ≠ w → vI N' z = vI N z) (hq : q ≠ 2 ∨ z ≠ w) : mV K F N' S q z = mV K F N S q z := by
  unfold mV
  by_cases c : q = 2
  · subst c
    rw [h (by omega)]
  · simp only [if_neg c]
theorem mV_3 {K F N S S' : Nat → Int32} {q : Nat} {z w : Int} (h : z ≠ w → vI S' z = vI S z) (hq : z ≠ w) : mV K F N S' q z = mV K F N S q z := by
  unfold mV
  rw [h hq]
/-- a part came behind the last one of a knot -/
def jP (V V' : Nat → Int → Int) (w la p : Int) : Prop := (la = -1 → V' 1 w = p ∧ ∀ (q : Nat) (z : Int), 0 ≤ z → (q ≠ 1 ∨ z ≠ w) → V' q z = V q z) ∧ (la ≠ -1 → V' 2 la = p ∧ ∀ (q : Nat) (z : Int), 0 ≤ z → (q ≠ 2 ∨ z ≠ la) → V' q z = V q z)
theorem jP_f {K F F' N S : Nat → Int32} {w la p : Int} (h : vI F' w = p ∧ ∀ z : Int, 0 ≤ z → z ≠ w → vI F' z = vI F z) (hl : la = -1) : jP (mV K F N S) (mV K F' N S) w la p :=
  ⟨fun _ => ⟨h.1, fun q z hz hq => mV_1 (h.2 z hz) hq⟩, fun c => absurd hl c⟩
theorem jP_n {K F N N' S : Nat → Int32} {w la p : Int} (h : vI N' la = p ∧ ∀ z : Int, 0 ≤ z → z ≠ la → vI N' z = vI N z) (hl : la ≠ -1) : jP (mV K F N S) (mV K F N' S) w la p :=
  ⟨fun c => absurd c hl, fun _ => ⟨h.1, fun q z hz hq => mV_2 (h.2 z hz) hq⟩⟩
theorem pSet_uniq {t : Int → Int} {i a b : Int} (h1 : pSet t i a) (h2 : pSet t i b) : a = b := by
  have hne : ∀ x y, pSet t i x → pSet t i y → ¬ x < y := by
    intro x y p1 p2 h
    have := p2.2.1 x p1.1 h
    rw [p1.2.2] at this
    unfold isSm at this
    omega
  have := hne a b h1 h2
  have := hne b a h2 h1
  omega
theorem it_end {V0 V1 V2 V3 : Nat → Int → Int} {k hi m : Int} {d : Nat} (hk : 0 ≤ k) (h1a : V1 0 k = 1) (h1b : V1 2 k = -1) (h1f : ∀ (q : Nat) (z : Int), 0 ≤ z → z ≠ k → V1 q z = V0 q z) (h2 : tSpot V2 (k + 1) hi m ∨ tSub V2 d (k + 1) hi m) (h2n : V2 2 (k + 1) = -1) (h2f : ∀ (q : Nat) (z : Int), 0 ≤ z → z < k + 1 → V2 q z = V1 q z) (h3 : jP V2 V3 k (-1) (k + 1)) : tItem V3 (tSub V3 d) k hi m ∧ V3 2 k = -1 ∧ ∀ (q : Nat) (z : Int), 0 ≤ z → z < k → V3 q z = V0 q z := by
  obtain ⟨h4, h5⟩ := h3.1 rfl
  refine ⟨⟨?_, h4, ?_, ?_⟩, ?_, ?_⟩
  · rw [h5 0 k hk (Or.inl (by decide)), h2f 0 k hk (by omega)]; exact h1a
  · rw [h5 2 (k + 1) (by omega) (Or.inl (by decide))]; exact h2n
  · have hF : tFr V2 V3 (k + 1) hi := fun q z a b _ => h5 q z (by omega) (Or.inr (by omega))
    rcases h2 with h2 | h2
    · exact Or.inl (fr_spot hF h2)
    · exact Or.inr (fr_sub d _ _ _ hF h2)
  · rw [h5 2 k hk (Or.inl (by decide)), h2f 2 k hk (by omega)]; exact h1b
  · intro q z hz hzk
    rw [h5 q z hz (Or.inr (by omega)), h2f q z hz (by omega)]
    exact h1f q z hz (by omega)
/-- a knot and its parts so far -/
def bkI (V0 V : Nat → Int → Int) (R : (Nat → Int → Int) → Int → Int → Int → Prop) (w k la kn s : Int) : Prop := V 0 k = w ∧ V 2 k = -1 ∧ (∀ (q : Nat) (z : Int), 0 ≤ z → z < k → V q z = V0 q z) ∧ ((la = -1 ∧ kn = k + 1 ∧ s = 0) ∨ (k < la ∧ V 1 k = k + 1 ∧ ∃ n, tSib V (R V) n (k + 1) la kn s))
theorem bk_init {V0 V : Nat → Int → Int} {R : (Nat → Int → Int) → Int → Int → Int → Prop} {w k la kn s : Int} (h0 : V 0 k = w) (h1 : V 2 k = -1) (hf : ∀ (q : Nat) (z : Int), 0 ≤ z → z ≠ k → V q z = V0 q z) (hl : la = -1) (hn : kn = k + 1) (hs : s = 0) : bkI V0 V R w k la kn s := ⟨h0, h1, fun q z a b => hf q z a (by omega), Or.inl ⟨hl, hn, hs⟩⟩
theorem bk_step {V0 V V1 V2 : Nat → Int → Int} {R : (Nat → Int → Int) → Int → Int → Int → Prop} {w k la kn kn2 s m1 : Int} (hm : ∀ V a b m, R V a b m → a < b) (hR : ∀ V V' a b m, tFr V V' a b → R V a b m → R V' a b m) (hk : 0 ≤ k) (h : bkI V0 V R w k la kn s) (h1 : R V1 kn kn2 m1) (h1n : V1 2 kn = -1) (h1f : ∀ (q : Nat) (z : Int), 0 ≤ z → z < kn → V1 q z = V q z) (hj : jP V1 V2 k la kn) (hkn : k < kn) : bkI V0 V2 R w k kn kn2 (s + m1) := by
  obtain ⟨a1, a2, a3, a4⟩ := h
  have hlt := hm _ _ _ _ h1
  rcases a4 with ⟨b1, b2, b3⟩ | ⟨b1, b2, n, b3⟩
  · obtain ⟨c1, c2⟩ := hj.1 b1
    refine ⟨?_, ?_, ?_, Or.inr ⟨hkn, ?_, 0, ?_⟩⟩
    · rw [c2 0 k hk (Or.inl (by decide)), h1f 0 k hk hkn]; exact a1
    · rw [c2 2 k hk (Or.inl (by decide)), h1f 2 k hk hkn]; exact a2
    · intro q z hz hzk
      rw [c2 q z hz (Or.inr (by omega)), h1f q z hz (by omega)]; exact a3 q z hz hzk
    · rw [c1]; exact b2
    · subst b2; subst b3
      refine ⟨?_, rfl, ?_⟩
      · rw [Int.zero_add]
        exact hR _ _ _ _ _ (fun q z g1 g2 _ => c2 q z (by omega) (Or.inr (by omega))) h1
      · rw [c2 2 (k + 1) (by omega) (Or.inl (by decide))]; exact h1n
  · obtain ⟨c1, c2⟩ := hj.2 (by omega)
    have hs := tm_sib (fun a b m => hm V a b m) n b3
    refine ⟨?_, ?_, ?_, Or.inr ⟨hkn, ?_, n + 1, ?_⟩⟩
    · rw [c2 0 k hk (Or.inl (by decide)), h1f 0 k hk hkn]; exact a1
    · rw [c2 2 k hk (Or.inr (by omega)), h1f 2 k hk hkn]; exact a2
    · intro q z hz hzk
      rw [c2 q z hz (Or.inr (by omega)), h1f q z hz (by omega)]; exact a3 q z hz hzk
    · rw [c2 1 k hk (Or.inl (by decide)), h1f 1 k hk hkn]; exact b2
    · have hb := fr_sib (V' := V1) (R' := R V1) (fun a b m => hm V a b m) (fun a b m => hR V V1 a b m) n (fun q z g1 g2 => h1f q z (by omega) g2) b3
      exact sib_snoc (V' := V2) (R' := R V2) (fun a b m => hm V1 a b m) (fun a b m => hR V1 V2 a b m) n hb (fun q z g1 g2 g3 => c2 q z (by omega) g3) c1 (hR _ _ _ _ _ (fun q z g1 g2 _ => c2 q z (by omega) (Or.inr (by omega))) h1) (by rw [c2 2 kn (by omega) (Or.inr (by omega))]; exact h1n)
theorem bk_end {V0 V : Nat → Int → Int} {R : (Nat → Int → Int) → Int → Int → Int → Prop} {w k la kn s : Int} (h : bkI V0 V R w k la kn s) (hs : 1 ≤ s) : (V 0 k = w ∧ V 1 k = k + 1 ∧ ∃ n la, tSib V (R V) n (k + 1) la kn s) ∧ V 2 k = -1 ∧ ∀ (q : Nat) (z : Int), 0 ≤ z → z < k → V q z = V0 q z := by
  obtain ⟨a1, a2, a3, a4⟩ := h
  rcases a4 with ⟨b1, b2, b3⟩ | ⟨b1, b2, n, b3⟩
  · omega
  · exact ⟨⟨a1, b2, n, la, b3⟩, a2, a3⟩
/-- a part ends so -/
def isEn (c : Int) : Prop := c = -1 ∨ c = 124 ∨ c = 41
/-- items that are left -/
def ckI (t : Int → Int) (S : Int → Int → Int → Prop) (a j m : Int) : Prop := (a = j ∧ m = 0) ∨ (a < j ∧ 1 ≤ m ∧ ∃ n, pChain (pItem t S) n a j m)
theorem ck_exit {t : Int → Int} {S : Int → Int → Int → Prop} {a j m : Int} (h : ckI t S a j m) (he : isEn (t a)) : a = j ∧ m = 0 := by
  rcases h with h | ⟨h1, h2, n, h3⟩
  · exact h
  · obtain ⟨k, m1, h4, -⟩ := chain_un h3
    have := item_at h4
    unfold isEn at he; unfold isAt at this
    omega
theorem ck_cont {t : Int → Int} {d : Nat} {a j m : Int} (h : ckI t (pSub t d) a j m) (hj : isEn (t j)) (he : ¬ isEn (t a)) : ∃ b m1, pItem t (pSub t d) a b m1 ∧ ckI t (pSub t d) b j (m - m1) ∧ a < b ∧ b ≤ j ∧ 1 ≤ m1 ∧ m1 ≤ m := by
  rcases h with ⟨h1, h2⟩ | ⟨h1, h2, n, h3⟩
  · subst h1
    exact absurd hj he
  · obtain ⟨k, m1, h4, h5⟩ := chain_un h3
    have e1 := mono_item (mono_sub d) h4
    have e2 := pos_item (pos_sub d) h4
    rcases h5 with ⟨c1, c2⟩ | ⟨n', c1⟩
    · exact ⟨k, m1, h4, Or.inl ⟨c1, by omega⟩, e1, by omega, e2, by omega⟩
    · have e3 := mono_chain (fun _ _ _ q => mono_item (mono_sub d) q) n' c1
      have e4 := pos_chain (fun _ _ _ q => pos_item (pos_sub d) q) n' c1
      exact ⟨k, m1, h4, Or.inr ⟨e3, e4, n', c1⟩, e1, by omega, e2, by omega⟩
theorem ck_init {t : Int → Int} {d : Nat} {a j m : Int} (h : pBranch t (pSub t d) a j m) : ckI t (pSub t d) a j m := by
  have e1 := mono_branch (mono_sub d) h
  have e2 := pos_branch (pos_sub d) h
  obtain ⟨⟨n, h1⟩, -⟩ := h
  exact Or.inr ⟨e1, e2, n, h1⟩
/-- branches that are left -/
def baI (t : Int → Int) (S : Int → Int → Int → Prop) (a j m : Int) : Prop := (a = j ∧ m = 0) ∨ (a < j ∧ 1 ≤ m ∧ t a = 124 ∧ ∃ n, pBar t (pBranch t S) n (a + 1) j m)
theorem ba_one {t : Int → Int} {d : Nat} {n : Nat} {a j m : Int} (h : pBar t (pBranch t (pSub t d)) n a j m) (hj : isEn (t j)) : ∃ b m1, pBranch t (pSub t d) a b m1 ∧ isEn (t b) ∧ baI t (pSub t d) b j (m - m1) ∧ a < b ∧ b ≤ j ∧ 1 ≤ m1 ∧ m1 ≤ m := by
  obtain ⟨k, m1, h4, h5⟩ := bar_un h
  have e1 := mono_branch (mono_sub d) h4
  have e2 := pos_branch (pos_sub d) h4
  rcases h5 with ⟨c1, c2⟩ | ⟨c0, n', c1⟩
  · exact ⟨k, m1, h4, by rw [c1]; exact hj, Or.inl ⟨c1, by omega⟩, e1, by omega, e2, by omega⟩
  · have e3 := mono_bar (fun _ _ _ q => mono_branch (mono_sub d) q) n' c1
    have e4 := pos_bar (fun _ _ _ q => pos_branch (pos_sub d) q) n' c1
    exact ⟨k, m1, h4, Or.inr (Or.inl c0), Or.inr ⟨by omega, e4, c0, n', c1⟩, e1, by omega, e2, by omega⟩
theorem ba_exit {t : Int → Int} {S : Int → Int → Int → Prop} {a j m : Int} (h : baI t S a j m) (he : t a ≠ 124) : a = j ∧ m = 0 := by
  rcases h with h | ⟨_, _, h, _⟩
  · exact h
  · exact absurd h he
theorem ba_cont {t : Int → Int} {d : Nat} {a j m : Int} (h : baI t (pSub t d) a j m) (hj : isEn (t j)) (hj2 : t j ≠ 124) (he : t a = 124) : ∃ b m1, pBranch t (pSub t d) (a + 1) b m1 ∧ isEn (t b) ∧ baI t (pSub t d) b j (m - m1) ∧ a + 1 < b ∧ b ≤ j ∧ 1 ≤ m1 ∧ m1 ≤ m := by
  rcases h with ⟨h1, h2⟩ | ⟨h1, h2, h3, n, h4⟩
  · subst h1; exact absurd he hj2
  · exact ba_one h4 hj
theorem hm_item (d : Nat) : ∀ (V : Nat → Int → Int) (a b m : Int), tItem V (tSub V d) a b m → a < b := fun V a b m h => by have := tm_item (tm_sub d) h; omega
theorem hR_item (d : Nat) : ∀ (V V' : Nat → Int → Int) (a b m : Int), tFr V V' a b → tItem V (tSub V d) a b m → tItem V' (tSub V' d) a b m := fun _ _ _ _ _ h q => fr_item (tm_sub d) (fr_sub d) h q
theorem hm_branch (d : Nat) : ∀ (V : Nat → Int → Int) (a b m : Int), tBranch V (tSub V d) a b m → a < b := fun V a b m h => tm_branch (tm_sub d) h
theorem hR_branch (d : Nat) : ∀ (V V' : Nat → Int → Int) (a b m : Int), tFr V V' a b → tBranch V (tSub V d) a b m → tBranch V' (tSub V' d) a b m := fun _ _ _ _ _ h q => fr_branch (tm_sub d) (fr_sub d) h q
theorem en_of {t c : Int} (h : t = c) (e : c = -1 ∨ c = 124 ∨ c = 41) : isEn t := by unfold isEn; omega
theorem it_un {t : Int → Int} {S : Int → Int → Int → Prop} {a b m : Int} (h : pItem t S a b m) : ∃ e, pAtom t S a e m ∧ ((e = b - 1 ∧ isQu (t e)) ∨ (e = b ∧ ¬ isQu (t e))) := by
  rcases h with ⟨h1, h2⟩ | ⟨h1, h2⟩
  · exact ⟨b - 1, h1, Or.inl ⟨rfl, h2⟩⟩
  · exact ⟨b, h1, Or.inr ⟨rfl, h2⟩⟩
theorem at_p {t : Int → Int} {S : Int → Int → Int → Prop} {a e m : Int} (h : pAtom t S a e m) (hc : t a = 40) : S (a + 1) (e - 1) m ∧ t (e - 1) = 41 := by
  rcases h with ⟨h1, _⟩ | ⟨h1, _⟩ | ⟨_, h2, h3⟩
  · unfold isSm at h1; omega
  · omega
  · exact ⟨h2, h3⟩
theorem at_s {t : Int → Int} {S : Int → Int → Int → Prop} {a e m : Int} (h : pAtom t S a e m) (hc : t a ≠ 40) : m = 1 ∧ a < e ∧ ((t a ≠ 91 ∧ e = a + 1) ∨ (t a = 91 ∧ pSet t (a + 1) (e - 1))) := by
  rcases h with ⟨h1, h2, h3⟩ | ⟨h1, h2, h3⟩ | ⟨h1, _, _⟩
  · exact ⟨h3, by omega, Or.inl ⟨by unfold isSm at h1; omega, h2⟩⟩
  · exact ⟨h3, by have := h2.1; omega, Or.inr ⟨h1, h2⟩⟩
  · exact absurd h1 hc
theorem sp_e {t : Int → Int} {a e c x y : Int} (h : (t a ≠ 91 ∧ e = a + 1) ∨ (t a = 91 ∧ pSet t (a + 1) (e - 1))) (hc : c = t a) (hx : x = a + 1) (hp : (c ≠ 91 → y = x) ∧ (c = 91 → pSet t x (y - 1))) : y = e := by
  subst hc; subst hx
  rcases h with ⟨h1, h2⟩ | ⟨h1, h2⟩
  · rw [hp.1 h1]; omega
  · have := pSet_uniq (hp.2 h1) h2; omega
theorem set_lt {t : Int → Int} {a j : Int} (h : pSet t a j) (hc : t a ≠ 93) : a < j ∧ isSm (t a) ∧ pSet t (a + 1) j := by
  obtain ⟨h1, h2, h3⟩ := h
  have h4 : a ≠ j := fun e => hc (by rw [e]; exact h3)
  exact ⟨by omega, h2 a (by omega) (by omega), by omega, fun k k1 k2 => h2 k (by omega) k2, h3⟩
theorem sp_tree {K F N S S' : Nat → Int32} {V0 : Nat → Int → Int} {k hi sv : Int} (hk : 0 ≤ k) (ha : vI K k = 0 ∧ vI F k = -1 ∧ vI N k = -1) (hf : ∀ (q : Nat) (z : Int), 0 ≤ z → z ≠ k → mV K F N S q z = V0 q z) (hu : vI S' k = sv ∧ ∀ z : Int, 0 ≤ z → z ≠ k → vI S' z = vI S z) (h0 : 0 ≤ sv) (h1 : sv < 24) (hh : hi = k + 1) : tSpot (mV K F N S') k hi 1 ∧ mV K F N S' 2 k = -1 ∧ ∀ (q : Nat) (z : Int), 0 ≤ z → z < k → mV K F N S' q z = V0 q z := by
  refine ⟨⟨ha.1, ha.2.1, ?_, hh, rfl⟩, ha.2.2, fun q z a b => ?_⟩
  · show 0 ≤ vI S' k ∧ vI S' k < 24
    rw [hu.1]; exact ⟨h0, h1⟩
  · rw [← hf q z a (by omega)]
    exact mV_c rfl rfl rfl (hu.2 z a (by omega))
theorem dX10_signAt_0 : decode cX10_signAt 0 = .ok (.aload_n 0, 1) := by decide +kernel
theorem dX10_signAt_1 : decode cX10_signAt 1 = .ok (.getfield 217, 3) := by decide +kernel
theorem dX10_signAt_4 : decode cX10_signAt 4 = .ok (.aload_n 0, 1) := by decide +kernel
theorem dX10_signAt_5 : decode cX10_signAt 5 = .ok (.getfield 8, 3) := by decide +kernel
theorem dX10_signAt_8 : decode cX10_signAt 8 = .ok (.sipush 612, 3) := by decide +kernel
theorem dX10_signAt_11 : decode cX10_signAt 11 = .ok (.aload_n 0, 1) := by decide +kernel
theorem dX10_signAt_12 : decode cX10_signAt 12 = .ok (.getfield 220, 3) := by decide +kernel
theorem dX10_signAt_15 : decode cX10_signAt 15 = .ok (.iadd, 1) := by decide +kernel
theorem dX10_signAt_16 : decode cX10_signAt 16 = .ok (.iaload, 1) := by decide +kernel
theorem dX10_signAt_17 : decode cX10_signAt 17 = .ok (.if_icmp .ge 28, 3) := by decide +kernel
theorem dX10_signAt_20 : decode cX10_signAt 20 = .ok (.aload_n 0, 1) := by decide +kernel
theorem dX10_signAt_21 : decode cX10_signAt 21 = .ok (.getfield 8, 3) := by decide +kernel
theorem dX10_signAt_24 : decode cX10_signAt 24 = .ok (.sipush 620, 3) := by decide +kernel
theorem dX10_signAt_27 : decode cX10_signAt 27 = .ok (.sipush 900, 3) := by decide +kernel
theorem dX10_signAt_30 : decode cX10_signAt 30 = .ok (.aload_n 0, 1) := by decide +kernel
theorem dX10_signAt_31 : decode cX10_signAt 31 = .ok (.getfield 220, 3) := by decide +kernel
theorem dX10_signAt_34 : decode cX10_signAt 34 = .ok (.imul, 1) := by decide +kernel
theorem dX10_signAt_35 : decode cX10_signAt 35 = .ok (.iadd, 1) := by decide +kernel
theorem dX10_signAt_36 : decode cX10_signAt 36 = .ok (.aload_n 0, 1) := by decide +kernel
theorem dX10_signAt_37 : decode cX10_signAt 37 = .ok (.getfield 217, 3) := by decide +kernel
theorem dX10_signAt_40 : decode cX10_signAt 40 = .ok (.iadd, 1) := by decide +kernel
theorem dX10_signAt_41 : decode cX10_signAt 41 = .ok (.iaload, 1) := by decide +kernel
theorem dX10_signAt_42 : decode cX10_signAt 42 = .ok (.goto 4, 3) := by decide +kernel
theorem dX10_signAt_45 : decode cX10_signAt 45 = .ok (.iconst (-1), 1) := by decide +kernel
theorem dX10_signAt_46 : decode cX10_signAt 46 = .ok (.ireturn, 1) := by decide +kernel
def mwX10_signAtm : List Cond := .code yX10_signAt cX10_signAt 1 (some .int) :: ([.fieldLink RX10 217 "PatternGateModel" "reached" "I", .fieldLink RX10 8 "PatternGateModel" "all" "[I", .fieldLink RX10 220 "PatternGateModel" "pattern0" "I"] ++ wsX100)
theorem fin_X10_signAtm_X10 : ∀ w ∈ wsX100, w ∈ mwX10_signAtm := fun w h => List.mem_cons_of_mem _ (List.mem_append_right _ h)
set_option maxHeartbeats 4000000 in
set_option maxRecDepth 100000 in
theorem m_signAt (l : Launch) (dC : Nat → ClassId) (dI : Nat → Nat → Nat) (ad : Nat → Nat) (kc : Nat → ClassId) (x0 x1 x2 x3 x4 x5 x6 x7 x8 x9 x10 x11 x12 x13 x14 x15 x16 x17 x18 x19 x20 x21 : Int32) (f0 f1 f2 f3 f4 f5 f6 f7 f8 f9 f10 f11 f12 f13 f14 f15 f16 f17 f18 f19 f20 f21 : Nat → Int32) (fL : Nat → Nat → Int64) (fN : Nat → Nat → Int32) (fP : Nat → Nat → Nat) (fM : Nat → Nat → Int32) (fO : Nat → Nat → Int32) (q0 : 0 ≤ x13.toInt) (q1 : x13.toInt ≤ 1000) (q2 : 0 ≤ x14.toInt) (q3 : x14.toInt < 8) (q4 : vI f0 (612 + x14.toInt) ≤ 900) : Met l yX10_signAt mwX10_signAtm ({ frames := 0, cells := 0, slots := 0, locals := 0 }) (va_Pc [.ref (ad 0)] (fun U => va_P (dC, dI) vwCl (mW ad kc x0 x1 x2 x3 x4 x5 x6 x7 x8 x9 x10 x11 x12 x13 x14 x15 x16 x17 x18 x19 x20 x21 f0 f1 f2 f3 f4 f5 f6 f7 f8 f9 f10 f11 f12 f13 f14 f15 f16 f17 f18 f19 f20 f21 fL fN fP fM fO) U.heap ∧ va_K (dC, dI) vwCl (mT kc) U)) (vp_Si (fun o9 => (o9.toInt = tp f0 x14.toInt x13.toInt))) 0 0 (fun _ => False) := by
  refine Met.ofW (cc := cX10_signAt) (maxL := 1) (ret := (some .int)) (by decide +kernel) rfl ?_
  intro p e s m args below meth c s₁ B hml hv
  obtain ⟨rfl, hP, hK⟩ := hv
  have hx := B.exec
  have hb := B.bytes
  have hr := B.returns
  have hts := atoms_spec (ws := mwX10_signAtm) B.pre
  have hown : s.vm.findClass RX10 = some m.cls := findClass_of_methodNamed B.named
  have hlocks := B.notSynchronized
  have hP : va_P (dC, dI) vwCl (mW ad kc x0 x1 x2 x3 x4 x5 x6 x7 x8 x9 x10 x11 x12 x13 x14 x15 x16 x17 x18 x19 x20 x21 f0 f1 f2 f3 f4 f5 f6 f7 f8 f9 f10 f11 f12 f13 f14 f15 f16 f17 f18 f19 f20 f21 fL fN fP fM fO) s.heap := hP
  have hK : va_K (dC, dI) vwCl (mT kc) s := hK
  generalize hH : s.heap = H at hP ⊢
  have hl := lv_entry ([.ref (ad 0)]) (n := 1) (Nat.le_of_ble_eq_true rfl)
  rw [lg_entry_eq]
  generalize (lg_sl ([.ref (ad 0)]) ++ List.replicate (1 - (lg_sl ([.ref (ad 0)])).length) Slot.unset).toArray = ls at hl ⊢
  have hl : lv_has ls 1 [(0, .ref (ad 0))] := hl
  refine lv_aload_n hx hb dX10_signAt_0 rfl (lv_at hl 0 rfl) ?_
  refine va_get (D := (dC, dI)) (ci := 10) (v := .int x13) (C := RX10) (T := TX10) (N := 48) hx hb hts fin_X10_signAtm_X10 hown hK hP 0 rfl rfl 22 (by decide) (hts (.fieldLink RX10 217 "PatternGateModel" "reached" "I") (List.mem_of_getElem? (i := 1) (by decide +kernel))) (fun _ h9 => h9) rfl dX10_signAt_1 ?_
  refine lv_aload_n hx hb dX10_signAt_4 rfl (lv_at hl 0 rfl) ?_
  refine va_get (D := (dC, dI)) (ci := 10) (v := .ref (ad 1)) (C := RX10) (T := TX10) (N := 48) hx hb hts fin_X10_signAtm_X10 hown hK hP 0 rfl rfl 0 (by decide) (hts (.fieldLink RX10 8 "PatternGateModel" "all" "[I") (List.mem_of_getElem? (i := 2) (by decide +kernel))) (fun _ h9 => h9) rfl dX10_signAt_5 ?_
  refine lv_sipush (v := 612) hx hb dX10_signAt_8 (by decide) ?_
  refine lv_aload_n hx hb dX10_signAt_11 rfl (lv_at hl 0 rfl) ?_
  refine va_get (D := (dC, dI)) (ci := 10) (v := .int x14) (C := RX10) (T := TX10) (N := 48) hx hb hts fin_X10_signAtm_X10 hown hK hP 0 rfl rfl 23 (by decide) (hts (.fieldLink RX10 220 "PatternGateModel" "pattern0" "I") (List.mem_of_getElem? (i := 3) (by decide +kernel))) (fun _ h9 => h9) rfl dX10_signAt_12 ?_
  refine lv_iadd hx hb dX10_signAt_15 ?_
  refine lv_topi (fun y_1 ey_1 => ?_)
  first | have ty_1 := i_add (a := 612) (b := x14.toInt) (by decide) rfl ey_1 (by omega) (by omega) | skip
  refine va_iald hx hb hK hP 1 0 rfl rfl (i := y_1) (vp_of (a := y_1.toInt) rfl (by omega) (by omega)) dX10_signAt_16 ?_
  refine lv_topi (fun y_2 ey_2 => ?_)
  have rg_y_2 := i_rng y_2
  have vy_2 := vI_lda (f := f0) (i := y_1) (a := (612 + x14.toInt)) ey_2 (by first | omega | decide)
  have rg_y_2 := i_rng y_2
  refine lv_icmp_ge (tgt := 45) hx hb dX10_signAt_17 (by decide) (fun k_3 => ?_) (fun k_3 => ?_)
  · have tk_3 := c_ge (a := x13.toInt) (b := y_2.toInt) rfl rfl k_3
    refine lv_iconst (v := (-1)) hx hb dX10_signAt_45 (by decide) ?_
    have lit_3 : ((-1) : Int32).toInt = (-1) := by decide
    exact W.iret hx hb hr (fun t ht hW => ⟨_, rfl, (by unfold tp pLa; rw [if_neg (by omega)]; decide), ht.trans hH.symm⟩) t_nil dX10_signAt_46
  · have tk_3 := c_nge (a := x13.toInt) (b := y_2.toInt) rfl rfl k_3
    refine lv_aload_n hx hb dX10_signAt_20 rfl (lv_at hl 0 rfl) ?_
    refine va_get (D := (dC, dI)) (ci := 10) (v := .ref (ad 1)) (C := RX10) (T := TX10) (N := 48) hx hb hts fin_X10_signAtm_X10 hown hK hP 0 rfl rfl 0 (by decide) (hts (.fieldLink RX10 8 "PatternGateModel" "all" "[I") (List.mem_of_getElem? (i := 2) (by decide +kernel))) (fun _ h9 => h9) rfl dX10_signAt_21 ?_
    refine lv_sipush (v := 620) hx hb dX10_signAt_24 (by decide) ?_
    refine lv_sipush (v := 900) hx hb dX10_signAt_27 (by decide) ?_
    refine lv_aload_n hx hb dX10_signAt_30 rfl (lv_at hl 0 rfl) ?_
    refine va_get (D := (dC, dI)) (ci := 10) (v := .int x14) (C := RX10) (T := TX10) (N := 48) hx hb hts fin_X10_signAtm_X10 hown hK hP 0 rfl rfl 23 (by decide) (hts (.fieldLink RX10 220 "PatternGateModel" "pattern0" "I") (List.mem_of_getElem? (i := 3) (by decide +kernel))) (fun _ h9 => h9) rfl dX10_signAt_31 ?_
    refine lv_imul hx hb dX10_signAt_34 ?_
    refine lv_topi (fun y_5 ey_5 => ?_)
    first | have ty_5 := i_mul (a := 900) (b := x14.toInt) (by decide) rfl ey_5 (by omega) (by omega) | skip
    refine lv_iadd hx hb dX10_signAt_35 ?_
    refine lv_topi (fun y_6 ey_6 => ?_)
    first | have ty_6 := i_add (a := 620) (b := y_5.toInt) (by decide) rfl ey_6 (by omega) (by omega) | skip
    refine lv_aload_n hx hb dX10_signAt_36 rfl (lv_at hl 0 rfl) ?_
    refine va_get (D := (dC, dI)) (ci := 10) (v := .int x13) (C := RX10) (T := TX10) (N := 48) hx hb hts fin_X10_signAtm_X10 hown hK hP 0 rfl rfl 22 (by decide) (hts (.fieldLink RX10 217 "PatternGateModel" "reached" "I") (List.mem_of_getElem? (i := 1) (by decide +kernel))) (fun _ h9 => h9) rfl dX10_signAt_37 ?_
    refine lv_iadd hx hb dX10_signAt_40 ?_
    refine lv_topi (fun y_7 ey_7 => ?_)
    first | have ty_7 := i_add (a := y_6.toInt) (b := x13.toInt) rfl rfl ey_7 (by omega) (by omega) | skip
    refine va_iald hx hb hK hP 1 0 rfl rfl (i := y_7) (vp_of (a := y_7.toInt) rfl (by omega) (by omega)) dX10_signAt_41 ?_
    refine lv_topi (fun y_8 ey_8 => ?_)
    have rg_y_8 := i_rng y_8
    have vy_8 := vI_lda (f := f0) (i := y_7) (a := ((620 + (900 * x14.toInt)) + x13.toInt)) ey_8 (by first | omega | decide)
    have rg_y_8 := i_rng y_8
    refine lv_goto (tgt := 46) hx hb dX10_signAt_42 (by decide) ?_
    exact W.iret hx hb hr (fun t ht hW => ⟨_, rfl, (by unfold tp pLa; rw [if_pos ⟨by omega, by omega⟩]; exact vy_8), ht.trans hH.symm⟩) t_nil dX10_signAt_46
theorem dX10_knot_0 : decode cX10_knot 0 = .ok (.aload_n 0, 1) := by decide +kernel
theorem dX10_knot_1 : decode cX10_knot 1 = .ok (.getfield 28, 3) := by decide +kernel
theorem dX10_knot_4 : decode cX10_knot 4 = .ok (.aload_n 0, 1) := by decide +kernel
theorem dX10_knot_5 : decode cX10_knot 5 = .ok (.getfield 223, 3) := by decide +kernel
theorem dX10_knot_8 : decode cX10_knot 8 = .ok (.iload_n 1, 1) := by decide +kernel
theorem dX10_knot_9 : decode cX10_knot 9 = .ok (.iastore, 1) := by decide +kernel
theorem dX10_knot_10 : decode cX10_knot 10 = .ok (.aload_n 0, 1) := by decide +kernel
theorem dX10_knot_11 : decode cX10_knot 11 = .ok (.getfield 31, 3) := by decide +kernel
theorem dX10_knot_14 : decode cX10_knot 14 = .ok (.aload_n 0, 1) := by decide +kernel
theorem dX10_knot_15 : decode cX10_knot 15 = .ok (.getfield 223, 3) := by decide +kernel
theorem dX10_knot_18 : decode cX10_knot 18 = .ok (.iconst (-1), 1) := by decide +kernel
theorem dX10_knot_19 : decode cX10_knot 19 = .ok (.iastore, 1) := by decide +kernel
theorem dX10_knot_20 : decode cX10_knot 20 = .ok (.aload_n 0, 1) := by decide +kernel
theorem dX10_knot_21 : decode cX10_knot 21 = .ok (.getfield 34, 3) := by decide +kernel
theorem dX10_knot_24 : decode cX10_knot 24 = .ok (.aload_n 0, 1) := by decide +kernel
theorem dX10_knot_25 : decode cX10_knot 25 = .ok (.getfield 223, 3) := by decide +kernel
theorem dX10_knot_28 : decode cX10_knot 28 = .ok (.iconst (-1), 1) := by decide +kernel
theorem dX10_knot_29 : decode cX10_knot 29 = .ok (.iastore, 1) := by decide +kernel
theorem dX10_knot_30 : decode cX10_knot 30 = .ok (.aload_n 0, 1) := by decide +kernel
theorem dX10_knot_31 : decode cX10_knot 31 = .ok (.getfield 43, 3) := by decide +kernel
theorem dX10_knot_34 : decode cX10_knot 34 = .ok (.aload_n 0, 1) := by decide +kernel
theorem dX10_knot_35 : decode cX10_knot 35 = .ok (.getfield 223, 3) := by decide +kernel
theorem dX10_knot_38 : decode cX10_knot 38 = .ok (.iconst (-1), 1) := by decide +kernel
theorem dX10_knot_39 : decode cX10_knot 39 = .ok (.iastore, 1) := by decide +kernel
theorem dX10_knot_40 : decode cX10_knot 40 = .ok (.aload_n 0, 1) := by decide +kernel
theorem dX10_knot_41 : decode cX10_knot 41 = .ok (.dup, 1) := by decide +kernel
theorem dX10_knot_42 : decode cX10_knot 42 = .ok (.getfield 223, 3) := by decide +kernel
theorem dX10_knot_45 : decode cX10_knot 45 = .ok (.iconst 1, 1) := by decide +kernel
theorem dX10_knot_46 : decode cX10_knot 46 = .ok (.iadd, 1) := by decide +kernel
theorem dX10_knot_47 : decode cX10_knot 47 = .ok (.putfield 223, 3) := by decide +kernel
theorem dX10_knot_50 : decode cX10_knot 50 = .ok (.aload_n 0, 1) := by decide +kernel
theorem dX10_knot_51 : decode cX10_knot 51 = .ok (.getfield 223, 3) := by decide +kernel
theorem dX10_knot_54 : decode cX10_knot 54 = .ok (.iconst 1, 1) := by decide +kernel
theorem dX10_knot_55 : decode cX10_knot 55 = .ok (.isub, 1) := by decide +kernel
theorem dX10_knot_56 : decode cX10_knot 56 = .ok (.ireturn, 1) := by decide +kernel
def mwX10_knotm : List Cond := .code yX10_knot cX10_knot 2 (some .int) :: ([.fieldLink RX10 28 "PatternGateModel" "kind" "[I", .fieldLink RX10 223 "PatternGateModel" "knots" "I", .fieldLink RX10 31 "PatternGateModel" "first" "[I", .fieldLink RX10 34 "PatternGateModel" "next" "[I", .fieldLink RX10 43 "PatternGateModel" "sign" "[I"] ++ wsX100)
theorem fin_X10_knotm_X10 : ∀ w ∈ wsX100, w ∈ mwX10_knotm := fun w h => List.mem_cons_of_mem _ (List.mem_append_right _ h)
set_option maxHeartbeats 4000000 in
set_option maxRecDepth 100000 in
theorem m_knot (l : Launch) (dC : Nat → ClassId) (dI : Nat → Nat → Nat) (ad : Nat → Nat) (kc : Nat → ClassId) (x0 x1 x2 x3 x4 x5 x6 x7 x8 x9 x10 x11 x12 x13 x14 x15 x16 x17 x18 x19 x20 x21 : Int32) (f0 f1 f2 f3 f4 f5 f6 f7 f8 f9 f10 f11 f12 f13 f14 f15 f16 f17 f18 f19 f20 f21 : Nat → Int32) (fL : Nat → Nat → Int64) (fN : Nat → Nat → Int32) (fP : Nat → Nat → Nat) (fM : Nat → Nat → Int32) (fO : Nat → Nat → Int32) (sz : Nat) (i1 : Int32) (q0 : 0 ≤ x12.toInt) (q1 : x12.toInt < 1600) : Met l yX10_knot mwX10_knotm ({ frames := 0, cells := 0, slots := 0, locals := 0 }) (va_Pc [.ref (ad 0), .int i1] (fun U => U.heap.size = sz ∧ va_P (dC, dI) vwCl (mW ad kc x0 x1 x2 x3 x4 x5 x6 x7 x8 x9 x10 x11 x12 x13 x14 x15 x16 x17 x18 x19 x20 x21 f0 f1 f2 f3 f4 f5 f6 f7 f8 f9 f10 f11 f12 f13 f14 f15 f16 f17 f18 f19 f20 f21 fL fN fP fM fO) U.heap ∧ va_K (dC, dI) vwCl (mT kc) U ∧ va_D (fun _ => True) (mW ad kc x0 x1 x2 x3 x4 x5 x6 x7 x8 x9 x10 x11 x12 x13 x14 x15 x16 x17 x18 x19 x20 x21 f0 f1 f2 f3 f4 f5 f6 f7 f8 f9 f10 f11 f12 f13 f14 f15 f16 f17 f18 f19 f20 f21 fL fN fP fM fO))) (va_Qi (fun (o9 u9 : Int32) => o9 = u9) (fun (o9 : Int32) t => ∃ (y12 : Int32) (g3 g4 g5 g8 : Nat → Int32), (o9.toInt = x12.toInt) ∧ (y12.toInt = x12.toInt + 1) ∧ (vI g3 x12.toInt = i1.toInt ∧ vI g4 x12.toInt = -1 ∧ vI g5 x12.toInt = -1) ∧ (∀ (q : Nat) (z : Int), 0 ≤ z → z ≠ x12.toInt → mV g3 g4 g5 f7 q z = mV f3 f4 f5 f7 q z) ∧ va_P (dC, dI) vwCl (mW ad kc x0 x1 x2 x3 x4 x5 x6 x7 x8 x9 x10 x11 y12 x13 x14 x15 x16 x17 x18 x19 x20 x21 f0 f1 f2 g3 g4 g5 f6 f7 g8 f9 f10 f11 f12 f13 f14 f15 f16 f17 f18 f19 f20 f21 fL fN fP fM fO) t.heap ∧ va_K (dC, dI) vwCl (mT kc) t ∧ va_D (va_A (mW ad kc x0 x1 x2 x3 x4 x5 x6 x7 x8 x9 x10 x11 x12 x13 x14 x15 x16 x17 x18 x19 x20 x21 f0 f1 f2 f3 f4 f5 f6 f7 f8 f9 f10 f11 f12 f13 f14 f15 f16 f17 f18 f19 f20 f21 fL fN fP fM fO) sz) (mW ad kc x0 x1 x2 x3 x4 x5 x6 x7 x8 x9 x10 x11 y12 x13 x14 x15 x16 x17 x18 x19 x20 x21 f0 f1 f2 g3 g4 g5 f6 f7 g8 f9 f10 f11 f12 f13 f14 f15 f16 f17 f18 f19 f20 f21 fL fN fP fM fO)) (va_A (mW ad kc x0 x1 x2 x3 x4 x5 x6 x7 x8 x9 x10 x11 x12 x13 x14 x15 x16 x17 x18 x19 x20 x21 f0 f1 f2 f3 f4 f5 f6 f7 f8 f9 f10 f11 f12 f13 f14 f15 f16 f17 f18 f19 f20 f21 fL fN fP fM fO) sz)) 0 0 (va_A (mW ad kc x0 x1 x2 x3 x4 x5 x6 x7 x8 x9 x10 x11 x12 x13 x14 x15 x16 x17 x18 x19 x20 x21 f0 f1 f2 f3 f4 f5 f6 f7 f8 f9 f10 f11 f12 f13 f14 f15 f16 f17 f18 f19 f20 f21 fL fN fP fM fO) sz) := by
  refine Met.ofW (cc := cX10_knot) (maxL := 2) (ret := (some .int)) (by decide +kernel) rfl ?_
  intro p e s m args below meth c s₁ B hml hv
  obtain ⟨rfl, hsz, hP, hK, hD0⟩ := hv
  have hx := B.exec
  have hb := B.bytes
  have hr := B.returns
  have hts := atoms_spec (ws := mwX10_knotm) B.pre
  have hown : s.vm.findClass RX10 = some m.cls := findClass_of_methodNamed B.named
  have hlocks := B.notSynchronized
  subst hsz
  have hD := hD0.self (sz := s.heap.size)
  generalize hAe : va_A (mW ad kc x0 x1 x2 x3 x4 x5 x6 x7 x8 x9 x10 x11 x12 x13 x14 x15 x16 x17 x18 x19 x20 x21 f0 f1 f2 f3 f4 f5 f6 f7 f8 f9 f10 f11 f12 f13 f14 f15 f16 f17 f18 f19 f20 f21 fL fN fP fM fO) s.heap.size = A at hD ⊢
  have hA : ∀ q : Nat, s.heap.size ≤ q → A q := fun q h => by rw [← hAe]; exact Or.inr h
  have hP : va_P (dC, dI) vwCl (mW ad kc x0 x1 x2 x3 x4 x5 x6 x7 x8 x9 x10 x11 x12 x13 x14 x15 x16 x17 x18 x19 x20 x21 f0 f1 f2 f3 f4 f5 f6 f7 f8 f9 f10 f11 f12 f13 f14 f15 f16 f17 f18 f19 f20 f21 fL fN fP fM fO) s.heap := hP
  have hD : va_D A (mW ad kc x0 x1 x2 x3 x4 x5 x6 x7 x8 x9 x10 x11 x12 x13 x14 x15 x16 x17 x18 x19 x20 x21 f0 f1 f2 f3 f4 f5 f6 f7 f8 f9 f10 f11 f12 f13 f14 f15 f16 f17 f18 f19 f20 f21 fL fN fP fM fO) := hD
  have hK : va_K (dC, dI) vwCl (mT kc) s := hK
  generalize hH : s.heap = H at hP ⊢
  have hS : va_S A s.heap H [] := by rw [← hH]; exact va_S.rf
  have hl := lv_entry ([.ref (ad 0), .int i1]) (n := 2) (Nat.le_of_ble_eq_true rfl)
  rw [lg_entry_eq]
  generalize (lg_sl ([.ref (ad 0), .int i1]) ++ List.replicate (2 - (lg_sl ([.ref (ad 0), .int i1])).length) Slot.unset).toArray = ls at hl ⊢
  have hl : lv_has ls 2 [(0, .ref (ad 0)), (1, .int i1)] := hl
  have rg_i1 := i_rng i1
  refine lv_aload_n hx hb dX10_knot_0 rfl (lv_at hl 0 rfl) ?_
  refine va_get (D := (dC, dI)) (ci := 10) (v := .ref (ad 4)) (C := RX10) (T := TX10) (N := 48) hx hb hts fin_X10_knotm_X10 hown hK hP 0 rfl rfl 15 (by decide) (hts (.fieldLink RX10 28 "PatternGateModel" "kind" "[I") (List.mem_of_getElem? (i := 1) (by decide +kernel))) (fun _ h9 => h9) rfl dX10_knot_1 ?_
  refine lv_aload_n hx hb dX10_knot_4 rfl (lv_at hl 0 rfl) ?_
  refine va_get (D := (dC, dI)) (ci := 10) (v := .int x12) (C := RX10) (T := TX10) (N := 48) hx hb hts fin_X10_knotm_X10 hown hK hP 0 rfl rfl 21 (by decide) (hts (.fieldLink RX10 223 "PatternGateModel" "knots" "I") (List.mem_of_getElem? (i := 2) (by decide +kernel))) (fun _ h9 => h9) rfl dX10_knot_5 ?_
  refine lv_iload_n hx hb dX10_knot_8 rfl (lv_at hl 1 rfl) ?_
  refine va_iast hx hb hK hP hD hS 4 3 rfl rfl (i := x12) (vp_of (a := x12.toInt) rfl (by omega) (by omega)) dX10_knot_9 (fun H locs hP hD hS => ?_)
  generalize hf_f_1 : upd f3 _ _ = f_1 at hP hD
  have uf_1 := vI_up (a := x12.toInt) (b := i1.toInt) hf_f_1 (by first | omega | decide) (by omega) rfl
  have hP : va_P (dC, dI) vwCl (mW ad kc x0 x1 x2 x3 x4 x5 x6 x7 x8 x9 x10 x11 x12 x13 x14 x15 x16 x17 x18 x19 x20 x21 f0 f1 f2 f_1 f4 f5 f6 f7 f8 f9 f10 f11 f12 f13 f14 f15 f16 f17 f18 f19 f20 f21 fL fN fP fM fO) H := hP
  have hD : va_D A (mW ad kc x0 x1 x2 x3 x4 x5 x6 x7 x8 x9 x10 x11 x12 x13 x14 x15 x16 x17 x18 x19 x20 x21 f0 f1 f2 f_1 f4 f5 f6 f7 f8 f9 f10 f11 f12 f13 f14 f15 f16 f17 f18 f19 f20 f21 fL fN fP fM fO) := hD
  refine lv_aload_n hx hb dX10_knot_10 rfl (lv_at hl 0 rfl) ?_
  refine va_get (D := (dC, dI)) (ci := 10) (v := .ref (ad 5)) (C := RX10) (T := TX10) (N := 48) hx hb hts fin_X10_knotm_X10 hown hK hP 0 rfl rfl 16 (by decide) (hts (.fieldLink RX10 31 "PatternGateModel" "first" "[I") (List.mem_of_getElem? (i := 3) (by decide +kernel))) (fun _ h9 => h9) rfl dX10_knot_11 ?_
  refine lv_aload_n hx hb dX10_knot_14 rfl (lv_at hl 0 rfl) ?_
  refine va_get (D := (dC, dI)) (ci := 10) (v := .int x12) (C := RX10) (T := TX10) (N := 48) hx hb hts fin_X10_knotm_X10 hown hK hP 0 rfl rfl 21 (by decide) (hts (.fieldLink RX10 223 "PatternGateModel" "knots" "I") (List.mem_of_getElem? (i := 2) (by decide +kernel))) (fun _ h9 => h9) rfl dX10_knot_15 ?_
  refine lv_iconst (v := (-1)) hx hb dX10_knot_18 (by decide) ?_
  refine va_iast hx hb hK hP hD hS 5 4 rfl rfl (i := x12) (vp_of (a := x12.toInt) rfl (by omega) (by omega)) dX10_knot_19 (fun H locs hP hD hS => ?_)
  generalize hf_f_2 : upd f4 _ _ = f_2 at hP hD
  have uf_2 := vI_up (a := x12.toInt) (b := (-1)) hf_f_2 (by first | omega | decide) (by omega) (by decide)
  have hP : va_P (dC, dI) vwCl (mW ad kc x0 x1 x2 x3 x4 x5 x6 x7 x8 x9 x10 x11 x12 x13 x14 x15 x16 x17 x18 x19 x20 x21 f0 f1 f2 f_1 f_2 f5 f6 f7 f8 f9 f10 f11 f12 f13 f14 f15 f16 f17 f18 f19 f20 f21 fL fN fP fM fO) H := hP
  have hD : va_D A (mW ad kc x0 x1 x2 x3 x4 x5 x6 x7 x8 x9 x10 x11 x12 x13 x14 x15 x16 x17 x18 x19 x20 x21 f0 f1 f2 f_1 f_2 f5 f6 f7 f8 f9 f10 f11 f12 f13 f14 f15 f16 f17 f18 f19 f20 f21 fL fN fP fM fO) := hD
  refine lv_aload_n hx hb dX10_knot_20 rfl (lv_at hl 0 rfl) ?_
  refine va_get (D := (dC, dI)) (ci := 10) (v := .ref (ad 6)) (C := RX10) (T := TX10) (N := 48) hx hb hts fin_X10_knotm_X10 hown hK hP 0 rfl rfl 17 (by decide) (hts (.fieldLink RX10 34 "PatternGateModel" "next" "[I") (List.mem_of_getElem? (i := 4) (by decide +kernel))) (fun _ h9 => h9) rfl dX10_knot_21 ?_
  refine lv_aload_n hx hb dX10_knot_24 rfl (lv_at hl 0 rfl) ?_
  refine va_get (D := (dC, dI)) (ci := 10) (v := .int x12) (C := RX10) (T := TX10) (N := 48) hx hb hts fin_X10_knotm_X10 hown hK hP 0 rfl rfl 21 (by decide) (hts (.fieldLink RX10 223 "PatternGateModel" "knots" "I") (List.mem_of_getElem? (i := 2) (by decide +kernel))) (fun _ h9 => h9) rfl dX10_knot_25 ?_
  refine lv_iconst (v := (-1)) hx hb dX10_knot_28 (by decide) ?_
  refine va_iast hx hb hK hP hD hS 6 5 rfl rfl (i := x12) (vp_of (a := x12.toInt) rfl (by omega) (by omega)) dX10_knot_29 (fun H locs hP hD hS => ?_)
  generalize hf_f_3 : upd f5 _ _ = f_3 at hP hD
  have uf_3 := vI_up (a := x12.toInt) (b := (-1)) hf_f_3 (by first | omega | decide) (by omega) (by decide)
  have hP : va_P (dC, dI) vwCl (mW ad kc x0 x1 x2 x3 x4 x5 x6 x7 x8 x9 x10 x11 x12 x13 x14 x15 x16 x17 x18 x19 x20 x21 f0 f1 f2 f_1 f_2 f_3 f6 f7 f8 f9 f10 f11 f12 f13 f14 f15 f16 f17 f18 f19 f20 f21 fL fN fP fM fO) H := hP
  have hD : va_D A (mW ad kc x0 x1 x2 x3 x4 x5 x6 x7 x8 x9 x10 x11 x12 x13 x14 x15 x16 x17 x18 x19 x20 x21 f0 f1 f2 f_1 f_2 f_3 f6 f7 f8 f9 f10 f11 f12 f13 f14 f15 f16 f17 f18 f19 f20 f21 fL fN fP fM fO) := hD
  refine lv_aload_n hx hb dX10_knot_30 rfl (lv_at hl 0 rfl) ?_
  refine va_get (D := (dC, dI)) (ci := 10) (v := .ref (ad 9)) (C := RX10) (T := TX10) (N := 48) hx hb hts fin_X10_knotm_X10 hown hK hP 0 rfl rfl 20 (by decide) (hts (.fieldLink RX10 43 "PatternGateModel" "sign" "[I") (List.mem_of_getElem? (i := 5) (by decide +kernel))) (fun _ h9 => h9) rfl dX10_knot_31 ?_
  refine lv_aload_n hx hb dX10_knot_34 rfl (lv_at hl 0 rfl) ?_
  refine va_get (D := (dC, dI)) (ci := 10) (v := .int x12) (C := RX10) (T := TX10) (N := 48) hx hb hts fin_X10_knotm_X10 hown hK hP 0 rfl rfl 21 (by decide) (hts (.fieldLink RX10 223 "PatternGateModel" "knots" "I") (List.mem_of_getElem? (i := 2) (by decide +kernel))) (fun _ h9 => h9) rfl dX10_knot_35 ?_
  refine lv_iconst (v := (-1)) hx hb dX10_knot_38 (by decide) ?_
  refine va_iast hx hb hK hP hD hS 9 8 rfl rfl (i := x12) (vp_of (a := x12.toInt) rfl (by omega) (by omega)) dX10_knot_39 (fun H locs hP hD hS => ?_)
  generalize hf_f_4 : upd f8 _ _ = f_4 at hP hD
  have hP : va_P (dC, dI) vwCl (mW ad kc x0 x1 x2 x3 x4 x5 x6 x7 x8 x9 x10 x11 x12 x13 x14 x15 x16 x17 x18 x19 x20 x21 f0 f1 f2 f_1 f_2 f_3 f6 f7 f_4 f9 f10 f11 f12 f13 f14 f15 f16 f17 f18 f19 f20 f21 fL fN fP fM fO) H := hP
  have hD : va_D A (mW ad kc x0 x1 x2 x3 x4 x5 x6 x7 x8 x9 x10 x11 x12 x13 x14 x15 x16 x17 x18 x19 x20 x21 f0 f1 f2 f_1 f_2 f_3 f6 f7 f_4 f9 f10 f11 f12 f13 f14 f15 f16 f17 f18 f19 f20 f21 fL fN fP fM fO) := hD
  refine lv_aload_n hx hb dX10_knot_40 rfl (lv_at hl 0 rfl) ?_
  refine lv_dup hx hb dX10_knot_41 rfl ?_
  refine va_get (D := (dC, dI)) (ci := 10) (v := .int x12) (C := RX10) (T := TX10) (N := 48) hx hb hts fin_X10_knotm_X10 hown hK hP 0 rfl rfl 21 (by decide) (hts (.fieldLink RX10 223 "PatternGateModel" "knots" "I") (List.mem_of_getElem? (i := 2) (by decide +kernel))) (fun _ h9 => h9) rfl dX10_knot_42 ?_
  refine lv_iconst (v := 1) hx hb dX10_knot_45 (by decide) ?_
  refine lv_iadd hx hb dX10_knot_46 ?_
  refine lv_topi (fun y_5 ey_5 => ?_)
  first | have ty_5 := i_add (a := x12.toInt) (b := 1) rfl (by decide) ey_5 (by omega) (by omega) | skip
  refine va_put (D := (dC, dI)) (ci := 10) (v := .int y_5) (ty := .int) (C := RX10) (T := TX10) (N := 48) hx hb hts fin_X10_knotm_X10 tyX10 tyX10_ok nmX10 hown hK hP hD hS 0 rfl rfl 21 (by decide) (hts (.fieldLink RX10 223 "PatternGateModel" "knots" "I") (List.mem_of_getElem? (i := 2) (by decide +kernel))) (fun _ h9 => h9) rfl (by decide +kernel) rfl rfl (Nat.le_of_ble_eq_true rfl) dX10_knot_47 (fun H locs hP hD hS => ?_)
  have hP : va_P (dC, dI) vwCl (mW ad kc x0 x1 x2 x3 x4 x5 x6 x7 x8 x9 x10 x11 y_5 x13 x14 x15 x16 x17 x18 x19 x20 x21 f0 f1 f2 f_1 f_2 f_3 f6 f7 f_4 f9 f10 f11 f12 f13 f14 f15 f16 f17 f18 f19 f20 f21 fL fN fP fM fO) H := hP
  have hD : va_D A (mW ad kc x0 x1 x2 x3 x4 x5 x6 x7 x8 x9 x10 x11 y_5 x13 x14 x15 x16 x17 x18 x19 x20 x21 f0 f1 f2 f_1 f_2 f_3 f6 f7 f_4 f9 f10 f11 f12 f13 f14 f15 f16 f17 f18 f19 f20 f21 fL fN fP fM fO) := hD
  refine lv_aload_n hx hb dX10_knot_50 rfl (lv_at hl 0 rfl) ?_
  refine va_get (D := (dC, dI)) (ci := 10) (v := .int y_5) (C := RX10) (T := TX10) (N := 48) hx hb hts fin_X10_knotm_X10 hown hK hP 0 rfl rfl 21 (by decide) (hts (.fieldLink RX10 223 "PatternGateModel" "knots" "I") (List.mem_of_getElem? (i := 2) (by decide +kernel))) (fun _ h9 => h9) rfl dX10_knot_51 ?_
  refine lv_iconst (v := 1) hx hb dX10_knot_54 (by decide) ?_
  refine lv_isub hx hb dX10_knot_55 ?_
  refine lv_topi (fun y_6 ey_6 => ?_)
  first | have ty_6 := i_sub (a := y_5.toInt) (b := 1) rfl (by decide) ey_6 (by omega) (by omega) | skip
  exact W.iret hx hb hr (fun t ht hW => ⟨⟨_, _, rfl, rfl, y_5, f_1, f_2, f_3, f_4, (by first | omega | assumption | rfl | decide), (by first | omega | assumption | rfl | decide), ⟨uf_1.1, uf_2.1, uf_3.1⟩, (fun q z a b => mV_c (uf_1.2 z a b) (uf_2.2 z a b) (uf_3.2 z a b) rfl), by rw [ht]; exact hP, va_K.moved hW.alike hK, hD⟩, hS.F ht⟩) hS.2.2 dX10_knot_56
theorem dX10_joins_0 : decode cX10_joins 0 = .ok (.iload_n 2, 1) := by decide +kernel
theorem dX10_joins_1 : decode cX10_joins 1 = .ok (.iconst (-1), 1) := by decide +kernel
theorem dX10_joins_2 : decode cX10_joins 2 = .ok (.if_icmp .ne 13, 3) := by decide +kernel
theorem dX10_joins_5 : decode cX10_joins 5 = .ok (.aload_n 0, 1) := by decide +kernel
theorem dX10_joins_6 : decode cX10_joins 6 = .ok (.getfield 31, 3) := by decide +kernel
theorem dX10_joins_9 : decode cX10_joins 9 = .ok (.iload_n 1, 1) := by decide +kernel
theorem dX10_joins_10 : decode cX10_joins 10 = .ok (.iload_n 3, 1) := by decide +kernel
theorem dX10_joins_11 : decode cX10_joins 11 = .ok (.iastore, 1) := by decide +kernel
theorem dX10_joins_12 : decode cX10_joins 12 = .ok (.goto 10, 3) := by decide +kernel
theorem dX10_joins_15 : decode cX10_joins 15 = .ok (.aload_n 0, 1) := by decide +kernel
theorem dX10_joins_16 : decode cX10_joins 16 = .ok (.getfield 34, 3) := by decide +kernel
theorem dX10_joins_19 : decode cX10_joins 19 = .ok (.iload_n 2, 1) := by decide +kernel
theorem dX10_joins_20 : decode cX10_joins 20 = .ok (.iload_n 3, 1) := by decide +kernel
theorem dX10_joins_21 : decode cX10_joins 21 = .ok (.iastore, 1) := by decide +kernel
theorem dX10_joins_22 : decode cX10_joins 22 = .ok (.iload_n 3, 1) := by decide +kernel
theorem dX10_joins_23 : decode cX10_joins 23 = .ok (.ireturn, 1) := by decide +kernel
def mwX10_joinsm : List Cond := .code yX10_joins cX10_joins 4 (some .int) :: ([.fieldLink RX10 34 "PatternGateModel" "next" "[I", .fieldLink RX10 31 "PatternGateModel" "first" "[I"] ++ wsX100)
theorem fin_X10_joinsm_X10 : ∀ w ∈ wsX100, w ∈ mwX10_joinsm := fun w h => List.mem_cons_of_mem _ (List.mem_append_right _ h)
set_option maxHeartbeats 4000000 in
set_option maxRecDepth 100000 in
theorem m_joins (l : Launch) (dC : Nat → ClassId) (dI : Nat → Nat → Nat) (ad : Nat → Nat) (kc : Nat → ClassId) (x0 x1 x2 x3 x4 x5 x6 x7 x8 x9 x10 x11 x12 x13 x14 x15 x16 x17 x18 x19 x20 x21 : Int32) (f0 f1 f2 f3 f4 f5 f6 f7 f8 f9 f10 f11 f12 f13 f14 f15 f16 f17 f18 f19 f20 f21 : Nat → Int32) (fL : Nat → Nat → Int64) (fN : Nat → Nat → Int32) (fP : Nat → Nat → Nat) (fM : Nat → Nat → Int32) (fO : Nat → Nat → Int32) (sz : Nat) (i1 i2 i3 : Int32) (q0 : 0 ≤ i1.toInt) (q1 : i1.toInt < 1600) (q2 : -1 ≤ i2.toInt) (q3 : i2.toInt < 1600) : Met l yX10_joins mwX10_joinsm ({ frames := 0, cells := 0, slots := 0, locals := 0 }) (va_Pc [.ref (ad 0), .int i1, .int i2, .int i3] (fun U => U.heap.size = sz ∧ va_P (dC, dI) vwCl (mW ad kc x0 x1 x2 x3 x4 x5 x6 x7 x8 x9 x10 x11 x12 x13 x14 x15 x16 x17 x18 x19 x20 x21 f0 f1 f2 f3 f4 f5 f6 f7 f8 f9 f10 f11 f12 f13 f14 f15 f16 f17 f18 f19 f20 f21 fL fN fP fM fO) U.heap ∧ va_K (dC, dI) vwCl (mT kc) U ∧ va_D (fun _ => True) (mW ad kc x0 x1 x2 x3 x4 x5 x6 x7 x8 x9 x10 x11 x12 x13 x14 x15 x16 x17 x18 x19 x20 x21 f0 f1 f2 f3 f4 f5 f6 f7 f8 f9 f10 f11 f12 f13 f14 f15 f16 f17 f18 f19 f20 f21 fL fN fP fM fO))) (va_Qi (fun (o9 u9 : Int32) => o9 = u9) (fun (o9 : Int32) t => ∃ (g4 g5 : Nat → Int32), (o9.toInt = i3.toInt) ∧ (jP (mV f3 f4 f5 f7) (mV f3 g4 g5 f7) i1.toInt i2.toInt i3.toInt) ∧ va_P (dC, dI) vwCl (mW ad kc x0 x1 x2 x3 x4 x5 x6 x7 x8 x9 x10 x11 x12 x13 x14 x15 x16 x17 x18 x19 x20 x21 f0 f1 f2 f3 g4 g5 f6 f7 f8 f9 f10 f11 f12 f13 f14 f15 f16 f17 f18 f19 f20 f21 fL fN fP fM fO) t.heap ∧ va_K (dC, dI) vwCl (mT kc) t ∧ va_D (va_A (mW ad kc x0 x1 x2 x3 x4 x5 x6 x7 x8 x9 x10 x11 x12 x13 x14 x15 x16 x17 x18 x19 x20 x21 f0 f1 f2 f3 f4 f5 f6 f7 f8 f9 f10 f11 f12 f13 f14 f15 f16 f17 f18 f19 f20 f21 fL fN fP fM fO) sz) (mW ad kc x0 x1 x2 x3 x4 x5 x6 x7 x8 x9 x10 x11 x12 x13 x14 x15 x16 x17 x18 x19 x20 x21 f0 f1 f2 f3 g4 g5 f6 f7 f8 f9 f10 f11 f12 f13 f14 f15 f16 f17 f18 f19 f20 f21 fL fN fP fM fO)) (va_A (mW ad kc x0 x1 x2 x3 x4 x5 x6 x7 x8 x9 x10 x11 x12 x13 x14 x15 x16 x17 x18 x19 x20 x21 f0 f1 f2 f3 f4 f5 f6 f7 f8 f9 f10 f11 f12 f13 f14 f15 f16 f17 f18 f19 f20 f21 fL fN fP fM fO) sz)) 0 0 (va_A (mW ad kc x0 x1 x2 x3 x4 x5 x6 x7 x8 x9 x10 x11 x12 x13 x14 x15 x16 x17 x18 x19 x20 x21 f0 f1 f2 f3 f4 f5 f6 f7 f8 f9 f10 f11 f12 f13 f14 f15 f16 f17 f18 f19 f20 f21 fL fN fP fM fO) sz) := by
  refine Met.ofW (cc := cX10_joins) (maxL := 4) (ret := (some .int)) (by decide +kernel) rfl ?_
  intro p e s m args below meth c s₁ B hml hv
  obtain ⟨rfl, hsz, hP, hK, hD0⟩ := hv
  have hx := B.exec
  have hb := B.bytes
  have hr := B.returns
  have hts := atoms_spec (ws := mwX10_joinsm) B.pre
  have hown : s.vm.findClass RX10 = some m.cls := findClass_of_methodNamed B.named
  have hlocks := B.notSynchronized
  subst hsz
  have hD := hD0.self (sz := s.heap.size)
  generalize hAe : va_A (mW ad kc x0 x1 x2 x3 x4 x5 x6 x7 x8 x9 x10 x11 x12 x13 x14 x15 x16 x17 x18 x19 x20 x21 f0 f1 f2 f3 f4 f5 f6 f7 f8 f9 f10 f11 f12 f13 f14 f15 f16 f17 f18 f19 f20 f21 fL fN fP fM fO) s.heap.size = A at hD ⊢
  have hA : ∀ q : Nat, s.heap.size ≤ q → A q := fun q h => by rw [← hAe]; exact Or.inr h
  have hP : va_P (dC, dI) vwCl (mW ad kc x0 x1 x2 x3 x4 x5 x6 x7 x8 x9 x10 x11 x12 x13 x14 x15 x16 x17 x18 x19 x20 x21 f0 f1 f2 f3 f4 f5 f6 f7 f8 f9 f10 f11 f12 f13 f14 f15 f16 f17 f18 f19 f20 f21 fL fN fP fM fO) s.heap := hP
  have hD : va_D A (mW ad kc x0 x1 x2 x3 x4 x5 x6 x7 x8 x9 x10 x11 x12 x13 x14 x15 x16 x17 x18 x19 x20 x21 f0 f1 f2 f3 f4 f5 f6 f7 f8 f9 f10 f11 f12 f13 f14 f15 f16 f17 f18 f19 f20 f21 fL fN fP fM fO) := hD
  have hK : va_K (dC, dI) vwCl (mT kc) s := hK
  generalize hH : s.heap = H at hP ⊢
  have hS : va_S A s.heap H [] := by rw [← hH]; exact va_S.rf
  have hl := lv_entry ([.ref (ad 0), .int i1, .int i2, .int i3]) (n := 4) (Nat.le_of_ble_eq_true rfl)
  rw [lg_entry_eq]
  generalize (lg_sl ([.ref (ad 0), .int i1, .int i2, .int i3]) ++ List.replicate (4 - (lg_sl ([.ref (ad 0), .int i1, .int i2, .int i3])).length) Slot.unset).toArray = ls at hl ⊢
  have hl : lv_has ls 4 [(0, .ref (ad 0)), (1, .int i1), (2, .int i2), (3, .int i3)] := hl
  have rg_i1 := i_rng i1
  have rg_i2 := i_rng i2
  have rg_i3 := i_rng i3
  refine lv_iload_n hx hb dX10_joins_0 rfl (lv_at hl 2 rfl) ?_
  refine lv_iconst (v := (-1)) hx hb dX10_joins_1 (by decide) ?_
  refine lv_icmp_ne (tgt := 15) hx hb dX10_joins_2 (by decide) (fun k_1 => ?_) (fun k_1 => ?_)
  · have tk_1 := c_ne (a := i2.toInt) (b := (-1)) rfl (by decide) k_1
    refine lv_aload_n hx hb dX10_joins_15 rfl (lv_at hl 0 rfl) ?_
    refine va_get (D := (dC, dI)) (ci := 10) (v := .ref (ad 6)) (C := RX10) (T := TX10) (N := 48) hx hb hts fin_X10_joinsm_X10 hown hK hP 0 rfl rfl 17 (by decide) (hts (.fieldLink RX10 34 "PatternGateModel" "next" "[I") (List.mem_of_getElem? (i := 1) (by decide +kernel))) (fun _ h9 => h9) rfl dX10_joins_16 ?_
    refine lv_iload_n hx hb dX10_joins_19 rfl (lv_at hl 2 rfl) ?_
    refine lv_iload_n hx hb dX10_joins_20 rfl (lv_at hl 3 rfl) ?_
    refine va_iast hx hb hK hP hD hS 6 5 rfl rfl (i := i2) (vp_of (a := i2.toInt) rfl (by omega) (by omega)) dX10_joins_21 (fun H locs hP hD hS => ?_)
    generalize hf_f_2 : upd f5 _ _ = f_2 at hP hD
    have uf_2 := vI_up (a := i2.toInt) (b := i3.toInt) hf_f_2 (by first | omega | decide) (by omega) rfl
    have hP : va_P (dC, dI) vwCl (mW ad kc x0 x1 x2 x3 x4 x5 x6 x7 x8 x9 x10 x11 x12 x13 x14 x15 x16 x17 x18 x19 x20 x21 f0 f1 f2 f3 f4 f_2 f6 f7 f8 f9 f10 f11 f12 f13 f14 f15 f16 f17 f18 f19 f20 f21 fL fN fP fM fO) H := hP
    have hD : va_D A (mW ad kc x0 x1 x2 x3 x4 x5 x6 x7 x8 x9 x10 x11 x12 x13 x14 x15 x16 x17 x18 x19 x20 x21 f0 f1 f2 f3 f4 f_2 f6 f7 f8 f9 f10 f11 f12 f13 f14 f15 f16 f17 f18 f19 f20 f21 fL fN fP fM fO) := hD
    refine lv_iload_n hx hb dX10_joins_22 rfl (lv_at hl 3 rfl) ?_
    exact W.iret hx hb hr (fun t ht hW => ⟨⟨_, _, rfl, rfl, f4, f_2, (by first | omega | assumption | rfl | decide), (by first | exact jP_f uf_2 (by omega) | exact jP_n uf_2 (by omega)), by rw [ht]; exact hP, va_K.moved hW.alike hK, hD⟩, hS.F ht⟩) hS.2.2 dX10_joins_23
  · have tk_1 := c_eq (a := i2.toInt) (b := (-1)) rfl (by decide) k_1
    refine lv_aload_n hx hb dX10_joins_5 rfl (lv_at hl 0 rfl) ?_
    refine va_get (D := (dC, dI)) (ci := 10) (v := .ref (ad 5)) (C := RX10) (T := TX10) (N := 48) hx hb hts fin_X10_joinsm_X10 hown hK hP 0 rfl rfl 16 (by decide) (hts (.fieldLink RX10 31 "PatternGateModel" "first" "[I") (List.mem_of_getElem? (i := 2) (by decide +kernel))) (fun _ h9 => h9) rfl dX10_joins_6 ?_
    refine lv_iload_n hx hb dX10_joins_9 rfl (lv_at hl 1 rfl) ?_
    refine lv_iload_n hx hb dX10_joins_10 rfl (lv_at hl 3 rfl) ?_
    refine va_iast hx hb hK hP hD hS 5 4 rfl rfl (i := i1) (vp_of (a := i1.toInt) rfl (by omega) (by omega)) dX10_joins_11 (fun H locs hP hD hS => ?_)
    generalize hf_f_3 : upd f4 _ _ = f_3 at hP hD
    have uf_3 := vI_up (a := i1.toInt) (b := i3.toInt) hf_f_3 (by first | omega | decide) (by omega) rfl
    have hP : va_P (dC, dI) vwCl (mW ad kc x0 x1 x2 x3 x4 x5 x6 x7 x8 x9 x10 x11 x12 x13 x14 x15 x16 x17 x18 x19 x20 x21 f0 f1 f2 f3 f_3 f5 f6 f7 f8 f9 f10 f11 f12 f13 f14 f15 f16 f17 f18 f19 f20 f21 fL fN fP fM fO) H := hP
    have hD : va_D A (mW ad kc x0 x1 x2 x3 x4 x5 x6 x7 x8 x9 x10 x11 x12 x13 x14 x15 x16 x17 x18 x19 x20 x21 f0 f1 f2 f3 f_3 f5 f6 f7 f8 f9 f10 f11 f12 f13 f14 f15 f16 f17 f18 f19 f20 f21 fL fN fP fM fO) := hD
    refine lv_goto (tgt := 22) hx hb dX10_joins_12 (by decide) ?_
    refine lv_iload_n hx hb dX10_joins_22 rfl (lv_at hl 3 rfl) ?_
    exact W.iret hx hb hr (fun t ht hW => ⟨⟨_, _, rfl, rfl, f_3, f5, (by first | omega | assumption | rfl | decide), (by first | exact jP_f uf_3 (by omega) | exact jP_n uf_3 (by omega)), by rw [ht]; exact hP, va_K.moved hW.alike hK, hD⟩, hS.F ht⟩) hS.2.2 dX10_joins_23
theorem dX10_spotKnot_0 : decode cX10_spotKnot 0 = .ok (.aload_n 0, 1) := by decide +kernel
theorem dX10_spotKnot_1 : decode cX10_spotKnot 1 = .ok (.iconst 0, 1) := by decide +kernel
theorem dX10_spotKnot_2 : decode cX10_spotKnot 2 = .ok (.invokevirtual 226, 3) := by decide +kernel
theorem dX10_spotKnot_5 : decode cX10_spotKnot 5 = .ok (.istore_n 2, 1) := by decide +kernel
theorem dX10_spotKnot_6 : decode cX10_spotKnot 6 = .ok (.aload_n 0, 1) := by decide +kernel
theorem dX10_spotKnot_7 : decode cX10_spotKnot 7 = .ok (.getfield 40, 3) := by decide +kernel
theorem dX10_spotKnot_10 : decode cX10_spotKnot 10 = .ok (.iload_n 2, 1) := by decide +kernel
theorem dX10_spotKnot_11 : decode cX10_spotKnot 11 = .ok (.aload_n 0, 1) := by decide +kernel
theorem dX10_spotKnot_12 : decode cX10_spotKnot 12 = .ok (.getfield 248, 3) := by decide +kernel
theorem dX10_spotKnot_15 : decode cX10_spotKnot 15 = .ok (.iastore, 1) := by decide +kernel
theorem dX10_spotKnot_16 : decode cX10_spotKnot 16 = .ok (.aload_n 0, 1) := by decide +kernel
theorem dX10_spotKnot_17 : decode cX10_spotKnot 17 = .ok (.dup, 1) := by decide +kernel
theorem dX10_spotKnot_18 : decode cX10_spotKnot 18 = .ok (.getfield 248, 3) := by decide +kernel
theorem dX10_spotKnot_21 : decode cX10_spotKnot 21 = .ok (.iconst 1, 1) := by decide +kernel
theorem dX10_spotKnot_22 : decode cX10_spotKnot 22 = .ok (.iadd, 1) := by decide +kernel
theorem dX10_spotKnot_23 : decode cX10_spotKnot 23 = .ok (.putfield 248, 3) := by decide +kernel
theorem dX10_spotKnot_26 : decode cX10_spotKnot 26 = .ok (.aload_n 0, 1) := by decide +kernel
theorem dX10_spotKnot_27 : decode cX10_spotKnot 27 = .ok (.getfield 37, 3) := by decide +kernel
theorem dX10_spotKnot_30 : decode cX10_spotKnot 30 = .ok (.iload_n 2, 1) := by decide +kernel
theorem dX10_spotKnot_31 : decode cX10_spotKnot 31 = .ok (.iload_n 1, 1) := by decide +kernel
theorem dX10_spotKnot_32 : decode cX10_spotKnot 32 = .ok (.bipush 46, 2) := by decide +kernel
theorem dX10_spotKnot_34 : decode cX10_spotKnot 34 = .ok (.if_icmp .ne 8, 3) := by decide +kernel
theorem dX10_spotKnot_37 : decode cX10_spotKnot 37 = .ok (.ldc 251, 2) := by decide +kernel
theorem dX10_spotKnot_39 : decode cX10_spotKnot 39 = .ok (.goto 19, 3) := by decide +kernel
theorem dX10_spotKnot_42 : decode cX10_spotKnot 42 = .ok (.iload_n 1, 1) := by decide +kernel
theorem dX10_spotKnot_43 : decode cX10_spotKnot 43 = .ok (.bipush 91, 2) := by decide +kernel
theorem dX10_spotKnot_45 : decode cX10_spotKnot 45 = .ok (.if_icmp .ne 7, 3) := by decide +kernel
theorem dX10_spotKnot_48 : decode cX10_spotKnot 48 = .ok (.iconst 0, 1) := by decide +kernel
theorem dX10_spotKnot_49 : decode cX10_spotKnot 49 = .ok (.goto 9, 3) := by decide +kernel
theorem dX10_spotKnot_52 : decode cX10_spotKnot 52 = .ok (.iconst 1, 1) := by decide +kernel
theorem dX10_spotKnot_53 : decode cX10_spotKnot 53 = .ok (.iload_n 1, 1) := by decide +kernel
theorem dX10_spotKnot_54 : decode cX10_spotKnot 54 = .ok (.bipush 97, 2) := by decide +kernel
theorem dX10_spotKnot_56 : decode cX10_spotKnot 56 = .ok (.isub, 1) := by decide +kernel
theorem dX10_spotKnot_57 : decode cX10_spotKnot 57 = .ok (.ishl, 1) := by decide +kernel
theorem dX10_spotKnot_58 : decode cX10_spotKnot 58 = .ok (.iastore, 1) := by decide +kernel
theorem dX10_spotKnot_59 : decode cX10_spotKnot 59 = .ok (.iload_n 1, 1) := by decide +kernel
theorem dX10_spotKnot_60 : decode cX10_spotKnot 60 = .ok (.bipush 91, 2) := by decide +kernel
theorem dX10_spotKnot_62 : decode cX10_spotKnot 62 = .ok (.if_icmp .ne 43, 3) := by decide +kernel
theorem dX10_spotKnot_65 : decode cX10_spotKnot 65 = .ok (.aload_n 0, 1) := by decide +kernel
theorem dX10_spotKnot_66 : decode cX10_spotKnot 66 = .ok (.invokevirtual 236, 3) := by decide +kernel
theorem dX10_spotKnot_69 : decode cX10_spotKnot 69 = .ok (.bipush 93, 2) := by decide +kernel
theorem dX10_spotKnot_71 : decode cX10_spotKnot 71 = .ok (.if_icmp .eq 34, 3) := by decide +kernel
theorem dX10_spotKnot_74 : decode cX10_spotKnot 74 = .ok (.aload_n 0, 1) := by decide +kernel
theorem dX10_spotKnot_75 : decode cX10_spotKnot 75 = .ok (.getfield 37, 3) := by decide +kernel
theorem dX10_spotKnot_78 : decode cX10_spotKnot 78 = .ok (.iload_n 2, 1) := by decide +kernel
theorem dX10_spotKnot_79 : decode cX10_spotKnot 79 = .ok (.dup2, 1) := by decide +kernel
theorem dX10_spotKnot_80 : decode cX10_spotKnot 80 = .ok (.iaload, 1) := by decide +kernel
theorem dX10_spotKnot_81 : decode cX10_spotKnot 81 = .ok (.iconst 1, 1) := by decide +kernel
theorem dX10_spotKnot_82 : decode cX10_spotKnot 82 = .ok (.aload_n 0, 1) := by decide +kernel
theorem dX10_spotKnot_83 : decode cX10_spotKnot 83 = .ok (.invokevirtual 236, 3) := by decide +kernel
theorem dX10_spotKnot_86 : decode cX10_spotKnot 86 = .ok (.bipush 97, 2) := by decide +kernel
theorem dX10_spotKnot_88 : decode cX10_spotKnot 88 = .ok (.isub, 1) := by decide +kernel
theorem dX10_spotKnot_89 : decode cX10_spotKnot 89 = .ok (.ishl, 1) := by decide +kernel
theorem dX10_spotKnot_90 : decode cX10_spotKnot 90 = .ok (.ior, 1) := by decide +kernel
theorem dX10_spotKnot_91 : decode cX10_spotKnot 91 = .ok (.iastore, 1) := by decide +kernel
theorem dX10_spotKnot_92 : decode cX10_spotKnot 92 = .ok (.aload_n 0, 1) := by decide +kernel
theorem dX10_spotKnot_93 : decode cX10_spotKnot 93 = .ok (.dup, 1) := by decide +kernel
theorem dX10_spotKnot_94 : decode cX10_spotKnot 94 = .ok (.getfield 217, 3) := by decide +kernel
theorem dX10_spotKnot_97 : decode cX10_spotKnot 97 = .ok (.iconst 1, 1) := by decide +kernel
theorem dX10_spotKnot_98 : decode cX10_spotKnot 98 = .ok (.iadd, 1) := by decide +kernel
theorem dX10_spotKnot_99 : decode cX10_spotKnot 99 = .ok (.putfield 217, 3) := by decide +kernel
theorem dX10_spotKnot_102 : decode cX10_spotKnot 102 = .ok (.goto (-43), 3) := by decide +kernel
theorem dX10_spotKnot_105 : decode cX10_spotKnot 105 = .ok (.aload_n 0, 1) := by decide +kernel
theorem dX10_spotKnot_106 : decode cX10_spotKnot 106 = .ok (.dup, 1) := by decide +kernel
theorem dX10_spotKnot_107 : decode cX10_spotKnot 107 = .ok (.getfield 217, 3) := by decide +kernel
theorem dX10_spotKnot_110 : decode cX10_spotKnot 110 = .ok (.iload_n 1, 1) := by decide +kernel
theorem dX10_spotKnot_111 : decode cX10_spotKnot 111 = .ok (.bipush 91, 2) := by decide +kernel
theorem dX10_spotKnot_113 : decode cX10_spotKnot 113 = .ok (.if_icmp .ne 7, 3) := by decide +kernel
theorem dX10_spotKnot_116 : decode cX10_spotKnot 116 = .ok (.iconst 1, 1) := by decide +kernel
theorem dX10_spotKnot_117 : decode cX10_spotKnot 117 = .ok (.goto 4, 3) := by decide +kernel
theorem dX10_spotKnot_120 : decode cX10_spotKnot 120 = .ok (.iconst 0, 1) := by decide +kernel
theorem dX10_spotKnot_121 : decode cX10_spotKnot 121 = .ok (.iadd, 1) := by decide +kernel
theorem dX10_spotKnot_122 : decode cX10_spotKnot 122 = .ok (.putfield 217, 3) := by decide +kernel
theorem dX10_spotKnot_125 : decode cX10_spotKnot 125 = .ok (.iload_n 2, 1) := by decide +kernel
theorem dX10_spotKnot_126 : decode cX10_spotKnot 126 = .ok (.ireturn, 1) := by decide +kernel
def mwX10_spotKnotm : List Cond := .code yX10_spotKnot cX10_spotKnot 3 (some .int) :: ([.code yX10_knot cX10_knot 2 (some .int), .fieldLink RX10 28 "PatternGateModel" "kind" "[I", .fieldLink RX10 223 "PatternGateModel" "knots" "I", .fieldLink RX10 31 "PatternGateModel" "first" "[I", .fieldLink RX10 34 "PatternGateModel" "next" "[I", .fieldLink RX10 43 "PatternGateModel" "sign" "[I", .methodLink RX10 226 yX10_knot, .instanceMethod yX10_knot, .selects RX10 yX10_knot yX10_knot, .initialized RX10, .fieldLink RX10 40 "PatternGateModel" "spot" "[I", .fieldLink RX10 248 "PatternGateModel" "spotMany" "I", .fieldLink RX10 37 "PatternGateModel" "letters" "[I", .fieldLink RX10 217 "PatternGateModel" "reached" "I", .code yX10_signAt cX10_signAt 1 (some .int), .fieldLink RX10 8 "PatternGateModel" "all" "[I", .fieldLink RX10 220 "PatternGateModel" "pattern0" "I", .methodLink RX10 236 yX10_signAt, .instanceMethod yX10_signAt, .selects RX10 yX10_signAt yX10_signAt, .constant RX10 251 (67108863)] ++ wsX100)
theorem fin_X10_spotKnotm_X10 : ∀ w ∈ wsX100, w ∈ mwX10_spotKnotm := fun w h => List.mem_cons_of_mem _ (List.mem_append_right _ h)
set_option maxRecDepth 20000 in
theorem mg_X10_spotKnotm_X10_knot_226 : GoodIn mwX10_spotKnotm (wsV RX10 226 RX10 yX10_knot mwX10_knotm) := goodIn_r _ [7, 8, 9, 10, 1, 2, 3, 4, 5, 6, 22, 23, 24, 25, 26, 27, 28, 29, 30, 31, 32, 33, 34, 35, 36, 37, 38, 39, 40, 41, 42, 43, 44, 45, 46, 47, 48, 49, 50, 51, 52, 53, 54, 55, 56, 57, 58, 59, 60, 61, 62, 63, 64, 65, 66, 67, 68, 69] (by decide +kernel) (by decide +kernel)
set_option maxRecDepth 20000 in
theorem mg_X10_spotKnotm_X10_signAt_236 : GoodIn mwX10_spotKnotm (wsV RX10 236 RX10 yX10_signAt mwX10_signAtm) := goodIn_r _ [18, 19, 20, 10, 15, 14, 16, 17, 22, 23, 24, 25, 26, 27, 28, 29, 30, 31, 32, 33, 34, 35, 36, 37, 38, 39, 40, 41, 42, 43, 44, 45, 46, 47, 48, 49, 50, 51, 52, 53, 54, 55, 56, 57, 58, 59, 60, 61, 62, 63, 64, 65, 66, 67, 68, 69] (by decide +kernel) (by decide +kernel)
set_option maxHeartbeats 4000000 in
set_option maxRecDepth 100000 in
theorem m_spotKnot (l : Launch) (dC : Nat → ClassId) (dI : Nat → Nat → Nat) (ad : Nat → Nat) (kc : Nat → ClassId) (x0 x1 x2 x3 x4 x5 x6 x7 x8 x9 x10 x11 x12 x13 x14 x15 x16 x17 x18 x19 x20 x21 : Int32) (f0 f1 f2 f3 f4 f5 f6 f7 f8 f9 f10 f11 f12 f13 f14 f15 f16 f17 f18 f19 f20 f21 : Nat → Int32) (fL : Nat → Nat → Int64) (fN : Nat → Nat → Int32) (fP : Nat → Nat → Nat) (fM : Nat → Nat → Int32) (fO : Nat → Nat → Int32) (sz : Nat) (i1 : Int32) (q0 : 0 ≤ x12.toInt) (q1 : x12.toInt < 1600) (q2 : 0 ≤ x13.toInt) (q3 : x13.toInt ≤ 900) (q4 : 0 ≤ x14.toInt) (q5 : x14.toInt < 8) (q6 : vI f0 (612 + x14.toInt) ≤ 900) (q7 : i1.toInt = 91 → ∃ j, j ≤ 900 ∧ pSet (tp f0 x14.toInt) x13.toInt j) (q8 : 0 ≤ x15.toInt) (q9 : x15.toInt < 24) : Met l yX10_spotKnot mwX10_spotKnotm ({ frames := 1, cells := 0, slots := 0, locals := 60 }) (va_Pc [.ref (ad 0), .int i1] (fun U => U.heap.size = sz ∧ va_P (dC, dI) vwCl (mW ad kc x0 x1 x2 x3 x4 x5 x6 x7 x8 x9 x10 x11 x12 x13 x14 x15 x16 x17 x18 x19 x20 x21 f0 f1 f2 f3 f4 f5 f6 f7 f8 f9 f10 f11 f12 f13 f14 f15 f16 f17 f18 f19 f20 f21 fL fN fP fM fO) U.heap ∧ va_K (dC, dI) vwCl (mT kc) U ∧ va_D (fun _ => True) (mW ad kc x0 x1 x2 x3 x4 x5 x6 x7 x8 x9 x10 x11 x12 x13 x14 x15 x16 x17 x18 x19 x20 x21 f0 f1 f2 f3 f4 f5 f6 f7 f8 f9 f10 f11 f12 f13 f14 f15 f16 f17 f18 f19 f20 f21 fL fN fP fM fO))) (va_Qi (fun (o9 u9 : Int32) => o9 = u9) (fun (o9 : Int32) t => ∃ (y12 y13 y15 : Int32) (g3 g4 g5 g6 g7 g8 : Nat → Int32), (o9.toInt = x12.toInt) ∧ ((i1.toInt ≠ 91 → y13.toInt = x13.toInt) ∧ (i1.toInt = 91 → pSet (tp f0 x14.toInt) x13.toInt (y13.toInt - 1))) ∧ (y15.toInt = x15.toInt + 1) ∧ (y12.toInt = x12.toInt + 1) ∧ (tSpot (mV g3 g4 g5 g7) x12.toInt y12.toInt 1) ∧ (∀ (q : Nat) (z : Int), 0 ≤ z → z < x12.toInt → (mV g3 g4 g5 g7) q z = (mV f3 f4 f5 f7) q z) ∧ ((mV g3 g4 g5 g7) 2 x12.toInt = -1) ∧ (y13.toInt ≤ 901) ∧ va_P (dC, dI) vwCl (mW ad kc x0 x1 x2 x3 x4 x5 x6 x7 x8 x9 x10 x11 y12 y13 x14 y15 x16 x17 x18 x19 x20 x21 f0 f1 f2 g3 g4 g5 g6 g7 g8 f9 f10 f11 f12 f13 f14 f15 f16 f17 f18 f19 f20 f21 fL fN fP fM fO) t.heap ∧ va_K (dC, dI) vwCl (mT kc) t ∧ va_D (va_A (mW ad kc x0 x1 x2 x3 x4 x5 x6 x7 x8 x9 x10 x11 x12 x13 x14 x15 x16 x17 x18 x19 x20 x21 f0 f1 f2 f3 f4 f5 f6 f7 f8 f9 f10 f11 f12 f13 f14 f15 f16 f17 f18 f19 f20 f21 fL fN fP fM fO) sz) (mW ad kc x0 x1 x2 x3 x4 x5 x6 x7 x8 x9 x10 x11 y12 y13 x14 y15 x16 x17 x18 x19 x20 x21 f0 f1 f2 g3 g4 g5 g6 g7 g8 f9 f10 f11 f12 f13 f14 f15 f16 f17 f18 f19 f20 f21 fL fN fP fM fO)) (va_A (mW ad kc x0 x1 x2 x3 x4 x5 x6 x7 x8 x9 x10 x11 x12 x13 x14 x15 x16 x17 x18 x19 x20 x21 f0 f1 f2 f3 f4 f5 f6 f7 f8 f9 f10 f11 f12 f13 f14 f15 f16 f17 f18 f19 f20 f21 fL fN fP fM fO) sz)) 0 0 (va_A (mW ad kc x0 x1 x2 x3 x4 x5 x6 x7 x8 x9 x10 x11 x12 x13 x14 x15 x16 x17 x18 x19 x20 x21 f0 f1 f2 f3 f4 f5 f6 f7 f8 f9 f10 f11 f12 f13 f14 f15 f16 f17 f18 f19 f20 f21 fL fN fP fM fO) sz) := by
  refine Met.ofW (cc := cX10_spotKnot) (maxL := 3) (ret := (some .int)) (by decide +kernel) rfl ?_
  intro p e s m args below meth c s₁ B hml hv
  obtain ⟨rfl, hsz, hP, hK, hD0⟩ := hv
  have hx := B.exec
  have hb := B.bytes
  have hr := B.returns
  have hts := atoms_spec (ws := mwX10_spotKnotm) B.pre
  have hown : s.vm.findClass RX10 = some m.cls := findClass_of_methodNamed B.named
  have hlocks := B.notSynchronized
  subst hsz
  have hD := hD0.self (sz := s.heap.size)
  generalize hAe : va_A (mW ad kc x0 x1 x2 x3 x4 x5 x6 x7 x8 x9 x10 x11 x12 x13 x14 x15 x16 x17 x18 x19 x20 x21 f0 f1 f2 f3 f4 f5 f6 f7 f8 f9 f10 f11 f12 f13 f14 f15 f16 f17 f18 f19 f20 f21 fL fN fP fM fO) s.heap.size = A at hD ⊢
  have hA : ∀ q : Nat, s.heap.size ≤ q → A q := fun q h => by rw [← hAe]; exact Or.inr h
  have hP : va_P (dC, dI) vwCl (mW ad kc x0 x1 x2 x3 x4 x5 x6 x7 x8 x9 x10 x11 x12 x13 x14 x15 x16 x17 x18 x19 x20 x21 f0 f1 f2 f3 f4 f5 f6 f7 f8 f9 f10 f11 f12 f13 f14 f15 f16 f17 f18 f19 f20 f21 fL fN fP fM fO) s.heap := hP
  have hD : va_D A (mW ad kc x0 x1 x2 x3 x4 x5 x6 x7 x8 x9 x10 x11 x12 x13 x14 x15 x16 x17 x18 x19 x20 x21 f0 f1 f2 f3 f4 f5 f6 f7 f8 f9 f10 f11 f12 f13 f14 f15 f16 f17 f18 f19 f20 f21 fL fN fP fM fO) := hD
  have hK : va_K (dC, dI) vwCl (mT kc) s := hK
  generalize hH : s.heap = H at hP ⊢
  have hS : va_S A s.heap H [] := by rw [← hH]; exact va_S.rf
  have hl := lv_entry ([.ref (ad 0), .int i1]) (n := 3) (Nat.le_of_ble_eq_true rfl)
  rw [lg_entry_eq]
  generalize (lg_sl ([.ref (ad 0), .int i1]) ++ List.replicate (3 - (lg_sl ([.ref (ad 0), .int i1])).length) Slot.unset).toArray = ls at hl ⊢
  have hl : lv_has ls 3 [(0, .ref (ad 0)), (1, .int i1)] := hl
  have rg_i1 := i_rng i1
  refine lv_aload_n hx hb dX10_spotKnot_0 rfl (lv_at hl 0 rfl) ?_
  refine lv_iconst (v := 0) hx hb dX10_spotKnot_1 (by decide) ?_
  have hFc := m_free hD hS hA
  refine va_calli (va_runV (As := [.int 0]) (rest := []) ⟨hx, hb, hml, hown, hts⟩ (m_knot l dC dI ad kc x0 x1 x2 x3 x4 x5 x6 x7 x8 x9 x10 x11 x12 x13 x14 x15 x16 x17 x18 x19 x20 x21 f0 f1 f2 f3 f4 f5 f6 f7 f8 f9 f10 f11 f12 f13 f14 f15 f16 f17 f18 f19 f20 f21 fL fN fP fM fO H.size 0 (by first | omega | assumption | decide | (have l0 := Int32.toInt_zero; omega)) (by first | omega | assumption | decide | (have l0 := Int32.toInt_zero; omega))) (cwV 1 hts mg_X10_spotKnotm_X10_knot_226 rfl rfl rfl (by decide +kernel) ⟨Nat.le_of_ble_eq_true rfl, Nat.le_of_ble_eq_true rfl⟩) ⟨fun a U g mk q => by obtain ⟨q0, q1, qP, qK, qD⟩ := q; exact ⟨q0, q1, qP, va_K.moved (u := U) (U := U.calling g mk a) (Vm.Alike.refl U.vm) qK, qD⟩, va_recv hK hP (ci := 10) (q0 := 0) rfl rfl, fun U hU hW => ⟨rfl, by rw [hU], by rw [hU]; exact hP, va_K.moved hW.alike hK, hD.weaken (fun _ _ _ _ => trivial)⟩⟩ rfl rfl hl.1 rfl (lv_room (Nat.le_of_ble_eq_true rfl)) dX10_spotKnot_2 ⟨Nat.le_of_ble_eq_true rfl, Nat.le_of_ble_eq_true rfl⟩) hS (fun q _ h => hFc q h) hFc (fun r_1 u t H1 locs ht hvm hw hB hz1 hk1 hS => ?_)
  subst hw
  obtain ⟨x_2, f_3, f_4, f_5, f_6, hr_1_0, hr_1_1, hr_1_2, hr_1_3, hP, hK1, hD1⟩ := hB
  rw [ht] at hP
  have hD := hD1.weaken (fun k q _ h => hFc q.1 h)
  generalize H1 = H at hP hS ⊢
  have rg_x_2 := i_rng x_2
  have rg_r_1 := i_rng r_1
  have hP : va_P (dC, dI) vwCl (mW ad kc x0 x1 x2 x3 x4 x5 x6 x7 x8 x9 x10 x11 x_2 x13 x14 x15 x16 x17 x18 x19 x20 x21 f0 f1 f2 f_3 f_4 f_5 f6 f7 f_6 f9 f10 f11 f12 f13 f14 f15 f16 f17 f18 f19 f20 f21 fL fN fP fM fO) H := hP
  have hD : va_D A (mW ad kc x0 x1 x2 x3 x4 x5 x6 x7 x8 x9 x10 x11 x_2 x13 x14 x15 x16 x17 x18 x19 x20 x21 f0 f1 f2 f_3 f_4 f_5 f6 f7 f_6 f9 f10 f11 f12 f13 f14 f15 f16 f17 f18 f19 f20 f21 fL fN fP fM fO) := hD
  refine lv_istore_n (lv' := [(2, .int r_1), (0, .ref (ad 0)), (1, .int i1)]) hx hb dX10_spotKnot_5 rfl hl (by decide) rfl (fun ls hl => ?_)
  refine lv_aload_n hx hb dX10_spotKnot_6 rfl (lv_at hl 1 rfl) ?_
  refine va_get (D := (dC, dI)) (ci := 10) (v := .ref (ad 8)) (C := RX10) (T := TX10) (N := 48) hx hb hts fin_X10_spotKnotm_X10 hown hK hP 0 rfl rfl 19 (by decide) (hts (.fieldLink RX10 40 "PatternGateModel" "spot" "[I") (List.mem_of_getElem? (i := 11) (by decide +kernel))) (fun _ h9 => h9) rfl dX10_spotKnot_7 ?_
  refine lv_iload_n hx hb dX10_spotKnot_10 rfl (lv_at hl 0 rfl) ?_
  refine lv_aload_n hx hb dX10_spotKnot_11 rfl (lv_at hl 1 rfl) ?_
  refine va_get (D := (dC, dI)) (ci := 10) (v := .int x15) (C := RX10) (T := TX10) (N := 48) hx hb hts fin_X10_spotKnotm_X10 hown hK hP 0 rfl rfl 24 (by decide) (hts (.fieldLink RX10 248 "PatternGateModel" "spotMany" "I") (List.mem_of_getElem? (i := 12) (by decide +kernel))) (fun _ h9 => h9) rfl dX10_spotKnot_12 ?_
  refine va_iast hx hb hK hP hD hS 8 7 rfl rfl (i := r_1) (vp_of (a := r_1.toInt) rfl (by omega) (by omega)) dX10_spotKnot_15 (fun H locs hP hD hS => ?_)
  generalize hf_f_7 : upd f7 _ _ = f_7 at hP hD
  have uf_7 := vI_up (a := r_1.toInt) (b := x15.toInt) hf_f_7 (by first | omega | decide) (by omega) rfl
  have hP : va_P (dC, dI) vwCl (mW ad kc x0 x1 x2 x3 x4 x5 x6 x7 x8 x9 x10 x11 x_2 x13 x14 x15 x16 x17 x18 x19 x20 x21 f0 f1 f2 f_3 f_4 f_5 f6 f_7 f_6 f9 f10 f11 f12 f13 f14 f15 f16 f17 f18 f19 f20 f21 fL fN fP fM fO) H := hP
  have hD : va_D A (mW ad kc x0 x1 x2 x3 x4 x5 x6 x7 x8 x9 x10 x11 x_2 x13 x14 x15 x16 x17 x18 x19 x20 x21 f0 f1 f2 f_3 f_4 f_5 f6 f_7 f_6 f9 f10 f11 f12 f13 f14 f15 f16 f17 f18 f19 f20 f21 fL fN fP fM fO) := hD
  have u9 := uf_7
  rw [show r_1.toInt = x12.toInt by omega] at u9
  have hE := sp_tree (V0 := (mV f3 f4 f5 f7)) (by omega) ⟨hr_1_2.1.trans (by decide), hr_1_2.2.1, hr_1_2.2.2⟩ hr_1_3 u9 (by omega) (by omega) (show x_2.toInt = x12.toInt + 1 by omega)
  refine lv_aload_n hx hb dX10_spotKnot_16 rfl (lv_at hl 1 rfl) ?_
  refine lv_dup hx hb dX10_spotKnot_17 rfl ?_
  refine va_get (D := (dC, dI)) (ci := 10) (v := .int x15) (C := RX10) (T := TX10) (N := 48) hx hb hts fin_X10_spotKnotm_X10 hown hK hP 0 rfl rfl 24 (by decide) (hts (.fieldLink RX10 248 "PatternGateModel" "spotMany" "I") (List.mem_of_getElem? (i := 12) (by decide +kernel))) (fun _ h9 => h9) rfl dX10_spotKnot_18 ?_
  refine lv_iconst (v := 1) hx hb dX10_spotKnot_21 (by decide) ?_
  refine lv_iadd hx hb dX10_spotKnot_22 ?_
  refine lv_topi (fun y_8 ey_8 => ?_)
  first | have ty_8 := i_add (a := x15.toInt) (b := 1) rfl (by decide) ey_8 (by omega) (by omega) | skip
  refine va_put (D := (dC, dI)) (ci := 10) (v := .int y_8) (ty := .int) (C := RX10) (T := TX10) (N := 48) hx hb hts fin_X10_spotKnotm_X10 tyX10 tyX10_ok nmX10 hown hK hP hD hS 0 rfl rfl 24 (by decide) (hts (.fieldLink RX10 248 "PatternGateModel" "spotMany" "I") (List.mem_of_getElem? (i := 12) (by decide +kernel))) (fun _ h9 => h9) rfl (by decide +kernel) rfl rfl (Nat.le_of_ble_eq_true rfl) dX10_spotKnot_23 (fun H locs hP hD hS => ?_)
  have hP : va_P (dC, dI) vwCl (mW ad kc x0 x1 x2 x3 x4 x5 x6 x7 x8 x9 x10 x11 x_2 x13 x14 y_8 x16 x17 x18 x19 x20 x21 f0 f1 f2 f_3 f_4 f_5 f6 f_7 f_6 f9 f10 f11 f12 f13 f14 f15 f16 f17 f18 f19 f20 f21 fL fN fP fM fO) H := hP
  have hD : va_D A (mW ad kc x0 x1 x2 x3 x4 x5 x6 x7 x8 x9 x10 x11 x_2 x13 x14 y_8 x16 x17 x18 x19 x20 x21 f0 f1 f2 f_3 f_4 f_5 f6 f_7 f_6 f9 f10 f11 f12 f13 f14 f15 f16 f17 f18 f19 f20 f21 fL fN fP fM fO) := hD
  refine lv_aload_n hx hb dX10_spotKnot_26 rfl (lv_at hl 1 rfl) ?_
  refine va_get (D := (dC, dI)) (ci := 10) (v := .ref (ad 7)) (C := RX10) (T := TX10) (N := 48) hx hb hts fin_X10_spotKnotm_X10 hown hK hP 0 rfl rfl 18 (by decide) (hts (.fieldLink RX10 37 "PatternGateModel" "letters" "[I") (List.mem_of_getElem? (i := 13) (by decide +kernel))) (fun _ h9 => h9) rfl dX10_spotKnot_27 ?_
  refine lv_iload_n hx hb dX10_spotKnot_30 rfl (lv_at hl 0 rfl) ?_
  refine lv_iload_n hx hb dX10_spotKnot_31 rfl (lv_at hl 2 rfl) ?_
  refine lv_bipush (v := 46) hx hb dX10_spotKnot_32 (by decide) ?_
  refine lv_icmp_ne (tgt := 42) hx hb dX10_spotKnot_34 (by decide) (fun k_9 => ?_) (fun k_9 => ?_)
  · have tk_9 := c_ne (a := i1.toInt) (b := 46) rfl (by decide) k_9
    refine lv_iload_n hx hb dX10_spotKnot_42 rfl (lv_at hl 2 rfl) ?_
    refine lv_bipush (v := 91) hx hb dX10_spotKnot_43 (by decide) ?_
    refine lv_icmp_ne (tgt := 52) hx hb dX10_spotKnot_45 (by decide) (fun k_10 => ?_) (fun k_10 => ?_)
    · have tk_10 := c_ne (a := i1.toInt) (b := 91) rfl (by decide) k_10
      refine lv_iconst (v := 1) hx hb dX10_spotKnot_52 (by decide) ?_
      refine lv_iload_n hx hb dX10_spotKnot_53 rfl (lv_at hl 2 rfl) ?_
      refine lv_bipush (v := 97) hx hb dX10_spotKnot_54 (by decide) ?_
      refine lv_isub hx hb dX10_spotKnot_56 ?_
      refine lv_topi (fun y_11 ey_11 => ?_)
      first | have ty_11 := i_sub (a := i1.toInt) (b := 97) rfl (by decide) ey_11 (by omega) (by omega) | skip
      refine lv_ishl hx hb dX10_spotKnot_57 ?_
      refine lv_topi (fun y_12 ey_12 => ?_)
      have rg_y_12 := i_rng y_12
      refine va_iast hx hb hK hP hD hS 7 6 rfl rfl (i := r_1) (vp_of (a := r_1.toInt) rfl (by omega) (by omega)) dX10_spotKnot_58 (fun H locs hP hD hS => ?_)
      generalize hf_f_13 : upd f6 _ _ = f_13 at hP hD
      have hP : va_P (dC, dI) vwCl (mW ad kc x0 x1 x2 x3 x4 x5 x6 x7 x8 x9 x10 x11 x_2 x13 x14 y_8 x16 x17 x18 x19 x20 x21 f0 f1 f2 f_3 f_4 f_5 f_13 f_7 f_6 f9 f10 f11 f12 f13 f14 f15 f16 f17 f18 f19 f20 f21 fL fN fP fM fO) H := hP
      have hD : va_D A (mW ad kc x0 x1 x2 x3 x4 x5 x6 x7 x8 x9 x10 x11 x_2 x13 x14 y_8 x16 x17 x18 x19 x20 x21 f0 f1 f2 f_3 f_4 f_5 f_13 f_7 f_6 f9 f10 f11 f12 f13 f14 f15 f16 f17 f18 f19 f20 f21 fL fN fP fM fO) := hD
      have loop59 : ∀ (lm59 : Nat) (ra : Int32) (ga : Nat → Int32), (x13.toInt ≤ ra.toInt) → (ra.toInt ≤ 900) → (i1.toInt = 91 → ∃ j, j ≤ 900 ∧ pSet (tp f0 x14.toInt) ra.toInt j) → (i1.toInt ≠ 91 → ra.toInt = x13.toInt) → (∀ k : Int, x13.toInt ≤ k → k < ra.toInt → isSm ((tp f0 x14.toInt) k)) → ((900 - ra.toInt).toNat) < lm59 → ∀ (H : Heap) (locs : List Loc) (ls : Array Slot), va_P (dC, dI) vwCl (mW ad kc x0 x1 x2 x3 x4 x5 x6 x7 x8 x9 x10 x11 x_2 ra x14 y_8 x16 x17 x18 x19 x20 x21 f0 f1 f2 f_3 f_4 f_5 ga f_7 f_6 f9 f10 f11 f12 f13 f14 f15 f16 f17 f18 f19 f20 f21 fL fN fP fM fO) H → va_D A (mW ad kc x0 x1 x2 x3 x4 x5 x6 x7 x8 x9 x10 x11 x_2 ra x14 y_8 x16 x17 x18 x19 x20 x21 f0 f1 f2 f_3 f_4 f_5 ga f_7 f_6 f9 f10 f11 f12 f13 f14 f15 f16 f17 f18 f19 f20 f21 fL fN fP fM fO) → va_S A s.heap H locs → lv_has ls 3 [(2, .int r_1), (0, .ref (ad 0)), (1, .int i1)] → W p l e (headSpec mwX10_spotKnotm ({ frames := 1, cells := 0, slots := 0, locals := 60 })).room s m ([.ref (ad 0), .int i1]).toArray below meth c H locs 0 0 (MQ below (va_Qi (fun (o9 u9 : Int32) => o9 = u9) (fun (o9 : Int32) t => ∃ (y12 y13 y15 : Int32) (g3 g4 g5 g6 g7 g8 : Nat → Int32), (o9.toInt = x12.toInt) ∧ ((i1.toInt ≠ 91 → y13.toInt = x13.toInt) ∧ (i1.toInt = 91 → pSet (tp f0 x14.toInt) x13.toInt (y13.toInt - 1))) ∧ (y15.toInt = x15.toInt + 1) ∧ (y12.toInt = x12.toInt + 1) ∧ (tSpot (mV g3 g4 g5 g7) x12.toInt y12.toInt 1) ∧ (∀ (q : Nat) (z : Int), 0 ≤ z → z < x12.toInt → (mV g3 g4 g5 g7) q z = (mV f3 f4 f5 f7) q z) ∧ ((mV g3 g4 g5 g7) 2 x12.toInt = -1) ∧ (y13.toInt ≤ 901) ∧ va_P (dC, dI) vwCl (mW ad kc x0 x1 x2 x3 x4 x5 x6 x7 x8 x9 x10 x11 y12 y13 x14 y15 x16 x17 x18 x19 x20 x21 f0 f1 f2 g3 g4 g5 g6 g7 g8 f9 f10 f11 f12 f13 f14 f15 f16 f17 f18 f19 f20 f21 fL fN fP fM fO) t.heap ∧ va_K (dC, dI) vwCl (mT kc) t ∧ va_D A (mW ad kc x0 x1 x2 x3 x4 x5 x6 x7 x8 x9 x10 x11 y12 y13 x14 y15 x16 x17 x18 x19 x20 x21 f0 f1 f2 g3 g4 g5 g6 g7 g8 f9 f10 f11 f12 f13 f14 f15 f16 f17 f18 f19 f20 f21 fL fN fP fM fO)) A) ([.ref (ad 0), .int i1]).toArray s 0 0 A) (F0 m 59 ls []) := by
        intro lm59
        induction lm59 with
        | zero => intro ra ga v59_0 v59_1 v59_2 v59_3 v59_4 hm59; exact absurd hm59 (Nat.not_lt_zero _)
        | succ lm59 ih59 =>
          intro ra ga v59_0 v59_1 v59_2 v59_3 v59_4 hm59 H locs ls hP hD hS hl
          have rg_ra := i_rng ra
          refine lv_iload_n hx hb dX10_spotKnot_59 rfl (lv_at hl 2 rfl) ?_
          refine lv_bipush (v := 91) hx hb dX10_spotKnot_60 (by decide) ?_
          refine lv_icmp_ne (tgt := 105) hx hb dX10_spotKnot_62 (by decide) (fun k_14 => ?_) (fun k_14 => ?_)
          · have tk_14 := c_ne (a := i1.toInt) (b := 91) rfl (by decide) k_14
            refine lv_aload_n hx hb dX10_spotKnot_105 rfl (lv_at hl 1 rfl) ?_
            refine lv_dup hx hb dX10_spotKnot_106 rfl ?_
            refine va_get (D := (dC, dI)) (ci := 10) (v := .int ra) (C := RX10) (T := TX10) (N := 48) hx hb hts fin_X10_spotKnotm_X10 hown hK hP 0 rfl rfl 22 (by decide) (hts (.fieldLink RX10 217 "PatternGateModel" "reached" "I") (List.mem_of_getElem? (i := 14) (by decide +kernel))) (fun _ h9 => h9) rfl dX10_spotKnot_107 ?_
            refine lv_iload_n hx hb dX10_spotKnot_110 rfl (lv_at hl 2 rfl) ?_
            refine lv_bipush (v := 91) hx hb dX10_spotKnot_111 (by decide) ?_
            refine lv_icmp_ne (tgt := 120) hx hb dX10_spotKnot_113 (by decide) (fun k_15 => ?_) (fun k_15 => absurd k_15 k_14)
            have tk_15 := c_ne (a := i1.toInt) (b := 91) rfl (by decide) k_15
            refine lv_iconst (v := 0) hx hb dX10_spotKnot_120 (by decide) ?_
            refine lv_iadd hx hb dX10_spotKnot_121 ?_
            refine lv_topi (fun y_16 ey_16 => ?_)
            first | have ty_16 := i_add (a := ra.toInt) (b := 0) rfl (by decide) ey_16 (by omega) (by omega) | skip
            refine va_put (D := (dC, dI)) (ci := 10) (v := .int y_16) (ty := .int) (C := RX10) (T := TX10) (N := 48) hx hb hts fin_X10_spotKnotm_X10 tyX10 tyX10_ok nmX10 hown hK hP hD hS 0 rfl rfl 22 (by decide) (hts (.fieldLink RX10 217 "PatternGateModel" "reached" "I") (List.mem_of_getElem? (i := 14) (by decide +kernel))) (fun _ h9 => h9) rfl (by decide +kernel) rfl rfl (Nat.le_of_ble_eq_true rfl) dX10_spotKnot_122 (fun H locs hP hD hS => ?_)
            have hP : va_P (dC, dI) vwCl (mW ad kc x0 x1 x2 x3 x4 x5 x6 x7 x8 x9 x10 x11 x_2 y_16 x14 y_8 x16 x17 x18 x19 x20 x21 f0 f1 f2 f_3 f_4 f_5 ga f_7 f_6 f9 f10 f11 f12 f13 f14 f15 f16 f17 f18 f19 f20 f21 fL fN fP fM fO) H := hP
            have hD : va_D A (mW ad kc x0 x1 x2 x3 x4 x5 x6 x7 x8 x9 x10 x11 x_2 y_16 x14 y_8 x16 x17 x18 x19 x20 x21 f0 f1 f2 f_3 f_4 f_5 ga f_7 f_6 f9 f10 f11 f12 f13 f14 f15 f16 f17 f18 f19 f20 f21 fL fN fP fM fO) := hD
            refine lv_iload_n hx hb dX10_spotKnot_125 rfl (lv_at hl 0 rfl) ?_
            exact W.iret hx hb hr (fun t ht hW => ⟨⟨_, _, rfl, rfl, x_2, y_16, y_8, f_3, f_4, f_5, ga, f_7, f_6, (by first | omega | assumption | rfl | decide), ⟨fun h9 => by have := v59_3 h9; omega, fun h9 => absurd h9 (by omega)⟩, (by first | omega | assumption | rfl | decide), (by first | omega | assumption | rfl | decide), hE.1, hE.2.2, hE.2.1, (by first | omega | assumption | rfl | decide), by rw [ht]; exact hP, va_K.moved hW.alike hK, hD⟩, hS.F ht⟩) hS.2.2 dX10_spotKnot_126
          · have tk_14 := c_eq (a := i1.toInt) (b := 91) rfl (by decide) k_14
            obtain ⟨j9, hj9, hs9⟩ := v59_2 (by omega)
            have hle9 := hs9.1
            refine lv_aload_n hx hb dX10_spotKnot_65 rfl (lv_at hl 1 rfl) ?_
            refine vp_callSi (W.runV (As := []) (rest := []) ⟨hx, hb, hml, hown, hts⟩ (m_signAt l dC dI ad kc x0 x1 x2 x3 x4 x5 x6 x7 x8 x9 x10 x11 x_2 ra x14 y_8 x16 x17 x18 x19 x20 x21 f0 f1 f2 f_3 f_4 f_5 ga f_7 f_6 f9 f10 f11 f12 f13 f14 f15 f16 f17 f18 f19 f20 f21 fL fN fP fM fO (by first | omega | assumption | decide | (have l0 := Int32.toInt_zero; omega)) (by first | omega | assumption | decide | (have l0 := Int32.toInt_zero; omega)) (by first | omega | assumption | decide | (have l0 := Int32.toInt_zero; omega)) (by first | omega | assumption | decide | (have l0 := Int32.toInt_zero; omega)) (by first | omega | assumption | decide | (have l0 := Int32.toInt_zero; omega))) (cwV 0 hts mg_X10_spotKnotm_X10_signAt_236 rfl rfl rfl (by decide +kernel) ⟨Nat.le_of_ble_eq_true rfl, Nat.le_of_ble_eq_true rfl⟩) ⟨fun a U g mk q => by obtain ⟨q0, qP, qK⟩ := q; exact ⟨q0, qP, va_K.moved (u := U) (U := U.calling g mk a) (Vm.Alike.refl U.vm) qK⟩, va_recv hK hP (ci := 10) (q0 := 0) rfl rfl, fun U hU hW => ⟨rfl, by rw [hU]; exact hP, va_K.moved hW.alike hK⟩⟩ rfl rfl hl.1 rfl (lv_room (Nat.le_of_ble_eq_true rfl)) dX10_spotKnot_66 ⟨Nat.le_of_ble_eq_true rfl, Nat.le_of_ble_eq_true rfl⟩) (fun r_17 hr_17 => ?_)
            have rg_r_17 := i_rng r_17
            refine lv_bipush (v := 93) hx hb dX10_spotKnot_69 (by decide) ?_
            refine lv_icmp_eq (tgt := 105) hx hb dX10_spotKnot_71 (by decide) (fun k_18 => ?_) (fun k_18 => ?_)
            · have tk_18 := c_eq (a := r_17.toInt) (b := 93) rfl (by decide) k_18
              refine lv_aload_n hx hb dX10_spotKnot_105 rfl (lv_at hl 1 rfl) ?_
              refine lv_dup hx hb dX10_spotKnot_106 rfl ?_
              refine va_get (D := (dC, dI)) (ci := 10) (v := .int ra) (C := RX10) (T := TX10) (N := 48) hx hb hts fin_X10_spotKnotm_X10 hown hK hP 0 rfl rfl 22 (by decide) (hts (.fieldLink RX10 217 "PatternGateModel" "reached" "I") (List.mem_of_getElem? (i := 14) (by decide +kernel))) (fun _ h9 => h9) rfl dX10_spotKnot_107 ?_
              refine lv_iload_n hx hb dX10_spotKnot_110 rfl (lv_at hl 2 rfl) ?_
              refine lv_bipush (v := 91) hx hb dX10_spotKnot_111 (by decide) ?_
              refine lv_icmp_ne (tgt := 120) hx hb dX10_spotKnot_113 (by decide) (fun k_19 => absurd k_14 k_19) (fun k_19 => ?_)
              have tk_19 := c_eq (a := i1.toInt) (b := 91) rfl (by decide) k_19
              refine lv_iconst (v := 1) hx hb dX10_spotKnot_116 (by decide) ?_
              refine lv_goto (tgt := 121) hx hb dX10_spotKnot_117 (by decide) ?_
              refine lv_iadd hx hb dX10_spotKnot_121 ?_
              refine lv_topi (fun y_20 ey_20 => ?_)
              first | have ty_20 := i_add (a := ra.toInt) (b := 1) rfl (by decide) ey_20 (by omega) (by omega) | skip
              refine va_put (D := (dC, dI)) (ci := 10) (v := .int y_20) (ty := .int) (C := RX10) (T := TX10) (N := 48) hx hb hts fin_X10_spotKnotm_X10 tyX10 tyX10_ok nmX10 hown hK hP hD hS 0 rfl rfl 22 (by decide) (hts (.fieldLink RX10 217 "PatternGateModel" "reached" "I") (List.mem_of_getElem? (i := 14) (by decide +kernel))) (fun _ h9 => h9) rfl (by decide +kernel) rfl rfl (Nat.le_of_ble_eq_true rfl) dX10_spotKnot_122 (fun H locs hP hD hS => ?_)
              have hP : va_P (dC, dI) vwCl (mW ad kc x0 x1 x2 x3 x4 x5 x6 x7 x8 x9 x10 x11 x_2 y_20 x14 y_8 x16 x17 x18 x19 x20 x21 f0 f1 f2 f_3 f_4 f_5 ga f_7 f_6 f9 f10 f11 f12 f13 f14 f15 f16 f17 f18 f19 f20 f21 fL fN fP fM fO) H := hP
              have hD : va_D A (mW ad kc x0 x1 x2 x3 x4 x5 x6 x7 x8 x9 x10 x11 x_2 y_20 x14 y_8 x16 x17 x18 x19 x20 x21 f0 f1 f2 f_3 f_4 f_5 ga f_7 f_6 f9 f10 f11 f12 f13 f14 f15 f16 f17 f18 f19 f20 f21 fL fN fP fM fO) := hD
              refine lv_iload_n hx hb dX10_spotKnot_125 rfl (lv_at hl 0 rfl) ?_
              exact W.iret hx hb hr (fun t ht hW => ⟨⟨_, _, rfl, rfl, x_2, y_20, y_8, f_3, f_4, f_5, ga, f_7, f_6, (by first | omega | assumption | rfl | decide), ⟨fun h9 => absurd (by omega) h9, fun _ => ⟨by omega, fun k a b => v59_4 k a (by omega), by rw [show y_20.toInt - 1 = ra.toInt by omega, ← hr_17]; omega⟩⟩, (by first | omega | assumption | rfl | decide), (by first | omega | assumption | rfl | decide), hE.1, hE.2.2, hE.2.1, (by first | omega | assumption | rfl | decide), by rw [ht]; exact hP, va_K.moved hW.alike hK, hD⟩, hS.F ht⟩) hS.2.2 dX10_spotKnot_126
            · have tk_18 := c_ne (a := r_17.toInt) (b := 93) rfl (by decide) k_18
              have hlt9 := set_lt hs9 (by rw [← hr_17]; omega)
              have hlt8 := hlt9.1
              refine lv_aload_n hx hb dX10_spotKnot_74 rfl (lv_at hl 1 rfl) ?_
              refine va_get (D := (dC, dI)) (ci := 10) (v := .ref (ad 7)) (C := RX10) (T := TX10) (N := 48) hx hb hts fin_X10_spotKnotm_X10 hown hK hP 0 rfl rfl 18 (by decide) (hts (.fieldLink RX10 37 "PatternGateModel" "letters" "[I") (List.mem_of_getElem? (i := 13) (by decide +kernel))) (fun _ h9 => h9) rfl dX10_spotKnot_75 ?_
              refine lv_iload_n hx hb dX10_spotKnot_78 rfl (lv_at hl 0 rfl) ?_
              refine lv_dup2_11 hx hb dX10_spotKnot_79 rfl rfl ?_
              refine va_iald hx hb hK hP 7 6 rfl rfl (i := r_1) (vp_of (a := r_1.toInt) rfl (by omega) (by omega)) dX10_spotKnot_80 ?_
              refine lv_topi (fun y_21 ey_21 => ?_)
              have rg_y_21 := i_rng y_21
              refine lv_iconst (v := 1) hx hb dX10_spotKnot_81 (by decide) ?_
              refine lv_aload_n hx hb dX10_spotKnot_82 rfl (lv_at hl 1 rfl) ?_
              refine vp_callSi (W.runV (As := []) (rest := [.int 1, .int y_21, .int r_1, .ref (ad 7)]) ⟨hx, hb, hml, hown, hts⟩ (m_signAt l dC dI ad kc x0 x1 x2 x3 x4 x5 x6 x7 x8 x9 x10 x11 x_2 ra x14 y_8 x16 x17 x18 x19 x20 x21 f0 f1 f2 f_3 f_4 f_5 ga f_7 f_6 f9 f10 f11 f12 f13 f14 f15 f16 f17 f18 f19 f20 f21 fL fN fP fM fO (by first | omega | assumption | decide | (have l0 := Int32.toInt_zero; omega)) (by first | omega | assumption | decide | (have l0 := Int32.toInt_zero; omega)) (by first | omega | assumption | decide | (have l0 := Int32.toInt_zero; omega)) (by first | omega | assumption | decide | (have l0 := Int32.toInt_zero; omega)) (by first | omega | assumption | decide | (have l0 := Int32.toInt_zero; omega))) (cwV 0 hts mg_X10_spotKnotm_X10_signAt_236 rfl rfl rfl (by decide +kernel) ⟨Nat.le_of_ble_eq_true rfl, Nat.le_of_ble_eq_true rfl⟩) ⟨fun a U g mk q => by obtain ⟨q0, qP, qK⟩ := q; exact ⟨q0, qP, va_K.moved (u := U) (U := U.calling g mk a) (Vm.Alike.refl U.vm) qK⟩, va_recv hK hP (ci := 10) (q0 := 0) rfl rfl, fun U hU hW => ⟨rfl, by rw [hU]; exact hP, va_K.moved hW.alike hK⟩⟩ rfl rfl hl.1 rfl (lv_room (Nat.le_of_ble_eq_true rfl)) dX10_spotKnot_83 ⟨Nat.le_of_ble_eq_true rfl, Nat.le_of_ble_eq_true rfl⟩) (fun r_22 hr_22 => ?_)
              have rg_r_22 := i_rng r_22
              refine lv_bipush (v := 97) hx hb dX10_spotKnot_86 (by decide) ?_
              refine lv_isub hx hb dX10_spotKnot_88 ?_
              refine lv_topi (fun y_23 ey_23 => ?_)
              first | have ty_23 := i_sub (a := r_22.toInt) (b := 97) rfl (by decide) ey_23 (by omega) (by omega) | skip
              refine lv_ishl hx hb dX10_spotKnot_89 ?_
              refine lv_topi (fun y_24 ey_24 => ?_)
              have rg_y_24 := i_rng y_24
              refine lv_ior hx hb dX10_spotKnot_90 ?_
              refine lv_topi (fun y_25 ey_25 => ?_)
              have rg_y_25 := i_rng y_25
              refine va_iast hx hb hK hP hD hS 7 6 rfl rfl (i := r_1) (vp_of (a := r_1.toInt) rfl (by omega) (by omega)) dX10_spotKnot_91 (fun H locs hP hD hS => ?_)
              generalize hf_f_26 : upd ga _ _ = f_26 at hP hD
              have hP : va_P (dC, dI) vwCl (mW ad kc x0 x1 x2 x3 x4 x5 x6 x7 x8 x9 x10 x11 x_2 ra x14 y_8 x16 x17 x18 x19 x20 x21 f0 f1 f2 f_3 f_4 f_5 f_26 f_7 f_6 f9 f10 f11 f12 f13 f14 f15 f16 f17 f18 f19 f20 f21 fL fN fP fM fO) H := hP
              have hD : va_D A (mW ad kc x0 x1 x2 x3 x4 x5 x6 x7 x8 x9 x10 x11 x_2 ra x14 y_8 x16 x17 x18 x19 x20 x21 f0 f1 f2 f_3 f_4 f_5 f_26 f_7 f_6 f9 f10 f11 f12 f13 f14 f15 f16 f17 f18 f19 f20 f21 fL fN fP fM fO) := hD
              refine lv_aload_n hx hb dX10_spotKnot_92 rfl (lv_at hl 1 rfl) ?_
              refine lv_dup hx hb dX10_spotKnot_93 rfl ?_
              refine va_get (D := (dC, dI)) (ci := 10) (v := .int ra) (C := RX10) (T := TX10) (N := 48) hx hb hts fin_X10_spotKnotm_X10 hown hK hP 0 rfl rfl 22 (by decide) (hts (.fieldLink RX10 217 "PatternGateModel" "reached" "I") (List.mem_of_getElem? (i := 14) (by decide +kernel))) (fun _ h9 => h9) rfl dX10_spotKnot_94 ?_
              refine lv_iconst (v := 1) hx hb dX10_spotKnot_97 (by decide) ?_
              refine lv_iadd hx hb dX10_spotKnot_98 ?_
              refine lv_topi (fun y_27 ey_27 => ?_)
              first | have ty_27 := i_add (a := ra.toInt) (b := 1) rfl (by decide) ey_27 (by omega) (by omega) | skip
              refine va_put (D := (dC, dI)) (ci := 10) (v := .int y_27) (ty := .int) (C := RX10) (T := TX10) (N := 48) hx hb hts fin_X10_spotKnotm_X10 tyX10 tyX10_ok nmX10 hown hK hP hD hS 0 rfl rfl 22 (by decide) (hts (.fieldLink RX10 217 "PatternGateModel" "reached" "I") (List.mem_of_getElem? (i := 14) (by decide +kernel))) (fun _ h9 => h9) rfl (by decide +kernel) rfl rfl (Nat.le_of_ble_eq_true rfl) dX10_spotKnot_99 (fun H locs hP hD hS => ?_)
              have hP : va_P (dC, dI) vwCl (mW ad kc x0 x1 x2 x3 x4 x5 x6 x7 x8 x9 x10 x11 x_2 y_27 x14 y_8 x16 x17 x18 x19 x20 x21 f0 f1 f2 f_3 f_4 f_5 f_26 f_7 f_6 f9 f10 f11 f12 f13 f14 f15 f16 f17 f18 f19 f20 f21 fL fN fP fM fO) H := hP
              have hD : va_D A (mW ad kc x0 x1 x2 x3 x4 x5 x6 x7 x8 x9 x10 x11 x_2 y_27 x14 y_8 x16 x17 x18 x19 x20 x21 f0 f1 f2 f_3 f_4 f_5 f_26 f_7 f_6 f9 f10 f11 f12 f13 f14 f15 f16 f17 f18 f19 f20 f21 fL fN fP fM fO) := hD
              refine lv_goto (tgt := 59) hx hb dX10_spotKnot_102 (by decide) ?_
              exact ih59 y_27 f_26 (by first | omega | assumption | decide) (by first | omega | assumption | decide) (fun _ => ⟨j9, hj9, by rw [show y_27.toInt = ra.toInt + 1 by omega]; exact hlt9.2.2⟩) (fun h9 => absurd (by omega) h9) (by rw [show y_27.toInt = ra.toInt + 1 by omega]; exact sm_step v59_4 hlt9.2.1) (by omega) _ _ ls hP hD hS (lv_sub hl [0, 1, 2] rfl)
      exact loop59 _ x13 f_13 (by first | omega | assumption | decide) (by first | omega | assumption | decide) q7 (fun _ => rfl) (fun k a b => by omega) (Nat.lt_succ_self _) _ _ ls hP hD hS (lv_sub hl [0, 1, 2] rfl)
    · have tk_10 := c_eq (a := i1.toInt) (b := 91) rfl (by decide) k_10
      refine lv_iconst (v := 0) hx hb dX10_spotKnot_48 (by decide) ?_
      refine lv_goto (tgt := 58) hx hb dX10_spotKnot_49 (by decide) ?_
      refine va_iast hx hb hK hP hD hS 7 6 rfl rfl (i := r_1) (vp_of (a := r_1.toInt) rfl (by omega) (by omega)) dX10_spotKnot_58 (fun H locs hP hD hS => ?_)
      generalize hf_f_28 : upd f6 _ _ = f_28 at hP hD
      have hP : va_P (dC, dI) vwCl (mW ad kc x0 x1 x2 x3 x4 x5 x6 x7 x8 x9 x10 x11 x_2 x13 x14 y_8 x16 x17 x18 x19 x20 x21 f0 f1 f2 f_3 f_4 f_5 f_28 f_7 f_6 f9 f10 f11 f12 f13 f14 f15 f16 f17 f18 f19 f20 f21 fL fN fP fM fO) H := hP
      have hD : va_D A (mW ad kc x0 x1 x2 x3 x4 x5 x6 x7 x8 x9 x10 x11 x_2 x13 x14 y_8 x16 x17 x18 x19 x20 x21 f0 f1 f2 f_3 f_4 f_5 f_28 f_7 f_6 f9 f10 f11 f12 f13 f14 f15 f16 f17 f18 f19 f20 f21 fL fN fP fM fO) := hD
      have loop59 : ∀ (lm59 : Nat) (ra : Int32) (ga : Nat → Int32), (x13.toInt ≤ ra.toInt) → (ra.toInt ≤ 900) → (i1.toInt = 91 → ∃ j, j ≤ 900 ∧ pSet (tp f0 x14.toInt) ra.toInt j) → (i1.toInt ≠ 91 → ra.toInt = x13.toInt) → (∀ k : Int, x13.toInt ≤ k → k < ra.toInt → isSm ((tp f0 x14.toInt) k)) → ((900 - ra.toInt).toNat) < lm59 → ∀ (H : Heap) (locs : List Loc) (ls : Array Slot), va_P (dC, dI) vwCl (mW ad kc x0 x1 x2 x3 x4 x5 x6 x7 x8 x9 x10 x11 x_2 ra x14 y_8 x16 x17 x18 x19 x20 x21 f0 f1 f2 f_3 f_4 f_5 ga f_7 f_6 f9 f10 f11 f12 f13 f14 f15 f16 f17 f18 f19 f20 f21 fL fN fP fM fO) H → va_D A (mW ad kc x0 x1 x2 x3 x4 x5 x6 x7 x8 x9 x10 x11 x_2 ra x14 y_8 x16 x17 x18 x19 x20 x21 f0 f1 f2 f_3 f_4 f_5 ga f_7 f_6 f9 f10 f11 f12 f13 f14 f15 f16 f17 f18 f19 f20 f21 fL fN fP fM fO) → va_S A s.heap H locs → lv_has ls 3 [(2, .int r_1), (0, .ref (ad 0)), (1, .int i1)] → W p l e (headSpec mwX10_spotKnotm ({ frames := 1, cells := 0, slots := 0, locals := 60 })).room s m ([.ref (ad 0), .int i1]).toArray below meth c H locs 0 0 (MQ below (va_Qi (fun (o9 u9 : Int32) => o9 = u9) (fun (o9 : Int32) t => ∃ (y12 y13 y15 : Int32) (g3 g4 g5 g6 g7 g8 : Nat → Int32), (o9.toInt = x12.toInt) ∧ ((i1.toInt ≠ 91 → y13.toInt = x13.toInt) ∧ (i1.toInt = 91 → pSet (tp f0 x14.toInt) x13.toInt (y13.toInt - 1))) ∧ (y15.toInt = x15.toInt + 1) ∧ (y12.toInt = x12.toInt + 1) ∧ (tSpot (mV g3 g4 g5 g7) x12.toInt y12.toInt 1) ∧ (∀ (q : Nat) (z : Int), 0 ≤ z → z < x12.toInt → (mV g3 g4 g5 g7) q z = (mV f3 f4 f5 f7) q z) ∧ ((mV g3 g4 g5 g7) 2 x12.toInt = -1) ∧ (y13.toInt ≤ 901) ∧ va_P (dC, dI) vwCl (mW ad kc x0 x1 x2 x3 x4 x5 x6 x7 x8 x9 x10 x11 y12 y13 x14 y15 x16 x17 x18 x19 x20 x21 f0 f1 f2 g3 g4 g5 g6 g7 g8 f9 f10 f11 f12 f13 f14 f15 f16 f17 f18 f19 f20 f21 fL fN fP fM fO) t.heap ∧ va_K (dC, dI) vwCl (mT kc) t ∧ va_D A (mW ad kc x0 x1 x2 x3 x4 x5 x6 x7 x8 x9 x10 x11 y12 y13 x14 y15 x16 x17 x18 x19 x20 x21 f0 f1 f2 g3 g4 g5 g6 g7 g8 f9 f10 f11 f12 f13 f14 f15 f16 f17 f18 f19 f20 f21 fL fN fP fM fO)) A) ([.ref (ad 0), .int i1]).toArray s 0 0 A) (F0 m 59 ls []) := by
        intro lm59
        induction lm59 with
        | zero => intro ra ga v59_0 v59_1 v59_2 v59_3 v59_4 hm59; exact absurd hm59 (Nat.not_lt_zero _)
        | succ lm59 ih59 =>
          intro ra ga v59_0 v59_1 v59_2 v59_3 v59_4 hm59 H locs ls hP hD hS hl
          have rg_ra := i_rng ra
          refine lv_iload_n hx hb dX10_spotKnot_59 rfl (lv_at hl 2 rfl) ?_
          refine lv_bipush (v := 91) hx hb dX10_spotKnot_60 (by decide) ?_
          refine lv_icmp_ne (tgt := 105) hx hb dX10_spotKnot_62 (by decide) (fun k_29 => ?_) (fun k_29 => ?_)
          · have tk_29 := c_ne (a := i1.toInt) (b := 91) rfl (by decide) k_29
            refine lv_aload_n hx hb dX10_spotKnot_105 rfl (lv_at hl 1 rfl) ?_
            refine lv_dup hx hb dX10_spotKnot_106 rfl ?_
            refine va_get (D := (dC, dI)) (ci := 10) (v := .int ra) (C := RX10) (T := TX10) (N := 48) hx hb hts fin_X10_spotKnotm_X10 hown hK hP 0 rfl rfl 22 (by decide) (hts (.fieldLink RX10 217 "PatternGateModel" "reached" "I") (List.mem_of_getElem? (i := 14) (by decide +kernel))) (fun _ h9 => h9) rfl dX10_spotKnot_107 ?_
            refine lv_iload_n hx hb dX10_spotKnot_110 rfl (lv_at hl 2 rfl) ?_
            refine lv_bipush (v := 91) hx hb dX10_spotKnot_111 (by decide) ?_
            refine lv_icmp_ne (tgt := 120) hx hb dX10_spotKnot_113 (by decide) (fun k_30 => ?_) (fun k_30 => absurd k_30 k_29)
            have tk_30 := c_ne (a := i1.toInt) (b := 91) rfl (by decide) k_30
            refine lv_iconst (v := 0) hx hb dX10_spotKnot_120 (by decide) ?_
            refine lv_iadd hx hb dX10_spotKnot_121 ?_
            refine lv_topi (fun y_31 ey_31 => ?_)
            first | have ty_31 := i_add (a := ra.toInt) (b := 0) rfl (by decide) ey_31 (by omega) (by omega) | skip
            refine va_put (D := (dC, dI)) (ci := 10) (v := .int y_31) (ty := .int) (C := RX10) (T := TX10) (N := 48) hx hb hts fin_X10_spotKnotm_X10 tyX10 tyX10_ok nmX10 hown hK hP hD hS 0 rfl rfl 22 (by decide) (hts (.fieldLink RX10 217 "PatternGateModel" "reached" "I") (List.mem_of_getElem? (i := 14) (by decide +kernel))) (fun _ h9 => h9) rfl (by decide +kernel) rfl rfl (Nat.le_of_ble_eq_true rfl) dX10_spotKnot_122 (fun H locs hP hD hS => ?_)
            have hP : va_P (dC, dI) vwCl (mW ad kc x0 x1 x2 x3 x4 x5 x6 x7 x8 x9 x10 x11 x_2 y_31 x14 y_8 x16 x17 x18 x19 x20 x21 f0 f1 f2 f_3 f_4 f_5 ga f_7 f_6 f9 f10 f11 f12 f13 f14 f15 f16 f17 f18 f19 f20 f21 fL fN fP fM fO) H := hP
            have hD : va_D A (mW ad kc x0 x1 x2 x3 x4 x5 x6 x7 x8 x9 x10 x11 x_2 y_31 x14 y_8 x16 x17 x18 x19 x20 x21 f0 f1 f2 f_3 f_4 f_5 ga f_7 f_6 f9 f10 f11 f12 f13 f14 f15 f16 f17 f18 f19 f20 f21 fL fN fP fM fO) := hD
            refine lv_iload_n hx hb dX10_spotKnot_125 rfl (lv_at hl 0 rfl) ?_
            exact W.iret hx hb hr (fun t ht hW => ⟨⟨_, _, rfl, rfl, x_2, y_31, y_8, f_3, f_4, f_5, ga, f_7, f_6, (by first | omega | assumption | rfl | decide), ⟨fun h9 => by have := v59_3 h9; omega, fun h9 => absurd h9 (by omega)⟩, (by first | omega | assumption | rfl | decide), (by first | omega | assumption | rfl | decide), hE.1, hE.2.2, hE.2.1, (by first | omega | assumption | rfl | decide), by rw [ht]; exact hP, va_K.moved hW.alike hK, hD⟩, hS.F ht⟩) hS.2.2 dX10_spotKnot_126
          · have tk_29 := c_eq (a := i1.toInt) (b := 91) rfl (by decide) k_29
            obtain ⟨j9, hj9, hs9⟩ := v59_2 (by omega)
            have hle9 := hs9.1
            refine lv_aload_n hx hb dX10_spotKnot_65 rfl (lv_at hl 1 rfl) ?_
            refine vp_callSi (W.runV (As := []) (rest := []) ⟨hx, hb, hml, hown, hts⟩ (m_signAt l dC dI ad kc x0 x1 x2 x3 x4 x5 x6 x7 x8 x9 x10 x11 x_2 ra x14 y_8 x16 x17 x18 x19 x20 x21 f0 f1 f2 f_3 f_4 f_5 ga f_7 f_6 f9 f10 f11 f12 f13 f14 f15 f16 f17 f18 f19 f20 f21 fL fN fP fM fO (by first | omega | assumption | decide | (have l0 := Int32.toInt_zero; omega)) (by first | omega | assumption | decide | (have l0 := Int32.toInt_zero; omega)) (by first | omega | assumption | decide | (have l0 := Int32.toInt_zero; omega)) (by first | omega | assumption | decide | (have l0 := Int32.toInt_zero; omega)) (by first | omega | assumption | decide | (have l0 := Int32.toInt_zero; omega))) (cwV 0 hts mg_X10_spotKnotm_X10_signAt_236 rfl rfl rfl (by decide +kernel) ⟨Nat.le_of_ble_eq_true rfl, Nat.le_of_ble_eq_true rfl⟩) ⟨fun a U g mk q => by obtain ⟨q0, qP, qK⟩ := q; exact ⟨q0, qP, va_K.moved (u := U) (U := U.calling g mk a) (Vm.Alike.refl U.vm) qK⟩, va_recv hK hP (ci := 10) (q0 := 0) rfl rfl, fun U hU hW => ⟨rfl, by rw [hU]; exact hP, va_K.moved hW.alike hK⟩⟩ rfl rfl hl.1 rfl (lv_room (Nat.le_of_ble_eq_true rfl)) dX10_spotKnot_66 ⟨Nat.le_of_ble_eq_true rfl, Nat.le_of_ble_eq_true rfl⟩) (fun r_32 hr_32 => ?_)
            have rg_r_32 := i_rng r_32
            refine lv_bipush (v := 93) hx hb dX10_spotKnot_69 (by decide) ?_
            refine lv_icmp_eq (tgt := 105) hx hb dX10_spotKnot_71 (by decide) (fun k_33 => ?_) (fun k_33 => ?_)
            · have tk_33 := c_eq (a := r_32.toInt) (b := 93) rfl (by decide) k_33
              refine lv_aload_n hx hb dX10_spotKnot_105 rfl (lv_at hl 1 rfl) ?_
              refine lv_dup hx hb dX10_spotKnot_106 rfl ?_
              refine va_get (D := (dC, dI)) (ci := 10) (v := .int ra) (C := RX10) (T := TX10) (N := 48) hx hb hts fin_X10_spotKnotm_X10 hown hK hP 0 rfl rfl 22 (by decide) (hts (.fieldLink RX10 217 "PatternGateModel" "reached" "I") (List.mem_of_getElem? (i := 14) (by decide +kernel))) (fun _ h9 => h9) rfl dX10_spotKnot_107 ?_
              refine lv_iload_n hx hb dX10_spotKnot_110 rfl (lv_at hl 2 rfl) ?_
              refine lv_bipush (v := 91) hx hb dX10_spotKnot_111 (by decide) ?_
              refine lv_icmp_ne (tgt := 120) hx hb dX10_spotKnot_113 (by decide) (fun k_34 => absurd k_29 k_34) (fun k_34 => ?_)
              have tk_34 := c_eq (a := i1.toInt) (b := 91) rfl (by decide) k_34
              refine lv_iconst (v := 1) hx hb dX10_spotKnot_116 (by decide) ?_
              refine lv_goto (tgt := 121) hx hb dX10_spotKnot_117 (by decide) ?_
              refine lv_iadd hx hb dX10_spotKnot_121 ?_
              refine lv_topi (fun y_35 ey_35 => ?_)
              first | have ty_35 := i_add (a := ra.toInt) (b := 1) rfl (by decide) ey_35 (by omega) (by omega) | skip
              refine va_put (D := (dC, dI)) (ci := 10) (v := .int y_35) (ty := .int) (C := RX10) (T := TX10) (N := 48) hx hb hts fin_X10_spotKnotm_X10 tyX10 tyX10_ok nmX10 hown hK hP hD hS 0 rfl rfl 22 (by decide) (hts (.fieldLink RX10 217 "PatternGateModel" "reached" "I") (List.mem_of_getElem? (i := 14) (by decide +kernel))) (fun _ h9 => h9) rfl (by decide +kernel) rfl rfl (Nat.le_of_ble_eq_true rfl) dX10_spotKnot_122 (fun H locs hP hD hS => ?_)
              have hP : va_P (dC, dI) vwCl (mW ad kc x0 x1 x2 x3 x4 x5 x6 x7 x8 x9 x10 x11 x_2 y_35 x14 y_8 x16 x17 x18 x19 x20 x21 f0 f1 f2 f_3 f_4 f_5 ga f_7 f_6 f9 f10 f11 f12 f13 f14 f15 f16 f17 f18 f19 f20 f21 fL fN fP fM fO) H := hP
              have hD : va_D A (mW ad kc x0 x1 x2 x3 x4 x5 x6 x7 x8 x9 x10 x11 x_2 y_35 x14 y_8 x16 x17 x18 x19 x20 x21 f0 f1 f2 f_3 f_4 f_5 ga f_7 f_6 f9 f10 f11 f12 f13 f14 f15 f16 f17 f18 f19 f20 f21 fL fN fP fM fO) := hD
              refine lv_iload_n hx hb dX10_spotKnot_125 rfl (lv_at hl 0 rfl) ?_
              exact W.iret hx hb hr (fun t ht hW => ⟨⟨_, _, rfl, rfl, x_2, y_35, y_8, f_3, f_4, f_5, ga, f_7, f_6, (by first | omega | assumption | rfl | decide), ⟨fun h9 => absurd (by omega) h9, fun _ => ⟨by omega, fun k a b => v59_4 k a (by omega), by rw [show y_35.toInt - 1 = ra.toInt by omega, ← hr_32]; omega⟩⟩, (by first | omega | assumption | rfl | decide), (by first | omega | assumption | rfl | decide), hE.1, hE.2.2, hE.2.1, (by first | omega | assumption | rfl | decide), by rw [ht]; exact hP, va_K.moved hW.alike hK, hD⟩, hS.F ht⟩) hS.2.2 dX10_spotKnot_126
            · have tk_33 := c_ne (a := r_32.toInt) (b := 93) rfl (by decide) k_33
              have hlt9 := set_lt hs9 (by rw [← hr_32]; omega)
              have hlt8 := hlt9.1
              refine lv_aload_n hx hb dX10_spotKnot_74 rfl (lv_at hl 1 rfl) ?_
              refine va_get (D := (dC, dI)) (ci := 10) (v := .ref (ad 7)) (C := RX10) (T := TX10) (N := 48) hx hb hts fin_X10_spotKnotm_X10 hown hK hP 0 rfl rfl 18 (by decide) (hts (.fieldLink RX10 37 "PatternGateModel" "letters" "[I") (List.mem_of_getElem? (i := 13) (by decide +kernel))) (fun _ h9 => h9) rfl dX10_spotKnot_75 ?_
              refine lv_iload_n hx hb dX10_spotKnot_78 rfl (lv_at hl 0 rfl) ?_
              refine lv_dup2_11 hx hb dX10_spotKnot_79 rfl rfl ?_
              refine va_iald hx hb hK hP 7 6 rfl rfl (i := r_1) (vp_of (a := r_1.toInt) rfl (by omega) (by omega)) dX10_spotKnot_80 ?_
              refine lv_topi (fun y_36 ey_36 => ?_)
              have rg_y_36 := i_rng y_36
              refine lv_iconst (v := 1) hx hb dX10_spotKnot_81 (by decide) ?_
              refine lv_aload_n hx hb dX10_spotKnot_82 rfl (lv_at hl 1 rfl) ?_
              refine vp_callSi (W.runV (As := []) (rest := [.int 1, .int y_36, .int r_1, .ref (ad 7)]) ⟨hx, hb, hml, hown, hts⟩ (m_signAt l dC dI ad kc x0 x1 x2 x3 x4 x5 x6 x7 x8 x9 x10 x11 x_2 ra x14 y_8 x16 x17 x18 x19 x20 x21 f0 f1 f2 f_3 f_4 f_5 ga f_7 f_6 f9 f10 f11 f12 f13 f14 f15 f16 f17 f18 f19 f20 f21 fL fN fP fM fO (by first | omega | assumption | decide | (have l0 := Int32.toInt_zero; omega)) (by first | omega | assumption | decide | (have l0 := Int32.toInt_zero; omega)) (by first | omega | assumption | decide | (have l0 := Int32.toInt_zero; omega)) (by first | omega | assumption | decide | (have l0 := Int32.toInt_zero; omega)) (by first | omega | assumption | decide | (have l0 := Int32.toInt_zero; omega))) (cwV 0 hts mg_X10_spotKnotm_X10_signAt_236 rfl rfl rfl (by decide +kernel) ⟨Nat.le_of_ble_eq_true rfl, Nat.le_of_ble_eq_true rfl⟩) ⟨fun a U g mk q => by obtain ⟨q0, qP, qK⟩ := q; exact ⟨q0, qP, va_K.moved (u := U) (U := U.calling g mk a) (Vm.Alike.refl U.vm) qK⟩, va_recv hK hP (ci := 10) (q0 := 0) rfl rfl, fun U hU hW => ⟨rfl, by rw [hU]; exact hP, va_K.moved hW.alike hK⟩⟩ rfl rfl hl.1 rfl (lv_room (Nat.le_of_ble_eq_true rfl)) dX10_spotKnot_83 ⟨Nat.le_of_ble_eq_true rfl, Nat.le_of_ble_eq_true rfl⟩) (fun r_37 hr_37 => ?_)
              have rg_r_37 := i_rng r_37
              refine lv_bipush (v := 97) hx hb dX10_spotKnot_86 (by decide) ?_
              refine lv_isub hx hb dX10_spotKnot_88 ?_
              refine lv_topi (fun y_38 ey_38 => ?_)
              first | have ty_38 := i_sub (a := r_37.toInt) (b := 97) rfl (by decide) ey_38 (by omega) (by omega) | skip
              refine lv_ishl hx hb dX10_spotKnot_89 ?_
              refine lv_topi (fun y_39 ey_39 => ?_)
              have rg_y_39 := i_rng y_39
              refine lv_ior hx hb dX10_spotKnot_90 ?_
              refine lv_topi (fun y_40 ey_40 => ?_)
              have rg_y_40 := i_rng y_40
              refine va_iast hx hb hK hP hD hS 7 6 rfl rfl (i := r_1) (vp_of (a := r_1.toInt) rfl (by omega) (by omega)) dX10_spotKnot_91 (fun H locs hP hD hS => ?_)
              generalize hf_f_41 : upd ga _ _ = f_41 at hP hD
              have hP : va_P (dC, dI) vwCl (mW ad kc x0 x1 x2 x3 x4 x5 x6 x7 x8 x9 x10 x11 x_2 ra x14 y_8 x16 x17 x18 x19 x20 x21 f0 f1 f2 f_3 f_4 f_5 f_41 f_7 f_6 f9 f10 f11 f12 f13 f14 f15 f16 f17 f18 f19 f20 f21 fL fN fP fM fO) H := hP
              have hD : va_D A (mW ad kc x0 x1 x2 x3 x4 x5 x6 x7 x8 x9 x10 x11 x_2 ra x14 y_8 x16 x17 x18 x19 x20 x21 f0 f1 f2 f_3 f_4 f_5 f_41 f_7 f_6 f9 f10 f11 f12 f13 f14 f15 f16 f17 f18 f19 f20 f21 fL fN fP fM fO) := hD
              refine lv_aload_n hx hb dX10_spotKnot_92 rfl (lv_at hl 1 rfl) ?_
              refine lv_dup hx hb dX10_spotKnot_93 rfl ?_
              refine va_get (D := (dC, dI)) (ci := 10) (v := .int ra) (C := RX10) (T := TX10) (N := 48) hx hb hts fin_X10_spotKnotm_X10 hown hK hP 0 rfl rfl 22 (by decide) (hts (.fieldLink RX10 217 "PatternGateModel" "reached" "I") (List.mem_of_getElem? (i := 14) (by decide +kernel))) (fun _ h9 => h9) rfl dX10_spotKnot_94 ?_
              refine lv_iconst (v := 1) hx hb dX10_spotKnot_97 (by decide) ?_
              refine lv_iadd hx hb dX10_spotKnot_98 ?_
              refine lv_topi (fun y_42 ey_42 => ?_)
              first | have ty_42 := i_add (a := ra.toInt) (b := 1) rfl (by decide) ey_42 (by omega) (by omega) | skip
              refine va_put (D := (dC, dI)) (ci := 10) (v := .int y_42) (ty := .int) (C := RX10) (T := TX10) (N := 48) hx hb hts fin_X10_spotKnotm_X10 tyX10 tyX10_ok nmX10 hown hK hP hD hS 0 rfl rfl 22 (by decide) (hts (.fieldLink RX10 217 "PatternGateModel" "reached" "I") (List.mem_of_getElem? (i := 14) (by decide +kernel))) (fun _ h9 => h9) rfl (by decide +kernel) rfl rfl (Nat.le_of_ble_eq_true rfl) dX10_spotKnot_99 (fun H locs hP hD hS => ?_)
              have hP : va_P (dC, dI) vwCl (mW ad kc x0 x1 x2 x3 x4 x5 x6 x7 x8 x9 x10 x11 x_2 y_42 x14 y_8 x16 x17 x18 x19 x20 x21 f0 f1 f2 f_3 f_4 f_5 f_41 f_7 f_6 f9 f10 f11 f12 f13 f14 f15 f16 f17 f18 f19 f20 f21 fL fN fP fM fO) H := hP
              have hD : va_D A (mW ad kc x0 x1 x2 x3 x4 x5 x6 x7 x8 x9 x10 x11 x_2 y_42 x14 y_8 x16 x17 x18 x19 x20 x21 f0 f1 f2 f_3 f_4 f_5 f_41 f_7 f_6 f9 f10 f11 f12 f13 f14 f15 f16 f17 f18 f19 f20 f21 fL fN fP fM fO) := hD
              refine lv_goto (tgt := 59) hx hb dX10_spotKnot_102 (by decide) ?_
              exact ih59 y_42 f_41 (by first | omega | assumption | decide) (by first | omega | assumption | decide) (fun _ => ⟨j9, hj9, by rw [show y_42.toInt = ra.toInt + 1 by omega]; exact hlt9.2.2⟩) (fun h9 => absurd (by omega) h9) (by rw [show y_42.toInt = ra.toInt + 1 by omega]; exact sm_step v59_4 hlt9.2.1) (by omega) _ _ ls hP hD hS (lv_sub hl [0, 1, 2] rfl)
      exact loop59 _ x13 f_28 (by first | omega | assumption | decide) (by first | omega | assumption | decide) q7 (fun _ => rfl) (fun k a b => by omega) (Nat.lt_succ_self _) _ _ ls hP hD hS (lv_sub hl [0, 1, 2] rfl)
  · have tk_9 := c_eq (a := i1.toInt) (b := 46) rfl (by decide) k_9
    refine lv_ldc hx hb hown (hts (.constant RX10 251 (67108863)) (List.mem_of_getElem? (i := 21) (by decide +kernel))) dX10_spotKnot_37 ?_
    refine lv_goto (tgt := 58) hx hb dX10_spotKnot_39 (by decide) ?_
    refine va_iast hx hb hK hP hD hS 7 6 rfl rfl (i := r_1) (vp_of (a := r_1.toInt) rfl (by omega) (by omega)) dX10_spotKnot_58 (fun H locs hP hD hS => ?_)
    generalize hf_f_43 : upd f6 _ _ = f_43 at hP hD
    have hP : va_P (dC, dI) vwCl (mW ad kc x0 x1 x2 x3 x4 x5 x6 x7 x8 x9 x10 x11 x_2 x13 x14 y_8 x16 x17 x18 x19 x20 x21 f0 f1 f2 f_3 f_4 f_5 f_43 f_7 f_6 f9 f10 f11 f12 f13 f14 f15 f16 f17 f18 f19 f20 f21 fL fN fP fM fO) H := hP
    have hD : va_D A (mW ad kc x0 x1 x2 x3 x4 x5 x6 x7 x8 x9 x10 x11 x_2 x13 x14 y_8 x16 x17 x18 x19 x20 x21 f0 f1 f2 f_3 f_4 f_5 f_43 f_7 f_6 f9 f10 f11 f12 f13 f14 f15 f16 f17 f18 f19 f20 f21 fL fN fP fM fO) := hD
    have loop59 : ∀ (lm59 : Nat) (ra : Int32) (ga : Nat → Int32), (x13.toInt ≤ ra.toInt) → (ra.toInt ≤ 900) → (i1.toInt = 91 → ∃ j, j ≤ 900 ∧ pSet (tp f0 x14.toInt) ra.toInt j) → (i1.toInt ≠ 91 → ra.toInt = x13.toInt) → (∀ k : Int, x13.toInt ≤ k → k < ra.toInt → isSm ((tp f0 x14.toInt) k)) → ((900 - ra.toInt).toNat) < lm59 → ∀ (H : Heap) (locs : List Loc) (ls : Array Slot), va_P (dC, dI) vwCl (mW ad kc x0 x1 x2 x3 x4 x5 x6 x7 x8 x9 x10 x11 x_2 ra x14 y_8 x16 x17 x18 x19 x20 x21 f0 f1 f2 f_3 f_4 f_5 ga f_7 f_6 f9 f10 f11 f12 f13 f14 f15 f16 f17 f18 f19 f20 f21 fL fN fP fM fO) H → va_D A (mW ad kc x0 x1 x2 x3 x4 x5 x6 x7 x8 x9 x10 x11 x_2 ra x14 y_8 x16 x17 x18 x19 x20 x21 f0 f1 f2 f_3 f_4 f_5 ga f_7 f_6 f9 f10 f11 f12 f13 f14 f15 f16 f17 f18 f19 f20 f21 fL fN fP fM fO) → va_S A s.heap H locs → lv_has ls 3 [(2, .int r_1), (0, .ref (ad 0)), (1, .int i1)] → W p l e (headSpec mwX10_spotKnotm ({ frames := 1, cells := 0, slots := 0, locals := 60 })).room s m ([.ref (ad 0), .int i1]).toArray below meth c H locs 0 0 (MQ below (va_Qi (fun (o9 u9 : Int32) => o9 = u9) (fun (o9 : Int32) t => ∃ (y12 y13 y15 : Int32) (g3 g4 g5 g6 g7 g8 : Nat → Int32), (o9.toInt = x12.toInt) ∧ ((i1.toInt ≠ 91 → y13.toInt = x13.toInt) ∧ (i1.toInt = 91 → pSet (tp f0 x14.toInt) x13.toInt (y13.toInt - 1))) ∧ (y15.toInt = x15.toInt + 1) ∧ (y12.toInt = x12.toInt + 1) ∧ (tSpot (mV g3 g4 g5 g7) x12.toInt y12.toInt 1) ∧ (∀ (q : Nat) (z : Int), 0 ≤ z → z < x12.toInt → (mV g3 g4 g5 g7) q z = (mV f3 f4 f5 f7) q z) ∧ ((mV g3 g4 g5 g7) 2 x12.toInt = -1) ∧ (y13.toInt ≤ 901) ∧ va_P (dC, dI) vwCl (mW ad kc x0 x1 x2 x3 x4 x5 x6 x7 x8 x9 x10 x11 y12 y13 x14 y15 x16 x17 x18 x19 x20 x21 f0 f1 f2 g3 g4 g5 g6 g7 g8 f9 f10 f11 f12 f13 f14 f15 f16 f17 f18 f19 f20 f21 fL fN fP fM fO) t.heap ∧ va_K (dC, dI) vwCl (mT kc) t ∧ va_D A (mW ad kc x0 x1 x2 x3 x4 x5 x6 x7 x8 x9 x10 x11 y12 y13 x14 y15 x16 x17 x18 x19 x20 x21 f0 f1 f2 g3 g4 g5 g6 g7 g8 f9 f10 f11 f12 f13 f14 f15 f16 f17 f18 f19 f20 f21 fL fN fP fM fO)) A) ([.ref (ad 0), .int i1]).toArray s 0 0 A) (F0 m 59 ls []) := by
      intro lm59
      induction lm59 with
      | zero => intro ra ga v59_0 v59_1 v59_2 v59_3 v59_4 hm59; exact absurd hm59 (Nat.not_lt_zero _)
      | succ lm59 ih59 =>
        intro ra ga v59_0 v59_1 v59_2 v59_3 v59_4 hm59 H locs ls hP hD hS hl
        have rg_ra := i_rng ra
        refine lv_iload_n hx hb dX10_spotKnot_59 rfl (lv_at hl 2 rfl) ?_
        refine lv_bipush (v := 91) hx hb dX10_spotKnot_60 (by decide) ?_
        refine lv_icmp_ne (tgt := 105) hx hb dX10_spotKnot_62 (by decide) (fun k_44 => ?_) (fun k_44 => ?_)
        · have tk_44 := c_ne (a := i1.toInt) (b := 91) rfl (by decide) k_44
          refine lv_aload_n hx hb dX10_spotKnot_105 rfl (lv_at hl 1 rfl) ?_
          refine lv_dup hx hb dX10_spotKnot_106 rfl ?_
          refine va_get (D := (dC, dI)) (ci := 10) (v := .int ra) (C := RX10) (T := TX10) (N := 48) hx hb hts fin_X10_spotKnotm_X10 hown hK hP 0 rfl rfl 22 (by decide) (hts (.fieldLink RX10 217 "PatternGateModel" "reached" "I") (List.mem_of_getElem? (i := 14) (by decide +kernel))) (fun _ h9 => h9) rfl dX10_spotKnot_107 ?_
          refine lv_iload_n hx hb dX10_spotKnot_110 rfl (lv_at hl 2 rfl) ?_
          refine lv_bipush (v := 91) hx hb dX10_spotKnot_111 (by decide) ?_
          refine lv_icmp_ne (tgt := 120) hx hb dX10_spotKnot_113 (by decide) (fun k_45 => ?_) (fun k_45 => absurd k_45 k_44)
          have tk_45 := c_ne (a := i1.toInt) (b := 91) rfl (by decide) k_45
          refine lv_iconst (v := 0) hx hb dX10_spotKnot_120 (by decide) ?_
          refine lv_iadd hx hb dX10_spotKnot_121 ?_
          refine lv_topi (fun y_46 ey_46 => ?_)
          first | have ty_46 := i_add (a := ra.toInt) (b := 0) rfl (by decide) ey_46 (by omega) (by omega) | skip
          refine va_put (D := (dC, dI)) (ci := 10) (v := .int y_46) (ty := .int) (C := RX10) (T := TX10) (N := 48) hx hb hts fin_X10_spotKnotm_X10 tyX10 tyX10_ok nmX10 hown hK hP hD hS 0 rfl rfl 22 (by decide) (hts (.fieldLink RX10 217 "PatternGateModel" "reached" "I") (List.mem_of_getElem? (i := 14) (by decide +kernel))) (fun _ h9 => h9) rfl (by decide +kernel) rfl rfl (Nat.le_of_ble_eq_true rfl) dX10_spotKnot_122 (fun H locs hP hD hS => ?_)
          have hP : va_P (dC, dI) vwCl (mW ad kc x0 x1 x2 x3 x4 x5 x6 x7 x8 x9 x10 x11 x_2 y_46 x14 y_8 x16 x17 x18 x19 x20 x21 f0 f1 f2 f_3 f_4 f_5 ga f_7 f_6 f9 f10 f11 f12 f13 f14 f15 f16 f17 f18 f19 f20 f21 fL fN fP fM fO) H := hP
          have hD : va_D A (mW ad kc x0 x1 x2 x3 x4 x5 x6 x7 x8 x9 x10 x11 x_2 y_46 x14 y_8 x16 x17 x18 x19 x20 x21 f0 f1 f2 f_3 f_4 f_5 ga f_7 f_6 f9 f10 f11 f12 f13 f14 f15 f16 f17 f18 f19 f20 f21 fL fN fP fM fO) := hD
          refine lv_iload_n hx hb dX10_spotKnot_125 rfl (lv_at hl 0 rfl) ?_
          exact W.iret hx hb hr (fun t ht hW => ⟨⟨_, _, rfl, rfl, x_2, y_46, y_8, f_3, f_4, f_5, ga, f_7, f_6, (by first | omega | assumption | rfl | decide), ⟨fun h9 => by have := v59_3 h9; omega, fun h9 => absurd h9 (by omega)⟩, (by first | omega | assumption | rfl | decide), (by first | omega | assumption | rfl | decide), hE.1, hE.2.2, hE.2.1, (by first | omega | assumption | rfl | decide), by rw [ht]; exact hP, va_K.moved hW.alike hK, hD⟩, hS.F ht⟩) hS.2.2 dX10_spotKnot_126
        · have tk_44 := c_eq (a := i1.toInt) (b := 91) rfl (by decide) k_44
          obtain ⟨j9, hj9, hs9⟩ := v59_2 (by omega)
          have hle9 := hs9.1
          refine lv_aload_n hx hb dX10_spotKnot_65 rfl (lv_at hl 1 rfl) ?_
          refine vp_callSi (W.runV (As := []) (rest := []) ⟨hx, hb, hml, hown, hts⟩ (m_signAt l dC dI ad kc x0 x1 x2 x3 x4 x5 x6 x7 x8 x9 x10 x11 x_2 ra x14 y_8 x16 x17 x18 x19 x20 x21 f0 f1 f2 f_3 f_4 f_5 ga f_7 f_6 f9 f10 f11 f12 f13 f14 f15 f16 f17 f18 f19 f20 f21 fL fN fP fM fO (by first | omega | assumption | decide | (have l0 := Int32.toInt_zero; omega)) (by first | omega | assumption | decide | (have l0 := Int32.toInt_zero; omega)) (by first | omega | assumption | decide | (have l0 := Int32.toInt_zero; omega)) (by first | omega | assumption | decide | (have l0 := Int32.toInt_zero; omega)) (by first | omega | assumption | decide | (have l0 := Int32.toInt_zero; omega))) (cwV 0 hts mg_X10_spotKnotm_X10_signAt_236 rfl rfl rfl (by decide +kernel) ⟨Nat.le_of_ble_eq_true rfl, Nat.le_of_ble_eq_true rfl⟩) ⟨fun a U g mk q => by obtain ⟨q0, qP, qK⟩ := q; exact ⟨q0, qP, va_K.moved (u := U) (U := U.calling g mk a) (Vm.Alike.refl U.vm) qK⟩, va_recv hK hP (ci := 10) (q0 := 0) rfl rfl, fun U hU hW => ⟨rfl, by rw [hU]; exact hP, va_K.moved hW.alike hK⟩⟩ rfl rfl hl.1 rfl (lv_room (Nat.le_of_ble_eq_true rfl)) dX10_spotKnot_66 ⟨Nat.le_of_ble_eq_true rfl, Nat.le_of_ble_eq_true rfl⟩) (fun r_47 hr_47 => ?_)
          have rg_r_47 := i_rng r_47
          refine lv_bipush (v := 93) hx hb dX10_spotKnot_69 (by decide) ?_
          refine lv_icmp_eq (tgt := 105) hx hb dX10_spotKnot_71 (by decide) (fun k_48 => ?_) (fun k_48 => ?_)
          · have tk_48 := c_eq (a := r_47.toInt) (b := 93) rfl (by decide) k_48
            refine lv_aload_n hx hb dX10_spotKnot_105 rfl (lv_at hl 1 rfl) ?_
            refine lv_dup hx hb dX10_spotKnot_106 rfl ?_
            refine va_get (D := (dC, dI)) (ci := 10) (v := .int ra) (C := RX10) (T := TX10) (N := 48) hx hb hts fin_X10_spotKnotm_X10 hown hK hP 0 rfl rfl 22 (by decide) (hts (.fieldLink RX10 217 "PatternGateModel" "reached" "I") (List.mem_of_getElem? (i := 14) (by decide +kernel))) (fun _ h9 => h9) rfl dX10_spotKnot_107 ?_
            refine lv_iload_n hx hb dX10_spotKnot_110 rfl (lv_at hl 2 rfl) ?_
            refine lv_bipush (v := 91) hx hb dX10_spotKnot_111 (by decide) ?_
            refine lv_icmp_ne (tgt := 120) hx hb dX10_spotKnot_113 (by decide) (fun k_49 => absurd k_44 k_49) (fun k_49 => ?_)
            have tk_49 := c_eq (a := i1.toInt) (b := 91) rfl (by decide) k_49
            refine lv_iconst (v := 1) hx hb dX10_spotKnot_116 (by decide) ?_
            refine lv_goto (tgt := 121) hx hb dX10_spotKnot_117 (by decide) ?_
            refine lv_iadd hx hb dX10_spotKnot_121 ?_
            refine lv_topi (fun y_50 ey_50 => ?_)
            first | have ty_50 := i_add (a := ra.toInt) (b := 1) rfl (by decide) ey_50 (by omega) (by omega) | skip
            refine va_put (D := (dC, dI)) (ci := 10) (v := .int y_50) (ty := .int) (C := RX10) (T := TX10) (N := 48) hx hb hts fin_X10_spotKnotm_X10 tyX10 tyX10_ok nmX10 hown hK hP hD hS 0 rfl rfl 22 (by decide) (hts (.fieldLink RX10 217 "PatternGateModel" "reached" "I") (List.mem_of_getElem? (i := 14) (by decide +kernel))) (fun _ h9 => h9) rfl (by decide +kernel) rfl rfl (Nat.le_of_ble_eq_true rfl) dX10_spotKnot_122 (fun H locs hP hD hS => ?_)
            have hP : va_P (dC, dI) vwCl (mW ad kc x0 x1 x2 x3 x4 x5 x6 x7 x8 x9 x10 x11 x_2 y_50 x14 y_8 x16 x17 x18 x19 x20 x21 f0 f1 f2 f_3 f_4 f_5 ga f_7 f_6 f9 f10 f11 f12 f13 f14 f15 f16 f17 f18 f19 f20 f21 fL fN fP fM fO) H := hP
            have hD : va_D A (mW ad kc x0 x1 x2 x3 x4 x5 x6 x7 x8 x9 x10 x11 x_2 y_50 x14 y_8 x16 x17 x18 x19 x20 x21 f0 f1 f2 f_3 f_4 f_5 ga f_7 f_6 f9 f10 f11 f12 f13 f14 f15 f16 f17 f18 f19 f20 f21 fL fN fP fM fO) := hD
            refine lv_iload_n hx hb dX10_spotKnot_125 rfl (lv_at hl 0 rfl) ?_
            exact W.iret hx hb hr (fun t ht hW => ⟨⟨_, _, rfl, rfl, x_2, y_50, y_8, f_3, f_4, f_5, ga, f_7, f_6, (by first | omega | assumption | rfl | decide), ⟨fun h9 => absurd (by omega) h9, fun _ => ⟨by omega, fun k a b => v59_4 k a (by omega), by rw [show y_50.toInt - 1 = ra.toInt by omega, ← hr_47]; omega⟩⟩, (by first | omega | assumption | rfl | decide), (by first | omega | assumption | rfl | decide), hE.1, hE.2.2, hE.2.1, (by first | omega | assumption | rfl | decide), by rw [ht]; exact hP, va_K.moved hW.alike hK, hD⟩, hS.F ht⟩) hS.2.2 dX10_spotKnot_126
          · have tk_48 := c_ne (a := r_47.toInt) (b := 93) rfl (by decide) k_48
            have hlt9 := set_lt hs9 (by rw [← hr_47]; omega)
            have hlt8 := hlt9.1
            refine lv_aload_n hx hb dX10_spotKnot_74 rfl (lv_at hl 1 rfl) ?_
            refine va_get (D := (dC, dI)) (ci := 10) (v := .ref (ad 7)) (C := RX10) (T := TX10) (N := 48) hx hb hts fin_X10_spotKnotm_X10 hown hK hP 0 rfl rfl 18 (by decide) (hts (.fieldLink RX10 37 "PatternGateModel" "letters" "[I") (List.mem_of_getElem? (i := 13) (by decide +kernel))) (fun _ h9 => h9) rfl dX10_spotKnot_75 ?_
            refine lv_iload_n hx hb dX10_spotKnot_78 rfl (lv_at hl 0 rfl) ?_
            refine lv_dup2_11 hx hb dX10_spotKnot_79 rfl rfl ?_
            refine va_iald hx hb hK hP 7 6 rfl rfl (i := r_1) (vp_of (a := r_1.toInt) rfl (by omega) (by omega)) dX10_spotKnot_80 ?_
            refine lv_topi (fun y_51 ey_51 => ?_)
            have rg_y_51 := i_rng y_51
            refine lv_iconst (v := 1) hx hb dX10_spotKnot_81 (by decide) ?_
            refine lv_aload_n hx hb dX10_spotKnot_82 rfl (lv_at hl 1 rfl) ?_
            refine vp_callSi (W.runV (As := []) (rest := [.int 1, .int y_51, .int r_1, .ref (ad 7)]) ⟨hx, hb, hml, hown, hts⟩ (m_signAt l dC dI ad kc x0 x1 x2 x3 x4 x5 x6 x7 x8 x9 x10 x11 x_2 ra x14 y_8 x16 x17 x18 x19 x20 x21 f0 f1 f2 f_3 f_4 f_5 ga f_7 f_6 f9 f10 f11 f12 f13 f14 f15 f16 f17 f18 f19 f20 f21 fL fN fP fM fO (by first | omega | assumption | decide | (have l0 := Int32.toInt_zero; omega)) (by first | omega | assumption | decide | (have l0 := Int32.toInt_zero; omega)) (by first | omega | assumption | decide | (have l0 := Int32.toInt_zero; omega)) (by first | omega | assumption | decide | (have l0 := Int32.toInt_zero; omega)) (by first | omega | assumption | decide | (have l0 := Int32.toInt_zero; omega))) (cwV 0 hts mg_X10_spotKnotm_X10_signAt_236 rfl rfl rfl (by decide +kernel) ⟨Nat.le_of_ble_eq_true rfl, Nat.le_of_ble_eq_true rfl⟩) ⟨fun a U g mk q => by obtain ⟨q0, qP, qK⟩ := q; exact ⟨q0, qP, va_K.moved (u := U) (U := U.calling g mk a) (Vm.Alike.refl U.vm) qK⟩, va_recv hK hP (ci := 10) (q0 := 0) rfl rfl, fun U hU hW => ⟨rfl, by rw [hU]; exact hP, va_K.moved hW.alike hK⟩⟩ rfl rfl hl.1 rfl (lv_room (Nat.le_of_ble_eq_true rfl)) dX10_spotKnot_83 ⟨Nat.le_of_ble_eq_true rfl, Nat.le_of_ble_eq_true rfl⟩) (fun r_52 hr_52 => ?_)
            have rg_r_52 := i_rng r_52
            refine lv_bipush (v := 97) hx hb dX10_spotKnot_86 (by decide) ?_
            refine lv_isub hx hb dX10_spotKnot_88 ?_
            refine lv_topi (fun y_53 ey_53 => ?_)
            first | have ty_53 := i_sub (a := r_52.toInt) (b := 97) rfl (by decide) ey_53 (by omega) (by omega) | skip
            refine lv_ishl hx hb dX10_spotKnot_89 ?_
            refine lv_topi (fun y_54 ey_54 => ?_)
            have rg_y_54 := i_rng y_54
            refine lv_ior hx hb dX10_spotKnot_90 ?_
            refine lv_topi (fun y_55 ey_55 => ?_)
            have rg_y_55 := i_rng y_55
            refine va_iast hx hb hK hP hD hS 7 6 rfl rfl (i := r_1) (vp_of (a := r_1.toInt) rfl (by omega) (by omega)) dX10_spotKnot_91 (fun H locs hP hD hS => ?_)
            generalize hf_f_56 : upd ga _ _ = f_56 at hP hD
            have hP : va_P (dC, dI) vwCl (mW ad kc x0 x1 x2 x3 x4 x5 x6 x7 x8 x9 x10 x11 x_2 ra x14 y_8 x16 x17 x18 x19 x20 x21 f0 f1 f2 f_3 f_4 f_5 f_56 f_7 f_6 f9 f10 f11 f12 f13 f14 f15 f16 f17 f18 f19 f20 f21 fL fN fP fM fO) H := hP
            have hD : va_D A (mW ad kc x0 x1 x2 x3 x4 x5 x6 x7 x8 x9 x10 x11 x_2 ra x14 y_8 x16 x17 x18 x19 x20 x21 f0 f1 f2 f_3 f_4 f_5 f_56 f_7 f_6 f9 f10 f11 f12 f13 f14 f15 f16 f17 f18 f19 f20 f21 fL fN fP fM fO) := hD
            refine lv_aload_n hx hb dX10_spotKnot_92 rfl (lv_at hl 1 rfl) ?_
            refine lv_dup hx hb dX10_spotKnot_93 rfl ?_
            refine va_get (D := (dC, dI)) (ci := 10) (v := .int ra) (C := RX10) (T := TX10) (N := 48) hx hb hts fin_X10_spotKnotm_X10 hown hK hP 0 rfl rfl 22 (by decide) (hts (.fieldLink RX10 217 "PatternGateModel" "reached" "I") (List.mem_of_getElem? (i := 14) (by decide +kernel))) (fun _ h9 => h9) rfl dX10_spotKnot_94 ?_
            refine lv_iconst (v := 1) hx hb dX10_spotKnot_97 (by decide) ?_
            refine lv_iadd hx hb dX10_spotKnot_98 ?_
            refine lv_topi (fun y_57 ey_57 => ?_)
            first | have ty_57 := i_add (a := ra.toInt) (b := 1) rfl (by decide) ey_57 (by omega) (by omega) | skip
            refine va_put (D := (dC, dI)) (ci := 10) (v := .int y_57) (ty := .int) (C := RX10) (T := TX10) (N := 48) hx hb hts fin_X10_spotKnotm_X10 tyX10 tyX10_ok nmX10 hown hK hP hD hS 0 rfl rfl 22 (by decide) (hts (.fieldLink RX10 217 "PatternGateModel" "reached" "I") (List.mem_of_getElem? (i := 14) (by decide +kernel))) (fun _ h9 => h9) rfl (by decide +kernel) rfl rfl (Nat.le_of_ble_eq_true rfl) dX10_spotKnot_99 (fun H locs hP hD hS => ?_)
            have hP : va_P (dC, dI) vwCl (mW ad kc x0 x1 x2 x3 x4 x5 x6 x7 x8 x9 x10 x11 x_2 y_57 x14 y_8 x16 x17 x18 x19 x20 x21 f0 f1 f2 f_3 f_4 f_5 f_56 f_7 f_6 f9 f10 f11 f12 f13 f14 f15 f16 f17 f18 f19 f20 f21 fL fN fP fM fO) H := hP
            have hD : va_D A (mW ad kc x0 x1 x2 x3 x4 x5 x6 x7 x8 x9 x10 x11 x_2 y_57 x14 y_8 x16 x17 x18 x19 x20 x21 f0 f1 f2 f_3 f_4 f_5 f_56 f_7 f_6 f9 f10 f11 f12 f13 f14 f15 f16 f17 f18 f19 f20 f21 fL fN fP fM fO) := hD
            refine lv_goto (tgt := 59) hx hb dX10_spotKnot_102 (by decide) ?_
            exact ih59 y_57 f_56 (by first | omega | assumption | decide) (by first | omega | assumption | decide) (fun _ => ⟨j9, hj9, by rw [show y_57.toInt = ra.toInt + 1 by omega]; exact hlt9.2.2⟩) (fun h9 => absurd (by omega) h9) (by rw [show y_57.toInt = ra.toInt + 1 by omega]; exact sm_step v59_4 hlt9.2.1) (by omega) _ _ ls hP hD hS (lv_sub hl [0, 1, 2] rfl)
    exact loop59 _ x13 f_43 (by first | omega | assumption | decide) (by first | omega | assumption | decide) q7 (fun _ => rfl) (fun k a b => by omega) (Nat.lt_succ_self _) _ _ ls hP hD hS (lv_sub hl [0, 1, 2] rfl)

theorem mono_atom {t : Int → Int} {S : Int → Int → Int → Prop} (hS : ∀ a b m, S a b m → a < b) {a b m : Int} (h : pAtom t S a b m) : a < b := by
  rcases h with ⟨_, h, _⟩ | ⟨_, h, _⟩ | ⟨_, h, _⟩
  · omega
  · have := h.1; omega
  · have := hS _ _ _ h; omega
theorem mono_item {t : Int → Int} {S : Int → Int → Int → Prop} (hS : ∀ a b m, S a b m → a < b) {a b m : Int} (h : pItem t S a b m) : a < b := by
  rcases h with ⟨h, _⟩ | ⟨h, _⟩
  · have := mono_atom hS h; omega
  · exact mono_atom hS h
theorem mono_chain {R : Int → Int → Int → Prop} (hR : ∀ a b m, R a b m → a < b) : ∀ (n : Nat) {a b m : Int}, pChain R n a b m → a < b
  | 0, _, _, _, h => hR _ _ _ h
  | n + 1, _, _, _, h => by
    obtain ⟨k, m1, m2, h1, h2, -⟩ := h
    have e1 := hR _ _ _ h1
    have e2 := mono_chain hR n h2
    omega
theorem mono_branch {t : Int → Int} {S : Int → Int → Int → Prop} (hS : ∀ a b m, S a b m → a < b) {a b m : Int} (h : pBranch t S a b m) : a < b := by
  obtain ⟨⟨n, h1⟩, -⟩ := h
  exact mono_chain (fun _ _ _ h => mono_item hS h) n h1
theorem mono_bar {t : Int → Int} {R : Int → Int → Int → Prop} (hR : ∀ a b m, R a b m → a < b) : ∀ (n : Nat) {a b m : Int}, pBar t R n a b m → a < b
  | 0, _, _, _, h => hR _ _ _ h
  | n + 1, _, _, _, h => by
    obtain ⟨k, m1, m2, h1, -, h2, -⟩ := h
    have e1 := hR _ _ _ h1
    have e2 := mono_bar hR n h2
    omega
theorem mono_pat {t : Int → Int} : ∀ (d : Nat) (a b m : Int), pPat t d a b m → a < b
  | 0, a, b, m, h => by
    obtain ⟨⟨n, h1⟩, -⟩ := h
    exact mono_bar (fun _ _ _ h => mono_branch (fun _ _ _ q => absurd q id) h) n h1
  | d + 1, a, b, m, h => by
    obtain ⟨⟨n, h1⟩, -⟩ := h
    exact mono_bar (fun _ _ _ h => mono_branch (mono_pat d) h) n h1
theorem mono_sub {t : Int → Int} (d : Nat) (a b m : Int) (h : pSub t d a b m) : a < b := by
  cases d with
  | zero => exact absurd h id
  | succ d => exact mono_pat d a b m h
theorem sh_atom {t u : Int → Int} {i j : Int} {S S' : Int → Int → Int → Prop} (hE : ∀ k, i ≤ k → k < j → u (k - i) = t k) (hS : ∀ a b m, S a b m → a < b) (hG : ∀ a b m, i ≤ a → b ≤ j → S a b m → S' (a - i) (b - i) m) (a b m : Int) (ha : i ≤ a) (hb : b ≤ j) (h : pAtom t S a b m) : pAtom u S' (a - i) (b - i) m := by
  have hm := mono_atom hS h
  rcases h with ⟨h1, h2, h3⟩ | ⟨h1, h2, h3⟩ | ⟨h1, h2, h3⟩
  · left
    exact ⟨by rw [hE a ha (by omega)]; exact h1, by omega, h3⟩
  · right; left
    obtain ⟨c1, c2, c3⟩ := h2
    refine ⟨by rw [hE a ha (by omega)]; exact h1, ⟨by omega, fun k k1 k2 => ?_, ?_⟩, h3⟩
    · have := hE (k + i) (by omega) (by omega)
      rw [show k + i - i = k by omega] at this
      rw [this]
      exact c2 _ (by omega) (by omega)
    · have := hE (b - 1) (by omega) (by omega)
      rw [show b - 1 - i = b - i - 1 by omega] at this
      rw [this]
      exact c3
  · right; right
    refine ⟨by rw [hE a ha (by omega)]; exact h1, ?_, ?_⟩
    · have := hG _ _ _ (by omega) (by omega) h2
      rw [show a + 1 - i = a - i + 1 by omega, show b - 1 - i = b - i - 1 by omega] at this
      exact this
    · have := hE (b - 1) (by omega) (by omega)
      rw [show b - 1 - i = b - i - 1 by omega] at this
      rw [this]
      exact h3
theorem sh_item {t u : Int → Int} {i j : Int} {S S' : Int → Int → Int → Prop} (hE : ∀ k, i ≤ k → k < j → u (k - i) = t k) (hu : u (j - i) = -1) (hS : ∀ a b m, S a b m → a < b) (hG : ∀ a b m, i ≤ a → b ≤ j → S a b m → S' (a - i) (b - i) m) (a b m : Int) (ha : i ≤ a) (hb : b ≤ j) (h : pItem t S a b m) : pItem u S' (a - i) (b - i) m := by
  have hm := mono_item hS h
  rcases h with ⟨h1, h2⟩ | ⟨h1, h2⟩
  · left
    have e := sh_atom hE hS hG a (b - 1) m ha (by omega) h1
    rw [show b - 1 - i = b - i - 1 by omega] at e
    refine ⟨e, ?_⟩
    have := hE (b - 1) (by omega) (by omega)
    rw [show b - 1 - i = b - i - 1 by omega] at this
    rw [this]
    exact h2
  · right
    refine ⟨sh_atom hE hS hG a b m ha hb h1, ?_⟩
    by_cases c : b = j
    · subst c
      rw [hu]
      unfold isQu
      omega
    · rw [hE b (by omega) (by omega)]
      exact h2
theorem sh_chain {i j : Int} {R R' : Int → Int → Int → Prop} (hR : ∀ a b m, R a b m → a < b) (hG : ∀ a b m, i ≤ a → b ≤ j → R a b m → R' (a - i) (b - i) m) : ∀ (n : Nat) (a b m : Int), i ≤ a → b ≤ j → pChain R n a b m → pChain R' n (a - i) (b - i) m
  | 0, a, b, m, ha, hb, h => hG a b m ha hb h
  | n + 1, a, b, m, ha, hb, h => by
    obtain ⟨k, m1, m2, h1, h2, e⟩ := h
    have e1 := hR _ _ _ h1
    have e2 := mono_chain hR n h2
    exact ⟨k - i, m1, m2, hG a k m1 ha (by omega) h1, sh_chain hR hG n k b m2 (by omega) hb h2, e⟩
theorem sh_branch {t u : Int → Int} {i j : Int} {S S' : Int → Int → Int → Prop} (hE : ∀ k, i ≤ k → k < j → u (k - i) = t k) (hu : u (j - i) = -1) (hS : ∀ a b m, S a b m → a < b) (hG : ∀ a b m, i ≤ a → b ≤ j → S a b m → S' (a - i) (b - i) m) (a b m : Int) (ha : i ≤ a) (hb : b ≤ j) (h : pBranch t S a b m) : pBranch u S' (a - i) (b - i) m := by
  have hm := mono_branch hS h
  obtain ⟨⟨n, h1⟩, h2⟩ := h
  refine ⟨⟨n, sh_chain (fun _ _ _ h => mono_item hS h) (sh_item hE hu hS hG) n a b m ha hb h1⟩, ?_⟩
  by_cases c : b = j
  · subst c
    rw [hu]
    unfold isAt
    omega
  · rw [hE b (by omega) (by omega)]
    exact h2
theorem sh_bar {t u : Int → Int} {i j : Int} {R R' : Int → Int → Int → Prop} (hE : ∀ k, i ≤ k → k < j → u (k - i) = t k) (hR : ∀ a b m, R a b m → a < b) (hG : ∀ a b m, i ≤ a → b ≤ j → R a b m → R' (a - i) (b - i) m) : ∀ (n : Nat) (a b m : Int), i ≤ a → b ≤ j → pBar t R n a b m → pBar u R' n (a - i) (b - i) m
  | 0, a, b, m, ha, hb, h => hG a b m ha hb h
  | n + 1, a, b, m, ha, hb, h => by
    obtain ⟨k, m1, m2, h1, h0, h2, e⟩ := h
    have e1 := hR _ _ _ h1
    have e2 := mono_bar hR n h2
    refine ⟨k - i, m1, m2, hG a k m1 ha (by omega) h1, by rw [hE k (by omega) (by omega)]; exact h0, ?_, e⟩
    have := sh_bar hE hR hG n (k + 1) b m2 (by omega) hb h2
    rw [show k + 1 - i = k - i + 1 by omega] at this
    exact this
theorem sh_pat {t u : Int → Int} {i j : Int} (hE : ∀ k, i ≤ k → k < j → u (k - i) = t k) (hu : u (j - i) = -1) : ∀ (d : Nat) (a b m : Int), i ≤ a → b ≤ j → pPat t d a b m → pPat u d (a - i) (b - i) m
  | 0, a, b, m, ha, hb, h => by
    have hm := mono_pat 0 a b m h
    obtain ⟨⟨n, h1⟩, h2⟩ := h
    refine ⟨⟨n, sh_bar hE (fun _ _ _ h => mono_branch (fun _ _ _ q => absurd q id) h) (sh_branch hE hu (fun _ _ _ q => absurd q id) (fun _ _ _ _ _ q => absurd q id)) n a b m ha hb h1⟩, ?_⟩
    by_cases c : b = j
    · subst c
      rw [hu]
      omega
    · rw [hE b (by omega) (by omega)]
      exact h2
  | d + 1, a, b, m, ha, hb, h => by
    have hm := mono_pat (d + 1) a b m h
    obtain ⟨⟨n, h1⟩, h2⟩ := h
    refine ⟨⟨n, sh_bar hE (fun _ _ _ h => mono_branch (mono_pat d) h) (sh_branch hE hu (mono_pat d) (sh_pat hE hu d)) n a b m ha hb h1⟩, ?_⟩
    by_cases c : b = j
    · subst c
      rw [hu]
      omega
    · rw [hE b (by omega) (by omega)]
      exact h2
/-- a pattern of the text, laid elsewhere -/
theorem PatOK.of {t u : Int → Int} {i j m : Int} (h : pPat t 5 i j m) (hm : 1 ≤ m) (hm2 : m ≤ 24) (hE : ∀ k, i ≤ k → k < j → u (k - i) = t k) : PatOK u (j - i) := by
  have hij := mono_pat 5 i j m h
  refine ⟨m, hm, hm2, ?_⟩
  have := sh_pat (t := t) (u := pLa u (j - i)) (i := i) (j := j) (fun k k1 k2 => by unfold pLa; rw [if_pos (by omega)]; exact hE k k1 k2) (by unfold pLa; rw [if_neg (by omega)]) 5 i j m (by omega) (by omega) h
  rw [show i - i = 0 by omega] at this
  exact this
theorem OKd.pat {f g : Nat → Int32} {p n : Int} (h : OKd f 0) (hp : vI f 611 = p) (hp8 : p < 8) (h1 : 1 ≤ n) (h2 : n ≤ 900) (hP : PatOK (fun k => vI g (620 + 900 * p + k)) n) (h0 : vI g 611 = p + 1) (hs : vI g (612 + p) = n) (hf : ∀ z, 0 ≤ z → z ≠ 611 → z ≠ 612 + p → (z < 620 + 900 * p ∨ 1520 + 900 * p ≤ z) → vI g z = vI f z) : OKd g 0 := by
  obtain ⟨a1, a2, a3, a4⟩ := h
  have e9 : (0 : Int) + 611 = 611 := by omega
  rw [e9] at a3 a4
  rw [hp] at a3 a4
  have e0 : vI g 0 = vI f 0 := hf _ (by omega) (by omega) (by omega) (by omega)
  refine ⟨by rw [e0]; exact a1, fun x b1 b2 => ?_, by rw [e9, h0]; omega, fun x b1 b2 => ?_⟩
  · rw [e0] at b2
    obtain ⟨c1, c2, c3⟩ := a2 x b1 b2
    have e2 : vI g (0 + 1 + x) = vI f (0 + 1 + x) := hf _ (by omega) (by omega) (by omega) (by omega)
    refine ⟨by rw [e2]; exact c1, by rw [e2]; exact c2, fun k k1 k2 => ?_⟩
    rw [e2] at k2
    rw [hf _ (by omega) (by omega) (by omega) (by omega)]
    exact c3 k k1 k2
  · rw [e9, h0] at b2
    by_cases hx : x = p
    · subst hx
      rw [show (0 : Int) + 612 + x = 612 + x by omega, hs]
      refine ⟨h1, h2, hP.congr (fun k k1 k2 => ?_)⟩
      show vI g (0 + 620 + 900 * x + k) = vI g (620 + 900 * x + k)
      rw [show (0 : Int) + 620 + 900 * x + k = 620 + 900 * x + k by omega]
    · obtain ⟨c1, c2, c3⟩ := a4 x b1 (by omega)
      have e2 : vI g (0 + 612 + x) = vI f (0 + 612 + x) := hf _ (by omega) (by omega) (by omega) (by omega)
      refine ⟨by rw [e2]; exact c1, by rw [e2]; exact c2, ?_⟩
      rw [e2]
      exact c3.congr (fun k k1 k2 => hf _ (by omega) (by omega) (by omega) (by omega))
theorem OKd.P0 {f : Nat → Int32} (h : OKd f 0) : 0 ≤ vI f 611 ∧ vI f 611 ≤ 8 := by
  have := h.2.2.1
  rw [show (0 : Int) + 611 = 611 by omega] at this
  exact this
/-- a row is copied, place by place -/
theorem cq_step {f g : Nat → Int32} {T : Int → Int} {b k v i : Int} (hI : ∀ z, i ≤ z → z < k → vI f (b + z - i) = T z) (hu : vI g (b + k - i) = v ∧ ∀ z, 0 ≤ z → z ≠ b + k - i → vI g z = vI f z) (hv : v = T k) (hb : 0 ≤ b) : ∀ z, i ≤ z → z < k + 1 → vI g (b + z - i) = T z := by
  intro z h1 h2
  by_cases e : z = k
  · subst e
    rw [hu.1, hv]
  · rw [hu.2 _ (by omega) (by omega)]
    exact hI z h1 (by omega)
theorem dX10_patternQuote_0 : decode cX10_patternQuote 0 = .ok (.aload_n 0, 1) := by decide +kernel
theorem dX10_patternQuote_1 : decode cX10_patternQuote 1 = .ok (.getfield 130, 3) := by decide +kernel
theorem dX10_patternQuote_4 : decode cX10_patternQuote 4 = .ok (.istore_n 1, 1) := by decide +kernel
theorem dX10_patternQuote_5 : decode cX10_patternQuote 5 = .ok (.aload_n 0, 1) := by decide +kernel
theorem dX10_patternQuote_6 : decode cX10_patternQuote 6 = .ok (.iconst 0, 1) := by decide +kernel
theorem dX10_patternQuote_7 : decode cX10_patternQuote 7 = .ok (.putfield 151, 3) := by decide +kernel
theorem dX10_patternQuote_10 : decode cX10_patternQuote 10 = .ok (.aload_n 0, 1) := by decide +kernel
theorem dX10_patternQuote_11 : decode cX10_patternQuote 11 = .ok (.iconst 0, 1) := by decide +kernel
theorem dX10_patternQuote_12 : decode cX10_patternQuote 12 = .ok (.invokevirtual 154, 3) := by decide +kernel
theorem dX10_patternQuote_15 : decode cX10_patternQuote 15 = .ok (.ifCond .ne 5, 3) := by decide +kernel
theorem dX10_patternQuote_18 : decode cX10_patternQuote 18 = .ok (.iconst 0, 1) := by decide +kernel
theorem dX10_patternQuote_19 : decode cX10_patternQuote 19 = .ok (.ireturn, 1) := by decide +kernel
theorem dX10_patternQuote_20 : decode cX10_patternQuote 20 = .ok (.aload_n 0, 1) := by decide +kernel
theorem dX10_patternQuote_21 : decode cX10_patternQuote 21 = .ok (.aload_n 0, 1) := by decide +kernel
theorem dX10_patternQuote_22 : decode cX10_patternQuote 22 = .ok (.getfield 130, 3) := by decide +kernel
theorem dX10_patternQuote_25 : decode cX10_patternQuote 25 = .ok (.invokevirtual 133, 3) := by decide +kernel
theorem dX10_patternQuote_28 : decode cX10_patternQuote 28 = .ok (.bipush 34, 2) := by decide +kernel
theorem dX10_patternQuote_30 : decode cX10_patternQuote 30 = .ok (.if_icmp .eq 13, 3) := by decide +kernel
theorem dX10_patternQuote_33 : decode cX10_patternQuote 33 = .ok (.aload_n 0, 1) := by decide +kernel
theorem dX10_patternQuote_34 : decode cX10_patternQuote 34 = .ok (.iconst 1, 1) := by decide +kernel
theorem dX10_patternQuote_35 : decode cX10_patternQuote 35 = .ok (.aload_n 0, 1) := by decide +kernel
theorem dX10_patternQuote_36 : decode cX10_patternQuote 36 = .ok (.getfield 130, 3) := by decide +kernel
theorem dX10_patternQuote_39 : decode cX10_patternQuote 39 = .ok (.invokevirtual 126, 3) := by decide +kernel
theorem dX10_patternQuote_42 : decode cX10_patternQuote 42 = .ok (.ireturn, 1) := by decide +kernel
theorem dX10_patternQuote_43 : decode cX10_patternQuote 43 = .ok (.aload_n 0, 1) := by decide +kernel
theorem dX10_patternQuote_44 : decode cX10_patternQuote 44 = .ok (.getfield 8, 3) := by decide +kernel
theorem dX10_patternQuote_47 : decode cX10_patternQuote 47 = .ok (.sipush 611, 3) := by decide +kernel
theorem dX10_patternQuote_50 : decode cX10_patternQuote 50 = .ok (.iaload, 1) := by decide +kernel
theorem dX10_patternQuote_51 : decode cX10_patternQuote 51 = .ok (.istore_n 2, 1) := by decide +kernel
theorem dX10_patternQuote_52 : decode cX10_patternQuote 52 = .ok (.aload_n 0, 1) := by decide +kernel
theorem dX10_patternQuote_53 : decode cX10_patternQuote 53 = .ok (.getfield 8, 3) := by decide +kernel
theorem dX10_patternQuote_56 : decode cX10_patternQuote 56 = .ok (.sipush 612, 3) := by decide +kernel
theorem dX10_patternQuote_59 : decode cX10_patternQuote 59 = .ok (.iload_n 2, 1) := by decide +kernel
theorem dX10_patternQuote_60 : decode cX10_patternQuote 60 = .ok (.iadd, 1) := by decide +kernel
theorem dX10_patternQuote_61 : decode cX10_patternQuote 61 = .ok (.aload_n 0, 1) := by decide +kernel
theorem dX10_patternQuote_62 : decode cX10_patternQuote 62 = .ok (.getfield 130, 3) := by decide +kernel
theorem dX10_patternQuote_65 : decode cX10_patternQuote 65 = .ok (.iload_n 1, 1) := by decide +kernel
theorem dX10_patternQuote_66 : decode cX10_patternQuote 66 = .ok (.isub, 1) := by decide +kernel
theorem dX10_patternQuote_67 : decode cX10_patternQuote 67 = .ok (.iastore, 1) := by decide +kernel
theorem dX10_patternQuote_68 : decode cX10_patternQuote 68 = .ok (.iload_n 1, 1) := by decide +kernel
theorem dX10_patternQuote_69 : decode cX10_patternQuote 69 = .ok (.istore_n 3, 1) := by decide +kernel
theorem dX10_patternQuote_70 : decode cX10_patternQuote 70 = .ok (.iload_n 3, 1) := by decide +kernel
theorem dX10_patternQuote_71 : decode cX10_patternQuote 71 = .ok (.aload_n 0, 1) := by decide +kernel
theorem dX10_patternQuote_72 : decode cX10_patternQuote 72 = .ok (.getfield 130, 3) := by decide +kernel
theorem dX10_patternQuote_75 : decode cX10_patternQuote 75 = .ok (.if_icmp .ge 32, 3) := by decide +kernel
theorem dX10_patternQuote_78 : decode cX10_patternQuote 78 = .ok (.aload_n 0, 1) := by decide +kernel
theorem dX10_patternQuote_79 : decode cX10_patternQuote 79 = .ok (.getfield 8, 3) := by decide +kernel
theorem dX10_patternQuote_82 : decode cX10_patternQuote 82 = .ok (.sipush 620, 3) := by decide +kernel
theorem dX10_patternQuote_85 : decode cX10_patternQuote 85 = .ok (.sipush 900, 3) := by decide +kernel
theorem dX10_patternQuote_88 : decode cX10_patternQuote 88 = .ok (.iload_n 2, 1) := by decide +kernel
theorem dX10_patternQuote_89 : decode cX10_patternQuote 89 = .ok (.imul, 1) := by decide +kernel
theorem dX10_patternQuote_90 : decode cX10_patternQuote 90 = .ok (.iadd, 1) := by decide +kernel
theorem dX10_patternQuote_91 : decode cX10_patternQuote 91 = .ok (.iload_n 3, 1) := by decide +kernel
theorem dX10_patternQuote_92 : decode cX10_patternQuote 92 = .ok (.iadd, 1) := by decide +kernel
theorem dX10_patternQuote_93 : decode cX10_patternQuote 93 = .ok (.iload_n 1, 1) := by decide +kernel
theorem dX10_patternQuote_94 : decode cX10_patternQuote 94 = .ok (.isub, 1) := by decide +kernel
theorem dX10_patternQuote_95 : decode cX10_patternQuote 95 = .ok (.aload_n 0, 1) := by decide +kernel
theorem dX10_patternQuote_96 : decode cX10_patternQuote 96 = .ok (.iload_n 3, 1) := by decide +kernel
theorem dX10_patternQuote_97 : decode cX10_patternQuote 97 = .ok (.invokevirtual 133, 3) := by decide +kernel
theorem dX10_patternQuote_100 : decode cX10_patternQuote 100 = .ok (.iastore, 1) := by decide +kernel
theorem dX10_patternQuote_101 : decode cX10_patternQuote 101 = .ok (.iinc 3 1, 3) := by decide +kernel
theorem dX10_patternQuote_104 : decode cX10_patternQuote 104 = .ok (.goto (-34), 3) := by decide +kernel
theorem dX10_patternQuote_107 : decode cX10_patternQuote 107 = .ok (.aload_n 0, 1) := by decide +kernel
theorem dX10_patternQuote_108 : decode cX10_patternQuote 108 = .ok (.getfield 8, 3) := by decide +kernel
theorem dX10_patternQuote_111 : decode cX10_patternQuote 111 = .ok (.sipush 611, 3) := by decide +kernel
theorem dX10_patternQuote_114 : decode cX10_patternQuote 114 = .ok (.dup2, 1) := by decide +kernel
theorem dX10_patternQuote_115 : decode cX10_patternQuote 115 = .ok (.iaload, 1) := by decide +kernel
theorem dX10_patternQuote_116 : decode cX10_patternQuote 116 = .ok (.iconst 1, 1) := by decide +kernel
theorem dX10_patternQuote_117 : decode cX10_patternQuote 117 = .ok (.iadd, 1) := by decide +kernel
theorem dX10_patternQuote_118 : decode cX10_patternQuote 118 = .ok (.iastore, 1) := by decide +kernel
theorem dX10_patternQuote_119 : decode cX10_patternQuote 119 = .ok (.aload_n 0, 1) := by decide +kernel
theorem dX10_patternQuote_120 : decode cX10_patternQuote 120 = .ok (.dup, 1) := by decide +kernel
theorem dX10_patternQuote_121 : decode cX10_patternQuote 121 = .ok (.getfield 130, 3) := by decide +kernel
theorem dX10_patternQuote_124 : decode cX10_patternQuote 124 = .ok (.iconst 1, 1) := by decide +kernel
theorem dX10_patternQuote_125 : decode cX10_patternQuote 125 = .ok (.iadd, 1) := by decide +kernel
theorem dX10_patternQuote_126 : decode cX10_patternQuote 126 = .ok (.putfield 130, 3) := by decide +kernel
theorem dX10_patternQuote_129 : decode cX10_patternQuote 129 = .ok (.iconst 1, 1) := by decide +kernel
theorem dX10_patternQuote_130 : decode cX10_patternQuote 130 = .ok (.ireturn, 1) := by decide +kernel
def mwX10_patternQuotem : List Cond := .code yX10_patternQuote cX10_patternQuote 4 (some .boolean) :: ([.fieldLink RX10 130 "PatternGateModel" "end" "I", .fieldLink RX10 151 "PatternGateModel" "spots" "I", .code yX10_isPatternAt cX10_isPatternAt 2 (some .boolean), .code yX10_isBranchAt cX10_isBranchAt 3 (some .boolean), .code yX10_byteAt cX10_byteAt 2 (some .int), .fieldLink RX10 114 "PatternGateModel" "size" "I", .fieldLink RX10 18 "PatternGateModel" "text" "[B", .methodLink RX10 133 yX10_byteAt, .instanceMethod yX10_byteAt, .selects RX10 yX10_byteAt yX10_byteAt, .initialized RX10, .code yX10_isAtomSign cX10_isAtomSign 2 (some .boolean), .code yX10_isSmall cX10_isSmall 1 (some .boolean), .methodLink RX10 137 yX10_isSmall, .static yX10_isSmall, .methodLink RX10 160 yX10_isAtomSign, .instanceMethod yX10_isAtomSign, .selects RX10 yX10_isAtomSign yX10_isAtomSign, .code yX10_isAtomAt cX10_isAtomAt 3 (some .boolean), .code yX10_isSetAt cX10_isSetAt 3 (some .boolean), .code yX10_failsAt cX10_failsAt 3 (some .boolean), .fieldLink RX10 117 "PatternGateModel" "faults" "I", .fieldLink RX10 21 "PatternGateModel" "faultPlace" "I", .methodLink RX10 126 yX10_failsAt, .instanceMethod yX10_failsAt, .selects RX10 yX10_failsAt yX10_failsAt, .code yX10_has cX10_has 2 (some .boolean), .methodLink RX10 170 yX10_has, .static yX10_has, .methodLink RX10 166 yX10_isSetAt, .instanceMethod yX10_isSetAt, .selects RX10 yX10_isSetAt yX10_isSetAt, .methodLink RX10 163 yX10_isAtomAt, .instanceMethod yX10_isAtomAt, .selects RX10 yX10_isAtomAt yX10_isAtomAt, .methodLink RX10 157 yX10_isBranchAt, .instanceMethod yX10_isBranchAt, .selects RX10 yX10_isBranchAt yX10_isBranchAt, .methodLink RX10 154 yX10_isPatternAt, .instanceMethod yX10_isPatternAt, .selects RX10 yX10_isPatternAt yX10_isPatternAt, .fieldLink RX10 8 "PatternGateModel" "all" "[I"] ++ wsX100)
theorem fin_X10_patternQuotem_X10 : ∀ w ∈ wsX100, w ∈ mwX10_patternQuotem := fun w h => List.mem_cons_of_mem _ (List.mem_append_right _ h)
set_option maxRecDepth 20000 in
theorem mg_X10_patternQuotem_X10_isPatternAt_154 : GoodIn mwX10_patternQuotem (wsV RX10 154 RX10 yX10_isPatternAt mwX10_isPatternAtmd0) := goodIn_r _ [39, 40, 41, 11, 3, 4, 1, 5, 6, 7, 8, 9, 10, 11, 12, 13, 14, 15, 16, 17, 18, 19, 2, 20, 21, 22, 23, 24, 25, 26, 27, 28, 29, 30, 31, 32, 3, 33, 34, 35, 36, 37, 38, 39, 40, 41, 43, 44, 45, 46, 47, 48, 49, 50, 51, 52, 53, 54, 55, 56, 57, 58, 59, 60, 61, 62, 63, 64, 65, 66, 67, 68, 69, 70, 71, 72, 73, 74, 75, 76, 77, 78, 79, 80, 81, 82, 83, 84, 85, 86, 87, 88, 89, 90] (by decide +kernel) (by decide +kernel)
set_option maxRecDepth 20000 in
theorem mg_X10_patternQuotem_X10_byteAt_133 : GoodIn mwX10_patternQuotem (wsV RX10 133 RX10 yX10_byteAt mwX10_byteAtm) := goodIn_r _ [8, 9, 10, 11, 5, 6, 7, 43, 44, 45, 46, 47, 48, 49, 50, 51, 52, 53, 54, 55, 56, 57, 58, 59, 60, 61, 62, 63, 64, 65, 66, 67, 68, 69, 70, 71, 72, 73, 74, 75, 76, 77, 78, 79, 80, 81, 82, 83, 84, 85, 86, 87, 88, 89, 90] (by decide +kernel) (by decide +kernel)
set_option maxRecDepth 20000 in
theorem mg_X10_patternQuotem_X10_failsAt_126 : GoodIn mwX10_patternQuotem (wsV RX10 126 RX10 yX10_failsAt mwX10_failsAtm) := goodIn_r _ [24, 25, 26, 11, 21, 22, 23, 43, 44, 45, 46, 47, 48, 49, 50, 51, 52, 53, 54, 55, 56, 57, 58, 59, 60, 61, 62, 63, 64, 65, 66, 67, 68, 69, 70, 71, 72, 73, 74, 75, 76, 77, 78, 79, 80, 81, 82, 83, 84, 85, 86, 87, 88, 89, 90] (by decide +kernel) (by decide +kernel)
set_option maxHeartbeats 4000000 in
set_option maxRecDepth 100000 in
theorem m_patternQuote (l : Launch) (dC : Nat → ClassId) (dI : Nat → Nat → Nat) (ad : Nat → Nat) (kc : Nat → ClassId) (x0 x1 x2 x3 x4 x5 x6 x7 x8 x9 x10 x11 x12 x13 x14 x15 x16 x17 x18 x19 x20 x21 : Int32) (f0 f1 f2 f3 f4 f5 f6 f7 f8 f9 f10 f11 f12 f13 f14 f15 f16 f17 f18 f19 f20 f21 : Nat → Int32) (fL : Nat → Nat → Int64) (fN : Nat → Nat → Int32) (fP : Nat → Nat → Nat) (fM : Nat → Nat → Int32) (fO : Nat → Nat → Int32) (sz : Nat) (q0 : 0 ≤ x7.toInt) (q1 : x7.toInt ≤ x4.toInt) (q2 : x4.toInt ≤ 900) (q3 : OKd f0 0) (q4 : vI f0 611 < 8) : Met l yX10_patternQuote mwX10_patternQuotem ({ frames := 21, cells := 0, slots := 0, locals := 1260 }) (va_Pc [.ref (ad 0)] (fun U => U.heap.size = sz ∧ va_P (dC, dI) vwCl (mW ad kc x0 x1 x2 x3 x4 x5 x6 x7 x8 x9 x10 x11 x12 x13 x14 x15 x16 x17 x18 x19 x20 x21 f0 f1 f2 f3 f4 f5 f6 f7 f8 f9 f10 f11 f12 f13 f14 f15 f16 f17 f18 f19 f20 f21 fL fN fP fM fO) U.heap ∧ va_K (dC, dI) vwCl (mT kc) U ∧ va_D (fun _ => True) (mW ad kc x0 x1 x2 x3 x4 x5 x6 x7 x8 x9 x10 x11 x12 x13 x14 x15 x16 x17 x18 x19 x20 x21 f0 f1 f2 f3 f4 f5 f6 f7 f8 f9 f10 f11 f12 f13 f14 f15 f16 f17 f18 f19 f20 f21 fL fN fP fM fO))) (va_Qi (fun (o9 u9 : Int32) => o9 = u9) (fun (o9 : Int32) t => ∃ (y7 y8 y9 y11 : Int32) (g0 : Nat → Int32), (OKd g0 0) ∧ (∀ z : Int, 7820 ≤ z → vI g0 z = vI f0 z) ∧ (x7.toInt ≤ y7.toInt) ∧ (y7.toInt ≤ x4.toInt) ∧ (o9.toInt = 0 ∨ o9.toInt = 1) ∧ va_P (dC, dI) vwCl (mW ad kc x0 x1 x2 x3 x4 x5 x6 y7 y8 y9 x10 y11 x12 x13 x14 x15 x16 x17 x18 x19 x20 x21 g0 f1 f2 f3 f4 f5 f6 f7 f8 f9 f10 f11 f12 f13 f14 f15 f16 f17 f18 f19 f20 f21 fL fN fP fM fO) t.heap ∧ va_K (dC, dI) vwCl (mT kc) t ∧ va_D (va_A (mW ad kc x0 x1 x2 x3 x4 x5 x6 x7 x8 x9 x10 x11 x12 x13 x14 x15 x16 x17 x18 x19 x20 x21 f0 f1 f2 f3 f4 f5 f6 f7 f8 f9 f10 f11 f12 f13 f14 f15 f16 f17 f18 f19 f20 f21 fL fN fP fM fO) sz) (mW ad kc x0 x1 x2 x3 x4 x5 x6 y7 y8 y9 x10 y11 x12 x13 x14 x15 x16 x17 x18 x19 x20 x21 g0 f1 f2 f3 f4 f5 f6 f7 f8 f9 f10 f11 f12 f13 f14 f15 f16 f17 f18 f19 f20 f21 fL fN fP fM fO)) (va_A (mW ad kc x0 x1 x2 x3 x4 x5 x6 x7 x8 x9 x10 x11 x12 x13 x14 x15 x16 x17 x18 x19 x20 x21 f0 f1 f2 f3 f4 f5 f6 f7 f8 f9 f10 f11 f12 f13 f14 f15 f16 f17 f18 f19 f20 f21 fL fN fP fM fO) sz)) 0 0 (va_A (mW ad kc x0 x1 x2 x3 x4 x5 x6 x7 x8 x9 x10 x11 x12 x13 x14 x15 x16 x17 x18 x19 x20 x21 f0 f1 f2 f3 f4 f5 f6 f7 f8 f9 f10 f11 f12 f13 f14 f15 f16 f17 f18 f19 f20 f21 fL fN fP fM fO) sz) := by
  refine Met.ofW (cc := cX10_patternQuote) (maxL := 4) (ret := (some .boolean)) (by decide +kernel) rfl ?_
  intro p e s m args below meth c s₁ B hml hv
  obtain ⟨rfl, hsz, hP, hK, hD0⟩ := hv
  have hx := B.exec
  have hb := B.bytes
  have hr := B.returns
  have hts := atoms_spec (ws := mwX10_patternQuotem) B.pre
  have hown : s.vm.findClass RX10 = some m.cls := findClass_of_methodNamed B.named
  have hlocks := B.notSynchronized
  subst hsz
  have hD := hD0.self (sz := s.heap.size)
  generalize hAe : va_A (mW ad kc x0 x1 x2 x3 x4 x5 x6 x7 x8 x9 x10 x11 x12 x13 x14 x15 x16 x17 x18 x19 x20 x21 f0 f1 f2 f3 f4 f5 f6 f7 f8 f9 f10 f11 f12 f13 f14 f15 f16 f17 f18 f19 f20 f21 fL fN fP fM fO) s.heap.size = A at hD ⊢
  have hA : ∀ q : Nat, s.heap.size ≤ q → A q := fun q h => by rw [← hAe]; exact Or.inr h
  have hP : va_P (dC, dI) vwCl (mW ad kc x0 x1 x2 x3 x4 x5 x6 x7 x8 x9 x10 x11 x12 x13 x14 x15 x16 x17 x18 x19 x20 x21 f0 f1 f2 f3 f4 f5 f6 f7 f8 f9 f10 f11 f12 f13 f14 f15 f16 f17 f18 f19 f20 f21 fL fN fP fM fO) s.heap := hP
  have hD : va_D A (mW ad kc x0 x1 x2 x3 x4 x5 x6 x7 x8 x9 x10 x11 x12 x13 x14 x15 x16 x17 x18 x19 x20 x21 f0 f1 f2 f3 f4 f5 f6 f7 f8 f9 f10 f11 f12 f13 f14 f15 f16 f17 f18 f19 f20 f21 fL fN fP fM fO) := hD
  have hK : va_K (dC, dI) vwCl (mT kc) s := hK
  generalize hH : s.heap = H at hP ⊢
  have hS : va_S A s.heap H [] := by rw [← hH]; exact va_S.rf
  have hl := lv_entry ([.ref (ad 0)]) (n := 4) (Nat.le_of_ble_eq_true rfl)
  rw [lg_entry_eq]
  generalize (lg_sl ([.ref (ad 0)]) ++ List.replicate (4 - (lg_sl ([.ref (ad 0)])).length) Slot.unset).toArray = ls at hl ⊢
  have hl : lv_has ls 4 [(0, .ref (ad 0))] := hl
  refine lv_aload_n hx hb dX10_patternQuote_0 rfl (lv_at hl 0 rfl) ?_
  refine va_get (D := (dC, dI)) (ci := 10) (v := .int x7) (C := RX10) (T := TX10) (N := 48) hx hb hts fin_X10_patternQuotem_X10 hown hK hP 0 rfl rfl 10 (by decide) (hts (.fieldLink RX10 130 "PatternGateModel" "end" "I") (List.mem_of_getElem? (i := 1) (by decide +kernel))) (fun _ h9 => h9) rfl dX10_patternQuote_1 ?_
  refine lv_istore_n (lv' := [(1, .int x7), (0, .ref (ad 0))]) hx hb dX10_patternQuote_4 rfl hl (by decide) rfl (fun ls hl => ?_)
  refine lv_aload_n hx hb dX10_patternQuote_5 rfl (lv_at hl 1 rfl) ?_
  refine lv_iconst (v := 0) hx hb dX10_patternQuote_6 (by decide) ?_
  refine va_put (D := (dC, dI)) (ci := 10) (v := .int 0) (ty := .int) (C := RX10) (T := TX10) (N := 48) hx hb hts fin_X10_patternQuotem_X10 tyX10 tyX10_ok nmX10 hown hK hP hD hS 0 rfl rfl 14 (by decide) (hts (.fieldLink RX10 151 "PatternGateModel" "spots" "I") (List.mem_of_getElem? (i := 2) (by decide +kernel))) (fun _ h9 => h9) rfl (by decide +kernel) rfl rfl (Nat.le_of_ble_eq_true rfl) dX10_patternQuote_7 (fun H locs hP hD hS => ?_)
  have hP : va_P (dC, dI) vwCl (mW ad kc x0 x1 x2 x3 x4 x5 x6 x7 x8 x9 x10 0 x12 x13 x14 x15 x16 x17 x18 x19 x20 x21 f0 f1 f2 f3 f4 f5 f6 f7 f8 f9 f10 f11 f12 f13 f14 f15 f16 f17 f18 f19 f20 f21 fL fN fP fM fO) H := hP
  have hD : va_D A (mW ad kc x0 x1 x2 x3 x4 x5 x6 x7 x8 x9 x10 0 x12 x13 x14 x15 x16 x17 x18 x19 x20 x21 f0 f1 f2 f3 f4 f5 f6 f7 f8 f9 f10 f11 f12 f13 f14 f15 f16 f17 f18 f19 f20 f21 fL fN fP fM fO) := hD
  have lit_0 : (0 : Int32).toInt = 0 := by decide
  refine lv_aload_n hx hb dX10_patternQuote_10 rfl (lv_at hl 1 rfl) ?_
  refine lv_iconst (v := 0) hx hb dX10_patternQuote_11 (by decide) ?_
  have hFc := m_free hD hS hA
  refine va_calli (va_runV (As := [.int 0]) (rest := []) ⟨hx, hb, hml, hown, hts⟩ (m_isPatternAt0 l dC dI ad kc x0 x1 x2 x3 x4 x5 x6 x7 x8 x9 x10 0 x12 x13 x14 x15 x16 x17 x18 x19 x20 x21 f0 f1 f2 f3 f4 f5 f6 f7 f8 f9 f10 f11 f12 f13 f14 f15 f16 f17 f18 f19 f20 f21 fL fN fP fM fO H.size 0 (by first | omega | assumption | decide | (have l0 := Int32.toInt_zero; omega)) (by first | omega | assumption | decide | (have l0 := Int32.toInt_zero; omega)) (by first | omega | assumption | decide | (have l0 := Int32.toInt_zero; omega)) (by first | omega | assumption | decide | (have l0 := Int32.toInt_zero; omega)) (by first | omega | assumption | decide | (have l0 := Int32.toInt_zero; omega)) (by first | omega | assumption | decide | (have l0 := Int32.toInt_zero; omega))) (cwV 1 hts mg_X10_patternQuotem_X10_isPatternAt_154 rfl rfl rfl (by decide +kernel) ⟨Nat.le_of_ble_eq_true rfl, Nat.le_of_ble_eq_true rfl⟩) ⟨fun a U g mk q => by obtain ⟨q0, q1, qP, qK, qD⟩ := q; exact ⟨q0, q1, qP, va_K.moved (u := U) (U := U.calling g mk a) (Vm.Alike.refl U.vm) qK, qD⟩, va_recv hK hP (ci := 10) (q0 := 0) rfl rfl, fun U hU hW => ⟨rfl, by rw [hU], by rw [hU]; exact hP, va_K.moved hW.alike hK, hD.weaken (fun _ _ _ _ => trivial)⟩⟩ rfl rfl hl.1 rfl (lv_room (Nat.le_of_ble_eq_true rfl)) dX10_patternQuote_12 ⟨Nat.le_of_ble_eq_true rfl, Nat.le_of_ble_eq_true rfl⟩) hS (fun q _ h => hFc q h) hFc (fun r_2 u t H1 locs ht hvm hw hB hz1 hk1 hS => ?_)
  subst hw
  obtain ⟨x_3, x_4, x_5, x_6, hr_2_0, hr_2_1, hr_2_2, hr_2_3, hr_2_4, hP, hK1, hD1⟩ := hB
  rw [ht] at hP
  have hD := hD1.weaken (fun k q _ h => hFc q.1 h)
  generalize H1 = H at hP hS ⊢
  have rg_x_3 := i_rng x_3
  have rg_x_4 := i_rng x_4
  have rg_x_5 := i_rng x_5
  have rg_x_6 := i_rng x_6
  have rg_r_2 := i_rng r_2
  have hP : va_P (dC, dI) vwCl (mW ad kc x0 x1 x2 x3 x4 x5 x6 x_3 x_4 x_5 x10 x_6 x12 x13 x14 x15 x16 x17 x18 x19 x20 x21 f0 f1 f2 f3 f4 f5 f6 f7 f8 f9 f10 f11 f12 f13 f14 f15 f16 f17 f18 f19 f20 f21 fL fN fP fM fO) H := hP
  have hD : va_D A (mW ad kc x0 x1 x2 x3 x4 x5 x6 x_3 x_4 x_5 x10 x_6 x12 x13 x14 x15 x16 x17 x18 x19 x20 x21 f0 f1 f2 f3 f4 f5 f6 f7 f8 f9 f10 f11 f12 f13 f14 f15 f16 f17 f18 f19 f20 f21 fL fN fP fM fO) := hD
  refine lv_if_ne (tgt := 20) hx hb dX10_patternQuote_15 (by decide) (fun k_7 => ?_) (fun k_7 => ?_)
  · have tk_7 := c_ne (a := r_2.toInt) (b := 0) rfl (by decide) k_7
    have hT := tf_t hr_2_4 (by omega)
    refine lv_aload_n hx hb dX10_patternQuote_20 rfl (lv_at hl 1 rfl) ?_
    refine lv_aload_n hx hb dX10_patternQuote_21 rfl (lv_at hl 1 rfl) ?_
    refine va_get (D := (dC, dI)) (ci := 10) (v := .int x_3) (C := RX10) (T := TX10) (N := 48) hx hb hts fin_X10_patternQuotem_X10 hown hK hP 0 rfl rfl 10 (by decide) (hts (.fieldLink RX10 130 "PatternGateModel" "end" "I") (List.mem_of_getElem? (i := 1) (by decide +kernel))) (fun _ h9 => h9) rfl dX10_patternQuote_22 ?_
    refine vp_callSi (W.runV (As := [.int x_3]) (rest := []) ⟨hx, hb, hml, hown, hts⟩ (m_byteAt l dC dI ad kc x0 x1 x2 x3 x4 x5 x6 x_3 x_4 x_5 x10 x_6 x12 x13 x14 x15 x16 x17 x18 x19 x20 x21 f0 f1 f2 f3 f4 f5 f6 f7 f8 f9 f10 f11 f12 f13 f14 f15 f16 f17 f18 f19 f20 f21 fL fN fP fM fO x_3 (by first | omega | assumption | decide | (have l0 := Int32.toInt_zero; omega)) (by first | omega | assumption | decide | (have l0 := Int32.toInt_zero; omega))) (cwV 1 hts mg_X10_patternQuotem_X10_byteAt_133 rfl rfl rfl (by decide +kernel) ⟨Nat.le_of_ble_eq_true rfl, Nat.le_of_ble_eq_true rfl⟩) ⟨fun a U g mk q => by obtain ⟨q0, qP, qK⟩ := q; exact ⟨q0, qP, va_K.moved (u := U) (U := U.calling g mk a) (Vm.Alike.refl U.vm) qK⟩, va_recv hK hP (ci := 10) (q0 := 0) rfl rfl, fun U hU hW => ⟨rfl, by rw [hU]; exact hP, va_K.moved hW.alike hK⟩⟩ rfl rfl hl.1 rfl (lv_room (Nat.le_of_ble_eq_true rfl)) dX10_patternQuote_25 ⟨Nat.le_of_ble_eq_true rfl, Nat.le_of_ble_eq_true rfl⟩) (fun r_8 hr_8 => ?_)
    have rg_r_8 := i_rng r_8
    refine lv_bipush (v := 34) hx hb dX10_patternQuote_28 (by decide) ?_
    refine lv_icmp_eq (tgt := 43) hx hb dX10_patternQuote_30 (by decide) (fun k_9 => ?_) (fun k_9 => ?_)
    · have tk_9 := c_eq (a := r_8.toInt) (b := 34) rfl (by decide) k_9
      refine lv_aload_n hx hb dX10_patternQuote_43 rfl (lv_at hl 1 rfl) ?_
      refine va_get (D := (dC, dI)) (ci := 10) (v := .ref (ad 1)) (C := RX10) (T := TX10) (N := 48) hx hb hts fin_X10_patternQuotem_X10 hown hK hP 0 rfl rfl 0 (by decide) (hts (.fieldLink RX10 8 "PatternGateModel" "all" "[I") (List.mem_of_getElem? (i := 42) (by decide +kernel))) (fun _ h9 => h9) rfl dX10_patternQuote_44 ?_
      refine lv_sipush (v := 611) hx hb dX10_patternQuote_47 (by decide) ?_
      refine va_iald hx hb hK hP 1 0 rfl rfl (i := 611) (by unfold vp_in; decide +kernel) dX10_patternQuote_50 ?_
      refine lv_topi (fun y_10 ey_10 => ?_)
      have rg_y_10 := i_rng y_10
      have vy_10 := vI_lda (f := f0) (i := 611) (a := 611) ey_10 (by first | omega | decide)
      have rg_y_10 := i_rng y_10
      have wy_10 := q3.P0
      refine lv_istore_n (lv' := [(2, .int y_10), (1, .int x7), (0, .ref (ad 0))]) hx hb dX10_patternQuote_51 rfl hl (by decide) rfl (fun ls hl => ?_)
      refine lv_aload_n hx hb dX10_patternQuote_52 rfl (lv_at hl 2 rfl) ?_
      refine va_get (D := (dC, dI)) (ci := 10) (v := .ref (ad 1)) (C := RX10) (T := TX10) (N := 48) hx hb hts fin_X10_patternQuotem_X10 hown hK hP 0 rfl rfl 0 (by decide) (hts (.fieldLink RX10 8 "PatternGateModel" "all" "[I") (List.mem_of_getElem? (i := 42) (by decide +kernel))) (fun _ h9 => h9) rfl dX10_patternQuote_53 ?_
      refine lv_sipush (v := 612) hx hb dX10_patternQuote_56 (by decide) ?_
      refine lv_iload_n hx hb dX10_patternQuote_59 rfl (lv_at hl 0 rfl) ?_
      refine lv_iadd hx hb dX10_patternQuote_60 ?_
      refine lv_topi (fun y_11 ey_11 => ?_)
      first | have ty_11 := i_add (a := 612) (b := y_10.toInt) (by decide) rfl ey_11 (by omega) (by omega) | skip
      refine lv_aload_n hx hb dX10_patternQuote_61 rfl (lv_at hl 2 rfl) ?_
      refine va_get (D := (dC, dI)) (ci := 10) (v := .int x_3) (C := RX10) (T := TX10) (N := 48) hx hb hts fin_X10_patternQuotem_X10 hown hK hP 0 rfl rfl 10 (by decide) (hts (.fieldLink RX10 130 "PatternGateModel" "end" "I") (List.mem_of_getElem? (i := 1) (by decide +kernel))) (fun _ h9 => h9) rfl dX10_patternQuote_62 ?_
      refine lv_iload_n hx hb dX10_patternQuote_65 rfl (lv_at hl 1 rfl) ?_
      refine lv_isub hx hb dX10_patternQuote_66 ?_
      refine lv_topi (fun y_12 ey_12 => ?_)
      first | have ty_12 := i_sub (a := x_3.toInt) (b := x7.toInt) rfl rfl ey_12 (by omega) (by omega) | skip
      refine va_iast hx hb hK hP hD hS 1 0 rfl rfl (i := y_11) (vp_of (a := y_11.toInt) rfl (by omega) (by omega)) dX10_patternQuote_67 (fun H locs hP hD hS => ?_)
      generalize hf_f_13 : upd f0 _ _ = f_13 at hP hD
      have uf_13 := vI_up (a := (612 + y_10.toInt)) (b := y_12.toInt) hf_f_13 (by first | omega | decide) (by omega) rfl
      have hP : va_P (dC, dI) vwCl (mW ad kc x0 x1 x2 x3 x4 x5 x6 x_3 x_4 x_5 x10 x_6 x12 x13 x14 x15 x16 x17 x18 x19 x20 x21 f_13 f1 f2 f3 f4 f5 f6 f7 f8 f9 f10 f11 f12 f13 f14 f15 f16 f17 f18 f19 f20 f21 fL fN fP fM fO) H := hP
      have hD : va_D A (mW ad kc x0 x1 x2 x3 x4 x5 x6 x_3 x_4 x_5 x10 x_6 x12 x13 x14 x15 x16 x17 x18 x19 x20 x21 f_13 f1 f2 f3 f4 f5 f6 f7 f8 f9 f10 f11 f12 f13 f14 f15 f16 f17 f18 f19 f20 f21 fL fN fP fM fO) := hD
      refine lv_iload_n hx hb dX10_patternQuote_68 rfl (lv_at hl 1 rfl) ?_
      refine lv_istore_n (lv' := [(3, .int x7), (2, .int y_10), (1, .int x7), (0, .ref (ad 0))]) hx hb dX10_patternQuote_69 rfl hl (by decide) rfl (fun ls hl => ?_)
      have loop70 : ∀ (lm70 : Nat) (kk : Int32) (ga : Nat → Int32), (x7.toInt ≤ kk.toInt) → (kk.toInt ≤ x_3.toInt) → (∀ z : Int, 0 ≤ z → z ≠ 612 + y_10.toInt → (z < 620 + 900 * y_10.toInt ∨ 1520 + 900 * y_10.toInt ≤ z) → vI ga z = vI f0 z) → (vI ga (612 + y_10.toInt) = x_3.toInt - x7.toInt) → (∀ z : Int, x7.toInt ≤ z → z < kk.toInt → vI ga (620 + 900 * y_10.toInt + z - x7.toInt) = tx f2 x4.toInt z) → ((x_3.toInt - kk.toInt).toNat) < lm70 → ∀ (H : Heap) (locs : List Loc) (ls : Array Slot), va_P (dC, dI) vwCl (mW ad kc x0 x1 x2 x3 x4 x5 x6 x_3 x_4 x_5 x10 x_6 x12 x13 x14 x15 x16 x17 x18 x19 x20 x21 ga f1 f2 f3 f4 f5 f6 f7 f8 f9 f10 f11 f12 f13 f14 f15 f16 f17 f18 f19 f20 f21 fL fN fP fM fO) H → va_D A (mW ad kc x0 x1 x2 x3 x4 x5 x6 x_3 x_4 x_5 x10 x_6 x12 x13 x14 x15 x16 x17 x18 x19 x20 x21 ga f1 f2 f3 f4 f5 f6 f7 f8 f9 f10 f11 f12 f13 f14 f15 f16 f17 f18 f19 f20 f21 fL fN fP fM fO) → va_S A s.heap H locs → lv_has ls 4 [(3, .int kk), (2, .int y_10), (1, .int x7), (0, .ref (ad 0))] → W p l e (headSpec mwX10_patternQuotem ({ frames := 21, cells := 0, slots := 0, locals := 1260 })).room s m ([.ref (ad 0)]).toArray below meth c H locs 0 0 (MQ below (va_Qi (fun (o9 u9 : Int32) => o9 = u9) (fun (o9 : Int32) t => ∃ (y7 y8 y9 y11 : Int32) (g0 : Nat → Int32), (OKd g0 0) ∧ (∀ z : Int, 7820 ≤ z → vI g0 z = vI f0 z) ∧ (x7.toInt ≤ y7.toInt) ∧ (y7.toInt ≤ x4.toInt) ∧ (o9.toInt = 0 ∨ o9.toInt = 1) ∧ va_P (dC, dI) vwCl (mW ad kc x0 x1 x2 x3 x4 x5 x6 y7 y8 y9 x10 y11 x12 x13 x14 x15 x16 x17 x18 x19 x20 x21 g0 f1 f2 f3 f4 f5 f6 f7 f8 f9 f10 f11 f12 f13 f14 f15 f16 f17 f18 f19 f20 f21 fL fN fP fM fO) t.heap ∧ va_K (dC, dI) vwCl (mT kc) t ∧ va_D A (mW ad kc x0 x1 x2 x3 x4 x5 x6 y7 y8 y9 x10 y11 x12 x13 x14 x15 x16 x17 x18 x19 x20 x21 g0 f1 f2 f3 f4 f5 f6 f7 f8 f9 f10 f11 f12 f13 f14 f15 f16 f17 f18 f19 f20 f21 fL fN fP fM fO)) A) ([.ref (ad 0)]).toArray s 0 0 A) (F0 m 70 ls []) := by
        intro lm70
        induction lm70 with
        | zero => intro kk ga v70_0 v70_1 v70_2 v70_3 v70_4 hm70; exact absurd hm70 (Nat.not_lt_zero _)
        | succ lm70 ih70 =>
          intro kk ga v70_0 v70_1 v70_2 v70_3 v70_4 hm70 H locs ls hP hD hS hl
          have rg_kk := i_rng kk
          refine lv_iload_n hx hb dX10_patternQuote_70 rfl (lv_at hl 0 rfl) ?_
          refine lv_aload_n hx hb dX10_patternQuote_71 rfl (lv_at hl 3 rfl) ?_
          refine va_get (D := (dC, dI)) (ci := 10) (v := .int x_3) (C := RX10) (T := TX10) (N := 48) hx hb hts fin_X10_patternQuotem_X10 hown hK hP 0 rfl rfl 10 (by decide) (hts (.fieldLink RX10 130 "PatternGateModel" "end" "I") (List.mem_of_getElem? (i := 1) (by decide +kernel))) (fun _ h9 => h9) rfl dX10_patternQuote_72 ?_
          refine lv_icmp_ge (tgt := 107) hx hb dX10_patternQuote_75 (by decide) (fun k_14 => ?_) (fun k_14 => ?_)
          · have tk_14 := c_ge (a := kk.toInt) (b := x_3.toInt) rfl rfl k_14
            refine lv_aload_n hx hb dX10_patternQuote_107 rfl (lv_at hl 3 rfl) ?_
            refine va_get (D := (dC, dI)) (ci := 10) (v := .ref (ad 1)) (C := RX10) (T := TX10) (N := 48) hx hb hts fin_X10_patternQuotem_X10 hown hK hP 0 rfl rfl 0 (by decide) (hts (.fieldLink RX10 8 "PatternGateModel" "all" "[I") (List.mem_of_getElem? (i := 42) (by decide +kernel))) (fun _ h9 => h9) rfl dX10_patternQuote_108 ?_
            refine lv_sipush (v := 611) hx hb dX10_patternQuote_111 (by decide) ?_
            refine lv_dup2_11 hx hb dX10_patternQuote_114 rfl rfl ?_
            refine va_iald hx hb hK hP 1 0 rfl rfl (i := 611) (by unfold vp_in; decide +kernel) dX10_patternQuote_115 ?_
            refine lv_topi (fun y_15 ey_15 => ?_)
            have rg_y_15 := i_rng y_15
            have vy_15 := vI_lda (f := ga) (i := 611) (a := 611) ey_15 (by first | omega | decide)
            have rg_y_15 := i_rng y_15
            have wy_15 := v70_2 611 (by omega) (by omega) (by omega)
            refine lv_iconst (v := 1) hx hb dX10_patternQuote_116 (by decide) ?_
            refine lv_iadd hx hb dX10_patternQuote_117 ?_
            refine lv_topi (fun y_16 ey_16 => ?_)
            first | have ty_16 := i_add (a := y_15.toInt) (b := 1) rfl (by decide) ey_16 (by omega) (by omega) | skip
            refine va_iast hx hb hK hP hD hS 1 0 rfl rfl (i := 611) (by unfold vp_in; decide +kernel) dX10_patternQuote_118 (fun H locs hP hD hS => ?_)
            generalize hf_f_17 : upd ga _ _ = f_17 at hP hD
            have uf_17 := vI_up (a := 611) (b := y_16.toInt) hf_f_17 (by first | omega | decide) (by omega) rfl
            have hP : va_P (dC, dI) vwCl (mW ad kc x0 x1 x2 x3 x4 x5 x6 x_3 x_4 x_5 x10 x_6 x12 x13 x14 x15 x16 x17 x18 x19 x20 x21 f_17 f1 f2 f3 f4 f5 f6 f7 f8 f9 f10 f11 f12 f13 f14 f15 f16 f17 f18 f19 f20 f21 fL fN fP fM fO) H := hP
            have hD : va_D A (mW ad kc x0 x1 x2 x3 x4 x5 x6 x_3 x_4 x_5 x10 x_6 x12 x13 x14 x15 x16 x17 x18 x19 x20 x21 f_17 f1 f2 f3 f4 f5 f6 f7 f8 f9 f10 f11 f12 f13 f14 f15 f16 f17 f18 f19 f20 f21 fL fN fP fM fO) := hD
            refine lv_aload_n hx hb dX10_patternQuote_119 rfl (lv_at hl 3 rfl) ?_
            refine lv_dup hx hb dX10_patternQuote_120 rfl ?_
            refine va_get (D := (dC, dI)) (ci := 10) (v := .int x_3) (C := RX10) (T := TX10) (N := 48) hx hb hts fin_X10_patternQuotem_X10 hown hK hP 0 rfl rfl 10 (by decide) (hts (.fieldLink RX10 130 "PatternGateModel" "end" "I") (List.mem_of_getElem? (i := 1) (by decide +kernel))) (fun _ h9 => h9) rfl dX10_patternQuote_121 ?_
            refine lv_iconst (v := 1) hx hb dX10_patternQuote_124 (by decide) ?_
            refine lv_iadd hx hb dX10_patternQuote_125 ?_
            refine lv_topi (fun y_18 ey_18 => ?_)
            first | have ty_18 := i_add (a := x_3.toInt) (b := 1) rfl (by decide) ey_18 (by omega) (by omega) | skip
            refine va_put (D := (dC, dI)) (ci := 10) (v := .int y_18) (ty := .int) (C := RX10) (T := TX10) (N := 48) hx hb hts fin_X10_patternQuotem_X10 tyX10 tyX10_ok nmX10 hown hK hP hD hS 0 rfl rfl 10 (by decide) (hts (.fieldLink RX10 130 "PatternGateModel" "end" "I") (List.mem_of_getElem? (i := 1) (by decide +kernel))) (fun _ h9 => h9) rfl (by decide +kernel) rfl rfl (Nat.le_of_ble_eq_true rfl) dX10_patternQuote_126 (fun H locs hP hD hS => ?_)
            have hP : va_P (dC, dI) vwCl (mW ad kc x0 x1 x2 x3 x4 x5 x6 y_18 x_4 x_5 x10 x_6 x12 x13 x14 x15 x16 x17 x18 x19 x20 x21 f_17 f1 f2 f3 f4 f5 f6 f7 f8 f9 f10 f11 f12 f13 f14 f15 f16 f17 f18 f19 f20 f21 fL fN fP fM fO) H := hP
            have hD : va_D A (mW ad kc x0 x1 x2 x3 x4 x5 x6 y_18 x_4 x_5 x10 x_6 x12 x13 x14 x15 x16 x17 x18 x19 x20 x21 f_17 f1 f2 f3 f4 f5 f6 f7 f8 f9 f10 f11 f12 f13 f14 f15 f16 f17 f18 f19 f20 f21 fL fN fP fM fO) := hD
            refine lv_iconst (v := 1) hx hb dX10_patternQuote_129 (by decide) ?_
            have lit_18 : (1 : Int32).toInt = 1 := by decide
            exact W.zret hx hb hr (z_nar (by first | assumption | decide | exact z_of (by omega))) (fun t ht hW => ⟨⟨_, _, rfl, rfl, y_18, x_4, x_5, x_6, f_17, (OKd.pat (p := y_10.toInt) (n := x_3.toInt - x7.toInt) q3 vy_10.symm (by omega) (by omega) (by omega) (PatOK.of (t := tx f2 x4.toInt) hT.1 (by omega) (by omega) (fun k a b => by show vI _ (620 + 900 * y_10.toInt + (k - x7.toInt)) = _; rw [uf_17.2 _ (by omega) (by omega), ← v70_4 k a (by omega)]; congr 1; omega)) (by have h9 := uf_17.1; omega) (by rw [uf_17.2 _ (by omega) (by omega)]; exact v70_3) (fun z a b c d => by rw [uf_17.2 z a (by omega)]; exact v70_2 z a c d)), (fun z hz => by rw [uf_17.2 z (by omega) (by omega)]; exact v70_2 z (by omega) (by omega) (by omega)), (by first | omega | assumption | rfl | decide), (by first | omega | assumption | rfl | decide), (by first | omega | assumption | rfl | decide), by rw [ht]; exact hP, va_K.moved hW.alike hK, hD⟩, hS.F ht⟩) hS.2.2 dX10_patternQuote_130
          · have tk_14 := c_nge (a := kk.toInt) (b := x_3.toInt) rfl rfl k_14
            refine lv_aload_n hx hb dX10_patternQuote_78 rfl (lv_at hl 3 rfl) ?_
            refine va_get (D := (dC, dI)) (ci := 10) (v := .ref (ad 1)) (C := RX10) (T := TX10) (N := 48) hx hb hts fin_X10_patternQuotem_X10 hown hK hP 0 rfl rfl 0 (by decide) (hts (.fieldLink RX10 8 "PatternGateModel" "all" "[I") (List.mem_of_getElem? (i := 42) (by decide +kernel))) (fun _ h9 => h9) rfl dX10_patternQuote_79 ?_
            refine lv_sipush (v := 620) hx hb dX10_patternQuote_82 (by decide) ?_
            refine lv_sipush (v := 900) hx hb dX10_patternQuote_85 (by decide) ?_
            refine lv_iload_n hx hb dX10_patternQuote_88 rfl (lv_at hl 1 rfl) ?_
            refine lv_imul hx hb dX10_patternQuote_89 ?_
            refine lv_topi (fun y_20 ey_20 => ?_)
            first | have ty_20 := i_mul (a := 900) (b := y_10.toInt) (by decide) rfl ey_20 (by omega) (by omega) | skip
            refine lv_iadd hx hb dX10_patternQuote_90 ?_
            refine lv_topi (fun y_21 ey_21 => ?_)
            first | have ty_21 := i_add (a := 620) (b := y_20.toInt) (by decide) rfl ey_21 (by omega) (by omega) | skip
            refine lv_iload_n hx hb dX10_patternQuote_91 rfl (lv_at hl 0 rfl) ?_
            refine lv_iadd hx hb dX10_patternQuote_92 ?_
            refine lv_topi (fun y_22 ey_22 => ?_)
            first | have ty_22 := i_add (a := y_21.toInt) (b := kk.toInt) rfl rfl ey_22 (by omega) (by omega) | skip
            refine lv_iload_n hx hb dX10_patternQuote_93 rfl (lv_at hl 2 rfl) ?_
            refine lv_isub hx hb dX10_patternQuote_94 ?_
            refine lv_topi (fun y_23 ey_23 => ?_)
            first | have ty_23 := i_sub (a := y_22.toInt) (b := x7.toInt) rfl rfl ey_23 (by omega) (by omega) | skip
            refine lv_aload_n hx hb dX10_patternQuote_95 rfl (lv_at hl 3 rfl) ?_
            refine lv_iload_n hx hb dX10_patternQuote_96 rfl (lv_at hl 0 rfl) ?_
            refine vp_callSi (W.runV (As := [.int kk]) (rest := [.int y_23, .ref (ad 1)]) ⟨hx, hb, hml, hown, hts⟩ (m_byteAt l dC dI ad kc x0 x1 x2 x3 x4 x5 x6 x_3 x_4 x_5 x10 x_6 x12 x13 x14 x15 x16 x17 x18 x19 x20 x21 ga f1 f2 f3 f4 f5 f6 f7 f8 f9 f10 f11 f12 f13 f14 f15 f16 f17 f18 f19 f20 f21 fL fN fP fM fO kk (by first | omega | assumption | decide | (have l0 := Int32.toInt_zero; omega)) (by first | omega | assumption | decide | (have l0 := Int32.toInt_zero; omega))) (cwV 1 hts mg_X10_patternQuotem_X10_byteAt_133 rfl rfl rfl (by decide +kernel) ⟨Nat.le_of_ble_eq_true rfl, Nat.le_of_ble_eq_true rfl⟩) ⟨fun a U g mk q => by obtain ⟨q0, qP, qK⟩ := q; exact ⟨q0, qP, va_K.moved (u := U) (U := U.calling g mk a) (Vm.Alike.refl U.vm) qK⟩, va_recv hK hP (ci := 10) (q0 := 0) rfl rfl, fun U hU hW => ⟨rfl, by rw [hU]; exact hP, va_K.moved hW.alike hK⟩⟩ rfl rfl hl.1 rfl (lv_room (Nat.le_of_ble_eq_true rfl)) dX10_patternQuote_97 ⟨Nat.le_of_ble_eq_true rfl, Nat.le_of_ble_eq_true rfl⟩) (fun r_24 hr_24 => ?_)
            have rg_r_24 := i_rng r_24
            refine va_iast hx hb hK hP hD hS 1 0 rfl rfl (i := y_23) (vp_of (a := y_23.toInt) rfl (by omega) (by omega)) dX10_patternQuote_100 (fun H locs hP hD hS => ?_)
            generalize hf_f_25 : upd ga _ _ = f_25 at hP hD
            have uf_25 := vI_up (a := (((620 + (900 * y_10.toInt)) + kk.toInt) - x7.toInt)) (b := r_24.toInt) hf_f_25 (by first | omega | decide) (by omega) rfl
            have hP : va_P (dC, dI) vwCl (mW ad kc x0 x1 x2 x3 x4 x5 x6 x_3 x_4 x_5 x10 x_6 x12 x13 x14 x15 x16 x17 x18 x19 x20 x21 f_25 f1 f2 f3 f4 f5 f6 f7 f8 f9 f10 f11 f12 f13 f14 f15 f16 f17 f18 f19 f20 f21 fL fN fP fM fO) H := hP
            have hD : va_D A (mW ad kc x0 x1 x2 x3 x4 x5 x6 x_3 x_4 x_5 x10 x_6 x12 x13 x14 x15 x16 x17 x18 x19 x20 x21 f_25 f1 f2 f3 f4 f5 f6 f7 f8 f9 f10 f11 f12 f13 f14 f15 f16 f17 f18 f19 f20 f21 fL fN fP fM fO) := hD
            obtain ⟨y_26, ey_26⟩ : ∃ y : Int32, y = kk + 1 := ⟨_, rfl⟩
            first | have ty_26 := i_add (a := kk.toInt) (b := 1) rfl (by decide) ey_26 (by omega) (by omega) | skip
            refine lv_iinc (v := y_26) (lv' := [(3, .int y_26), (2, .int y_10), (1, .int x7), (0, .ref (ad 0))]) hx hb dX10_patternQuote_101 hl (k := 0) rfl (by rw [ey_26]; rfl) (by decide) rfl (fun ls hl => ?_)
            refine lv_goto (tgt := 70) hx hb dX10_patternQuote_104 (by decide) ?_
            exact ih70 y_26 f_25 (by first | omega | assumption | decide) (by first | omega | assumption | decide) (fun z a b c => (uf_25.2 z a (by omega)).trans (v70_2 z a b c)) (by have h9 := uf_25.2 (612 + y_10.toInt) (by omega) (by omega); omega) (by rw [show y_26.toInt = kk.toInt + 1 by omega]; exact cq_step v70_4 uf_25 (by omega) (by omega)) (by omega) _ _ ls hP hD hS (lv_sub hl [0, 1, 2, 3] rfl)
      exact loop70 _ x7 f_13 (by first | omega | assumption | decide) (by first | omega | assumption | decide) (fun z a b c => uf_13.2 z a (by omega)) (by have h9 := uf_13.1; omega) (fun z a b => by omega) (Nat.lt_succ_self _) _ _ ls hP hD hS (lv_sub hl [0, 1, 2, 3] rfl)
    · have tk_9 := c_ne (a := r_8.toInt) (b := 34) rfl (by decide) k_9
      refine lv_aload_n hx hb dX10_patternQuote_33 rfl (lv_at hl 1 rfl) ?_
      refine lv_iconst (v := 1) hx hb dX10_patternQuote_34 (by decide) ?_
      refine lv_aload_n hx hb dX10_patternQuote_35 rfl (lv_at hl 1 rfl) ?_
      refine va_get (D := (dC, dI)) (ci := 10) (v := .int x_3) (C := RX10) (T := TX10) (N := 48) hx hb hts fin_X10_patternQuotem_X10 hown hK hP 0 rfl rfl 10 (by decide) (hts (.fieldLink RX10 130 "PatternGateModel" "end" "I") (List.mem_of_getElem? (i := 1) (by decide +kernel))) (fun _ h9 => h9) rfl dX10_patternQuote_36 ?_
      have hFc := m_free hD hS hA
      refine va_calli (va_runV (As := [.int 1, .int x_3]) (rest := []) ⟨hx, hb, hml, hown, hts⟩ (m_failsAt l dC dI ad kc x0 x1 x2 x3 x4 x5 x6 x_3 x_4 x_5 x10 x_6 x12 x13 x14 x15 x16 x17 x18 x19 x20 x21 f0 f1 f2 f3 f4 f5 f6 f7 f8 f9 f10 f11 f12 f13 f14 f15 f16 f17 f18 f19 f20 f21 fL fN fP fM fO H.size 1 x_3 ) (cwV 2 hts mg_X10_patternQuotem_X10_failsAt_126 rfl rfl rfl (by decide +kernel) ⟨Nat.le_of_ble_eq_true rfl, Nat.le_of_ble_eq_true rfl⟩) ⟨fun a U g mk q => by obtain ⟨q0, q1, qP, qK, qD⟩ := q; exact ⟨q0, q1, qP, va_K.moved (u := U) (U := U.calling g mk a) (Vm.Alike.refl U.vm) qK, qD⟩, va_recv hK hP (ci := 10) (q0 := 0) rfl rfl, fun U hU hW => ⟨rfl, by rw [hU], by rw [hU]; exact hP, va_K.moved hW.alike hK, hD.weaken (fun _ _ _ _ => trivial)⟩⟩ rfl rfl hl.1 rfl (lv_room (Nat.le_of_ble_eq_true rfl)) dX10_patternQuote_39 ⟨Nat.le_of_ble_eq_true rfl, Nat.le_of_ble_eq_true rfl⟩) hS (fun q _ h => hFc q h) hFc (fun r_27 u t H1 locs ht hvm hw hB hz1 hk1 hS => ?_)
      subst hw
      obtain ⟨x_28, x_29, hr_27_0, hP, hK1, hD1⟩ := hB
      rw [ht] at hP
      have hD := hD1.weaken (fun k q _ h => hFc q.1 h)
      generalize H1 = H at hP hS ⊢
      have rg_x_28 := i_rng x_28
      have rg_x_29 := i_rng x_29
      have rg_r_27 := i_rng r_27
      have hP : va_P (dC, dI) vwCl (mW ad kc x0 x1 x2 x3 x4 x5 x6 x_3 x_28 x_29 x10 x_6 x12 x13 x14 x15 x16 x17 x18 x19 x20 x21 f0 f1 f2 f3 f4 f5 f6 f7 f8 f9 f10 f11 f12 f13 f14 f15 f16 f17 f18 f19 f20 f21 fL fN fP fM fO) H := hP
      have hD : va_D A (mW ad kc x0 x1 x2 x3 x4 x5 x6 x_3 x_28 x_29 x10 x_6 x12 x13 x14 x15 x16 x17 x18 x19 x20 x21 f0 f1 f2 f3 f4 f5 f6 f7 f8 f9 f10 f11 f12 f13 f14 f15 f16 f17 f18 f19 f20 f21 fL fN fP fM fO) := hD
      exact W.zret hx hb hr (z_nar (by first | assumption | decide | exact z_of (by omega))) (fun t ht hW => ⟨⟨_, _, rfl, rfl, x_3, x_28, x_29, x_6, f0, q3, (fun z hz => rfl), (by first | omega | assumption | rfl | decide), (by first | omega | assumption | rfl | decide), (by first | omega | assumption | rfl | decide), by rw [ht]; exact hP, va_K.moved hW.alike hK, hD⟩, hS.F ht⟩) hS.2.2 dX10_patternQuote_42
  · have tk_7 := c_eq (a := r_2.toInt) (b := 0) rfl (by decide) k_7
    refine lv_iconst (v := 0) hx hb dX10_patternQuote_18 (by decide) ?_
    have lit_29 : (0 : Int32).toInt = 0 := by decide
    exact W.zret hx hb hr (z_nar (by first | assumption | decide | exact z_of (by omega))) (fun t ht hW => ⟨⟨_, _, rfl, rfl, x_3, x_4, x_5, x_6, f0, q3, (fun z hz => rfl), (by first | omega | assumption | rfl | decide), (by first | omega | assumption | rfl | decide), (by first | omega | assumption | rfl | decide), by rw [ht]; exact hP, va_K.moved hW.alike hK, hD⟩, hS.F ht⟩) hS.2.2 dX10_patternQuote_19

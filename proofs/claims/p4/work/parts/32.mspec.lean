theorem i_and255 {x y : Int32} (e : y = x &&& 255) : y.toInt = x.toInt % 256 := by
  subst e
  have h1 : (x &&& 255).toInt = ((x.toBitVec &&& 255#32).toInt) := rfl
  rw [h1]
  have h2 : (x.toBitVec &&& 255#32).toNat = x.toBitVec.toNat % 256 := by
    rw [BitVec.toNat_and]
    have : (255#32).toNat = 2 ^ 8 - 1 := by decide
    rw [this, Nat.and_two_pow_sub_one_eq_mod]
  have h3 : (x.toBitVec &&& 255#32).toInt = ((x.toBitVec &&& 255#32).toNat : Int) := BitVec.toInt_eq_toNat_of_lt (by omega)
  rw [h3, h2]
  have h4 : x.toInt = x.toBitVec.toInt := rfl
  rw [h4, BitVec.toInt_eq_toNat_cond]
  have h5 := x.toBitVec.isLt
  split <;> omega
/-- a byte of the text, -1 behind its end -/
def tx (f : Nat → Int32) (n k : Int) : Int := if k < n then vI f k % 256 else -1
/-- a small letter -/
def isSm (c : Int) : Prop := 97 ≤ c ∧ c ≤ 122
/-- a sign behind an atom -/
def isQu (c : Int) : Prop := c = 42 ∨ c = 43 ∨ c = 63
/-- an atom begins so -/
def isAt (c : Int) : Prop := (97 ≤ c ∧ c ≤ 122) ∨ c = 46 ∨ c = 91 ∨ c = 40
/-- one or more, one behind the other -/
def pChain (R : Int → Int → Int → Prop) : Nat → Int → Int → Int → Prop
  | 0, i, j, m => R i j m
  | n + 1, i, j, m => ∃ k m1 m2, R i k m1 ∧ pChain R n k j m2 ∧ m = m1 + m2
/-- one or more, | between them -/
def pBar (t : Int → Int) (R : Int → Int → Int → Prop) : Nat → Int → Int → Int → Prop
  | 0, i, j, m => R i j m
  | n + 1, i, j, m => ∃ k m1 m2, R i k m1 ∧ t k = 124 ∧ pBar t R n (k + 1) j m2 ∧ m = m1 + m2
/-- letters, then ] -/
def pSet (t : Int → Int) (i j : Int) : Prop := i ≤ j ∧ (∀ k, i ≤ k → k < j → isSm (t k)) ∧ t j = 93
def pAtom (t : Int → Int) (S : Int → Int → Int → Prop) (i j m : Int) : Prop :=
  ((isSm (t i) ∨ t i = 46) ∧ j = i + 1 ∧ m = 1) ∨ (t i = 91 ∧ pSet t (i + 1) (j - 1) ∧ m = 1) ∨ (t i = 40 ∧ S (i + 1) (j - 1) m ∧ t (j - 1) = 41)
def pItem (t : Int → Int) (S : Int → Int → Int → Prop) (i j m : Int) : Prop :=
  (pAtom t S i (j - 1) m ∧ isQu (t (j - 1))) ∨ (pAtom t S i j m ∧ ¬ isQu (t j))
def pBranch (t : Int → Int) (S : Int → Int → Int → Prop) (i j m : Int) : Prop := (∃ n, pChain (pItem t S) n i j m) ∧ ¬ isAt (t j)
/-- a pattern, so many deep at most, from i to j, with m spots -/
def pPat (t : Int → Int) : Nat → Int → Int → Int → Prop
  | 0, i, j, m => (∃ n, pBar t (pBranch t (fun _ _ _ => False)) n i j m) ∧ t j ≠ 124
  | d + 1, i, j, m => (∃ n, pBar t (pBranch t (pPat t d)) n i j m) ∧ t j ≠ 124
def pSub (t : Int → Int) : Nat → Int → Int → Int → Prop
  | 0 => fun _ _ _ => False
  | d + 1 => pPat t d
theorem pPat_eq (t : Int → Int) (d : Nat) (i j m : Int) : pPat t d i j m = ((∃ n, pBar t (pBranch t (pSub t d)) n i j m) ∧ t j ≠ 124) := by
  cases d <;> rfl
/-- a text of n signs, -1 elsewhere -/
def pLa (t : Int → Int) (n k : Int) : Int := if 0 ≤ k ∧ k < n then t k else -1
def PatOK (t : Int → Int) (n : Int) : Prop := ∃ m, 1 ≤ m ∧ m ≤ 24 ∧ pPat (pLa t n) 5 0 n m
theorem PatOK.congr {t u : Int → Int} {n : Int} (h : PatOK t n) (e : ∀ k, 0 ≤ k → k < n → u k = t k) : PatOK u n := by
  have : pLa u n = pLa t n := by
    funext k
    unfold pLa
    split
    · rename_i q; exact e k q.1 q.2
    · rfl
  unfold PatOK
  rw [this]
  exact h
/-- DOCUMENTS and PATTERNS, laid from b on -/
def OKd (f : Nat → Int32) (b : Int) : Prop :=
  (0 ≤ vI f b ∧ vI f b ≤ 10) ∧ (∀ d, 0 ≤ d → d < vI f b → 1 ≤ vI f (b + 1 + d) ∧ vI f (b + 1 + d) ≤ 60 ∧ ∀ k, 0 ≤ k → k < vI f (b + 1 + d) → 0 ≤ vI f (b + 11 + 60 * d + k) ∧ vI f (b + 11 + 60 * d + k) ≤ 25) ∧ (0 ≤ vI f (b + 611) ∧ vI f (b + 611) ≤ 8) ∧ ∀ p, 0 ≤ p → p < vI f (b + 611) → 1 ≤ vI f (b + 612 + p) ∧ vI f (b + 612 + p) ≤ 900 ∧ PatOK (fun k => vI f (b + 620 + 900 * p + k)) (vI f (b + 612 + p))
/-- what of it counts -/
def OKl (f : Nat → Int32) (b z : Int) : Prop := z = 0 ∨ z = 611 ∨ (1 ≤ z ∧ z < 1 + vI f b) ∨ (11 ≤ z ∧ z < 11 + 60 * vI f b) ∨ (612 ≤ z ∧ z < 612 + vI f (b + 611)) ∨ (620 ≤ z ∧ z < 620 + 900 * vI f (b + 611))
theorem OKd.congr {f g : Nat → Int32} {b b' : Int} (h : OKd f b) (e : ∀ z, OKl f b z → vI g (b' + z) = vI f (b + z)) : OKd g b' := by
  obtain ⟨h1, h2, h3, h4⟩ := h
  have e0 : vI g b' = vI f b := by have := e 0 (Or.inl rfl); simpa using this
  have e1 : vI g (b' + 611) = vI f (b + 611) := e 611 (Or.inr (Or.inl rfl))
  refine ⟨by rw [e0]; exact h1, fun d a1 a2 => ?_, by rw [e1]; exact h3, fun p a1 a2 => ?_⟩
  · rw [e0] at a2
    obtain ⟨c1, c2, c3⟩ := h2 d a1 a2
    have e2 : vI g (b' + 1 + d) = vI f (b + 1 + d) := by
      have := e (1 + d) (Or.inr (Or.inr (Or.inl ⟨by omega, by omega⟩)))
      rw [Int.add_assoc, Int.add_assoc]; exact this
    refine ⟨by rw [e2]; exact c1, by rw [e2]; exact c2, fun k b1 b2 => ?_⟩
    rw [e2] at b2
    have e3 : vI g (b' + 11 + 60 * d + k) = vI f (b + 11 + 60 * d + k) := by
      have := e (11 + 60 * d + k) (Or.inr (Or.inr (Or.inr (Or.inl ⟨by omega, by omega⟩))))
      rw [show b' + 11 + 60 * d + k = b' + (11 + 60 * d + k) by omega, show b + 11 + 60 * d + k = b + (11 + 60 * d + k) by omega]; exact this
    rw [e3]
    exact c3 k b1 b2
  · rw [e1] at a2
    obtain ⟨c1, c2, c3⟩ := h4 p a1 a2
    have e2 : vI g (b' + 612 + p) = vI f (b + 612 + p) := by
      have := e (612 + p) (Or.inr (Or.inr (Or.inr (Or.inr (Or.inl ⟨by omega, by omega⟩)))))
      rw [Int.add_assoc, Int.add_assoc]; exact this
    refine ⟨by rw [e2]; exact c1, by rw [e2]; exact c2, ?_⟩
    rw [e2]
    refine c3.congr (fun k b1 b2 => ?_)
    have := e (620 + 900 * p + k) (Or.inr (Or.inr (Or.inr (Or.inr (Or.inr ⟨by omega, by omega⟩)))))
    show vI g (b' + 620 + 900 * p + k) = vI f (b + 620 + 900 * p + k)
    rw [show b' + 620 + 900 * p + k = b' + (620 + 900 * p + k) by omega, show b + 620 + 900 * p + k = b + (620 + 900 * p + k) by omega]; exact this
/-- one more DOCUMENT -/
theorem OKd.doc {f g : Nat → Int32} {d n : Int} (h : OKd f 0) (hd : vI f 0 = d) (hd10 : d < 10) (h1 : 1 ≤ n) (h2 : n ≤ 60) (hl : ∀ k, 0 ≤ k → k < n → 0 ≤ vI g (11 + 60 * d + k) ∧ vI g (11 + 60 * d + k) ≤ 25) (h0 : vI g 0 = d + 1) (hs : vI g (1 + d) = n) (hf : ∀ z, 0 ≤ z → z ≠ 0 → z ≠ 1 + d → (z < 11 + 60 * d ∨ 71 + 60 * d ≤ z) → vI g z = vI f z) : OKd g 0 := by
  obtain ⟨a1, a2, a3, a4⟩ := h
  rw [hd] at a1 a2
  have e1 : vI g (0 + 611) = vI f (0 + 611) := hf _ (by omega) (by omega) (by omega) (by omega)
  refine ⟨by rw [h0]; omega, fun x b1 b2 => ?_, by rw [e1]; exact a3, fun p b1 b2 => ?_⟩
  · rw [h0] at b2
    by_cases hx : x = d
    · subst hx
      refine ⟨?_, ?_, fun k c1 c2 => ?_⟩
      · rw [show (0 : Int) + 1 + x = 1 + x by omega, hs]; exact h1
      · rw [show (0 : Int) + 1 + x = 1 + x by omega, hs]; exact h2
      · rw [show (0 : Int) + 1 + x = 1 + x by omega, hs] at c2
        rw [show (0 : Int) + 11 + 60 * x + k = 11 + 60 * x + k by omega]
        exact hl k c1 c2
    · obtain ⟨c1, c2, c3⟩ := a2 x b1 (by omega)
      have e2 : vI g (0 + 1 + x) = vI f (0 + 1 + x) := hf _ (by omega) (by omega) (by omega) (by omega)
      refine ⟨by rw [e2]; exact c1, by rw [e2]; exact c2, fun k k1 k2 => ?_⟩
      rw [e2] at k2
      rw [hf _ (by omega) (by omega) (by omega) (by omega)]
      exact c3 k k1 k2
  · rw [e1] at b2
    obtain ⟨c1, c2, c3⟩ := a4 p b1 b2
    have e2 : vI g (0 + 612 + p) = vI f (0 + 612 + p) := hf _ (by omega) (by omega) (by omega) (by omega)
    refine ⟨by rw [e2]; exact c1, by rw [e2]; exact c2, ?_⟩
    rw [e2]
    exact c3.congr (fun k k1 k2 => hf _ (by omega) (by omega) (by omega) (by omega))
theorem cp_step {f g g' : Nat → Int32} {fr to k v : Int} (hI : ∀ z, 0 ≤ z → vI g z = if to ≤ z ∧ z < to + k then vI f (z - to + fr) else vI f z) (hv : v = vI g (fr + k)) (hu : vI g' (to + k) = v ∧ ∀ z, 0 ≤ z → z ≠ to + k → vI g' z = vI g z) (h0 : 0 ≤ fr) (hk : 0 ≤ k) (hd : fr + 7820 ≤ to ∨ to + 7820 ≤ fr) (hk2 : k < 7820) : ∀ z, 0 ≤ z → vI g' z = if to ≤ z ∧ z < to + (k + 1) then vI f (z - to + fr) else vI f z := by
  intro z hz
  by_cases e : z = to + k
  · subst e
    rw [hu.1, hv, hI _ (by omega), if_neg (by omega), if_pos (by omega)]
    congr 1
    omega
  · rw [hu.2 z hz e, hI z hz]
    by_cases c : to ≤ z ∧ z < to + k
    · rw [if_pos c, if_pos (by omega)]
    · rw [if_neg c, if_neg (by omega)]
theorem tf_t {a : Int} {Q : Prop} (h : a = 1 ∧ Q ∨ a = 0) (h0 : a ≠ 0) : Q := by
  rcases h with h | h
  · exact h.2
  · exact absurd h h0
theorem tf2_t {a : Int} {Q Q' : Prop} (h : a = 1 ∧ Q ∨ a = 0 ∧ Q') (h0 : a ≠ 0) : Q := by
  rcases h with h | h
  · exact h.2
  · exact absurd h.1 h0
theorem tf2_f {a : Int} {Q Q' : Prop} (h : a = 1 ∧ Q ∨ a = 0 ∧ Q') (h0 : a = 0) : Q' := by
  rcases h with h | h
  · omega
  · exact h.2
theorem dl_step {f g : Nat → Int32} {b n v : Int} (hl : ∀ k, 0 ≤ k → k < n → 0 ≤ vI f (b + k) ∧ vI f (b + k) ≤ 25) (hu : vI g (b + n) = v ∧ ∀ z, 0 ≤ z → z ≠ b + n → vI g z = vI f z) (hb : 0 ≤ b) (h1 : 0 ≤ v) (h2 : v ≤ 25) : ∀ k, 0 ≤ k → k < n + 1 → 0 ≤ vI g (b + k) ∧ vI g (b + k) ≤ 25 := by
  intro k h0 hk
  by_cases e : k = n
  · subst e
    rw [hu.1]; exact ⟨h1, h2⟩
  · rw [hu.2 _ (by omega) (by omega)]
    exact hl k h0 (by omega)
theorem sm_step {Q : Int → Prop} {a b : Int} (h : ∀ k, a ≤ k → k < b → Q k) (hb : Q b) : ∀ k, a ≤ k → k < b + 1 → Q k := by
  intro k h0 hk
  by_cases e : k = b
  · subst e; exact hb
  · exact h k h0 (by omega)
theorem pChain_snoc {R : Int → Int → Int → Prop} : ∀ (n : Nat) {i k j m1 m2 : Int}, pChain R n i k m1 → R k j m2 → ∃ n', pChain R n' i j (m1 + m2)
  | 0, i, k, j, m1, m2, h, hr => ⟨1, k, m1, m2, h, hr, rfl⟩
  | n + 1, i, k, j, m1, m2, h, hr => by
    obtain ⟨x, a, b, h1, h2, e⟩ := h
    obtain ⟨n', h3⟩ := pChain_snoc n h2 hr
    exact ⟨n' + 1, x, a, b + m2, h1, h3, by omega⟩
theorem pBar_snoc {t : Int → Int} {R : Int → Int → Int → Prop} : ∀ (n : Nat) {i k j m1 m2 : Int}, pBar t R n i k m1 → t k = 124 → R (k + 1) j m2 → ∃ n', pBar t R n' i j (m1 + m2)
  | 0, i, k, j, m1, m2, h, ht, hr => ⟨1, k, m1, m2, h, ht, hr, rfl⟩
  | n + 1, i, k, j, m1, m2, h, ht, hr => by
    obtain ⟨x, a, b, h1, h0, h2, e⟩ := h
    obtain ⟨n', h3⟩ := pBar_snoc n h2 ht hr
    exact ⟨n' + 1, x, a, b + m2, h1, h0, h3, by omega⟩
/-- items so far -/
def brI (t : Int → Int) (S : Int → Int → Int → Prop) (i a s0 s : Int) : Prop := (a = i ∧ s = s0) ∨ (i < a ∧ s0 < s ∧ ∃ n, pChain (pItem t S) n i a (s - s0))
theorem br_add {t : Int → Int} {S : Int → Int → Int → Prop} {i a j s0 s s' : Int} (h : brI t S i a s0 s) (hA : pItem t S a j (s' - s)) (hs : s < s') (ha : a < j) : brI t S i j s0 s' := by
  right
  rcases h with ⟨rfl, rfl⟩ | ⟨h1, h2, n, h3⟩
  · exact ⟨ha, hs, 0, hA⟩
  · obtain ⟨n', h4⟩ := pChain_snoc n h3 hA
    exact ⟨by omega, by omega, n', by rw [show s' - s0 = s - s0 + (s' - s) by omega]; exact h4⟩
theorem br_q {t : Int → Int} {S : Int → Int → Int → Prop} {i a e j s0 s s' : Int} (h : brI t S i a s0 s) (hA : pAtom t S a e (s' - s)) (hs : s < s') (ha : a < e) (hj : j = e + 1) (hq : isQu (t e)) : brI t S i j s0 s' := by
  subst hj
  refine br_add h (Or.inl ⟨?_, ?_⟩) hs (by omega)
  · rw [show e + 1 - 1 = e by omega]; exact hA
  · rw [show e + 1 - 1 = e by omega]; exact hq
theorem br_n {t : Int → Int} {S : Int → Int → Int → Prop} {i a e j s0 s s' : Int} (h : brI t S i a s0 s) (hA : pAtom t S a e (s' - s)) (hs : s < s') (ha : a < e) (hj : j = e) (hq : ¬ isQu (t e)) : brI t S i j s0 s' := by
  subst hj
  exact br_add h (Or.inr ⟨hA, hq⟩) hs ha
theorem br_end {t : Int → Int} {S : Int → Int → Int → Prop} {i a s0 s : Int} (h : brI t S i a s0 s) (h0 : isAt (t i)) (h1 : ¬ isAt (t a)) : pBranch t S i a (s - s0) ∧ s0 < s ∧ i < a := by
  rcases h with ⟨rfl, rfl⟩ | ⟨a1, a2, n, a3⟩
  · exact absurd h0 h1
  · exact ⟨⟨⟨n, a3⟩, h1⟩, a2, a1⟩
/-- branches so far -/
def paI (t : Int → Int) (S : Int → Int → Int → Prop) (i a s0 s : Int) : Prop := i < a ∧ s0 < s ∧ ∃ n, pBar t (pBranch t S) n i a (s - s0)
theorem pa_one {t : Int → Int} {S : Int → Int → Int → Prop} {i a s0 s : Int} (h : pBranch t S i a (s - s0) ∧ s0 < s ∧ i < a) : paI t S i a s0 s := ⟨h.2.2, h.2.1, 0, h.1⟩
theorem pa_add {t : Int → Int} {S : Int → Int → Int → Prop} {i a b j s0 s s' : Int} (h : paI t S i a s0 s) (ht : t a = 124) (hb : b = a + 1) (hB : pBranch t S b j (s' - s) ∧ s < s' ∧ b < j) : paI t S i j s0 s' := by
  subst hb
  obtain ⟨h1, h2, n, h3⟩ := h
  obtain ⟨n', h4⟩ := pBar_snoc n h3 ht hB.1
  exact ⟨by omega, by omega, n', by rw [show s' - s0 = s - s0 + (s' - s) by omega]; exact h4⟩
theorem pa_end {t : Int → Int} {d : Nat} {i a s0 s : Int} (h : paI t (pSub t d) i a s0 s) (ht : t a ≠ 124) : pPat t d i a (s - s0) ∧ s0 < s ∧ i < a := ⟨by rw [pPat_eq]; exact ⟨h.2.2, ht⟩, h.2.1, h.1⟩

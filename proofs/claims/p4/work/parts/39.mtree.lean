/-- the text of a stored pattern -/
def tp (f : Nat → Int32) (p : Int) : Int → Int := pLa (fun k => vI f (620 + 900 * p + k)) (vI f (612 + p))
theorem OKd.pt {f : Nat → Int32} {p : Int} (h : OKd f 0) (h0 : 0 ≤ p) (h1 : p < vI f 611) : (1 ≤ vI f (612 + p) ∧ vI f (612 + p) ≤ 900) ∧ ∃ m, 1 ≤ m ∧ m ≤ 24 ∧ pPat (tp f p) 5 0 (vI f (612 + p)) m := by
  have a := h.2.2.2 p h0 (by rw [show (0 : Int) + 611 = 611 by omega]; exact h1)
  rw [show (0 : Int) + 612 + p = 612 + p by omega] at a
  refine ⟨⟨a.1, a.2.1⟩, ?_⟩
  have b : PatOK (fun k => vI f (620 + 900 * p + k)) (vI f (612 + p)) := a.2.2.congr (fun k _ _ => by show vI f (620 + 900 * p + k) = vI f (0 + 620 + 900 * p + k); rw [show (0 : Int) + 620 + 900 * p + k = 620 + 900 * p + k by omega])
  exact b
theorem item_at {t : Int → Int} {S : Int → Int → Int → Prop} {a b m : Int} (h : pItem t S a b m) : isAt (t a) := by
  have key : ∀ b', pAtom t S a b' m → isAt (t a) := by
    intro b' q
    unfold isAt
    rcases q with ⟨q, _⟩ | ⟨q, _⟩ | ⟨q, _⟩
    · unfold isSm at q; omega
    · omega
    · omega
  rcases h with ⟨h, _⟩ | ⟨h, _⟩
  · exact key _ h
  · exact key _ h
theorem chain_un {R : Int → Int → Int → Prop} {n : Nat} {a j m : Int} (h : pChain R n a j m) : ∃ k m1, R a k m1 ∧ ((k = j ∧ m = m1) ∨ ∃ n', pChain R n' k j (m - m1)) := by
  cases n with
  | zero => exact ⟨j, m, h, Or.inl ⟨rfl, rfl⟩⟩
  | succ n =>
    obtain ⟨k, m1, m2, h1, h2, e⟩ := h
    exact ⟨k, m1, h1, Or.inr ⟨n, by rw [show m - m1 = m2 by omega]; exact h2⟩⟩
theorem bar_un {t : Int → Int} {R : Int → Int → Int → Prop} {n : Nat} {a j m : Int} (h : pBar t R n a j m) : ∃ k m1, R a k m1 ∧ ((k = j ∧ m = m1) ∨ (t k = 124 ∧ ∃ n', pBar t R n' (k + 1) j (m - m1))) := by
  cases n with
  | zero => exact ⟨j, m, h, Or.inl ⟨rfl, rfl⟩⟩
  | succ n =>
    obtain ⟨k, m1, m2, h1, h0, h2, e⟩ := h
    exact ⟨k, m1, h1, Or.inr ⟨h0, n, by rw [show m - m1 = m2 by omega]; exact h2⟩⟩
theorem pos_chain {R : Int → Int → Int → Prop} (hR : ∀ a b m, R a b m → 1 ≤ m) : ∀ (n : Nat) {a b m : Int}, pChain R n a b m → 1 ≤ m
  | 0, _, _, _, h => hR _ _ _ h
  | n + 1, _, _, _, h => by
    obtain ⟨k, m1, m2, h1, h2, e⟩ := h
    have e1 := hR _ _ _ h1
    have e2 := pos_chain hR n h2
    omega
theorem pos_bar {t : Int → Int} {R : Int → Int → Int → Prop} (hR : ∀ a b m, R a b m → 1 ≤ m) : ∀ (n : Nat) {a b m : Int}, pBar t R n a b m → 1 ≤ m
  | 0, _, _, _, h => hR _ _ _ h
  | n + 1, _, _, _, h => by
    obtain ⟨k, m1, m2, h1, -, h2, e⟩ := h
    have e1 := hR _ _ _ h1
    have e2 := pos_bar hR n h2
    omega
theorem pos_item {t : Int → Int} {S : Int → Int → Int → Prop} (hS : ∀ a b m, S a b m → 1 ≤ m) {a b m : Int} (h : pItem t S a b m) : 1 ≤ m := by
  have key : ∀ b', pAtom t S a b' m → 1 ≤ m := by
    intro b' q
    rcases q with ⟨_, _, q⟩ | ⟨_, _, q⟩ | ⟨_, q, _⟩
    · omega
    · omega
    · exact hS _ _ _ q
  rcases h with ⟨h, _⟩ | ⟨h, _⟩
  · exact key _ h
  · exact key _ h
theorem pos_branch {t : Int → Int} {S : Int → Int → Int → Prop} (hS : ∀ a b m, S a b m → 1 ≤ m) {a b m : Int} (h : pBranch t S a b m) : 1 ≤ m := by
  obtain ⟨⟨n, h1⟩, -⟩ := h
  exact pos_chain (fun _ _ _ h => pos_item hS h) n h1
theorem pos_pat {t : Int → Int} : ∀ (d : Nat) (a b m : Int), pPat t d a b m → 1 ≤ m
  | 0, a, b, m, h => by
    obtain ⟨⟨n, h1⟩, -⟩ := h
    exact pos_bar (fun _ _ _ h => pos_branch (fun _ _ _ q => absurd q id) h) n h1
  | d + 1, a, b, m, h => by
    obtain ⟨⟨n, h1⟩, -⟩ := h
    exact pos_bar (fun _ _ _ h => pos_branch (pos_pat d) h) n h1
theorem pos_sub {t : Int → Int} (d : Nat) (a b m : Int) (h : pSub t d a b m) : 1 ≤ m := by
  cases d with
  | zero => exact absurd h id
  | succ d => exact pos_pat d a b m h
/-- kind, first, next, spot of the knots -/
def mV (K Fi Nx Sp : Nat → Int32) : Nat → Int → Int := fun q z => if q = 0 then vI K z else if q = 1 then vI Fi z else if q = 2 then vI Nx z else vI Sp z
def tSpot (V : Nat → Int → Int) (k hi m : Int) : Prop := V 0 k = 0 ∧ V 1 k = -1 ∧ (0 ≤ V 3 k ∧ V 3 k < 24) ∧ hi = k + 1 ∧ m = 1
def tItem (V : Nat → Int → Int) (S : Int → Int → Int → Prop) (k hi m : Int) : Prop := V 0 k = 1 ∧ V 1 k = k + 1 ∧ V 2 (k + 1) = -1 ∧ (tSpot V (k + 1) hi m ∨ S (k + 1) hi m)
/-- one behind the other; the last one is at la -/
def tSib (V : Nat → Int → Int) (R : Int → Int → Int → Prop) : Nat → Int → Int → Int → Int → Prop
  | 0, k, la, hi, m => R k hi m ∧ la = k ∧ V 2 k = -1
  | n + 1, k, la, hi, m => ∃ k' m1 m2, R k k' m1 ∧ V 2 k = k' ∧ tSib V R n k' la hi m2 ∧ m = m1 + m2
def tBranch (V : Nat → Int → Int) (S : Int → Int → Int → Prop) (k hi m : Int) : Prop := V 0 k = 2 ∧ V 1 k = k + 1 ∧ ∃ n la, tSib V (tItem V S) n (k + 1) la hi m
def tPat (V : Nat → Int → Int) : Nat → Int → Int → Int → Prop
  | 0, k, hi, m => V 0 k = 3 ∧ V 1 k = k + 1 ∧ ∃ n la, tSib V (tBranch V (fun _ _ _ => False)) n (k + 1) la hi m
  | d + 1, k, hi, m => V 0 k = 3 ∧ V 1 k = k + 1 ∧ ∃ n la, tSib V (tBranch V (tPat V d)) n (k + 1) la hi m
def tSub (V : Nat → Int → Int) : Nat → Int → Int → Int → Prop
  | 0 => fun _ _ _ => False
  | d + 1 => tPat V d
theorem tPat_eq (V : Nat → Int → Int) (d : Nat) (k hi m : Int) : tPat V d k hi m = (V 0 k = 3 ∧ V 1 k = k + 1 ∧ ∃ n la, tSib V (tBranch V (tSub V d)) n (k + 1) la hi m) := by
  cases d <;> rfl
theorem tm_item {V : Nat → Int → Int} {S : Int → Int → Int → Prop} (hS : ∀ a b m, S a b m → a < b) {a b m : Int} (h : tItem V S a b m) : a + 1 < b := by
  rcases h.2.2.2 with q | q
  · have := q.2.2.2.1; omega
  · have := hS _ _ _ q; omega
theorem tm_sib {V : Nat → Int → Int} {R : Int → Int → Int → Prop} (hR : ∀ a b m, R a b m → a < b) : ∀ (n : Nat) {a la b m : Int}, tSib V R n a la b m → a ≤ la ∧ la < b
  | 0, _, _, _, _, h => by
    have := hR _ _ _ h.1
    have := h.2.1
    omega
  | n + 1, _, _, _, _, h => by
    obtain ⟨k, m1, m2, h1, -, h2, -⟩ := h
    have e1 := hR _ _ _ h1
    have e2 := tm_sib hR n h2
    omega
theorem tm_branch {V : Nat → Int → Int} {S : Int → Int → Int → Prop} (hS : ∀ a b m, S a b m → a < b) {a b m : Int} (h : tBranch V S a b m) : a < b := by
  obtain ⟨-, -, n, la, h1⟩ := h
  have := tm_sib (fun _ _ _ q => by have := tm_item hS q; omega) n h1
  omega
theorem tm_pat {V : Nat → Int → Int} : ∀ (d : Nat) (a b m : Int), tPat V d a b m → a < b
  | 0, a, b, m, h => by
    obtain ⟨-, -, n, la, h1⟩ := h
    have := tm_sib (fun _ _ _ q => tm_branch (fun _ _ _ z => absurd z id) q) n h1
    omega
  | d + 1, a, b, m, h => by
    obtain ⟨-, -, n, la, h1⟩ := h
    have := tm_sib (fun _ _ _ q => tm_branch (tm_pat d) q) n h1
    omega
theorem tm_sub {V : Nat → Int → Int} (d : Nat) (a b m : Int) (h : tSub V d a b m) : a < b := by
  cases d with
  | zero => exact absurd h id
  | succ d => exact tm_pat d a b m h
/-- nothing of a tree has changed, but for what is next to its root -/
def tFr (V V' : Nat → Int → Int) (k hi : Int) : Prop := ∀ q z, k ≤ z → z < hi → (q ≠ 2 ∨ k < z) → V' q z = V q z
theorem tFr.in {V V' : Nat → Int → Int} {k hi a b : Int} (h : tFr V V' k hi) (ha : k < a) (hb : b ≤ hi) : tFr V V' a b := fun q z h1 h2 _ => h q z (by omega) (by omega) (Or.inr (by omega))
theorem fr_spot {V V' : Nat → Int → Int} {k hi m : Int} (h : tFr V V' k hi) (q : tSpot V k hi m) : tSpot V' k hi m := by
  obtain ⟨h1, h2, h3, h4, h5⟩ := q
  refine ⟨?_, ?_, ?_, h4, h5⟩
  · rw [h 0 k (by omega) (by omega) (Or.inl (by decide))]; exact h1
  · rw [h 1 k (by omega) (by omega) (Or.inl (by decide))]; exact h2
  · rw [h 3 k (by omega) (by omega) (Or.inl (by decide))]; exact h3
theorem fr_item {V V' : Nat → Int → Int} {S S' : Int → Int → Int → Prop} (hm : ∀ a b m, S a b m → a < b) (hS : ∀ a b m, tFr V V' a b → S a b m → S' a b m) {k hi m : Int} (h : tFr V V' k hi) (q : tItem V S k hi m) : tItem V' S' k hi m := by
  have hk := tm_item hm q
  obtain ⟨h1, h2, h3, h4⟩ := q
  refine ⟨?_, ?_, ?_, ?_⟩
  · rw [h 0 k (by omega) (by omega) (Or.inl (by decide))]; exact h1
  · rw [h 1 k (by omega) (by omega) (Or.inl (by decide))]; exact h2
  · rw [h 2 (k + 1) (by omega) (by omega) (Or.inr (by omega))]; exact h3
  · rcases h4 with q | q
    · exact Or.inl (fr_spot (h.in (by omega) (by omega)) q)
    · exact Or.inr (hS _ _ _ (h.in (by omega) (by omega)) q)
theorem fr_sib {V V' : Nat → Int → Int} {R R' : Int → Int → Int → Prop} (hm : ∀ a b m, R a b m → a < b) (hR : ∀ a b m, tFr V V' a b → R a b m → R' a b m) : ∀ (n : Nat) {k la hi m : Int}, (∀ q z, k ≤ z → z < hi → V' q z = V q z) → tSib V R n k la hi m → tSib V' R' n k la hi m
  | 0, k, la, hi, m, h, q => by
    have hk := hm _ _ _ q.1
    exact ⟨hR _ _ _ (fun a z h1 h2 _ => h a z h1 h2) q.1, q.2.1, by rw [h 2 k (by omega) (by omega)]; exact q.2.2⟩
  | n + 1, k, la, hi, m, h, q => by
    obtain ⟨k', m1, m2, h1, h2, h3, e⟩ := q
    have hk := hm _ _ _ h1
    have hk2 := tm_sib hm n h3
    exact ⟨k', m1, m2, hR _ _ _ (fun a z g1 g2 _ => h a z g1 (by omega)) h1, by rw [h 2 k (by omega) (by omega)]; exact h2, fr_sib hm hR n (fun a z g1 g2 => h a z (by omega) g2) h3, e⟩
theorem fr_branch {V V' : Nat → Int → Int} {S S' : Int → Int → Int → Prop} (hm : ∀ a b m, S a b m → a < b) (hS : ∀ a b m, tFr V V' a b → S a b m → S' a b m) {k hi m : Int} (h : tFr V V' k hi) (q : tBranch V S k hi m) : tBranch V' S' k hi m := by
  have hk := tm_branch hm q
  obtain ⟨h1, h2, n, la, h3⟩ := q
  refine ⟨?_, ?_, n, la, ?_⟩
  · rw [h 0 k (by omega) (by omega) (Or.inl (by decide))]; exact h1
  · rw [h 1 k (by omega) (by omega) (Or.inl (by decide))]; exact h2
  · exact fr_sib (fun _ _ _ q => by have := tm_item hm q; omega) (fun _ _ _ g q => fr_item hm hS g q) n (fun a z g1 g2 => h a z (by omega) g2 (Or.inr (by omega))) h3
theorem fr_pat {V V' : Nat → Int → Int} : ∀ (d : Nat) (k hi m : Int), tFr V V' k hi → tPat V d k hi m → tPat V' d k hi m
  | 0, k, hi, m, h, q => by
    have hk := tm_pat 0 k hi m q
    obtain ⟨h1, h2, n, la, h3⟩ := q
    refine ⟨?_, ?_, n, la, ?_⟩
    · rw [h 0 k (by omega) (by omega) (Or.inl (by decide))]; exact h1
    · rw [h 1 k (by omega) (by omega) (Or.inl (by decide))]; exact h2
    · exact fr_sib (fun _ _ _ q => tm_branch (fun _ _ _ z => absurd z id) q) (fun _ _ _ g q => fr_branch (fun _ _ _ z => absurd z id) (fun _ _ _ _ z => absurd z id) g q) n (fun a z g1 g2 => h a z (by omega) g2 (Or.inr (by omega))) h3
  | d + 1, k, hi, m, h, q => by
    have hk := tm_pat (d + 1) k hi m q
    obtain ⟨h1, h2, n, la, h3⟩ := q
    refine ⟨?_, ?_, n, la, ?_⟩
    · rw [h 0 k (by omega) (by omega) (Or.inl (by decide))]; exact h1
    · rw [h 1 k (by omega) (by omega) (Or.inl (by decide))]; exact h2
    · exact fr_sib (fun _ _ _ q => tm_branch (tm_pat d) q) (fun _ _ _ g q => fr_branch (tm_pat d) (fr_pat d) g q) n (fun a z g1 g2 => h a z (by omega) g2 (Or.inr (by omega))) h3
theorem fr_sub {V V' : Nat → Int → Int} (d : Nat) (k hi m : Int) (h : tFr V V' k hi) (q : tSub V d k hi m) : tSub V' d k hi m := by
  cases d with
  | zero => exact absurd q id
  | succ d => exact fr_pat d k hi m h q
/-- one more behind the last one -/
theorem sib_snoc {V V' : Nat → Int → Int} {R R' : Int → Int → Int → Prop} (hm : ∀ a b m, R a b m → a < b) (hR : ∀ a b m, tFr V V' a b → R a b m → R' a b m) : ∀ (n : Nat) {k la hi hi2 m m2 : Int}, tSib V R n k la hi m → (∀ q z, k ≤ z → z < hi → (q ≠ 2 ∨ z ≠ la) → V' q z = V q z) → V' 2 la = hi → R' hi hi2 m2 → V' 2 hi = -1 → tSib V' R' (n + 1) k hi hi2 (m + m2)
  | 0, k, la, hi, hi2, m, m2, q, h, hl, hr, he => by
    obtain ⟨h1, h2, h3⟩ := q
    subst h2
    exact ⟨hi, m, m2, hR _ _ _ (fun a z g1 g2 g3 => h a z g1 g2 (by omega)) h1, hl, ⟨hr, rfl, he⟩, rfl⟩
  | n + 1, k, la, hi, hi2, m, m2, q, h, hl, hr, he => by
    obtain ⟨k', m1, m3, h1, h2, h3, e⟩ := q
    have hk := hm _ _ _ h1
    have hk2 := tm_sib hm n h3
    refine ⟨k', m1, m3 + m2, hR _ _ _ (fun a z g1 g2 g3 => h a z g1 (by omega) (by omega)) h1, by rw [h 2 k (by omega) (by omega) (by omega)]; exact h2, sib_snoc hm hR n h3 (fun a z g1 g2 g3 => h a z (by omega) g2 g3) hl hr he, by omega⟩

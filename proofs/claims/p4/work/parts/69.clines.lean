/-- the lines that were read: stretches one behind the other up to hi, nd DOCUMENTS and np PATTERNS -/
def rI (fb fe fi : Nat → Int32) : Nat → Int → Int → Int → Prop
  | 0, hi, nd, np => 0 ≤ hi ∧ nd = 0 ∧ np = 0
  | n + 1, hi, nd, np => ∃ h9 d9 p9 : Int, rI fb fe fi n h9 d9 p9 ∧ h9 ≤ (fb n).toInt ∧ (fb n).toInt ≤ (fe n).toInt ∧ (fe n).toInt ≤ hi ∧ ((fi n = 0 ∧ (fe n).toInt - (fb n).toInt ≤ 60 ∧ nd = d9 + 1 ∧ np = p9) ∨ (fi n = 1 ∧ nd = d9 ∧ np = p9 + 1))
theorem rI.mono {fb fe fi : Nat → Int32} {n : Nat} {hi h2 nd np : Int} (h : rI fb fe fi n hi nd np) (hh : hi ≤ h2) : rI fb fe fi n h2 nd np := by
  cases n with
  | zero => exact ⟨Int.le_trans h.1 hh, h.2⟩
  | succ n =>
    obtain ⟨h9, d9, p9, a1, a2, a3, a4, a5⟩ := h
    exact ⟨h9, d9, p9, a1, a2, a3, Int.le_trans a4 hh, a5⟩
theorem rI.agree {fb fe fi gb ge gi : Nat → Int32} : ∀ {n : Nat} {hi nd np : Int}, rI fb fe fi n hi nd np → (∀ i, i < n → gb i = fb i ∧ ge i = fe i ∧ gi i = fi i) → rI gb ge gi n hi nd np
  | 0, _, _, _, h, _ => h
  | n + 1, hi, nd, np, h, hg => by
    obtain ⟨h9, d9, p9, a1, a2, a3, a4, a5⟩ := h
    obtain ⟨e1, e2, e3⟩ := hg n (Nat.lt_succ_self n)
    refine ⟨h9, d9, p9, rI.agree a1 (fun i hi => hg i (Nat.lt_succ_of_lt hi)), ?_, ?_, ?_, ?_⟩
    · rw [e1]; exact a2
    · rw [e1, e2]; exact a3
    · rw [e2]; exact a4
    · rw [e1, e2, e3]; exact a5
theorem rI.sum {fb fe fi : Nat → Int32} : ∀ {n : Nat} {hi nd np : Int}, rI fb fe fi n hi nd np → 0 ≤ nd ∧ 0 ≤ np ∧ nd + np = (n : Int) ∧ 0 ≤ hi
  | 0, hi, nd, np, h => by
    obtain ⟨a1, a2, a3⟩ := h
    refine ⟨by omega, by omega, ?_, a1⟩
    show nd + np = ((0 : Nat) : Int)
    omega
  | n + 1, hi, nd, np, h => by
    obtain ⟨h9, d9, p9, a1, a2, a3, a4, a5⟩ := h
    obtain ⟨b1, b2, b3, b4⟩ := rI.sum a1
    have e : ((n + 1 : Nat) : Int) = (n : Int) + 1 := by omega
    rcases a5 with ⟨-, -, c1, c2⟩ | ⟨-, c1, c2⟩
    · refine ⟨by omega, by omega, ?_, by omega⟩
      rw [e]; omega
    · refine ⟨by omega, by omega, ?_, by omega⟩
      rw [e]; omega
/-- the lines ahead of the k-th -/
theorem rI.pre {fb fe fi : Nat → Int32} : ∀ {n : Nat} {hi nd np : Int} (k : Nat), rI fb fe fi n hi nd np → k ≤ n → ∃ h9 d9 p9 : Int, rI fb fe fi k h9 d9 p9 ∧ h9 ≤ hi ∧ d9 ≤ nd ∧ p9 ≤ np
  | 0, hi, nd, np, k, h, hk => by
    obtain rfl : k = 0 := by omega
    exact ⟨hi, nd, np, h, Int.le_refl _, Int.le_refl _, Int.le_refl _⟩
  | n + 1, hi, nd, np, k, h, hk => by
    by_cases e : k = n + 1
    · subst e
      exact ⟨hi, nd, np, h, Int.le_refl _, Int.le_refl _, Int.le_refl _⟩
    · obtain ⟨h9, d9, p9, a1, a2, a3, a4, a5⟩ := h
      obtain ⟨h8, d8, p8, b1, b2, b3, b4⟩ := rI.pre k a1 (by omega)
      refine ⟨h8, d8, p8, b1, by omega, ?_, ?_⟩ <;> rcases a5 with ⟨-, -, c1, c2⟩ | ⟨-, c1, c2⟩ <;> omega
/-- the k-th line -/
theorem rI.at {fb fe fi : Nat → Int32} {n : Nat} {hi nd np : Int} {k : Nat} (h : rI fb fe fi n hi nd np) (hk : k < n) : 0 ≤ (fb k).toInt ∧ (fb k).toInt ≤ (fe k).toInt ∧ (fe k).toInt ≤ hi ∧ (fi k = 0 ∨ fi k = 1) ∧ (fi k = 0 → (fe k).toInt - (fb k).toInt ≤ 60) := by
  obtain ⟨h9, d9, p9, a1, a2, a3, a4⟩ := h.pre (k + 1) hk
  obtain ⟨h8, d8, p8, b1, b2, b3, b4, b5⟩ := a1
  have b6 := b1.sum
  refine ⟨by omega, b3, by omega, ?_, ?_⟩
  · rcases b5 with ⟨c1, -⟩ | ⟨c1, -⟩
    · exact Or.inl c1
    · exact Or.inr c1
  · intro h0
    rcases b5 with ⟨-, c1, -⟩ | ⟨c1, -⟩
    · exact c1
    · rw [h0] at c1
      exact absurd c1 (by decide)
/-- a line more -/
theorem rI.line {fb fe fi gb ge gi : Nat → Int32} {n : Nat} {hi h2 nd np : Int} {b e i : Int32} (h : rI fb fe fi n hi nd np) (h1 : ∀ k, gb k = if k = n then b else fb k) (h3 : ∀ k, ge k = if k = n then e else fe k) (h4 : ∀ k, gi k = if k = n then i else fi k) (hb : hi ≤ b.toInt) (he : b.toInt ≤ e.toInt) (h5 : e.toInt ≤ h2) :
    (i = 0 → e.toInt - b.toInt ≤ 60 → rI gb ge gi (n + 1) h2 (nd + 1) np) ∧ (i = 1 → rI gb ge gi (n + 1) h2 nd (np + 1)) := by
  have a0 : rI gb ge gi n hi nd np := h.agree (fun k hk => by
    have : k ≠ n := by omega
    rw [h1, h3, h4, if_neg this, if_neg this, if_neg this]
    exact ⟨rfl, rfl, rfl⟩)
  have e1 : gb n = b := by rw [h1, if_pos rfl]
  have e2 : ge n = e := by rw [h3, if_pos rfl]
  have e3 : gi n = i := by rw [h4, if_pos rfl]
  refine ⟨fun hi0 h6 => ?_, fun hi1 => ?_⟩
  · exact ⟨hi, nd, np, a0, by rw [e1]; exact hb, by rw [e1, e2]; exact he, by rw [e2]; exact h5, Or.inl ⟨e3.trans hi0, by rw [e1, e2]; exact h6, rfl, rfl⟩⟩
  · exact ⟨hi, nd, np, a0, by rw [e1]; exact hb, by rw [e1, e2]; exact he, by rw [e2]; exact h5, Or.inr ⟨e3.trans hi1, rfl, rfl⟩⟩

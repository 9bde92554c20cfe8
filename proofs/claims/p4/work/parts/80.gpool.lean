theorem poA.mono {W W' : va_W} {T T' : List (ClassId × FieldType)} {a n : Nat} {f : Nat → Int32} {cA : ClassId} (h : poA W T a n f cA) (hw : ∀ q ∈ W, q ∈ W') (ht : ∀ q ∈ T, q ∈ T') : poA W' T' a n f cA := ⟨hw _ h.1, ht _ h.2⟩
theorem poD.mono {W W' : va_W} {T T' : List (ClassId × FieldType)} {d : Nat} (h : poD W T d) (hw : ∀ q ∈ W, q ∈ W') (ht : ∀ q ∈ T, q ∈ T') : poD W' T' d := by
  obtain ⟨la, ta, m, n, fl, ft, cI, cJ, h1, h2, h3, h4⟩ := h
  exact ⟨la, ta, m, n, fl, ft, cI, cJ, hw _ h1, h2.mono hw ht, h3.mono hw ht, h4⟩
theorem poP2.mono {W W' : va_W} {T T' : List (ClassId × FieldType)} {pt : Nat} (h : poP2 W T pt) (hw : ∀ q ∈ W, q ∈ W') (ht : ∀ q ∈ T, q ∈ T') : poP2 W' T' pt := by
  obtain ⟨q, a0, a1, a2, a3, a4, a5, nx, nf, nk, nr, ns, nu, nl, fx, ff, fk, fr, fs, fu, fl, cX, cF, cK, cR, cS, cU, cL, h1, h2, h3, h4, h5, h6, h7, ⟨g1, g2, g3⟩, h8⟩ := h
  exact ⟨q, a0, a1, a2, a3, a4, a5, nx, nf, nk, nr, ns, nu, nl, fx, ff, fk, fr, fs, fu, fl, cX, cF, cK, cR, cS, cU, cL, hw _ h1, h2.mono hw ht, h3.mono hw ht, h4.mono hw ht, h5.mono hw ht, h6.mono hw ht, h7.mono hw ht, ⟨hw _ g1, ht _ g2, g3⟩, h8⟩
/-- a Book, what it holds, and the one ahead of it -/
def poB3 (W : va_W) (T : List (ClassId × FieldType)) (b : Nat) (e : Option Nat) : Prop := ∃ (ds ps nd np : Nat) (fd fp : Nat → Option Nat) (cD cP : ClassId), (b, .inr (0, [.ref ds, .ref ps, va_rf e])) ∈ W ∧ (ds, .inl (cD, nd, .inr (.inr (.inr (.inr fd))))) ∈ W ∧ (cD, .object "PatternGate$Doc") ∈ T ∧ (ps, .inl (cP, np, .inr (.inr (.inr (.inr fp))))) ∈ W ∧ (cP, .object "PatternGate$Pattern") ∈ T ∧ nd ≤ 10 ∧ np ≤ 8 ∧ (∀ i, i < nd → ∃ a, fd i = some a ∧ poD W T a) ∧ ∀ i, i < np → ∃ a, fp i = some a ∧ poP2 W T a
theorem poB3.mono {W W' : va_W} {T T' : List (ClassId × FieldType)} {b : Nat} {e : Option Nat} (h : poB3 W T b e) (hw : ∀ q ∈ W, q ∈ W') (ht : ∀ q ∈ T, q ∈ T') : poB3 W' T' b e := by
  obtain ⟨ds, ps, nd, np, fd, fp, cD, cP, h1, h2, h3, h4, h5, h6, h7, h8, h9⟩ := h
  refine ⟨ds, ps, nd, np, fd, fp, cD, cP, hw _ h1, hw _ h2, ht _ h3, hw _ h4, ht _ h5, h6, h7, fun i hi => ?_, fun i hi => ?_⟩
  · obtain ⟨a, q1, q2⟩ := h8 i hi
    exact ⟨a, q1, q2.mono hw ht⟩
  · obtain ⟨a, q1, q2⟩ := h9 i hi
    exact ⟨a, q1, q2.mono hw ht⟩
theorem poB3.poB {W : va_W} {T : List (ClassId × FieldType)} {b : Nat} {e : Option Nat} (h : poB3 W T b e) : poB W T b := by
  obtain ⟨ds, ps, nd, np, fd, fp, cD, cP, h1, h2, h3, h4, h5, h6, h7, h8, h9⟩ := h
  refine ⟨ds, ps, nd, np, e, fd, fp, cD, cP, h1, h2, h3, h4, h5, h6, h7, h8, fun i hi => ?_⟩
  obtain ⟨a, q1, q2⟩ := h9 i hi
  exact ⟨a, q1, q2.poP⟩
/-- the Books that can be come to -/
def gB (W : va_W) (T : List (ClassId × FieldType)) (B9 : Nat → Prop) : Prop := ∀ b, B9 b → ∃ e, poB3 W T b e ∧ ∀ a, e = some a → B9 a
theorem gB.mono {W W' : va_W} {T T' : List (ClassId × FieldType)} {B9 : Nat → Prop} (h : gB W T B9) (hw : ∀ q ∈ W, q ∈ W') (ht : ∀ q ∈ T, q ∈ T') : gB W' T' B9 := fun b hb => by
  obtain ⟨e, h1, h2⟩ := h b hb
  exact ⟨e, h1.mono hw ht, h2⟩
theorem gB.add {W : va_W} {T : List (ClassId × FieldType)} {B9 : Nat → Prop} {b : Nat} {e : Option Nat} (h : gB W T B9) (hn : poB3 W T b e) (he : ∀ a, e = some a → B9 a) : gB W T (fun x => B9 x ∨ x = b) := fun x hx => by
  rcases hx with hx | rfl
  · obtain ⟨e', h1, h2⟩ := h x hx
    exact ⟨e', h1, fun a ha => Or.inl (h2 a ha)⟩
  · exact ⟨e, hn, fun a ha => Or.inl (he a ha)⟩

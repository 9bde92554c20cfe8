def rT (f0 f1 : Nat → Int32) : Nat → Nat
  | 0 => 0
  | n + 1 => rT f0 f1 n + ((f1 n).toInt - (f0 n).toInt).toNat
def rD (f2 : Nat → Int32) : Nat → Nat
  | 0 => 0
  | n + 1 => rD f2 n + (if f2 n = 0 then 1 else 0)
def rQ (f2 : Nat → Int32) : Nat → Nat
  | 0 => 0
  | n + 1 => rQ f2 n + (if f2 n = 0 then 0 else 1)
theorem rI.cnt {f0 f1 f2 : Nat → Int32} : ∀ {n : Nat} {hi N M : Int}, rI f0 f1 f2 n hi N M → N = (rD f2 n : Int) ∧ M = (rQ f2 n : Int) ∧ (rT f0 f1 n : Int) ≤ hi
  | 0, hi, N, M, h => by
    obtain ⟨a1, a2, a3⟩ := h
    refine ⟨by rw [a2]; rfl, by rw [a3]; rfl, ?_⟩
    show ((0 : Nat) : Int) ≤ hi
    omega
  | n + 1, hi, N, M, h => by
    obtain ⟨h9, d9, p9, a1, a2, a3, a4, a5⟩ := h
    obtain ⟨b1, b2, b3⟩ := rI.cnt a1
    have e1 : rT f0 f1 (n + 1) = rT f0 f1 n + ((f1 n).toInt - (f0 n).toInt).toNat := rfl
    have e2 : rD f2 (n + 1) = rD f2 n + (if f2 n = 0 then 1 else 0) := rfl
    have e3 : rQ f2 (n + 1) = rQ f2 n + (if f2 n = 0 then 0 else 1) := rfl
    rcases a5 with ⟨c1, -, c2, c3⟩ | ⟨c1, c2, c3⟩
    · rw [if_pos c1] at e2 e3
      refine ⟨by omega, by omega, by omega⟩
    · have c4 : ¬ f2 n = 0 := by rw [c1]; decide
      rw [if_neg c4] at e2 e3
      refine ⟨by omega, by omega, by omega⟩
theorem rI.mon {f0 f1 f2 : Nat → Int32} {k : Nat} : ∀ {n : Nat}, k ≤ n → rD f2 k ≤ rD f2 n ∧ rQ f2 k ≤ rQ f2 n ∧ rT f0 f1 k ≤ rT f0 f1 n
  | 0, h => by
    obtain rfl : k = 0 := by omega
    exact ⟨Nat.le_refl _, Nat.le_refl _, Nat.le_refl _⟩
  | n + 1, h => by
    by_cases e : k = n + 1
    · subst e
      exact ⟨Nat.le_refl _, Nat.le_refl _, Nat.le_refl _⟩
    · obtain ⟨b1, b2, b3⟩ := rI.mon (f0 := f0) (f1 := f1) (f2 := f2) (k := k) (n := n) (by omega)
      have e1 : rT f0 f1 (n + 1) = rT f0 f1 n + ((f1 n).toInt - (f0 n).toInt).toNat := rfl
      have e2 : rD f2 (n + 1) = rD f2 n + (if f2 n = 0 then 1 else 0) := rfl
      have e3 : rQ f2 (n + 1) = rQ f2 n + (if f2 n = 0 then 0 else 1) := rfl
      refine ⟨by omega, by omega, by omega⟩
theorem rI.step9 {f0 f1 f2 : Nat → Int32} {n k : Nat} {hi N M : Int} (h : rI f0 f1 f2 n hi N M) (hk : k < n) : (0 ≤ (f0 k).toInt ∧ (f0 k).toInt ≤ (f1 k).toInt ∧ (f1 k).toInt ≤ hi) ∧ (rT f0 f1 (k + 1) : Int) = rT f0 f1 k + ((f1 k).toInt - (f0 k).toInt) ∧ (rT f0 f1 (k + 1) : Int) ≤ hi ∧
    ((f2 k = 0 ∧ (f1 k).toInt - (f0 k).toInt ≤ 60 ∧ rD f2 (k + 1) = rD f2 k + 1 ∧ rQ f2 (k + 1) = rQ f2 k ∧ (rD f2 k : Int) + 1 ≤ N ∧ (rQ f2 k : Int) ≤ M) ∨ (f2 k = 1 ∧ rD f2 (k + 1) = rD f2 k ∧ rQ f2 (k + 1) = rQ f2 k + 1 ∧ (rQ f2 k : Int) + 1 ≤ M ∧ (rD f2 k : Int) ≤ N)) := by
  obtain ⟨g1, g2, g3⟩ := h.cnt
  obtain ⟨m1, m2, m3⟩ := rI.mon (f0 := f0) (f1 := f1) (f2 := f2) (k := k + 1) (n := n) hk
  obtain ⟨a1, a2, a3, a4, a5⟩ := h.at hk
  have e1 : rT f0 f1 (k + 1) = rT f0 f1 k + ((f1 k).toInt - (f0 k).toInt).toNat := rfl
  have e2 : rD f2 (k + 1) = rD f2 k + (if f2 k = 0 then 1 else 0) := rfl
  have e3 : rQ f2 (k + 1) = rQ f2 k + (if f2 k = 0 then 0 else 1) := rfl
  refine ⟨⟨a1, a2, a3⟩, by omega, by omega, ?_⟩
  rcases a4 with c1 | c1
  · rw [if_pos c1] at e2 e3
    exact Or.inl ⟨c1, a5 c1, e2, by omega, by omega, by omega⟩
  · have c4 : ¬ f2 k = 0 := by rw [c1]; decide
    rw [if_neg c4] at e2 e3
    exact Or.inr ⟨c1, by omega, e3, by omega, by omega⟩
theorem pm4 {a b c d : va_W} : ((a ++ b) ++ (c ++ d)).Perm ((a ++ d) ++ (b ++ c)) := by
  rw [List.append_assoc, List.append_assoc]
  refine List.Perm.append_left a ?_
  rw [← List.append_assoc]
  exact List.perm_append_comm
theorem pm5 {a b c d x : va_W} : ((a ++ d) ++ ((b ++ c) ++ x)).Perm ((a ++ b) ++ (c ++ (d ++ x))) := by
  have h := (List.perm_append_comm_assoc d (b ++ c) x).append_left a
  simp only [List.append_assoc] at h ⊢
  exact h
theorem pm6 {a x c d : va_W} : ((a ++ x) ++ (c ++ d)).Perm (a ++ (c ++ (d ++ x))) := by
  rw [List.append_assoc]
  refine List.Perm.append_left a ?_
  rw [← List.append_assoc c]
  exact List.perm_append_comm
theorem D_right {A : Nat → Prop} {a b : va_W} (h : va_D A (a ++ b)) : va_D A b := by
  refine ⟨fun i j x y hi hj e => ?_, fun k q hk => ?_⟩
  · have h1 : (a ++ b)[a.length + i]? = some x := by rw [List.getElem?_append_right (by omega), Nat.add_sub_cancel_left]; exact hi
    have h2 : (a ++ b)[a.length + j]? = some y := by rw [List.getElem?_append_right (by omega), Nat.add_sub_cancel_left]; exact hj
    have := h.1 _ _ x y h1 h2 e
    omega
  · have h1 : (a ++ b)[a.length + k]? = some q := by rw [List.getElem?_append_right (by omega), Nat.add_sub_cancel_left]; exact hk
    exact h.2 _ q h1
theorem poP2.cell {W : va_W} {T : List (ClassId × FieldType)} {pt : Nat} (h : poP2 W T pt) : ∃ vs, (pt, .inr (5, vs)) ∈ W := by
  obtain ⟨q, a0, a1, a2, a3, a4, a5, nx, nf, nk, nr, ns, nu, nl, fx, ff, fk, fr, fs, fu, fl, cX, cF, cK, cR, cS, cU, cL, h1, -⟩ := h
  exact ⟨_, h1⟩
/-- the first n of a row are there -/
def gA (f : Nat → Option Nat) (P : Nat → Prop) (n : Int) : Prop := ∀ i : Nat, (i : Int) < n → ∃ a, f i = some a ∧ P a
theorem gA.mono {f : Nat → Option Nat} {P P' : Nat → Prop} {n : Int} (h : gA f P n) (hp : ∀ a, P a → P' a) : gA f P' n := fun i hi => by
  obtain ⟨a, h1, h2⟩ := h i hi
  exact ⟨a, h1, hp a h2⟩
theorem gA.put {f g : Nat → Option Nat} {P : Nat → Prop} {n k : Int} {i : Int32} {b : Nat} (h : gA f P n) (hb : P b) (e : va_up f i.toNatClampNeg (some b) = g) (hi : i.toInt = n) (hk : k = n + 1) : gA g P k := fun j hj => by
  have s4 : i.toNatClampNeg = i.toInt.toNat := rfl
  rw [← e, s4]
  unfold va_up
  by_cases hk : j = i.toInt.toNat
  · rw [if_pos hk]; exact ⟨b, rfl, hb⟩
  · rw [if_neg hk]; exact h j (by omega)
theorem gA.copy {f g0 g : Nat → Option Nat} {P : Nat → Prop} {n : Nat} {sp dp c : Int32} (h : ∀ j, j < n → ∃ a, f j = some a ∧ P a) (e : va_cpy f g0 sp.toNatClampNeg dp.toNatClampNeg c.toNatClampNeg = g) (hs : sp.toInt = 0) (hd : dp.toInt = 0) (hc : c.toInt = n) : gA g P n := fun j hj => by
  have s1 : sp.toNatClampNeg = 0 := by show sp.toInt.toNat = 0; omega
  have s2 : dp.toNatClampNeg = 0 := by show dp.toInt.toNat = 0; omega
  have s3 : c.toNatClampNeg = n := by show c.toInt.toNat = n; omega
  rw [← e, s1, s2, s3]
  unfold va_cpy
  rw [if_pos ⟨Nat.zero_le _, by omega⟩, show 0 + (j - 0) = j by omega]
  exact h j (by omega)
theorem pm7 {a x c d : va_W} : ((a ++ x) ++ (c ++ d)).Perm ((a ++ c) ++ (x ++ d)) := by
  rw [List.append_assoc, List.append_assoc]
  refine List.Perm.append_left a ?_
  rw [← List.append_assoc, ← List.append_assoc]
  exact List.Perm.append_right d List.perm_append_comm
/-- what makes the new Book one -/
def bZ (W9 : va_W) (T9 : List (ClassId × FieldType)) (WN : va_W) (TN : List (ClassId × FieldType)) (b a qd qp nd np : Nat) (fd fp : Nat → Option Nat) (cD cP : ClassId) : Prop := ∀ (W' : va_W) (T' : List (ClassId × FieldType)), (∀ q ∈ W9, q ∈ W') → (∀ q ∈ T9, q ∈ T') → (∀ q ∈ WN, q ∈ W') → (∀ q ∈ TN, q ∈ T') → (qd, .inl (cD, nd, .inr (.inr (.inr (.inr fd))))) ∈ W' → (cD, .object "PatternGate$Doc") ∈ T' → (qp, .inl (cP, np, .inr (.inr (.inr (.inr fp))))) ∈ W' → (cP, .object "PatternGate$Pattern") ∈ T' → (a, .inr (0, [.ref qd, .ref qp, .ref b])) ∈ W' → poB3 W' T' a (some b)

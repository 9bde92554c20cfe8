/-! what a state is: the fields of a PatternGate, a Reader and a PatternGateModel, by the numbers that change and the places of their arrays -/
abbrev gF (q : Nat → Nat) (a0 a1 a2 a3 : Int32) (a4 : Nat) (a5 a6 : Int32) : List Value := [.int a0, .ref (q 0), .int a1, .int a2, .int a3, .ref a4, .int a5, .ref (q 1), .ref (q 2), .int a6, .ref (q 3), .ref (q 4), .ref (q 5), .ref (q 6), .ref (q 7), .ref (q 8)]
abbrev rF (q : Nat → Nat) (a0 a1 a2 a3 a4 a5 a6 a7 : Int32) : List Value := [.int a0, .int a1, .int a2, .int a3, .int a4, .ref (q 0), .ref (q 1), .ref (q 2), .int a5, .int a6, .int a7]
abbrev mF (q : Nat → Nat) (a0 a1 a2 a3 a4 a5 a6 a7 a8 a9 a10 : Int32) : List Value := [.ref (q 0), .int a0, .int a1, .int a2, .ref (q 1), .ref (q 2), .int a3, .int a4, .int a5, .int a6, .int a7, .int a8, .int a9, .int a10, .int 0, .ref (q 3), .ref (q 4), .ref (q 5), .ref (q 6), .ref (q 7), .ref (q 8), .int 0, .int 0, .int 0, .int 0, .ref (q 9), .ref (q 10), .int 0, .ref (q 11), .ref (q 12), .ref (q 13), .int 0, .int 0, .ref (q 14), .int 0, .ref (q 15), .ref (q 16), .ref (q 17), .ref (q 18), .ref (q 19), .ref (q 20), .ref (q 21), .int 0, .int 0, .ref (q 22), .ref (q 23), .ref (q 24), .ref (q 25)]
abbrev gW (x : Nat) (q : Nat → Nat) (b d0 p0 : Nat) (cT cD cP cB cU : ClassId) (r : Nat → Nat) : va_W := [(x, .inr (9, gF q 0 0 (-1) (-1) b 0 0)), (q 0, .inl (cT, 900, .inl (fun _ => 0))), (b, .inr (0, [.ref d0, .ref p0, .null])), (d0, .inl (cD, 0, .inr (.inr (.inr (.inr (fun _ => none)))))), (p0, .inl (cP, 0, .inr (.inr (.inr (.inr (fun _ => none)))))), (q 1, .inl (cB, 3, .inr (.inr (.inr (.inr (fun _ => none)))))), (q 2, .inl (cU, 3, .inl (fun _ => 0))), (q 3, .inr (6, rF r 0 0 0 0 0 0 0 0))]
abbrev gT (cT cD cP cB cU : ClassId) : List (ClassId × FieldType) := [(cT, .int), (cD, .object "PatternGate$Doc"), (cP, .object "PatternGate$Pattern"), (cB, .object "PatternGate$Book"), (cU, .int)]
abbrev mW (y : Nat) (z : Nat → Nat) (mA mT mX mC : ClassId) : va_W := [(y, .inr (10, mF z 0 0 0 0 0 0 0 0 0 (-1) (-1))), (z 0, .inl (mA, 101660, .inl (fun _ => 0))), (z 1, .inl (mT, 900, .inl (fun _ => 0))), (z 2, .inl (mX, 900, .inl (fun _ => 0))), (z 23, .inl (mC, 17576, .inl (fun _ => 0)))]
abbrev mT9 (mA mT mX mC : ClassId) : List (ClassId × FieldType) := [(mA, .int), (mT, .byte), (mX, .byte), (mC, .boolean)]
theorem zz_i {k : Nat} : upd (fun _ => (0 : Int32)) k 0 = fun _ => 0 := by
  funext j; simp [upd]
theorem zz_b {k : Nat} : upd (fun _ => (0 : Int32)) k (vp_nar .byte 0) = fun _ => 0 := by
  funext j; simp only [upd]; split <;> rfl
theorem zz_z {k : Nat} : upd (fun _ => (0 : Int32)) k (vp_nar .boolean 0) = fun _ => 0 := by
  funext j; simp only [upd]; split <;> rfl
theorem zz_eq {n : Int32} (h1 : ¬ n < 0) (h2 : ¬ 0 < n) : n = 0 := by
  rw [Int32.lt_iff_toInt_lt, Int32.toInt_zero] at h1 h2
  apply Int32.toInt_inj.mp
  rw [Int32.toInt_zero]; omega
theorem zz_le {n : Int32} (h1 : 0 ≤ n) (h2 : n ≤ 0) : n = 0 := by
  rw [Int32.le_iff_toInt_le, Int32.toInt_zero] at h1 h2
  apply Int32.toInt_inj.mp
  rw [Int32.toInt_zero]; omega
theorem zz_dn {n : Int32} (h1 : 0 ≤ n) (h2 : n < 0) : False := by
  rw [Int32.le_iff_toInt_le, Int32.toInt_zero] at h1
  rw [Int32.lt_iff_toInt_lt, Int32.toInt_zero] at h2
  omega
theorem zz_add (a b : Nat) : nI a + nI b = nI (a + b) := (Int32.ofNat_add a b).symm
def s_load (n : Int32) : Int32 := if n = 0 then 0 else -1
def s_many (w : Int32) : Int32 := if w.toInt < 0 ∨ 5 < w.toInt then -1 else 0
theorem zz_ge {n : Int32} (h : ¬ n < 0) : 0 ≤ n := by
  rw [Int32.lt_iff_toInt_lt, Int32.toInt_zero] at h
  rw [Int32.le_iff_toInt_le, Int32.toInt_zero]; omega
theorem s_load_lt {n : Int32} (h : n < 0) : s_load n = -1 := if_neg (fun q => by subst q; exact absurd h (by decide))
theorem s_load_gt {n : Int32} (h : ¬ n ≤ 0) : s_load n = -1 := if_neg (fun q => by subst q; exact absurd (by decide) h)
theorem s_load_no {n : Int32} (h : ¬ (0 ≤ n ∧ n ≤ 0)) : s_load n = -1 := if_neg (fun q => by subst q; exact h ⟨by decide, by decide⟩)

theorem wb_tb (n : Nat) : (lN n).toBitVec = BitVec.ofNat 64 n := rfl
theorem wb_inj {a b : Int64} (h : a.toBitVec = b.toBitVec) : a = b := Int64.toBitVec_inj.mp h
theorem wb_c : ∀ k, k < 64 → ((nI k).toInt64 &&& 63) = lN k := by decide +kernel
theorem wb_sm : ∀ k, k < 64 → (BitVec.ofNat 64 k).smod 64 = BitVec.ofNat 64 k := by decide +kernel
theorem wb_shl (n : Nat) {k : Nat} (hk : k < 64) : lN n <<< ((nI k).toInt64 &&& 63) = lN (n * 2 ^ k) := by
  rw [wb_c k hk]
  apply wb_inj
  rw [Int64.toBitVec_shiftLeft, wb_tb, wb_tb, wb_tb, wb_sm k hk]
  apply BitVec.eq_of_toNat_eq
  rw [BitVec.shiftLeft_eq', BitVec.toNat_shiftLeft, BitVec.toNat_ofNat, BitVec.toNat_ofNat, BitVec.toNat_ofNat, Nat.mod_eq_of_lt (show k < 2 ^ 64 by omega), Nat.shiftLeft_eq, Nat.mul_mod, Nat.mod_mod, ← Nat.mul_mod]
theorem pf_lI {a : Nat} (h : a < 2 ^ 63) : (lN a).toInt = (a : Int) := lg_ofNat_toInt h
theorem pf_shr {a d : Nat} {D : Int64} (hD : (D.toBitVec.smod 64).toNat = d) (h : a < 2 ^ 62) : lN a >>> D = lN (a / 2 ^ d) := by
  have hd : a / 2 ^ d ≤ a := Nat.div_le_self _ _
  apply Int64.toInt_inj.mp
  have e : (lN a >>> D).toInt = (lN a).toInt >>> d := by
    rw [← hD]
    exact BitVec.toInt_sshiftRight ..
  rw [e, Int.shiftRight_eq_div_pow, pf_lI (by omega), pf_lI (by omega)]
  rfl
/-- a row of n letters -/
def rLen (r : Int64) (n : Nat) : Prop := ∃ x : Nat, x < 2 ^ (5 * n) ∧ r = lN (n * 2 ^ 50 + x)
theorem rLen_0 : rLen 0 0 := ⟨0, by decide, rfl⟩
theorem rl_bd {n x : Nat} (hn : n ≤ 10) (hx : x < 2 ^ (5 * n)) : x < 2 ^ 50 := Nat.lt_of_lt_of_le hx (Nat.pow_le_pow_right (by decide) (by omega))
theorem rl_long {r w : Int64} {y : Int32} {n : Nat} (h : rLen r n) (hn : n ≤ 10) (e : w = r >>> ((50 : Int32).toInt64 &&& 63)) (e2 : y = w.toInt32) : y.toInt = (n : Int) := by
  obtain ⟨x, hx, rfl⟩ := h
  have h1 := rl_bd hn hx
  subst e; subst e2
  rw [pf_shr (d := 50) (by decide) (by omega), show (n * 2 ^ 50 + x) / 2 ^ 50 = n by omega, lN_i]
  exact nI_toInt (by omega)
theorem rl_with {r v w z : Int64} {i2 y a : Int32} {n : Nat} (h : rLen r n) (hn : n ≤ 9) (h0 : 0 ≤ i2.toInt) (h1 : i2.toInt ≤ 31) (hy : y.toInt = (n : Int)) (ea : a = 5 * y) (ev : v = r + 1125899906842624) (ew : w = i2.toInt64 <<< (a.toInt64 &&& 63)) (ez : z = v + w) : rLen z (n + 1) := by
  obtain ⟨x, hx, rfl⟩ := h
  have hb := rl_bd (by omega) hx
  obtain ⟨j, hj, e1⟩ := nI_of (i_nn (x := i2) rfl h0)
  have hj2 : j ≤ 31 := by rw [e1, nI_toInt hj] at h1; omega
  have ha : a = nI (5 * n) := by
    apply Int32.toInt_inj.mp
    rw [nI_toInt (by omega), i_mul (a := 5) (b := n) (by decide) hy ea (by omega) (by omega)]
    omega
  subst ez; subst ev; subst ew; subst e1; subst ha
  rw [nI_l hj, wb_shl _ (by omega), show (1125899906842624 : Int64) = lN (2 ^ 50) from rfl, lN_add, lN_add]
  have hp : 2 ^ (5 * (n + 1)) = 32 * 2 ^ (5 * n) := by rw [show 5 * (n + 1) = 5 * n + 5 by omega, Nat.pow_add]; omega
  refine ⟨x + j * 2 ^ (5 * n), ?_, ?_⟩
  · rw [hp]
    have : j * 2 ^ (5 * n) ≤ 31 * 2 ^ (5 * n) := Nat.mul_le_mul_right _ hj2
    omega
  · generalize j * 2 ^ (5 * n) = q
    exact congrArg lN (by omega)
theorem l_and31 {x y : Int64} {z : Int32} (e : y = x &&& 31) (e2 : z = y.toInt32) : 0 ≤ z.toInt ∧ z.toInt ≤ 31 := by
  have h1 : y.toBitVec.toNat ≤ 31 := by
    subst e
    rw [Int64.toBitVec_and, BitVec.toNat_and]
    exact Nat.and_le_right
  have h2 : y = lN y.toBitVec.toNat := wb_inj (by rw [wb_tb]; simp)
  subst e2
  rw [h2, lN_i, nI_toInt (by omega)]
  omega
/-- so many cells, by their numbers -/
def fam (n : Nat) (f : Nat → Nat × va_E) : va_W := (List.range n).map f
theorem fam_len (n : Nat) (f : Nat → Nat × va_E) : (fam n f).length = n := by unfold fam; simp
theorem ga (f : Nat → Nat × va_E) {n k : Nat} (h : k < n) : (fam n f)[k]? = some (f k) := by
  unfold fam
  rw [List.getElem?_map, List.getElem?_range h]; rfl
theorem gs (f : Nat → Nat × va_E) {n k : Nat} (v : Nat × va_E) : (fam n f).set k v = fam n (fun j => if j = k then v else f j) := by
  apply List.ext_getElem?
  intro i
  rw [List.getElem?_set, fam_len]
  by_cases hi : i < n
  · rw [ga _ hi, ga _ hi]
    by_cases e : k = i
    · subst e
      rw [if_pos rfl, if_pos hi, if_pos rfl]
    · rw [if_neg e, if_neg (fun h => e h.symm)]
  · have h1 : (fam n f)[i]? = none := by rw [List.getElem?_eq_none_iff, fam_len]; omega
    have h2 : (fam n (fun j => if j = k then v else f j))[i]? = none := by rw [List.getElem?_eq_none_iff, fam_len]; omega
    rw [h1, h2]
    by_cases e : k = i
    · subst e
      rw [if_pos rfl, if_neg hi]
    · rw [if_neg e]
theorem at_mid (a : va_W) (f : Nat → Nat × va_E) (b : va_W) {n k o : Nat} (ha : a.length = o) (h : k < n) : (a ++ (fam n f ++ b))[o + k]? = some (f k) := by
  rw [List.getElem?_append_right (by omega), ha, show o + k - o = k by omega, List.getElem?_append_left (by rw [fam_len]; omega)]
  exact ga f h
theorem set_mid (a : va_W) (f : Nat → Nat × va_E) (b : va_W) {n k o : Nat} (v : Nat × va_E) (f' : Nat → Nat × va_E) (hf : ∀ j, f' j = if j = k then v else f j) (ha : a.length = o) (h : k < n) : (a ++ (fam n f ++ b)).set (o + k) v = a ++ (fam n f' ++ b) := by
  rw [List.set_append_right _ _ (by omega), ha, show o + k - o = k by omega, List.set_append_left _ _ (by rw [fam_len]; omega), gs]
  rw [show f' = (fun j => if j = k then v else f j) from funext hf]
/-- another function at one place -/
def uF {α : Type} (f : Nat → α) (k : Nat) (g : α) : Nat → α := fun j => if j = k then g else f j
theorem uF_s {α : Type} {f f' : Nat → α} {k : Nat} {g : α} (e : uF f k g = f') : f' k = g := by subst e; simp [uF]
theorem uF_n {α : Type} {f f' : Nat → α} {k j : Nat} {g : α} (e : uF f k g = f') (h : j ≠ k) : f' j = f j := by subst e; simp [uF, h]
def cL (a : Nat → Nat) (c : Nat → ClassId) (L : Nat → Nat → Int64) : Nat → Nat × va_E := fun s => (a (100 + s), .inl (c 30, 40, .inr (.inl (L s))))
def cP (a : Nat → Nat) (c : Nat → ClassId) (P : Nat → Nat → Nat) : Nat → Nat × va_E := fun n => (a (200 + n), .inl (c 31, 12, .inr (.inr (.inr (.inr (fun i => some (a (300 + (12 * n + P n i)))))))))
def cN (a : Nat → Nat) (c : Nat → ClassId) (Nn : Nat → Nat → Int32) : Nat → Nat × va_E := fun j => (a (300 + j), .inl (c 32, 170, .inl (Nn j)))
def cM (a : Nat → Nat) (c : Nat → ClassId) (M : Nat → Nat → Int32) : Nat → Nat × va_E := fun k => (a (1100 + k), .inl (c 33, 170, .inl (M k)))
def cO (a : Nat → Nat) (c : Nat → ClassId) (O : Nat → Nat → Int32) : Nat → Nat × va_E := fun k => (a (1300 + k), .inl (c 34, 170, .inl (O k)))
def mHd (ad : Nat → Nat) (kc : Nat → ClassId) (x0 x1 x2 x3 x4 x5 x6 x7 x8 x9 x10 x11 x12 x13 x14 x15 x16 x17 x18 x19 x20 x21 : Int32) (f0 f1 f2 f3 f4 f5 f6 f7 f8 f9 f10 f11 f12 f13 f14 f15 f16 f17 f18 f19 f20 f21 : Nat → Int32) : va_W := [(ad 0, .inr (10, [.ref (ad 1), .int x0, .int x1, .int x2, .ref (ad 2), .ref (ad 3), .int x3, .int x4, .int x5, .int x6, .int x7, .int x8, .int x9, .int x10, .int x11, .ref (ad 4), .ref (ad 5), .ref (ad 6), .ref (ad 7), .ref (ad 8), .ref (ad 9), .int x12, .int x13, .int x14, .int x15, .ref (ad 23), .ref (ad 10), .int x16, .ref (ad 24), .ref (ad 25), .ref (ad 11), .int x17, .int x18, .ref (ad 12), .int x19, .ref (ad 13), .ref (ad 14), .ref (ad 15), .ref (ad 16), .ref (ad 17), .ref (ad 18), .ref (ad 19), .int x20, .int x21, .ref (ad 20), .ref (ad 21), .ref (ad 22), .ref (ad 26)])), (ad 1, .inl (kc 0, 101660, .inl f0)), (ad 2, .inl (kc 1, 900, .inl f1)), (ad 3, .inl (kc 2, 900, .inl f2)), (ad 4, .inl (kc 3, 1600, .inl f3)), (ad 5, .inl (kc 4, 1600, .inl f4)), (ad 6, .inl (kc 5, 1600, .inl f5)), (ad 7, .inl (kc 6, 1600, .inl f6)), (ad 8, .inl (kc 7, 1600, .inl f7)), (ad 9, .inl (kc 8, 1600, .inl f8)), (ad 10, .inl (kc 9, 90, .inl f9)), (ad 11, .inl (kc 10, 60, .inl f10)), (ad 12, .inl (kc 11, 150, .inl f11)), (ad 13, .inl (kc 12, 1600, .inl f12)), (ad 14, .inl (kc 13, 1600, .inl f13)), (ad 15, .inl (kc 14, 1600, .inl f14)), (ad 16, .inl (kc 15, 1600, .inl f15)), (ad 17, .inl (kc 16, 1600, .inl f16)), (ad 18, .inl (kc 17, 24, .inl f17)), (ad 19, .inl (kc 18, 24, .inl f18)), (ad 20, .inl (kc 19, 170, .inl f19)), (ad 21, .inl (kc 20, 17576, .inl f20)), (ad 22, .inl (kc 21, 2100, .inl f21)), (ad 23, .inl (kc 22, 90, .inr (.inr (.inr (.inr (fun i => some (ad (100 + i)))))))), (ad 24, .inl (kc 23, 60, .inr (.inr (.inr (.inr (fun i => some (ad (200 + i)))))))), (ad 25, .inl (kc 24, 150, .inr (.inr (.inr (.inr (fun i => some (ad (1100 + i)))))))), (ad 26, .inl (kc 25, 12, .inr (.inr (.inr (.inr (fun i => some (ad (1300 + i))))))))]
theorem mHd_len {ad : Nat → Nat} {kc : Nat → ClassId} {x0 x1 x2 x3 x4 x5 x6 x7 x8 x9 x10 x11 x12 x13 x14 x15 x16 x17 x18 x19 x20 x21 : Int32} {f0 f1 f2 f3 f4 f5 f6 f7 f8 f9 f10 f11 f12 f13 f14 f15 f16 f17 f18 f19 f20 f21 : Nat → Int32} : (mHd ad kc x0 x1 x2 x3 x4 x5 x6 x7 x8 x9 x10 x11 x12 x13 x14 x15 x16 x17 x18 x19 x20 x21 f0 f1 f2 f3 f4 f5 f6 f7 f8 f9 f10 f11 f12 f13 f14 f15 f16 f17 f18 f19 f20 f21).length = 27 := rfl
set_option maxRecDepth 100000 in
theorem mW_eq {ad : Nat → Nat} {kc : Nat → ClassId} {x0 x1 x2 x3 x4 x5 x6 x7 x8 x9 x10 x11 x12 x13 x14 x15 x16 x17 x18 x19 x20 x21 : Int32} {f0 f1 f2 f3 f4 f5 f6 f7 f8 f9 f10 f11 f12 f13 f14 f15 f16 f17 f18 f19 f20 f21 : Nat → Int32} {fL : Nat → Nat → Int64} {fN : Nat → Nat → Int32} {fP : Nat → Nat → Nat} {fM fO : Nat → Nat → Int32} : (mW ad kc x0 x1 x2 x3 x4 x5 x6 x7 x8 x9 x10 x11 x12 x13 x14 x15 x16 x17 x18 x19 x20 x21 f0 f1 f2 f3 f4 f5 f6 f7 f8 f9 f10 f11 f12 f13 f14 f15 f16 f17 f18 f19 f20 f21 fL fN fP fM fO) = mHd ad kc x0 x1 x2 x3 x4 x5 x6 x7 x8 x9 x10 x11 x12 x13 x14 x15 x16 x17 x18 x19 x20 x21 f0 f1 f2 f3 f4 f5 f6 f7 f8 f9 f10 f11 f12 f13 f14 f15 f16 f17 f18 f19 f20 f21 ++ (fam 90 (cL ad kc fL) ++ (fam 60 (cP ad kc fP) ++ (fam 720 (cN ad kc fN) ++ (fam 150 (cM ad kc fM) ++ fam 12 (cO ad kc fO))))) := rfl
set_option maxRecDepth 100000 in
theorem mW_L9 {ad : Nat → Nat} {kc : Nat → ClassId} {x0 x1 x2 x3 x4 x5 x6 x7 x8 x9 x10 x11 x12 x13 x14 x15 x16 x17 x18 x19 x20 x21 : Int32} {f0 f1 f2 f3 f4 f5 f6 f7 f8 f9 f10 f11 f12 f13 f14 f15 f16 f17 f18 f19 f20 f21 : Nat → Int32} {fL : Nat → Nat → Int64} {fN : Nat → Nat → Int32} {fP : Nat → Nat → Nat} {fM fO : Nat → Nat → Int32} : (mW ad kc x0 x1 x2 x3 x4 x5 x6 x7 x8 x9 x10 x11 x12 x13 x14 x15 x16 x17 x18 x19 x20 x21 f0 f1 f2 f3 f4 f5 f6 f7 f8 f9 f10 f11 f12 f13 f14 f15 f16 f17 f18 f19 f20 f21 fL fN fP fM fO) = mHd ad kc x0 x1 x2 x3 x4 x5 x6 x7 x8 x9 x10 x11 x12 x13 x14 x15 x16 x17 x18 x19 x20 x21 f0 f1 f2 f3 f4 f5 f6 f7 f8 f9 f10 f11 f12 f13 f14 f15 f16 f17 f18 f19 f20 f21 ++ (fam 90 (cL ad kc fL) ++ (fam 60 (cP ad kc fP) ++ (fam 720 (cN ad kc fN) ++ (fam 150 (cM ad kc fM) ++ fam 12 (cO ad kc fO))))) := by exact mW_eq
set_option maxRecDepth 100000 in
theorem mW_L {ad : Nat → Nat} {kc : Nat → ClassId} {x0 x1 x2 x3 x4 x5 x6 x7 x8 x9 x10 x11 x12 x13 x14 x15 x16 x17 x18 x19 x20 x21 : Int32} {f0 f1 f2 f3 f4 f5 f6 f7 f8 f9 f10 f11 f12 f13 f14 f15 f16 f17 f18 f19 f20 f21 : Nat → Int32} {fL : Nat → Nat → Int64} {fN : Nat → Nat → Int32} {fP : Nat → Nat → Nat} {fM fO : Nat → Nat → Int32} {k : Nat} (h : k < 90) : (mW ad kc x0 x1 x2 x3 x4 x5 x6 x7 x8 x9 x10 x11 x12 x13 x14 x15 x16 x17 x18 x19 x20 x21 f0 f1 f2 f3 f4 f5 f6 f7 f8 f9 f10 f11 f12 f13 f14 f15 f16 f17 f18 f19 f20 f21 fL fN fP fM fO)[27 + k]? = some (ad (100 + k), .inl (kc 30, 40, .inr (.inl (fL k)))) := by
  rw [mW_L9]
  exact at_mid (n := 90) (o := 27) (k := k) _ (cL ad kc fL) _ (by simp only [List.length_append, mHd_len, fam_len]) h
set_option maxRecDepth 100000 in
theorem mW_Ls {ad : Nat → Nat} {kc : Nat → ClassId} {x0 x1 x2 x3 x4 x5 x6 x7 x8 x9 x10 x11 x12 x13 x14 x15 x16 x17 x18 x19 x20 x21 : Int32} {f0 f1 f2 f3 f4 f5 f6 f7 f8 f9 f10 f11 f12 f13 f14 f15 f16 f17 f18 f19 f20 f21 : Nat → Int32} {fL : Nat → Nat → Int64} {fN : Nat → Nat → Int32} {fP : Nat → Nat → Nat} {fM fO : Nat → Nat → Int32} {k : Nat} {g : Nat → Int64} (h : k < 90) : (mW ad kc x0 x1 x2 x3 x4 x5 x6 x7 x8 x9 x10 x11 x12 x13 x14 x15 x16 x17 x18 x19 x20 x21 f0 f1 f2 f3 f4 f5 f6 f7 f8 f9 f10 f11 f12 f13 f14 f15 f16 f17 f18 f19 f20 f21 fL fN fP fM fO).set (27 + k) (ad (100 + k), .inl (kc 30, 40, .inr (.inl g))) = (mW ad kc x0 x1 x2 x3 x4 x5 x6 x7 x8 x9 x10 x11 x12 x13 x14 x15 x16 x17 x18 x19 x20 x21 f0 f1 f2 f3 f4 f5 f6 f7 f8 f9 f10 f11 f12 f13 f14 f15 f16 f17 f18 f19 f20 f21 (uF fL k g) fN fP fM fO) := by
  rw [mW_L9, mW_L9]
  exact set_mid (n := 90) (o := 27) (k := k) _ (cL ad kc fL) _ _ (cL ad kc (uF fL k g)) (fun j => by
    unfold cL uF
    by_cases e : j = k
    · subst e; simp
    · simp [e]) (by simp only [List.length_append, mHd_len, fam_len]) h
set_option maxRecDepth 100000 in
theorem mW_P9 {ad : Nat → Nat} {kc : Nat → ClassId} {x0 x1 x2 x3 x4 x5 x6 x7 x8 x9 x10 x11 x12 x13 x14 x15 x16 x17 x18 x19 x20 x21 : Int32} {f0 f1 f2 f3 f4 f5 f6 f7 f8 f9 f10 f11 f12 f13 f14 f15 f16 f17 f18 f19 f20 f21 : Nat → Int32} {fL : Nat → Nat → Int64} {fN : Nat → Nat → Int32} {fP : Nat → Nat → Nat} {fM fO : Nat → Nat → Int32} : (mW ad kc x0 x1 x2 x3 x4 x5 x6 x7 x8 x9 x10 x11 x12 x13 x14 x15 x16 x17 x18 x19 x20 x21 f0 f1 f2 f3 f4 f5 f6 f7 f8 f9 f10 f11 f12 f13 f14 f15 f16 f17 f18 f19 f20 f21 fL fN fP fM fO) = (mHd ad kc x0 x1 x2 x3 x4 x5 x6 x7 x8 x9 x10 x11 x12 x13 x14 x15 x16 x17 x18 x19 x20 x21 f0 f1 f2 f3 f4 f5 f6 f7 f8 f9 f10 f11 f12 f13 f14 f15 f16 f17 f18 f19 f20 f21 ++ fam 90 (cL ad kc fL)) ++ (fam 60 (cP ad kc fP) ++ (fam 720 (cN ad kc fN) ++ (fam 150 (cM ad kc fM) ++ fam 12 (cO ad kc fO)))) := by rw [mW_eq]; simp only [List.append_assoc]
set_option maxRecDepth 100000 in
theorem mW_P {ad : Nat → Nat} {kc : Nat → ClassId} {x0 x1 x2 x3 x4 x5 x6 x7 x8 x9 x10 x11 x12 x13 x14 x15 x16 x17 x18 x19 x20 x21 : Int32} {f0 f1 f2 f3 f4 f5 f6 f7 f8 f9 f10 f11 f12 f13 f14 f15 f16 f17 f18 f19 f20 f21 : Nat → Int32} {fL : Nat → Nat → Int64} {fN : Nat → Nat → Int32} {fP : Nat → Nat → Nat} {fM fO : Nat → Nat → Int32} {k : Nat} (h : k < 60) : (mW ad kc x0 x1 x2 x3 x4 x5 x6 x7 x8 x9 x10 x11 x12 x13 x14 x15 x16 x17 x18 x19 x20 x21 f0 f1 f2 f3 f4 f5 f6 f7 f8 f9 f10 f11 f12 f13 f14 f15 f16 f17 f18 f19 f20 f21 fL fN fP fM fO)[117 + k]? = some (ad (200 + k), .inl (kc 31, 12, .inr (.inr (.inr (.inr (fun i => some (ad (300 + (12 * k + fP k i))))))))) := by
  rw [mW_P9]
  exact at_mid (n := 60) (o := 117) (k := k) _ (cP ad kc fP) _ (by simp only [List.length_append, mHd_len, fam_len]) h
set_option maxRecDepth 100000 in
theorem mW_Ps {ad : Nat → Nat} {kc : Nat → ClassId} {x0 x1 x2 x3 x4 x5 x6 x7 x8 x9 x10 x11 x12 x13 x14 x15 x16 x17 x18 x19 x20 x21 : Int32} {f0 f1 f2 f3 f4 f5 f6 f7 f8 f9 f10 f11 f12 f13 f14 f15 f16 f17 f18 f19 f20 f21 : Nat → Int32} {fL : Nat → Nat → Int64} {fN : Nat → Nat → Int32} {fP : Nat → Nat → Nat} {fM fO : Nat → Nat → Int32} {k : Nat} {g : Nat → Nat} (h : k < 60) : (mW ad kc x0 x1 x2 x3 x4 x5 x6 x7 x8 x9 x10 x11 x12 x13 x14 x15 x16 x17 x18 x19 x20 x21 f0 f1 f2 f3 f4 f5 f6 f7 f8 f9 f10 f11 f12 f13 f14 f15 f16 f17 f18 f19 f20 f21 fL fN fP fM fO).set (117 + k) (ad (200 + k), .inl (kc 31, 12, .inr (.inr (.inr (.inr (fun i => some (ad (300 + (12 * k + g i))))))))) = (mW ad kc x0 x1 x2 x3 x4 x5 x6 x7 x8 x9 x10 x11 x12 x13 x14 x15 x16 x17 x18 x19 x20 x21 f0 f1 f2 f3 f4 f5 f6 f7 f8 f9 f10 f11 f12 f13 f14 f15 f16 f17 f18 f19 f20 f21 fL fN (uF fP k g) fM fO) := by
  rw [mW_P9, mW_P9]
  exact set_mid (n := 60) (o := 117) (k := k) _ (cP ad kc fP) _ _ (cP ad kc (uF fP k g)) (fun j => by
    unfold cP uF
    by_cases e : j = k
    · subst e; simp
    · simp [e]) (by simp only [List.length_append, mHd_len, fam_len]) h
set_option maxRecDepth 100000 in
theorem mW_N9 {ad : Nat → Nat} {kc : Nat → ClassId} {x0 x1 x2 x3 x4 x5 x6 x7 x8 x9 x10 x11 x12 x13 x14 x15 x16 x17 x18 x19 x20 x21 : Int32} {f0 f1 f2 f3 f4 f5 f6 f7 f8 f9 f10 f11 f12 f13 f14 f15 f16 f17 f18 f19 f20 f21 : Nat → Int32} {fL : Nat → Nat → Int64} {fN : Nat → Nat → Int32} {fP : Nat → Nat → Nat} {fM fO : Nat → Nat → Int32} : (mW ad kc x0 x1 x2 x3 x4 x5 x6 x7 x8 x9 x10 x11 x12 x13 x14 x15 x16 x17 x18 x19 x20 x21 f0 f1 f2 f3 f4 f5 f6 f7 f8 f9 f10 f11 f12 f13 f14 f15 f16 f17 f18 f19 f20 f21 fL fN fP fM fO) = (mHd ad kc x0 x1 x2 x3 x4 x5 x6 x7 x8 x9 x10 x11 x12 x13 x14 x15 x16 x17 x18 x19 x20 x21 f0 f1 f2 f3 f4 f5 f6 f7 f8 f9 f10 f11 f12 f13 f14 f15 f16 f17 f18 f19 f20 f21 ++ (fam 90 (cL ad kc fL) ++ fam 60 (cP ad kc fP))) ++ (fam 720 (cN ad kc fN) ++ (fam 150 (cM ad kc fM) ++ fam 12 (cO ad kc fO))) := by rw [mW_eq]; simp only [List.append_assoc]
set_option maxRecDepth 100000 in
theorem mW_N {ad : Nat → Nat} {kc : Nat → ClassId} {x0 x1 x2 x3 x4 x5 x6 x7 x8 x9 x10 x11 x12 x13 x14 x15 x16 x17 x18 x19 x20 x21 : Int32} {f0 f1 f2 f3 f4 f5 f6 f7 f8 f9 f10 f11 f12 f13 f14 f15 f16 f17 f18 f19 f20 f21 : Nat → Int32} {fL : Nat → Nat → Int64} {fN : Nat → Nat → Int32} {fP : Nat → Nat → Nat} {fM fO : Nat → Nat → Int32} {k : Nat} (h : k < 720) : (mW ad kc x0 x1 x2 x3 x4 x5 x6 x7 x8 x9 x10 x11 x12 x13 x14 x15 x16 x17 x18 x19 x20 x21 f0 f1 f2 f3 f4 f5 f6 f7 f8 f9 f10 f11 f12 f13 f14 f15 f16 f17 f18 f19 f20 f21 fL fN fP fM fO)[177 + k]? = some (ad (300 + k), .inl (kc 32, 170, .inl (fN k))) := by
  rw [mW_N9]
  exact at_mid (n := 720) (o := 177) (k := k) _ (cN ad kc fN) _ (by simp only [List.length_append, mHd_len, fam_len]) h
set_option maxRecDepth 100000 in
theorem mW_Ns {ad : Nat → Nat} {kc : Nat → ClassId} {x0 x1 x2 x3 x4 x5 x6 x7 x8 x9 x10 x11 x12 x13 x14 x15 x16 x17 x18 x19 x20 x21 : Int32} {f0 f1 f2 f3 f4 f5 f6 f7 f8 f9 f10 f11 f12 f13 f14 f15 f16 f17 f18 f19 f20 f21 : Nat → Int32} {fL : Nat → Nat → Int64} {fN : Nat → Nat → Int32} {fP : Nat → Nat → Nat} {fM fO : Nat → Nat → Int32} {k : Nat} {g : Nat → Int32} (h : k < 720) : (mW ad kc x0 x1 x2 x3 x4 x5 x6 x7 x8 x9 x10 x11 x12 x13 x14 x15 x16 x17 x18 x19 x20 x21 f0 f1 f2 f3 f4 f5 f6 f7 f8 f9 f10 f11 f12 f13 f14 f15 f16 f17 f18 f19 f20 f21 fL fN fP fM fO).set (177 + k) (ad (300 + k), .inl (kc 32, 170, .inl g)) = (mW ad kc x0 x1 x2 x3 x4 x5 x6 x7 x8 x9 x10 x11 x12 x13 x14 x15 x16 x17 x18 x19 x20 x21 f0 f1 f2 f3 f4 f5 f6 f7 f8 f9 f10 f11 f12 f13 f14 f15 f16 f17 f18 f19 f20 f21 fL (uF fN k g) fP fM fO) := by
  rw [mW_N9, mW_N9]
  exact set_mid (n := 720) (o := 177) (k := k) _ (cN ad kc fN) _ _ (cN ad kc (uF fN k g)) (fun j => by
    unfold cN uF
    by_cases e : j = k
    · subst e; simp
    · simp [e]) (by simp only [List.length_append, mHd_len, fam_len]) h
set_option maxRecDepth 100000 in
theorem mW_M9 {ad : Nat → Nat} {kc : Nat → ClassId} {x0 x1 x2 x3 x4 x5 x6 x7 x8 x9 x10 x11 x12 x13 x14 x15 x16 x17 x18 x19 x20 x21 : Int32} {f0 f1 f2 f3 f4 f5 f6 f7 f8 f9 f10 f11 f12 f13 f14 f15 f16 f17 f18 f19 f20 f21 : Nat → Int32} {fL : Nat → Nat → Int64} {fN : Nat → Nat → Int32} {fP : Nat → Nat → Nat} {fM fO : Nat → Nat → Int32} : (mW ad kc x0 x1 x2 x3 x4 x5 x6 x7 x8 x9 x10 x11 x12 x13 x14 x15 x16 x17 x18 x19 x20 x21 f0 f1 f2 f3 f4 f5 f6 f7 f8 f9 f10 f11 f12 f13 f14 f15 f16 f17 f18 f19 f20 f21 fL fN fP fM fO) = (mHd ad kc x0 x1 x2 x3 x4 x5 x6 x7 x8 x9 x10 x11 x12 x13 x14 x15 x16 x17 x18 x19 x20 x21 f0 f1 f2 f3 f4 f5 f6 f7 f8 f9 f10 f11 f12 f13 f14 f15 f16 f17 f18 f19 f20 f21 ++ (fam 90 (cL ad kc fL) ++ (fam 60 (cP ad kc fP) ++ fam 720 (cN ad kc fN)))) ++ (fam 150 (cM ad kc fM) ++ fam 12 (cO ad kc fO)) := by rw [mW_eq]; simp only [List.append_assoc]
set_option maxRecDepth 100000 in
theorem mW_M {ad : Nat → Nat} {kc : Nat → ClassId} {x0 x1 x2 x3 x4 x5 x6 x7 x8 x9 x10 x11 x12 x13 x14 x15 x16 x17 x18 x19 x20 x21 : Int32} {f0 f1 f2 f3 f4 f5 f6 f7 f8 f9 f10 f11 f12 f13 f14 f15 f16 f17 f18 f19 f20 f21 : Nat → Int32} {fL : Nat → Nat → Int64} {fN : Nat → Nat → Int32} {fP : Nat → Nat → Nat} {fM fO : Nat → Nat → Int32} {k : Nat} (h : k < 150) : (mW ad kc x0 x1 x2 x3 x4 x5 x6 x7 x8 x9 x10 x11 x12 x13 x14 x15 x16 x17 x18 x19 x20 x21 f0 f1 f2 f3 f4 f5 f6 f7 f8 f9 f10 f11 f12 f13 f14 f15 f16 f17 f18 f19 f20 f21 fL fN fP fM fO)[897 + k]? = some (ad (1100 + k), .inl (kc 33, 170, .inl (fM k))) := by
  rw [mW_M9]
  exact at_mid (n := 150) (o := 897) (k := k) _ (cM ad kc fM) _ (by simp only [List.length_append, mHd_len, fam_len]) h
set_option maxRecDepth 100000 in
theorem mW_Ms {ad : Nat → Nat} {kc : Nat → ClassId} {x0 x1 x2 x3 x4 x5 x6 x7 x8 x9 x10 x11 x12 x13 x14 x15 x16 x17 x18 x19 x20 x21 : Int32} {f0 f1 f2 f3 f4 f5 f6 f7 f8 f9 f10 f11 f12 f13 f14 f15 f16 f17 f18 f19 f20 f21 : Nat → Int32} {fL : Nat → Nat → Int64} {fN : Nat → Nat → Int32} {fP : Nat → Nat → Nat} {fM fO : Nat → Nat → Int32} {k : Nat} {g : Nat → Int32} (h : k < 150) : (mW ad kc x0 x1 x2 x3 x4 x5 x6 x7 x8 x9 x10 x11 x12 x13 x14 x15 x16 x17 x18 x19 x20 x21 f0 f1 f2 f3 f4 f5 f6 f7 f8 f9 f10 f11 f12 f13 f14 f15 f16 f17 f18 f19 f20 f21 fL fN fP fM fO).set (897 + k) (ad (1100 + k), .inl (kc 33, 170, .inl g)) = (mW ad kc x0 x1 x2 x3 x4 x5 x6 x7 x8 x9 x10 x11 x12 x13 x14 x15 x16 x17 x18 x19 x20 x21 f0 f1 f2 f3 f4 f5 f6 f7 f8 f9 f10 f11 f12 f13 f14 f15 f16 f17 f18 f19 f20 f21 fL fN fP (uF fM k g) fO) := by
  rw [mW_M9, mW_M9]
  exact set_mid (n := 150) (o := 897) (k := k) _ (cM ad kc fM) _ _ (cM ad kc (uF fM k g)) (fun j => by
    unfold cM uF
    by_cases e : j = k
    · subst e; simp
    · simp [e]) (by simp only [List.length_append, mHd_len, fam_len]) h
set_option maxRecDepth 100000 in
theorem mW_O9 {ad : Nat → Nat} {kc : Nat → ClassId} {x0 x1 x2 x3 x4 x5 x6 x7 x8 x9 x10 x11 x12 x13 x14 x15 x16 x17 x18 x19 x20 x21 : Int32} {f0 f1 f2 f3 f4 f5 f6 f7 f8 f9 f10 f11 f12 f13 f14 f15 f16 f17 f18 f19 f20 f21 : Nat → Int32} {fL : Nat → Nat → Int64} {fN : Nat → Nat → Int32} {fP : Nat → Nat → Nat} {fM fO : Nat → Nat → Int32} : (mW ad kc x0 x1 x2 x3 x4 x5 x6 x7 x8 x9 x10 x11 x12 x13 x14 x15 x16 x17 x18 x19 x20 x21 f0 f1 f2 f3 f4 f5 f6 f7 f8 f9 f10 f11 f12 f13 f14 f15 f16 f17 f18 f19 f20 f21 fL fN fP fM fO) = (mHd ad kc x0 x1 x2 x3 x4 x5 x6 x7 x8 x9 x10 x11 x12 x13 x14 x15 x16 x17 x18 x19 x20 x21 f0 f1 f2 f3 f4 f5 f6 f7 f8 f9 f10 f11 f12 f13 f14 f15 f16 f17 f18 f19 f20 f21 ++ (fam 90 (cL ad kc fL) ++ (fam 60 (cP ad kc fP) ++ (fam 720 (cN ad kc fN) ++ fam 150 (cM ad kc fM))))) ++ (fam 12 (cO ad kc fO) ++ []) := by rw [mW_eq, List.append_nil]; simp only [List.append_assoc]
set_option maxRecDepth 100000 in
theorem mW_O {ad : Nat → Nat} {kc : Nat → ClassId} {x0 x1 x2 x3 x4 x5 x6 x7 x8 x9 x10 x11 x12 x13 x14 x15 x16 x17 x18 x19 x20 x21 : Int32} {f0 f1 f2 f3 f4 f5 f6 f7 f8 f9 f10 f11 f12 f13 f14 f15 f16 f17 f18 f19 f20 f21 : Nat → Int32} {fL : Nat → Nat → Int64} {fN : Nat → Nat → Int32} {fP : Nat → Nat → Nat} {fM fO : Nat → Nat → Int32} {k : Nat} (h : k < 12) : (mW ad kc x0 x1 x2 x3 x4 x5 x6 x7 x8 x9 x10 x11 x12 x13 x14 x15 x16 x17 x18 x19 x20 x21 f0 f1 f2 f3 f4 f5 f6 f7 f8 f9 f10 f11 f12 f13 f14 f15 f16 f17 f18 f19 f20 f21 fL fN fP fM fO)[1047 + k]? = some (ad (1300 + k), .inl (kc 34, 170, .inl (fO k))) := by
  rw [mW_O9]
  exact at_mid (n := 12) (o := 1047) (k := k) _ (cO ad kc fO) _ (by simp only [List.length_append, mHd_len, fam_len]) h
set_option maxRecDepth 100000 in
theorem mW_Os {ad : Nat → Nat} {kc : Nat → ClassId} {x0 x1 x2 x3 x4 x5 x6 x7 x8 x9 x10 x11 x12 x13 x14 x15 x16 x17 x18 x19 x20 x21 : Int32} {f0 f1 f2 f3 f4 f5 f6 f7 f8 f9 f10 f11 f12 f13 f14 f15 f16 f17 f18 f19 f20 f21 : Nat → Int32} {fL : Nat → Nat → Int64} {fN : Nat → Nat → Int32} {fP : Nat → Nat → Nat} {fM fO : Nat → Nat → Int32} {k : Nat} {g : Nat → Int32} (h : k < 12) : (mW ad kc x0 x1 x2 x3 x4 x5 x6 x7 x8 x9 x10 x11 x12 x13 x14 x15 x16 x17 x18 x19 x20 x21 f0 f1 f2 f3 f4 f5 f6 f7 f8 f9 f10 f11 f12 f13 f14 f15 f16 f17 f18 f19 f20 f21 fL fN fP fM fO).set (1047 + k) (ad (1300 + k), .inl (kc 34, 170, .inl g)) = (mW ad kc x0 x1 x2 x3 x4 x5 x6 x7 x8 x9 x10 x11 x12 x13 x14 x15 x16 x17 x18 x19 x20 x21 f0 f1 f2 f3 f4 f5 f6 f7 f8 f9 f10 f11 f12 f13 f14 f15 f16 f17 f18 f19 f20 f21 fL fN fP fM (uF fO k g)) := by
  rw [mW_O9, mW_O9]
  exact set_mid (n := 12) (o := 1047) (k := k) _ (cO ad kc fO) _ _ (cO ad kc (uF fO k g)) (fun j => by
    unfold cO uF
    by_cases e : j = k
    · subst e; simp
    · simp [e]) (by simp only [List.length_append, mHd_len, fam_len]) h
/-- the numbers' rows: their places, what they hold -/
def IR (a : Nat) : Prop := (300 ≤ a ∧ a < 1020) ∨ (1100 ≤ a ∧ a < 1250) ∨ (1300 ≤ a ∧ a < 1312)
def rO (N M O : Nat → Nat → Int32) (a : Nat) : Nat → Int32 := if a < 1100 then N (a - 300) else if a < 1300 then M (a - 1100) else O (a - 1300)
def rPos (a : Nat) : Nat := if a < 1100 then 177 + (a - 300) else if a < 1300 then 897 + (a - 1100) else 1047 + (a - 1300)
def rCls (kc : Nat → ClassId) (a : Nat) : ClassId := if a < 1100 then kc 32 else if a < 1300 then kc 33 else kc 34
def rTy (a : Nat) : Nat := if a < 1100 then 28 else if a < 1300 then 29 else 30
theorem rPos_N {a : Nat} (h : a < 1100) : rPos a = 177 + (a - 300) := by unfold rPos; rw [if_pos (by omega)]
theorem rCls_N {kc : Nat → ClassId} {a : Nat} (h : a < 1100) : rCls kc a = kc 32 := by unfold rCls; rw [if_pos (by omega)]
theorem rO_N {N M O : Nat → Nat → Int32} {a : Nat} (h : a < 1100) : rO N M O a = N (a - 300) := by unfold rO; rw [if_pos (by omega)]
theorem rPos_M {a : Nat} (h : 1100 ≤ a) (h2 : a < 1300) : rPos a = 897 + (a - 1100) := by unfold rPos; rw [if_neg (by omega), if_pos (by omega)]
theorem rCls_M {kc : Nat → ClassId} {a : Nat} (h : 1100 ≤ a) (h2 : a < 1300) : rCls kc a = kc 33 := by unfold rCls; rw [if_neg (by omega), if_pos (by omega)]
theorem rO_M {N M O : Nat → Nat → Int32} {a : Nat} (h : 1100 ≤ a) (h2 : a < 1300) : rO N M O a = M (a - 1100) := by unfold rO; rw [if_neg (by omega), if_pos (by omega)]
theorem rPos_O {a : Nat} (h : 1300 ≤ a) : rPos a = 1047 + (a - 1300) := by unfold rPos; rw [if_neg (by omega), if_neg (by omega)]
theorem rCls_O {kc : Nat → ClassId} {a : Nat} (h : 1300 ≤ a) : rCls kc a = kc 34 := by unfold rCls; rw [if_neg (by omega), if_neg (by omega)]
theorem rO_O {N M O : Nat → Nat → Int32} {a : Nat} (h : 1300 ≤ a) : rO N M O a = O (a - 1300) := by unfold rO; rw [if_neg (by omega), if_neg (by omega)]
theorem mW_R {ad : Nat → Nat} {kc : Nat → ClassId} {x0 x1 x2 x3 x4 x5 x6 x7 x8 x9 x10 x11 x12 x13 x14 x15 x16 x17 x18 x19 x20 x21 : Int32} {f0 f1 f2 f3 f4 f5 f6 f7 f8 f9 f10 f11 f12 f13 f14 f15 f16 f17 f18 f19 f20 f21 : Nat → Int32} {fL : Nat → Nat → Int64} {fN : Nat → Nat → Int32} {fP : Nat → Nat → Nat} {fM fO : Nat → Nat → Int32} {a : Nat} (h : IR a) : (mW ad kc x0 x1 x2 x3 x4 x5 x6 x7 x8 x9 x10 x11 x12 x13 x14 x15 x16 x17 x18 x19 x20 x21 f0 f1 f2 f3 f4 f5 f6 f7 f8 f9 f10 f11 f12 f13 f14 f15 f16 f17 f18 f19 f20 f21 fL fN fP fM fO)[rPos a]? = some (ad a, .inl (rCls kc a, 170, .inl (rO fN fM fO a))) := by
  rcases h with h | h | h
  · rw [rPos_N (by omega), rCls_N (by omega), rO_N (by omega), mW_N (by omega), show 300 + (a - 300) = a by omega]
  · rw [rPos_M (by omega) (by omega), rCls_M (by omega) (by omega), rO_M (by omega) (by omega), mW_M (by omega), show 1100 + (a - 1100) = a by omega]
  · rw [rPos_O (by omega), rCls_O (by omega), rO_O (by omega), mW_O (by omega), show 1300 + (a - 1300) = a by omega]
theorem mT_R {kc : Nat → ClassId} (a : Nat) : (mT kc)[rTy a]? = some (rCls kc a, .int) := by
  unfold rTy rCls
  by_cases h : a < 1100
  · rw [if_pos h, if_pos h]; rfl
  · rw [if_neg h, if_neg h]
    by_cases h2 : a < 1300
    · rw [if_pos h2, if_pos h2]; rfl
    · rw [if_neg h2, if_neg h2]; rfl
/-- one row is another one -/
def rU (R R' : Nat → Nat → Int32) (a : Nat) (g : Nat → Int32) : Prop := ∀ b, IR b → R' b = if b = a then g else R b
theorem mW_Rx {ad : Nat → Nat} {kc : Nat → ClassId} {x0 x1 x2 x3 x4 x5 x6 x7 x8 x9 x10 x11 x12 x13 x14 x15 x16 x17 x18 x19 x20 x21 : Int32} {f0 f1 f2 f3 f4 f5 f6 f7 f8 f9 f10 f11 f12 f13 f14 f15 f16 f17 f18 f19 f20 f21 : Nat → Int32} {fL : Nat → Nat → Int64} {fN : Nat → Nat → Int32} {fP : Nat → Nat → Nat} {fM fO : Nat → Nat → Int32} {D : va_G} {cl : List vw_C} {A : Nat → Prop} {H : Heap} {a : Nat} {g : Nat → Int32} (h : IR a) (hP : va_P D cl ((mW ad kc x0 x1 x2 x3 x4 x5 x6 x7 x8 x9 x10 x11 x12 x13 x14 x15 x16 x17 x18 x19 x20 x21 f0 f1 f2 f3 f4 f5 f6 f7 f8 f9 f10 f11 f12 f13 f14 f15 f16 f17 f18 f19 f20 f21 fL fN fP fM fO).set (rPos a) (ad a, .inl (rCls kc a, 170, .inl g))) H) (hD : va_D A ((mW ad kc x0 x1 x2 x3 x4 x5 x6 x7 x8 x9 x10 x11 x12 x13 x14 x15 x16 x17 x18 x19 x20 x21 f0 f1 f2 f3 f4 f5 f6 f7 f8 f9 f10 f11 f12 f13 f14 f15 f16 f17 f18 f19 f20 f21 fL fN fP fM fO).set (rPos a) (ad a, .inl (rCls kc a, 170, .inl g)))) : ∃ N' M' O', va_P D cl (mW ad kc x0 x1 x2 x3 x4 x5 x6 x7 x8 x9 x10 x11 x12 x13 x14 x15 x16 x17 x18 x19 x20 x21 f0 f1 f2 f3 f4 f5 f6 f7 f8 f9 f10 f11 f12 f13 f14 f15 f16 f17 f18 f19 f20 f21 fL N' fP M' O') H ∧ va_D A (mW ad kc x0 x1 x2 x3 x4 x5 x6 x7 x8 x9 x10 x11 x12 x13 x14 x15 x16 x17 x18 x19 x20 x21 f0 f1 f2 f3 f4 f5 f6 f7 f8 f9 f10 f11 f12 f13 f14 f15 f16 f17 f18 f19 f20 f21 fL N' fP M' O') ∧ rU (rO fN fM fO) (rO N' M' O') a g := by
  rcases h with h | h | h
  · rw [rPos_N (by omega), rCls_N (by omega), show ad a = ad (300 + (a - 300)) from congrArg ad (by omega), mW_Ns (by omega)] at hP hD
    refine ⟨_, _, _, hP, hD, fun b hb => ?_⟩
    rcases hb with hb | hb | hb
    · rw [rO_N (by omega), rO_N (by omega)]
      unfold uF
      by_cases c2 : b = a
      · rw [if_pos c2, if_pos (by omega)]
      · rw [if_neg c2, if_neg (by omega)]
    · rw [rO_M (by omega) (by omega), rO_M (by omega) (by omega), if_neg (by omega)]
    · rw [rO_O (by omega), rO_O (by omega), if_neg (by omega)]
  · rw [rPos_M (by omega) (by omega), rCls_M (by omega) (by omega), show ad a = ad (1100 + (a - 1100)) from congrArg ad (by omega), mW_Ms (by omega)] at hP hD
    refine ⟨_, _, _, hP, hD, fun b hb => ?_⟩
    rcases hb with hb | hb | hb
    · rw [rO_N (by omega), rO_N (by omega), if_neg (by omega)]
    · rw [rO_M (by omega) (by omega), rO_M (by omega) (by omega)]
      unfold uF
      by_cases c2 : b = a
      · rw [if_pos c2, if_pos (by omega)]
      · rw [if_neg c2, if_neg (by omega)]
    · rw [rO_O (by omega), rO_O (by omega), if_neg (by omega)]
  · rw [rPos_O (by omega), rCls_O (by omega), show ad a = ad (1300 + (a - 1300)) from congrArg ad (by omega), mW_Os (by omega)] at hP hD
    refine ⟨_, _, _, hP, hD, fun b hb => ?_⟩
    rcases hb with hb | hb | hb
    · rw [rO_N (by omega), rO_N (by omega), if_neg (by omega)]
    · rw [rO_M (by omega) (by omega), rO_M (by omega) (by omega), if_neg (by omega)]
    · rw [rO_O (by omega), rO_O (by omega)]
      unfold uF
      by_cases c2 : b = a
      · rw [if_pos c2, if_pos (by omega)]
      · rw [if_neg c2, if_neg (by omega)]
theorem rU_v {R R' : Nat → Nat → Int32} {a : Nat} {i v : Int32} {x y : Int} (hU : rU R R' a (upd (R a) i.toNatClampNeg v)) (hI : IR a) (hi : i.toInt = x) (h0 : 0 ≤ x) (hv : v.toInt = y) : (vI (R' a) x = y ∧ ∀ z : Int, 0 ≤ z → z ≠ x → vI (R' a) z = vI (R a) z) ∧ ∀ b, IR b → b ≠ a → R' b = R b := by
  have e := hU a hI
  rw [if_pos rfl] at e
  exact ⟨vI_up e.symm hi h0 hv, fun b hb hne => by rw [hU b hb, if_neg hne]⟩
section MAK
variable {p : Program} {l : Launch} {e : Env} {R : Room} {s : State} {m : MethodId} {args : Array Value} {below : List Frame} {meth : Method} {c : Code} {H : Heap} {locs : List Loc} {cells slots : Nat} {Q : State → Prop}
variable {cc : ByteArray} {pc : Nat} {ls : Array Slot} {rest : List Value} {D : va_G} {cl : List vw_C} {A : Nat → Prop} {a : Nat} {tys : List (ClassId × FieldType)} {ws : va_W} {H0 : Heap}
/-- a row out of a row of rows, by its number -/
theorem m_aak (hexec : p.tables.exec = Jvm.exec) (hb : c.code = cc) (hK : va_K D cl tys s) (hP : va_P D cl ws H) (q0 t0 : Nat) {cA : ClassId} {ty : FieldType} {n k b : Nat} {f : Nat → Option Nat} (ha : ws[q0]? = some (a, .inl (cA, n, .inr (.inr (.inr (.inr f)))))) (ht : tys[t0]? = some (cA, ty)) (hty : ty.isReference = true) {i : Int32} (hk : i.toInt = (k : Int)) (hkn : k < n) (hf : f k = some b) (hdg : decode cc pc = .ok (.aaload, 1))
    (kk : W p l e R s m args below meth c H locs cells slots Q (F0 m (pc + 1) ls (.ref b :: rest))) : W p l e R s m args below meth c H locs cells slots Q (F0 m pc ls (.int i :: .ref a :: rest)) := by
  refine m_aald hexec hb hK hP q0 t0 ha ht hty (i := i) (vp_of hk (by omega) (by omega)) hdg ?_
  rw [clamp_nat, hk, Int.toNat_natCast, hf]
  exact kk
end MAK

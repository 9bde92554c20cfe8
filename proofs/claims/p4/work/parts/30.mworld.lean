def mFam (a : Nat → Nat) (c : Nat → ClassId) (L : Nat → Nat → Int64) (Nn : Nat → Nat → Int32) (P : Nat → Nat → Nat) (M O : Nat → Nat → Int32) : va_W :=
  (List.range 90).map (fun s => (a (100 + s), .inl (c 30, 40, .inr (.inl (L s))))) ++ ((List.range 60).map (fun n => (a (200 + n), .inl (c 31, 12, .inr (.inr (.inr (.inr (fun i => some (a (300 + (12 * n + P n i)))))))))) ++ ((List.range 720).map (fun j => (a (300 + j), .inl (c 32, 170, .inl (Nn j)))) ++ ((List.range 150).map (fun k => (a (1100 + k), .inl (c 33, 170, .inl (M k)))) ++ (List.range 12).map (fun k => (a (1300 + k), .inl (c 34, 170, .inl (O k)))))))
/-- the cells of the reference -/
def mW (ad : Nat → Nat) (kc : Nat → ClassId) (x0 x1 x2 x3 x4 x5 x6 x7 x8 x9 x10 x11 x12 x13 x14 x15 x16 x17 x18 x19 x20 x21 : Int32) (f0 f1 f2 f3 f4 f5 f6 f7 f8 f9 f10 f11 f12 f13 f14 f15 f16 f17 f18 f19 f20 f21 : Nat → Int32) (fL : Nat → Nat → Int64) (fN : Nat → Nat → Int32) (fP : Nat → Nat → Nat) (fM : Nat → Nat → Int32) (fO : Nat → Nat → Int32) : va_W := (ad 0, .inr (10, [.ref (ad 1), .int x0, .int x1, .int x2, .ref (ad 2), .ref (ad 3), .int x3, .int x4, .int x5, .int x6, .int x7, .int x8, .int x9, .int x10, .int x11, .ref (ad 4), .ref (ad 5), .ref (ad 6), .ref (ad 7), .ref (ad 8), .ref (ad 9), .int x12, .int x13, .int x14, .int x15, .ref (ad 23), .ref (ad 10), .int x16, .ref (ad 24), .ref (ad 25), .ref (ad 11), .int x17, .int x18, .ref (ad 12), .int x19, .ref (ad 13), .ref (ad 14), .ref (ad 15), .ref (ad 16), .ref (ad 17), .ref (ad 18), .ref (ad 19), .int x20, .int x21, .ref (ad 20), .ref (ad 21), .ref (ad 22), .ref (ad 26)])) :: ([(ad 1, .inl (kc 0, 101660, .inl f0)), (ad 2, .inl (kc 1, 900, .inl f1)), (ad 3, .inl (kc 2, 900, .inl f2)), (ad 4, .inl (kc 3, 1600, .inl f3)), (ad 5, .inl (kc 4, 1600, .inl f4)), (ad 6, .inl (kc 5, 1600, .inl f5)), (ad 7, .inl (kc 6, 1600, .inl f6)), (ad 8, .inl (kc 7, 1600, .inl f7)), (ad 9, .inl (kc 8, 1600, .inl f8)), (ad 10, .inl (kc 9, 90, .inl f9)), (ad 11, .inl (kc 10, 60, .inl f10)), (ad 12, .inl (kc 11, 150, .inl f11)), (ad 13, .inl (kc 12, 1600, .inl f12)), (ad 14, .inl (kc 13, 1600, .inl f13)), (ad 15, .inl (kc 14, 1600, .inl f14)), (ad 16, .inl (kc 15, 1600, .inl f15)), (ad 17, .inl (kc 16, 1600, .inl f16)), (ad 18, .inl (kc 17, 24, .inl f17)), (ad 19, .inl (kc 18, 24, .inl f18)), (ad 20, .inl (kc 19, 170, .inl f19)), (ad 21, .inl (kc 20, 17576, .inl f20)), (ad 22, .inl (kc 21, 2100, .inl f21)), (ad 23, .inl (kc 22, 90, .inr (.inr (.inr (.inr (fun i => some (ad (100 + i)))))))), (ad 24, .inl (kc 23, 60, .inr (.inr (.inr (.inr (fun i => some (ad (200 + i)))))))), (ad 25, .inl (kc 24, 150, .inr (.inr (.inr (.inr (fun i => some (ad (1100 + i)))))))), (ad 26, .inl (kc 25, 12, .inr (.inr (.inr (.inr (fun i => some (ad (1300 + i))))))))] ++ mFam ad kc fL fN fP fM fO)
def mT (kc : Nat → ClassId) : List (ClassId × FieldType) := [(kc 0, .int), (kc 1, .byte), (kc 2, .byte), (kc 3, .int), (kc 4, .int), (kc 5, .int), (kc 6, .int), (kc 7, .int), (kc 8, .int), (kc 9, .int), (kc 10, .int), (kc 11, .boolean), (kc 12, .int), (kc 13, .int), (kc 14, .int), (kc 15, .int), (kc 16, .int), (kc 17, .int), (kc 18, .int), (kc 19, .int), (kc 20, .boolean), (kc 21, .int), (kc 22, .array .long), (kc 23, .array (.array .int)), (kc 24, .array .int), (kc 25, .array .int), (kc 30, .long), (kc 31, .array .int), (kc 32, .int), (kc 33, .int), (kc 34, .int)]
theorem m_free {A : Nat → Prop} {ws : va_W} {H0 H : Heap} {locs : List Loc} (hD : va_D A ws) (hS : va_S A H0 H locs) (hA : ∀ q, H0.size ≤ q → A q) : ∀ q, va_A ws H.size q → A q := by
  rintro q (⟨k, e, h⟩ | h)
  · exact hD.2 k _ h
  · exact hA q (Nat.le_trans hS.1 h)
theorem z_of {v : Int32} (h : v.toInt = 0 ∨ v.toInt = 1) : v = 0 ∨ v = 1 := by
  rcases h with h | h
  · left; apply Int32.toInt_inj.mp; rw [h]; decide
  · right; apply Int32.toInt_inj.mp; rw [h]; decide
theorem z_to {v : Int32} (h : v = 0 ∨ v = 1) : v.toInt = 0 ∨ v.toInt = 1 := by
  rcases h with rfl | rfl
  · left; decide
  · right; decide
/-- the number at a place of a row -/
def vI (f : Nat → Int32) (z : Int) : Int := (f z.toNat).toInt
theorem clamp_nat (i : Int32) : i.toNatClampNeg = i.toInt.toNat := rfl
theorem vI_ld {f : Nat → Int32} {i y : Int32} (e : y = f i.toNatClampNeg) : y.toInt = vI f i.toInt := by rw [e]; rfl
theorem vI_lda {f : Nat → Int32} {i y : Int32} {a : Int} (e : y = f i.toNatClampNeg) (ha : i.toInt = a) : y.toInt = vI f a := by rw [e, ← ha]; rfl
theorem vI_rng (f : Nat → Int32) (z : Int) : -2147483648 ≤ vI f z ∧ vI f z < 2147483648 := i_rng _
theorem vI_up {f g : Nat → Int32} {i v : Int32} {a b : Int} (e : upd f i.toNatClampNeg v = g) (ha : i.toInt = a) (h0 : 0 ≤ a) (hv : v.toInt = b) : vI g a = b ∧ ∀ z : Int, 0 ≤ z → z ≠ a → vI g z = vI f z := by
  subst ha; subst hv; subst e
  refine ⟨?_, fun z hz hne => ?_⟩
  · show (if i.toInt.toNat = i.toNatClampNeg then v else f i.toInt.toNat).toInt = _
    rw [if_pos (clamp_nat i).symm]
  · show (if z.toNat = i.toNatClampNeg then v else f z.toNat).toInt = _
    rw [if_neg (by rw [clamp_nat]; omega)]
    rfl
section MAL
variable {p : Program} {l : Launch} {e : Env} {R : Room} {s : State} {m : MethodId} {args : Array Value} {below : List Frame} {meth : Method} {c : Code} {H : Heap} {locs : List Loc} {cells slots : Nat} {Q : State → Prop}
variable {cc : ByteArray} {pc : Nat} {ls : Array Slot} {rest : List Value} {D : va_G} {cl : List vw_C} {A : Nat → Prop} {a : Nat} {tys : List (ClassId × FieldType)} {ws : va_W} {H0 : Heap}
/-- a row out of a row of rows -/
theorem m_aald (hexec : p.tables.exec = Jvm.exec) (hb : c.code = cc) (hK : va_K D cl tys s) (hP : va_P D cl ws H) (q0 t0 : Nat) {cA : ClassId} {ty : FieldType} {n : Nat} {f : Nat → Option Nat} (ha : ws[q0]? = some (a, .inl (cA, n, .inr (.inr (.inr (.inr f)))))) (ht : tys[t0]? = some (cA, ty)) (hty : ty.isReference = true) {i : Int32} (hin : vp_in i n) (hdg : decode cc pc = .ok (.aaload, 1))
    (kk : W p l e R s m args below meth c H locs cells slots Q (F0 m (pc + 1) ls (va_rf (f i.toNatClampNeg) :: rest))) : W p l e R s m args below meth c H locs cells slots Q (F0 m pc ls (.int i :: .ref a :: rest)) := by
  have hlt : i.toNatClampNeg < n := Nat.not_le.mp fun q => hin (Or.inr q)
  exact W.aald (v := va_rf (f i.toNatClampNeg)) (ty := ty) hexec hb (hP q0 _ ha) ((hK.2 t0 _ ht).1 n (fun j => va_rf (f j))) hty (fun q => by cases q) (by show ¬ (i < 0 ∨ (arrV _ _ _).slots.size ≤ _); rw [arrV_size]; exact hin) (by show (arrV _ _ _).slots[_]? = _; rw [arrV_read _ _ hlt]) rfl rfl hdg kk
end MAL

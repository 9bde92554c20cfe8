abbrev RSt := Int × Int × Int × Int × Int × Int × Int
/-- between two tokens, with what has to come next and how many there are -/
def zTop (k w d p : Int) : RSt := (0, k, w, 0, 0, d, p)
/-- in a word -/
def zWd (k f d p : Int) : RSt := (1, k, f, 0, 0, d, p)
/-- in a DOCUMENT's quote -/
def zDc (k f d p : Int) : RSt := (2, k, f, 0, 0, d, p)
/-- in a PATTERN's quote -/
def zPt (k sp op st d p : Int) : RSt := (3, k, sp, op, st, d, p)
/-- in a set -/
def zSt (k f sp op d p : Int) : RSt := (4, k, f, sp, op, d, p)
/-- read: so many DOCUMENTS, or -1 -/
def zOut (o : Int) : RSt := (5, 0, o, 0, 0, 0, 0)
noncomputable def cIf (P : Prop) (a b : RSt) : RSt := @ite RSt P (Classical.propDecidable P) a b
theorem cIf_pos {P : Prop} {a b : RSt} (h : P) : cIf P a b = a := by unfold cIf; exact if_pos h
theorem cIf_neg {P : Prop} {a b : RSt} (h : ¬ P) : cIf P a b = b := by unfold cIf; exact if_neg h
def wDoc (t : Int → Int) (f k : Int) : Prop := k = f + 3 ∧ t f = 100 ∧ t (f + 1) = 111 ∧ t (f + 2) = 99
def wPat (t : Int → Int) (f k : Int) : Prop := k = f + 7 ∧ t f = 112 ∧ t (f + 1) = 97 ∧ t (f + 2) = 116 ∧ t (f + 3) = 116 ∧ t (f + 4) = 101 ∧ t (f + 5) = 114 ∧ t (f + 6) = 110
noncomputable def topS (t : Int → Int) (k w d p : Int) : RSt := cIf (isSm (t k)) (cIf (w = 0) (zWd (k + 1) k d p) (zOut (-1))) (cIf (t k = 34) (cIf (w = 1) (zDc (k + 1) (k + 1) d p) (cIf (w = 2) (zPt (k + 1) 0 0 0 d p) (zOut (-1)))) (cIf (t k = 59) (cIf (w = 3) (zTop (k + 1) 0 d p) (zOut (-1))) (cIf (t k = 32 ∨ t k = 10) (zTop (k + 1) w d p) (cIf (t k = -1 ∧ w = 0) (zOut d) (zOut (-1))))))
noncomputable def wordS (t : Int → Int) (k f d p : Int) : RSt := cIf (isSm (t k)) (zWd (k + 1) f d p) (cIf (wDoc t f k) (cIf (d < 10) (zTop k 1 d p) (zOut (-1))) (cIf (wPat t f k) (cIf (p < 8) (zTop k 2 d p) (zOut (-1))) (zOut (-1))))
noncomputable def docS (t : Int → Int) (k f d p : Int) : RSt := cIf (t k = 34 ∧ f < k) (zTop (k + 1) 3 (d + 1) p) (cIf (isSm (t k) ∧ k - f < 60) (zDc (k + 1) f d p) (zOut (-1)))
noncomputable def patS (t : Int → Int) (k sp op st d p : Int) : RSt := cIf (t k = 40) (cIf (op < 5) (zPt (k + 1) sp (op + 1) 0 d p) (zOut (-1))) (cIf (isAt (t k)) (cIf (sp < 24) (cIf (t k = 91) (zSt (k + 1) (k + 1) (sp + 1) op d p) (zPt (k + 1) (sp + 1) op 1 d p)) (zOut (-1))) (cIf (st = 0) (zOut (-1)) (cIf (t k = 34 ∧ op = 0) (zTop (k + 1) 3 d (p + 1)) (cIf (t k = 124) (zPt (k + 1) sp op 0 d p) (cIf (t k = 41 ∧ 0 < op) (zPt (k + 1) sp (op - 1) 1 d p) (cIf (isQu (t k) ∧ st = 1) (zPt (k + 1) sp op 2 d p) (zOut (-1))))))))
noncomputable def setS (t : Int → Int) (k f sp op d p : Int) : RSt := cIf (t k = 93 ∧ f < k) (zPt (k + 1) sp op 1 d p) (cIf (isSm (t k) ∧ ¬ ∃ j, f ≤ j ∧ j < k ∧ t j = t k) (zSt (k + 1) f sp op d p) (zOut (-1)))
/-- one byte (or the end of a word) further -/
noncomputable def rStep (t : Int → Int) (s : RSt) : RSt := cIf (s.1 = 0) (topS t s.2.1 s.2.2.1 s.2.2.2.2.2.1 s.2.2.2.2.2.2) (cIf (s.1 = 1) (wordS t s.2.1 s.2.2.1 s.2.2.2.2.2.1 s.2.2.2.2.2.2) (cIf (s.1 = 2) (docS t s.2.1 s.2.2.1 s.2.2.2.2.2.1 s.2.2.2.2.2.2) (cIf (s.1 = 3) (patS t s.2.1 s.2.2.1 s.2.2.2.1 s.2.2.2.2.1 s.2.2.2.2.2.1 s.2.2.2.2.2.2) (cIf (s.1 = 4) (setS t s.2.1 s.2.2.1 s.2.2.2.1 s.2.2.2.2.1 s.2.2.2.2.2.1 s.2.2.2.2.2.2) s))))
section RZ
variable {t : Int → Int} {k w d p f sp op st : Int}
theorem rs_top : rStep t (zTop k w d p) = topS t k w d p := cIf_pos rfl
theorem rs_wd : rStep t (zWd k f d p) = wordS t k f d p := (cIf_neg (show ¬ ((1 : Int) = 0) by decide)).trans (cIf_pos rfl)
theorem rs_dc : rStep t (zDc k f d p) = docS t k f d p := (cIf_neg (show ¬ ((2 : Int) = 0) by decide)).trans ((cIf_neg (show ¬ ((2 : Int) = 1) by decide)).trans (cIf_pos rfl))
theorem rs_pt : rStep t (zPt k sp op st d p) = patS t k sp op st d p := (cIf_neg (show ¬ ((3 : Int) = 0) by decide)).trans ((cIf_neg (show ¬ ((3 : Int) = 1) by decide)).trans ((cIf_neg (show ¬ ((3 : Int) = 2) by decide)).trans (cIf_pos rfl)))
theorem rs_st : rStep t (zSt k f sp op d p) = setS t k f sp op d p := (cIf_neg (show ¬ ((4 : Int) = 0) by decide)).trans ((cIf_neg (show ¬ ((4 : Int) = 1) by decide)).trans ((cIf_neg (show ¬ ((4 : Int) = 2) by decide)).trans ((cIf_neg (show ¬ ((4 : Int) = 3) by decide)).trans (cIf_pos rfl))))
theorem rs_out {o : Int} : rStep t (zOut o) = zOut o := (cIf_neg (show ¬ ((5 : Int) = 0) by decide)).trans ((cIf_neg (show ¬ ((5 : Int) = 1) by decide)).trans ((cIf_neg (show ¬ ((5 : Int) = 2) by decide)).trans ((cIf_neg (show ¬ ((5 : Int) = 3) by decide)).trans (cIf_neg (show ¬ ((5 : Int) = 4) by decide)))))
end RZ
noncomputable def rIt (t : Int → Int) : Nat → RSt → RSt
  | 0, s => s
  | n + 1, s => rIt t n (rStep t s)
theorem rIt_add {t : Int → Int} : ∀ (n m : Nat) (s : RSt), rIt t (n + m) s = rIt t m (rIt t n s)
  | 0, m, s => by rw [Nat.zero_add]; rfl
  | n + 1, m, s => by
    rw [show n + 1 + m = (n + m) + 1 by omega]
    exact rIt_add n m (rStep t s)
theorem rIt_out {t : Int → Int} {o : Int} : ∀ n : Nat, rIt t n (zOut o) = zOut o
  | 0 => rfl
  | n + 1 => by
    show rIt t n (rStep t (zOut o)) = zOut o
    rw [rs_out]
    exact rIt_out n
/-- one leads to the other -/
def Ld (t : Int → Int) (a b : RSt) : Prop := ∃ n, rIt t n a = b
theorem Ld.rf {t : Int → Int} {a : RSt} : Ld t a a := ⟨0, rfl⟩
theorem Ld.tr {t : Int → Int} {a b c : RSt} (h1 : Ld t a b) (h2 : Ld t b c) : Ld t a c := by
  obtain ⟨n, e1⟩ := h1
  obtain ⟨m, e2⟩ := h2
  exact ⟨n + m, by rw [rIt_add, e1]; exact e2⟩
theorem Ld.st {t : Int → Int} {a b : RSt} (h : rStep t a = b) : Ld t a b := ⟨1, h⟩
theorem Ld.det {t : Int → Int} {s : RSt} {a b : Int} (h1 : Ld t s (zOut a)) (h2 : Ld t s (zOut b)) : a = b := by
  obtain ⟨n, e1⟩ := h1
  obtain ⟨m, e2⟩ := h2
  have h3 : zOut a = zOut b := by
    rcases Nat.le_total n m with h | h
    · have := rIt_add (t := t) n (m - n) s
      rw [show n + (m - n) = m by omega, e1, e2, rIt_out] at this
      exact this.symm
    · have := rIt_add (t := t) m (n - m) s
      rw [show m + (n - m) = n by omega, e1, e2, rIt_out] at this
      exact this
  have h4 : (zOut a).2.2.1 = (zOut b).2.2.1 := by rw [h3]
  exact h4
section MV
variable {t : Int → Int} {k w d p f sp op st : Int}
theorem mv_sp (h : t k = 32 ∨ t k = 10) : Ld t (zTop k w d p) (zTop (k + 1) w d p) := Ld.st (by rw [rs_top]; unfold topS; rw [cIf_neg (by unfold isSm; omega), cIf_neg (by omega), cIf_neg (by omega), cIf_pos h])
theorem mv_end (h : t k = -1) : Ld t (zTop k 0 d p) (zOut d) := Ld.st (by rw [rs_top]; unfold topS; rw [cIf_neg (by unfold isSm; omega), cIf_neg (by omega), cIf_neg (by omega), cIf_neg (by omega), cIf_pos ⟨h, rfl⟩])
theorem mv_endf (h : t k = -1) (hw : w ≠ 0) : Ld t (zTop k w d p) (zOut (-1)) := Ld.st (by rw [rs_top]; unfold topS; rw [cIf_neg (by unfold isSm; omega), cIf_neg (by omega), cIf_neg (by omega), cIf_neg (by omega), cIf_neg (by omega)])
theorem mv_wd (h : isSm (t k)) : Ld t (zTop k 0 d p) (zWd (k + 1) k d p) := Ld.st (by rw [rs_top]; unfold topS; rw [cIf_pos h, cIf_pos rfl])
theorem mv_wdf (h : isSm (t k)) (hw : w ≠ 0) : Ld t (zTop k w d p) (zOut (-1)) := Ld.st (by rw [rs_top]; unfold topS; rw [cIf_pos h, cIf_neg hw])
theorem mv_wdn (h : isSm (t k)) : Ld t (zWd k f d p) (zWd (k + 1) f d p) := Ld.st (by rw [rs_wd]; unfold wordS; rw [cIf_pos h])
theorem mv_wdoc (h : ¬ isSm (t k)) (hd : wDoc t f k) (h9 : d < 10) : Ld t (zWd k f d p) (zTop k 1 d p) := Ld.st (by rw [rs_wd]; unfold wordS; rw [cIf_neg h, cIf_pos hd, cIf_pos h9])
theorem mv_wpat (h : ¬ isSm (t k)) (hd : wPat t f k) (h9 : p < 8) : Ld t (zWd k f d p) (zTop k 2 d p) := Ld.st (by rw [rs_wd]; unfold wordS; rw [cIf_neg h, cIf_neg (fun q => by have h1 := q.1; have h2 := hd.1; omega), cIf_pos hd, cIf_pos h9])
theorem mv_wbad (h : ¬ isSm (t k)) (h1 : wDoc t f k → ¬ d < 10) (h2 : wPat t f k → ¬ p < 8) : Ld t (zWd k f d p) (zOut (-1)) := Ld.st (by
  rw [rs_wd]; unfold wordS; rw [cIf_neg h]
  by_cases q1 : wDoc t f k
  · rw [cIf_pos q1, cIf_neg (h1 q1)]
  · rw [cIf_neg q1]
    by_cases q2 : wPat t f k
    · rw [cIf_pos q2, cIf_neg (h2 q2)]
    · rw [cIf_neg q2])
theorem mv_qd (h : t k = 34) : Ld t (zTop k 1 d p) (zDc (k + 1) (k + 1) d p) := Ld.st (by rw [rs_top]; unfold topS; rw [cIf_neg (by unfold isSm; omega), cIf_pos h, cIf_pos rfl])
theorem mv_qp (h : t k = 34) : Ld t (zTop k 2 d p) (zPt (k + 1) 0 0 0 d p) := Ld.st (by rw [rs_top]; unfold topS; rw [cIf_neg (by unfold isSm; omega), cIf_pos h, cIf_neg (by omega), cIf_pos rfl])
theorem mv_qf (h : t k = 34) (h1 : w ≠ 1) (h2 : w ≠ 2) : Ld t (zTop k w d p) (zOut (-1)) := Ld.st (by rw [rs_top]; unfold topS; rw [cIf_neg (by unfold isSm; omega), cIf_pos h, cIf_neg h1, cIf_neg h2])
theorem mv_sc (h : t k = 59) : Ld t (zTop k 3 d p) (zTop (k + 1) 0 d p) := Ld.st (by rw [rs_top]; unfold topS; rw [cIf_neg (by unfold isSm; omega), cIf_neg (by omega), cIf_pos h, cIf_pos rfl])
theorem mv_scf (h : t k = 59) (h1 : w ≠ 3) : Ld t (zTop k w d p) (zOut (-1)) := Ld.st (by rw [rs_top]; unfold topS; rw [cIf_neg (by unfold isSm; omega), cIf_neg (by omega), cIf_pos h, cIf_neg h1])
theorem mv_bad (h : ¬ isSm (t k)) (h1 : t k ≠ 34) (h2 : t k ≠ 59) (h3 : t k ≠ 32) (h4 : t k ≠ 10) (h5 : t k ≠ -1) : Ld t (zTop k w d p) (zOut (-1)) := Ld.st (by rw [rs_top]; unfold topS; rw [cIf_neg h, cIf_neg h1, cIf_neg h2, cIf_neg (by omega), cIf_neg (by omega)])
theorem mv_dq (h : t k = 34) (hf : f < k) : Ld t (zDc k f d p) (zTop (k + 1) 3 (d + 1) p) := Ld.st (by rw [rs_dc]; unfold docS; rw [cIf_pos ⟨h, hf⟩])
theorem mv_dn (h : isSm (t k)) (hf : k - f < 60) : Ld t (zDc k f d p) (zDc (k + 1) f d p) := Ld.st (by rw [rs_dc]; unfold docS; rw [cIf_neg (by unfold isSm at h; omega), cIf_pos ⟨h, hf⟩])
theorem mv_df (h : ¬ (t k = 34 ∧ f < k)) (h2 : ¬ (isSm (t k) ∧ k - f < 60)) : Ld t (zDc k f d p) (zOut (-1)) := Ld.st (by rw [rs_dc]; unfold docS; rw [cIf_neg h, cIf_neg h2])
theorem mv_po (h : t k = 40) (h5 : op < 5) : Ld t (zPt k sp op st d p) (zPt (k + 1) sp (op + 1) 0 d p) := Ld.st (by rw [rs_pt]; unfold patS; rw [cIf_pos h, cIf_pos h5])
theorem mv_pof (h : t k = 40) (h5 : ¬ op < 5) : Ld t (zPt k sp op st d p) (zOut (-1)) := Ld.st (by rw [rs_pt]; unfold patS; rw [cIf_pos h, cIf_neg h5])
theorem mv_pa (h : isAt (t k)) (h1 : t k ≠ 40) (h2 : t k ≠ 91) (hs : sp < 24) : Ld t (zPt k sp op st d p) (zPt (k + 1) (sp + 1) op 1 d p) := Ld.st (by rw [rs_pt]; unfold patS; rw [cIf_neg h1, cIf_pos h, cIf_pos hs, cIf_neg h2])
theorem mv_ps (h : t k = 91) (hs : sp < 24) : Ld t (zPt k sp op st d p) (zSt (k + 1) (k + 1) (sp + 1) op d p) := Ld.st (by rw [rs_pt]; unfold patS; rw [cIf_neg (by omega), cIf_pos (by unfold isAt; omega), cIf_pos hs, cIf_pos h])
theorem mv_paf (h : isAt (t k)) (h1 : t k ≠ 40) (hs : ¬ sp < 24) : Ld t (zPt k sp op st d p) (zOut (-1)) := Ld.st (by rw [rs_pt]; unfold patS; rw [cIf_neg h1, cIf_pos h, cIf_neg hs])
theorem mv_pq (h : t k = 34) (hs : st ≠ 0) : Ld t (zPt k sp 0 st d p) (zTop (k + 1) 3 d (p + 1)) := Ld.st (by rw [rs_pt]; unfold patS; rw [cIf_neg (by omega), cIf_neg (by unfold isAt; omega), cIf_neg hs, cIf_pos ⟨h, rfl⟩])
theorem mv_pb (h : t k = 124) (hs : st ≠ 0) : Ld t (zPt k sp op st d p) (zPt (k + 1) sp op 0 d p) := Ld.st (by rw [rs_pt]; unfold patS; rw [cIf_neg (by omega), cIf_neg (by unfold isAt; omega), cIf_neg hs, cIf_neg (by omega), cIf_pos h])
theorem mv_pc (h : t k = 41) (hs : st ≠ 0) (ho : 0 < op) : Ld t (zPt k sp op st d p) (zPt (k + 1) sp (op - 1) 1 d p) := Ld.st (by rw [rs_pt]; unfold patS; rw [cIf_neg (by omega), cIf_neg (by unfold isAt; omega), cIf_neg hs, cIf_neg (by omega), cIf_neg (by omega), cIf_pos ⟨h, ho⟩])
theorem mv_pg (h : isQu (t k)) : Ld t (zPt k sp op 1 d p) (zPt (k + 1) sp op 2 d p) := Ld.st (by rw [rs_pt]; unfold patS; rw [cIf_neg (by unfold isQu at h; omega), cIf_neg (by unfold isQu at h; unfold isAt; omega), cIf_neg (by omega), cIf_neg (by unfold isQu at h; omega), cIf_neg (by unfold isQu at h; omega), cIf_neg (by unfold isQu at h; omega), cIf_pos ⟨h, rfl⟩])
theorem mv_p0 (h : ¬ isAt (t k)) : Ld t (zPt k sp op 0 d p) (zOut (-1)) := Ld.st (by rw [rs_pt]; unfold patS; rw [cIf_neg (fun q => h (by unfold isAt; omega)), cIf_neg h, cIf_pos rfl])
theorem mv_pf (h : ¬ isAt (t k)) (h1 : ¬ (t k = 34 ∧ op = 0)) (h2 : t k ≠ 124) (h3 : ¬ (t k = 41 ∧ 0 < op)) (h4 : ¬ (isQu (t k) ∧ st = 1)) : Ld t (zPt k sp op st d p) (zOut (-1)) := Ld.st (by
  rw [rs_pt]; unfold patS; rw [cIf_neg (fun q => h (by unfold isAt; omega)), cIf_neg h]
  by_cases q : st = 0
  · rw [cIf_pos q]
  · rw [cIf_neg q, cIf_neg h1, cIf_neg h2, cIf_neg h3, cIf_neg h4])
theorem mv_se (h : t k = 93) (hf : f < k) : Ld t (zSt k f sp op d p) (zPt (k + 1) sp op 1 d p) := Ld.st (by rw [rs_st]; unfold setS; rw [cIf_pos ⟨h, hf⟩])
theorem mv_sn (h : isSm (t k)) (hf : ¬ ∃ j, f ≤ j ∧ j < k ∧ t j = t k) : Ld t (zSt k f sp op d p) (zSt (k + 1) f sp op d p) := Ld.st (by rw [rs_st]; unfold setS; rw [cIf_neg (by unfold isSm at h; omega), cIf_pos ⟨h, hf⟩])
theorem mv_sf (h : ¬ (t k = 93 ∧ f < k)) (h2 : ¬ (isSm (t k) ∧ ¬ ∃ j, f ≤ j ∧ j < k ∧ t j = t k)) : Ld t (zSt k f sp op d p) (zOut (-1)) := Ld.st (by rw [rs_st]; unfold setS; rw [cIf_neg h, cIf_neg h2])
end MV
/-! ===== Int32 by its bits: bt x i ===== -/
def bt (x : Int32) (i : Nat) : Bool := x.toBitVec.getLsbD i
theorem b_ext {x y : Int32} (h : ∀ i, i < 32 → bt x i = bt y i) : x = y := Int32.toBitVec_inj.mp (BitVec.eq_of_getLsbD_eq (fun i hi => h i hi))
theorem b_or (x y : Int32) (i : Nat) : bt (x ||| y) i = (bt x i || bt y i) := by unfold bt; rw [Int32.toBitVec_or, BitVec.getLsbD_or]
theorem b_and (x y : Int32) (i : Nat) : bt (x &&& y) i = (bt x i && bt y i) := by unfold bt; rw [Int32.toBitVec_and, BitVec.getLsbD_and]
theorem b_xor (x y : Int32) (i : Nat) : bt (x ^^^ y) i = (bt x i ^^ bt y i) := by unfold bt; rw [Int32.toBitVec_xor, BitVec.getLsbD_xor]
theorem b_big {x : Int32} {i : Nat} (h : 32 ≤ i) : bt x i = false := BitVec.getLsbD_of_ge _ _ h
theorem b_255 (i : Nat) : bt 255 i = decide (i < 8) := by
  rcases Nat.lt_or_ge i 32 with h | h
  · exact (by decide +kernel : ∀ i, i < 32 → bt 255 i = decide (i < 8)) i h
  · rw [b_big h, decide_eq_false (by omega)]
theorem b_65535 (i : Nat) : bt 65535 i = decide (i < 16) := by
  rcases Nat.lt_or_ge i 32 with h | h
  · exact (by decide +kernel : ∀ i, i < 32 → bt 65535 i = decide (i < 16)) i h
  · rw [b_big h, decide_eq_false (by omega)]
theorem b_m1 : ∀ i, i < 32 → bt (-1) i = true := by decide +kernel
theorem b_0 (i : Nat) : bt 0 i = false := BitVec.getLsbD_zero
theorem s_l : ∀ n, n < 32 → ((nI n &&& 31).toBitVec.smod 32).toNat = n := by decide +kernel
theorem s_u : ∀ n, n < 32 → (((nI n).toUInt32 &&& Int32.toUInt32 31).toBitVec % 32).toNat = n := by decide +kernel
theorem b_shl (n : Nat) (hn : n < 32) (x : Int32) {i : Nat} (hi : i < 32) : bt (x <<< (nI n &&& 31)) i = (decide (n ≤ i) && bt x (i - n)) := by
  unfold bt
  rw [Int32.toBitVec_shiftLeft]
  show (x.toBitVec <<< ((nI n &&& 31).toBitVec.smod 32).toNat).getLsbD i = _
  rw [s_l n hn, BitVec.getLsbD_shiftLeft]
  rcases Nat.lt_or_ge i n with h | h
  · simp [h, Nat.not_le.mpr h]
  · simp [hi, h, Nat.not_lt.mpr h]
theorem b_ushr (n : Nat) (hn : n < 32) (x : Int32) (i : Nat) : bt ((x.toUInt32 >>> ((nI n).toUInt32 &&& Int32.toUInt32 31)).toInt32) i = bt x (n + i) := by
  show (x.toUInt32 >>> ((nI n).toUInt32 &&& Int32.toUInt32 31)).toBitVec.getLsbD i = x.toUInt32.toBitVec.getLsbD (n + i)
  rw [UInt32.toBitVec_shiftRight]
  show (x.toUInt32.toBitVec >>> (((nI n).toUInt32 &&& Int32.toUInt32 31).toBitVec % 32).toNat).getLsbD i = _
  rw [s_u n hn, BitVec.getLsbD_ushiftRight]
theorem b_sshr (n : Nat) (hn : n < 32) (x : Int32) {i : Nat} (hi : i < 32) : bt (x >>> (nI n &&& 31)) i = if n + i < 32 then bt x (n + i) else bt x 31 := by
  unfold bt
  rw [Int32.toBitVec_shiftRight]
  show (x.toBitVec.sshiftRight ((nI n &&& 31).toBitVec.smod 32).toNat).getLsbD i = _
  rw [s_l n hn, BitVec.getLsbD_sshiftRight, BitVec.msb_eq_getLsbD_last]
  simp [hi]
theorem b_shl8 (x : Int32) {i : Nat} (hi : i < 32) : bt (x <<< ((8 : Int32) &&& 31)) i = (decide (8 ≤ i) && bt x (i - 8)) := b_shl 8 (by omega) x hi
theorem b_shl16 (x : Int32) {i : Nat} (hi : i < 32) : bt (x <<< ((16 : Int32) &&& 31)) i = (decide (16 ≤ i) && bt x (i - 16)) := b_shl 16 (by omega) x hi
theorem b_shl24 (x : Int32) {i : Nat} (hi : i < 32) : bt (x <<< ((24 : Int32) &&& 31)) i = (decide (24 ≤ i) && bt x (i - 24)) := b_shl 24 (by omega) x hi
theorem b_sshr8 (x : Int32) {i : Nat} (hi : i < 32) : bt (x >>> ((8 : Int32) &&& 31)) i = if 8 + i < 32 then bt x (8 + i) else bt x 31 := b_sshr 8 (by omega) x hi
theorem b_one : ∀ i, i < 32 → bt 1 i = decide (i = 0) := by decide +kernel
theorem bit_y {n : Nat} (hn : n < 32) {l y : Int32} (hl : l.toInt = (n : Int)) (e : y = 1 <<< (l &&& 31)) {i : Nat} (hi : i < 32) : bt y i = decide (i = n) := by
  have hl' : l = nI n := Int32.toInt_inj.mp (by rw [hl, nI_toInt (by omega)])
  rw [e, hl', b_shl n hn 1 hi]
  by_cases h : n ≤ i
  · rw [b_one (i - n) (by omega), decide_eq_true h, Bool.true_and]
    by_cases h2 : i = n
    · rw [decide_eq_true h2, decide_eq_true (show i - n = 0 by omega)]
    · rw [decide_eq_false h2, decide_eq_false (show ¬ i - n = 0 by omega)]
  · rw [decide_eq_false h, Bool.false_and]
    exact (decide_eq_false (by omega)).symm
theorem bit_and {n : Nat} (hn : n < 32) {l y m : Int32} (hl : l.toInt = (n : Int)) (e : y = 1 <<< (l &&& 31)) : m &&& y = 0 ↔ bt m n = false := by
  constructor
  · intro h
    have h1 := b_and m y n
    rw [h, b_0, bit_y hn hl e hn, decide_eq_true (rfl : n = n), Bool.and_true] at h1
    exact h1.symm
  · intro h
    apply b_ext
    intro i hi
    rw [b_and, bit_y hn hl e hi, b_0]
    by_cases h2 : i = n
    · rw [h2, h, Bool.false_and]
    · rw [decide_eq_false h2, Bool.and_false]
theorem bit_has {n : Nat} (hn : n < 32) {l x z m : Int32} (hl : l.toInt = (n : Int)) (e : x = m >>> (l &&& 31)) (e2 : z = x &&& 1) : z = 1 ↔ bt m n = true := by
  have hl' : l = nI n := Int32.toInt_inj.mp (by rw [hl, nI_toInt (by omega)])
  have h0 : bt x 0 = bt m n := by
    rw [e, hl', b_sshr n hn m (by omega), if_pos (by omega), Nat.add_zero]
  constructor
  · intro h
    have h1 := b_and x 1 0
    rw [← e2, h, b_one 0 (by omega), h0, decide_eq_true (rfl : (0 : Nat) = 0), Bool.and_true] at h1
    exact h1.symm
  · intro h
    apply b_ext
    intro i hi
    rw [e2, b_and, b_one i hi]
    by_cases h2 : i = 0
    · rw [h2, h0, h, Bool.true_and]
    · rw [decide_eq_false h2, Bool.and_false]
theorem bit_hasT {n : Nat} (hn : n < 32) {l x z m : Int32} (hl : l.toInt = (n : Int)) (e : x = m >>> (l &&& 31)) (e2 : z = x &&& 1) (h : z.toInt = 1) : bt m n = true := (bit_has hn hl e e2).mp (Int32.toInt_inj.mp (h.trans (by decide)))
theorem bit_hasF {n : Nat} (hn : n < 32) {l x z m : Int32} (hl : l.toInt = (n : Int)) (e : x = m >>> (l &&& 31)) (e2 : z = x &&& 1) (h : z.toInt ≠ 1) : bt m n = false := by
  rcases hb : bt m n with _ | _
  · rfl
  · exact absurd ((congrArg Int32.toInt ((bit_has hn hl e e2).mpr hb)).trans (by decide)) h
/-- the letters of a set from f to k -/
def mk26 (t : Int → Int) (m : Int32) (f k : Int) : Prop := (k = f → m = 0) ∧ ∀ b : Nat, b < 26 → (bt m b = true ↔ ∃ j : Int, f ≤ j ∧ j < k ∧ t j = 97 + (b : Int))
theorem mk_0 {t : Int → Int} {f : Int} : mk26 t 0 f f := ⟨fun _ => rfl, fun b _ => by rw [b_0]; exact ⟨fun h => (by cases h), fun ⟨j, h1, h2, _⟩ => (by omega)⟩⟩
theorem mk_next {t : Int → Int} {m m' l y : Int32} {f k k' : Int} (h : mk26 t m f k) (hf : f ≤ k) (hs : isSm (t k)) (hl : l.toInt = t k - 97) (e : y = 1 <<< (l &&& 31)) (e2 : m' = m ||| y) (hk : k' = k + 1) : mk26 t m' f k' := by
  unfold isSm at hs
  obtain ⟨n, hn⟩ : ∃ n : Nat, l.toInt = (n : Int) := ⟨l.toInt.toNat, by omega⟩
  refine ⟨fun q => by omega, fun b hb => ?_⟩
  rw [e2, b_or, bit_y (n := n) (by omega) hn e (by omega)]
  constructor
  · intro q
    by_cases h2 : b = n
    · exact ⟨k, by omega, by omega, by omega⟩
    · rw [decide_eq_false h2, Bool.or_false] at q
      obtain ⟨j, h3, h4, h5⟩ := (h.2 b hb).mp q
      exact ⟨j, h3, by omega, h5⟩
  · rintro ⟨j, h3, h4, h5⟩
    by_cases h2 : b = n
    · rw [decide_eq_true h2, Bool.or_true]
    · have h7 : j ≠ k := fun q => by
        rw [q] at h5
        omega
      have h6 : bt m b = true := (h.2 b hb).mpr ⟨j, h3, by omega, h5⟩
      rw [h6, Bool.true_or]
theorem mk_seen {t : Int → Int} {m : Int32} {f k : Int} {n : Nat} (h : mk26 t m f k) (hs : isSm (t k)) (hn : (n : Int) = t k - 97) : bt m n = true ↔ ∃ j : Int, f ≤ j ∧ j < k ∧ t j = t k := by
  unfold isSm at hs
  rw [h.2 n (by omega)]
  constructor
  · rintro ⟨j, a, b, c⟩; exact ⟨j, a, b, by omega⟩
  · rintro ⟨j, a, b, c⟩; exact ⟨j, a, b, by omega⟩
theorem mk_ne {t : Int → Int} {m : Int32} {f k : Int} (h : mk26 t m f k) (hf : f < k) (hs : isSm (t f)) : m ≠ 0 := fun q => by
  unfold isSm at hs
  have h1 := (h.2 (t f - 97).toNat (by omega)).mpr ⟨f, by omega, hf, by omega⟩
  rw [q, b_0] at h1
  cases h1
def seR (t : Int → Int) (f k2 o : Int) : Prop := (o = 1 → ∀ sp op d p, Ld t (zSt f f sp op d p) (zPt k2 sp op 1 d p)) ∧ (o = 0 → ∀ sp op d p, Ld t (zSt f f sp op d p) (zOut (-1)))
theorem seR_next {t : Int → Int} {m : Int32} {f k k' : Int} {n : Nat} (hI : ∀ sp op d p, Ld t (zSt f f sp op d p) (zSt k f sp op d p)) (hm : mk26 t m f k) (hs : isSm (t k)) (hn : (n : Int) = t k - 97) (hb : bt m n = false) (hk : k' = k + 1) : ∀ sp op d p, Ld t (zSt f f sp op d p) (zSt k' f sp op d p) := fun sp op d p => by
  rw [hk]
  exact (hI sp op d p).tr (mv_sn hs (fun q => by rw [(mk_seen hm hs hn).mpr q] at hb; cases hb))
theorem seR_two {t : Int → Int} {m : Int32} {f k k2 o : Int} {n : Nat} (hI : ∀ sp op d p, Ld t (zSt f f sp op d p) (zSt k f sp op d p)) (hm : mk26 t m f k) (hs : isSm (t k)) (hn : (n : Int) = t k - 97) (hb : bt m n = true) (ho : o = 0) : seR t f k2 o := ⟨fun h => by omega, fun _ sp op d p => (hI sp op d p).tr (mv_sf (fun q => by unfold isSm at hs; omega) (fun q => q.2 ((mk_seen hm hs hn).mp hb)))⟩
theorem seR_bad {t : Int → Int} {f k k2 o : Int} (hI : ∀ sp op d p, Ld t (zSt f f sp op d p) (zSt k f sp op d p)) (hs : ¬ isSm (t k)) (hb : t k ≠ 93 ∨ k = f) (ho : o = 0) : seR t f k2 o := ⟨fun h => by omega, fun _ sp op d p => (hI sp op d p).tr (mv_sf (fun q => by omega) (fun q => hs q.1))⟩
theorem seR_end {t : Int → Int} {f k k2 o : Int} (hI : ∀ sp op d p, Ld t (zSt f f sp op d p) (zSt k f sp op d p)) (h : t k = 93) (hf : f < k) (hk : k2 = k + 1) (ho : o = 1) : seR t f k2 o := ⟨fun _ sp op d p => by rw [hk]; exact (hI sp op d p).tr (mv_se h hf), fun h => by omega⟩
def atR (t : Int → Int) (k sp k2 sp2 D o : Int) : Prop := (o = 1 → ∀ st d p, Ld t (zPt k sp D st d p) (zPt k2 sp2 D 1 d p)) ∧ (o = 0 → ∀ st d p, Ld t (zPt k sp D st d p) (zOut (-1)))
/-- behind an item of a branch -/
def bE (t : Int → Int) (ke ks D k sp : Int) : Prop := ∃ st : Int, (st = 1 ∧ ¬ isQu (t k) ∨ st = 2) ∧ ∀ d p, Ld t (zPt ke ks D 0 d p) (zPt k sp D st d p)
def bI (t : Int → Int) (ke ks D k sp : Int) : Prop := (k = ke ∧ sp = ks) ∨ bE t ke ks D k sp
def bR (t : Int → Int) (k sp k2 sp2 D o : Int) : Prop := (o = 1 → bE t k sp D k2 sp2 ∧ ¬ isAt (t k2)) ∧ (o = 0 → ∀ d p, Ld t (zPt k sp D 0 d p) (zOut (-1)))
def pR (t : Int → Int) (k sp k2 sp2 D o : Int) : Prop := (o = 1 → bE t k sp D k2 sp2 ∧ ¬ isAt (t k2) ∧ t k2 ≠ 124) ∧ (o = 0 → ∀ d p, Ld t (zPt k sp D 0 d p) (zOut (-1)))
section AR
variable {t : Int → Int} {k sp k1 k2 k3 sp2 ke ks D D1 o r : Int}
theorem atR_pof (h : t k = 40) (hD : ¬ D < 5) (ho : o = 0) : atR t k sp k2 sp2 D o := ⟨fun q => by omega, fun _ st d p => mv_pof h hD⟩
theorem atR_s0 (h : t k = 40) (hD : D < 5) (hk : k1 = k + 1) (hp : pR t k1 sp k3 ks D1 r) (e1 : D1 = D + 1) (hr : r = 0) (ho : o = 0) : atR t k sp k2 sp2 D o := ⟨fun q => by omega, fun _ st d p => by subst hk; subst e1; exact (mv_po h hD).tr (hp.2 hr d p)⟩
theorem atR_np (h : t k = 40) (hD : D < 5) (hD0 : 0 ≤ D) (hk : k1 = k + 1) (hp : pR t k1 sp k3 ks D1 r) (e1 : D1 = D + 1) (hr : r = 1) (hn : t k3 ≠ 41) (ho : o = 0) : atR t k sp k2 sp2 D o := ⟨fun q => by omega, fun _ st d p => by
  subst hk; subst e1
  obtain ⟨⟨s9, h9, h8⟩, h7, h6⟩ := hp.1 hr
  exact (mv_po h hD).tr ((h8 d p).tr (mv_pf h7 (by omega) h6 (by omega) (fun q => by rcases h9 with ⟨_, u⟩ | u; exact u q.1; omega)))⟩
theorem atR_pp (h : t k = 40) (hD : D < 5) (hD0 : 0 ≤ D) (hk : k1 = k + 1) (hp : pR t k1 sp k3 sp2 D1 r) (e1 : D1 = D + 1) (hr : r = 1) (hn : t k3 = 41) (e2 : k2 = k3 + 1) (ho : o = 1) : atR t k sp k2 sp2 D o := ⟨fun _ st d p => by
  subst hk; subst e1; subst e2
  obtain ⟨⟨s9, h9, h8⟩, h7, h6⟩ := hp.1 hr
  have h5 := mv_pc (sp := sp2) (d := d) (p := p) (st := s9) hn (by omega) (show 0 < D + 1 by omega)
  rw [show D + 1 - 1 = D by omega] at h5
  exact (mv_po h hD).tr ((h8 d p).tr h5), fun q => by omega⟩
theorem atR_full (h : isAt (t k)) (h4 : t k ≠ 40) (hs : ¬ sp < 24) (ho : o = 0) : atR t k sp k2 sp2 D o := ⟨fun q => by omega, fun _ st d p => mv_paf h h4 hs⟩
theorem atR_let (h : isAt (t k)) (h4 : t k ≠ 40) (h9 : t k ≠ 91) (hs : sp < 24) (e1 : k2 = k + 1) (e2 : sp2 = sp + 1) (ho : o = 1) : atR t k sp k2 sp2 D o := ⟨fun _ st d p => by subst e1; subst e2; exact mv_pa h h4 h9 hs, fun q => by omega⟩
theorem atR_set (h : t k = 91) (hs : sp < 24) (e1 : k1 = k + 1) (hR : seR t k1 k2 r) (hr : r = 1) (e2 : sp2 = sp + 1) (ho : o = 1) : atR t k sp k2 sp2 D o := ⟨fun _ st d p => by subst e1; subst e2; exact (mv_ps h hs).tr (hR.1 hr _ _ _ _), fun q => by omega⟩
theorem atR_sef (h : t k = 91) (hs : sp < 24) (e1 : k1 = k + 1) (hR : seR t k1 k3 r) (hr : r = 0) (ho : o = 0) : atR t k sp k2 sp2 D o := ⟨fun q => by omega, fun _ st d p => by subst e1; exact (mv_ps h hs).tr (hR.2 hr _ _ _ _)⟩
theorem bI_next (hI : bI t ke ks D k sp) (hA : atR t k sp k1 sp2 D r) (hr : r = 1) (hq : isQu (t k1) ∧ k2 = k1 + 1 ∨ ¬ isQu (t k1) ∧ k2 = k1) : bI t ke ks D k2 sp2 := by
  have h1 : ∀ d p, Ld t (zPt ke ks D 0 d p) (zPt k1 sp2 D 1 d p) := fun d p => by
    rcases hI with ⟨e1, e2⟩ | ⟨s9, _, h8⟩
    · rw [← e1, ← e2]; exact hA.1 hr 0 d p
    · exact (h8 d p).tr (hA.1 hr s9 d p)
  rcases hq with ⟨q, e⟩ | ⟨q, e⟩
  · subst e; exact Or.inr ⟨2, Or.inr rfl, fun d p => (h1 d p).tr (mv_pg q)⟩
  · subst e; exact Or.inr ⟨1, Or.inl ⟨rfl, q⟩, h1⟩
theorem bR_f (hI : bI t ke ks D k sp) (hA : atR t k sp k1 sp2 D r) (hr : r = 0) (ho : o = 0) : bR t ke ks k2 k3 D o := ⟨fun q => by omega, fun _ d p => by
  rcases hI with ⟨e1, e2⟩ | ⟨s9, _, h8⟩
  · rw [← e1, ← e2]; exact hA.2 hr 0 d p
  · exact (h8 d p).tr (hA.2 hr s9 d p)⟩
theorem bR_e (hI : bI t ke ks D k sp) (h1 : isAt (t ke)) (h2 : ¬ isAt (t k)) (ho : o = 1) : bR t ke ks k sp D o := ⟨fun _ => by
  rcases hI with ⟨e1, e2⟩ | h
  · rw [e1] at h2; exact absurd h1 h2
  · exact ⟨h, h2⟩, fun q => by omega⟩
theorem bR_0 (h : ¬ isAt (t ke)) (ho : o = 0) : bR t ke ks k sp D o := ⟨fun q => by omega, fun _ d p => mv_p0 h⟩
theorem pI_next (hE : bE t ke ks D k sp ∧ ¬ isAt (t k)) (h : t k = 124) (e1 : k1 = k + 1) (hB : bR t k1 sp k2 sp2 D r) (hr : r = 1) : bE t ke ks D k2 sp2 ∧ ¬ isAt (t k2) := by
  subst e1
  obtain ⟨⟨s9, h9, h8⟩, _⟩ := hE
  obtain ⟨⟨s7, h7, h6⟩, h5⟩ := hB.1 hr
  exact ⟨⟨s7, h7, fun d p => (h8 d p).tr ((mv_pb h (by omega)).tr (h6 d p))⟩, h5⟩
theorem pR_f (hE : bE t ke ks D k sp ∧ ¬ isAt (t k)) (h : t k = 124) (e1 : k1 = k + 1) (hB : bR t k1 sp k2 sp2 D r) (hr : r = 0) (ho : o = 0) : pR t ke ks k3 D1 D o := ⟨fun q => by omega, fun _ d p => by
  subst e1
  obtain ⟨⟨s9, h9, h8⟩, _⟩ := hE
  exact (h8 d p).tr ((mv_pb h (by omega)).tr (hB.2 hr d p))⟩
theorem pR_0 (hB : bR t ke ks k sp D r) (hr : r = 0) (ho : o = 0) : pR t ke ks k2 sp2 D o := ⟨fun q => by omega, fun _ => hB.2 hr⟩
theorem pR_e (hE : bE t ke ks D k sp ∧ ¬ isAt (t k)) (h : t k ≠ 124) (ho : o = 1) : pR t ke ks k sp D o := ⟨fun _ => ⟨hE.1, hE.2, h⟩, fun q => by omega⟩
end AR
theorem seR_z {t : Int → Int} {m : Int32} {f k : Int} (hm : mk26 t m f k) (hs : ∀ j, f ≤ j → j < k → isSm (t j)) (hf : f ≤ k) (h0 : m.toInt = 0) : k = f := by
  rcases Int.lt_or_eq_of_le hf with h | h
  · exact absurd (Int32.toInt_inj.mp (h0.trans (by decide))) (mk_ne hm h (hs f (Int.le_refl f) h))
  · exact h.symm
theorem seR_nz {t : Int → Int} {m : Int32} {f k : Int} (hm : mk26 t m f k) (hf : f ≤ k) (h0 : m.toInt ≠ 0) : f < k := by
  rcases Int.lt_or_eq_of_le hf with h | h
  · exact h
  · exact absurd ((congrArg Int32.toInt (hm.1 h.symm)).trans (by decide)) h0

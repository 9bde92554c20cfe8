def dR (t : Int → Int) (f k2 dd o : Int) : Prop := (o = 1 → ∀ p, Ld t (zDc f f dd p) (zTop k2 3 (dd + 1) p)) ∧ (o = 0 → ∀ p, Ld t (zDc f f dd p) (zOut (-1)))
def qR (t : Int → Int) (f k2 pp o : Int) : Prop := (o = 1 → ∀ d, Ld t (zPt f 0 0 0 d pp) (zTop k2 3 d (pp + 1))) ∧ (o = 0 → ∀ d, Ld t (zPt f 0 0 0 d pp) (zOut (-1)))
section DR
variable {t : Int → Int} {f k k' k2 k3 dd pp o r ks sp : Int}
theorem dR_next (hI : ∀ p, Ld t (zDc f f dd p) (zDc k f dd p)) (hs : isSm (t k)) (h6 : k - f < 60) (e : k' = k + 1) : ∀ p, Ld t (zDc f f dd p) (zDc k' f dd p) := fun p => by subst e; exact (hI p).tr (mv_dn hs h6)
theorem dR_f (hI : ∀ p, Ld t (zDc f f dd p) (zDc k f dd p)) (h1 : ¬ (t k = 34 ∧ f < k)) (h2 : ¬ (isSm (t k) ∧ k - f < 60)) (ho : o = 0) : dR t f k2 dd o := ⟨fun q => by omega, fun _ p => (hI p).tr (mv_df h1 h2)⟩
theorem dR_e (hI : ∀ p, Ld t (zDc f f dd p) (zDc k f dd p)) (h1 : t k = 34) (hf : f < k) (e : k2 = k + 1) (ho : o = 1) : dR t f k2 dd o := ⟨fun _ p => by subst e; exact (hI p).tr (mv_dq h1 hf), fun q => by omega⟩
theorem qR_0 (hp : pR t f ks k sp 0 r) (h0 : ks = 0) (hr : r = 0) (ho : o = 0) : qR t f k2 pp o := ⟨fun q => by omega, fun _ d => by subst h0; exact hp.2 hr d pp⟩
theorem qR_n (hp : pR t f ks k sp 0 r) (h0 : ks = 0) (hr : r = 1) (hn : t k ≠ 34) (ho : o = 0) : qR t f k2 pp o := ⟨fun q => by omega, fun _ d => by
  subst h0
  obtain ⟨⟨s9, h9, h8⟩, h7, h6⟩ := hp.1 hr
  exact (h8 d pp).tr (mv_pf h7 (by omega) h6 (by omega) (fun q => by rcases h9 with ⟨_, u⟩ | u; exact u q.1; omega))⟩
theorem qR_e (hp : pR t f ks k sp 0 r) (h0 : ks = 0) (hr : r = 1) (hn : t k = 34) (e : k2 = k + 1) (ho : o = 1) : qR t f k2 pp o := ⟨fun _ d => by
  subst h0; subst e
  obtain ⟨⟨s9, h9, h8⟩, h7, h6⟩ := hp.1 hr
  exact (h8 d pp).tr (mv_pq hn (by omega)), fun q => by omega⟩
end DR
/-- a token from b to e, of the kind k -/
def tK (t : Int → Int) (b e k : Int) : Prop := k = 0 ∧ t b = -1 ∧ e = b ∨ k = 2 ∧ isSm (t b) ∧ b < e ∧ (∀ j, b ≤ j → j < e → isSm (t j)) ∧ ¬ isSm (t e) ∨ k = 3 ∧ t b = 34 ∧ e = b + 1 ∨ k = 4 ∧ t b = 59 ∧ e = b + 1 ∨ k = 1 ∧ e = b + 1 ∧ ¬ isSm (t b) ∧ t b ≠ 34 ∧ t b ≠ 59 ∧ t b ≠ 32 ∧ t b ≠ 10 ∧ t b ≠ -1
def tG (t : Int → Int) (a b : Int) : Prop := ∀ w d p, Ld t (zTop a w d p) (zTop b w d p)
section TK
variable {t : Int → Int} {a b b' e k w d p n : Int}
theorem tG_next (h : tG t a b) (hs : t b = 32 ∨ t b = 10) (e : b' = b + 1) : tG t a b' := fun w d p => by subst e; exact (h w d p).tr (mv_sp hs)
theorem tK_w (h : tK t b e k) (hk : k = 2) : isSm (t b) ∧ b < e ∧ (∀ j, b ≤ j → j < e → isSm (t j)) ∧ ¬ isSm (t e) := by
  rcases h with h | h | h | h | h
  · omega
  · exact h.2
  · omega
  · omega
  · omega
theorem tK_q (h : tK t b e k) (hk : k = 3) : t b = 34 ∧ e = b + 1 := by
  rcases h with h | h | h | h | h
  · omega
  · omega
  · exact h.2
  · omega
  · omega
theorem tK_s (h : tK t b e k) (hk : k = 4) : t b = 59 ∧ e = b + 1 := by
  rcases h with h | h | h | h | h
  · omega
  · omega
  · omega
  · exact h.2
  · omega
theorem tK_z (h : tK t b e k) (hk : k = 0) : t b = -1 := by
  rcases h with h | h | h | h | h
  · exact h.2.1
  · omega
  · omega
  · omega
  · omega
/-- no QUOTE where one has to come -/
theorem tK_f1 (h : tK t b e k) (hk : k ≠ 3) (hw : w = 1 ∨ w = 2) : Ld t (zTop b w d p) (zOut (-1)) := by
  rcases h with h | h | h | h | h
  · exact mv_endf h.2.1 (by omega)
  · exact mv_wdf h.2.1 (by omega)
  · omega
  · exact mv_scf h.2.1 (by omega)
  · exact mv_bad h.2.2.1 h.2.2.2.1 h.2.2.2.2.1 h.2.2.2.2.2.1 h.2.2.2.2.2.2.1 h.2.2.2.2.2.2.2
theorem tK_f3 (h : tK t b e k) (hk : k ≠ 4) : Ld t (zTop b 3 d p) (zOut (-1)) := by
  rcases h with h | h | h | h | h
  · exact mv_endf h.2.1 (by omega)
  · exact mv_wdf h.2.1 (by omega)
  · exact mv_qf h.2.1 (by omega) (by omega)
  · omega
  · exact mv_bad h.2.2.1 h.2.2.2.1 h.2.2.2.2.1 h.2.2.2.2.2.1 h.2.2.2.2.2.2.1 h.2.2.2.2.2.2.2
theorem tK_f0 (h : tK t b e k) (hk : k ≠ 0) (h2 : k ≠ 2) : Ld t (zTop b 0 d p) (zOut (-1)) := by
  rcases h with h | h | h | h | h
  · omega
  · omega
  · exact mv_qf h.2.1 (by omega) (by omega)
  · exact mv_scf h.2.1 (by omega)
  · exact mv_bad h.2.2.1 h.2.2.2.1 h.2.2.2.2.1 h.2.2.2.2.2.1 h.2.2.2.2.2.2.1 h.2.2.2.2.2.2.2
end TK
theorem wd_run {t : Int → Int} {f d p : Int} : ∀ (n : Nat) {k : Int}, (∀ j, f ≤ j → j < k + n → isSm (t j)) → f ≤ k → Ld t (zWd k f d p) (zWd (k + n) f d p)
  | 0, k, _, _ => by
    rw [show k + ((0 : Nat) : Int) = k by omega]
    exact Ld.rf
  | n + 1, k, h, hf => by
    have h1 := wd_run (t := t) (f := f) (d := d) (p := p) n (k := k + 1) (fun j a b => h j a (by omega)) (by omega)
    rw [show k + ((n + 1 : Nat) : Int) = k + 1 + (n : Int) by omega]
    exact (mv_wdn (h k hf (by omega))).tr h1
theorem wd_all {t : Int → Int} {b e d p : Int} (h : isSm (t b) ∧ b < e ∧ (∀ j, b ≤ j → j < e → isSm (t j)) ∧ ¬ isSm (t e)) : Ld t (zTop b 0 d p) (zWd e b d p) := by
  have h1 := wd_run (t := t) (f := b) (d := d) (p := p) (e - (b + 1)).toNat (k := b + 1) (fun j a q => h.2.2.1 j a (by omega)) (by omega)
  rw [show b + 1 + ((e - (b + 1)).toNat : Int) = e by have := h.2.1; omega] at h1
  exact (mv_wd h.1).tr h1
/-- a word that is neither, or of which there are enough -/
theorem wd_bad {t : Int → Int} {b e k d p : Int} (h : tK t b e k) (hk : k ≠ 0) (h1 : k = 2 → wDoc t b e → ¬ d < 10) (h2 : k = 2 → wPat t b e → ¬ p < 8) : Ld t (zTop b 0 d p) (zOut (-1)) := by
  by_cases q : k = 2
  · have h3 := tK_w h q
    exact (wd_all h3).tr (mv_wbad h3.2.2.2 (h1 q) (h2 q))
  · exact tK_f0 h hk q
theorem wd_doc {t : Int → Int} {b e k d p : Int} (h : tK t b e k) (hk : k = 2) (h1 : wDoc t b e) (h2 : d < 10) : Ld t (zTop b 0 d p) (zTop e 1 d p) := by
  have h3 := tK_w h hk
  exact (wd_all h3).tr (mv_wdoc h3.2.2.2 h1 h2)
theorem wd_pat {t : Int → Int} {b e k d p : Int} (h : tK t b e k) (hk : k = 2) (h1 : wPat t b e) (h2 : p < 8) : Ld t (zTop b 0 d p) (zTop e 2 d p) := by
  have h3 := tK_w h hk
  exact (wd_all h3).tr (mv_wpat h3.2.2.2 h1 h2)
/-- a text in a text -/
def isTx (t : Int → Int) (g : Nat → Int32) (b n : Int) : Prop := ∀ j, 0 ≤ j → j < n → t (b + j) = vI g j % 256
theorem tx_next {t : Int → Int} {g : Nat → Int32} {b n n' : Int} (h : isTx t g b n) (h1 : t (b + n) = vI g n % 256) (e : n' = n + 1) : isTx t g b n' := fun j a c => by
  by_cases q : j = n
  · subst q; exact h1
  · exact h j a (by omega)
def gDoc : Nat → Int32 := fun j => [100, 111, 99].getD j 0
def gPat : Nat → Int32 := fun j => [112, 97, 116, 116, 101, 114, 110].getD j 0
theorem tx_doc {t : Int → Int} {b e : Int} : (e - b = 3 ∧ isTx t gDoc b 3) ↔ wDoc t b e := by
  constructor
  · rintro ⟨h1, h2⟩
    have a0 := h2 0 (by omega) (by omega)
    have a1 := h2 1 (by omega) (by omega)
    have a2 := h2 2 (by omega) (by omega)
    rw [show b + 0 = b by omega] at a0
    exact ⟨by omega, a0.trans (by decide), a1.trans (by decide), a2.trans (by decide)⟩
  · rintro ⟨h1, a0, a1, a2⟩
    refine ⟨by omega, fun j c1 c2 => ?_⟩
    rcases (show j = 0 ∨ j = 1 ∨ j = 2 by omega) with rfl | rfl | rfl
    · rw [show b + 0 = b by omega, a0]; decide
    · rw [a1]; decide
    · rw [a2]; decide
theorem tx_pat {t : Int → Int} {b e : Int} : (e - b = 7 ∧ isTx t gPat b 7) ↔ wPat t b e := by
  constructor
  · rintro ⟨h1, h2⟩
    have a0 := h2 0 (by omega) (by omega)
    have a1 := h2 1 (by omega) (by omega)
    have a2 := h2 2 (by omega) (by omega)
    have a3 := h2 3 (by omega) (by omega)
    have a4 := h2 4 (by omega) (by omega)
    have a5 := h2 5 (by omega) (by omega)
    have a6 := h2 6 (by omega) (by omega)
    rw [show b + 0 = b by omega] at a0
    exact ⟨by omega, a0.trans (by decide), a1.trans (by decide), a2.trans (by decide), a3.trans (by decide), a4.trans (by decide), a5.trans (by decide), a6.trans (by decide)⟩
  · rintro ⟨h1, a0, a1, a2, a3, a4, a5, a6⟩
    refine ⟨by omega, fun j c1 c2 => ?_⟩
    rcases (show j = 0 ∨ j = 1 ∨ j = 2 ∨ j = 3 ∨ j = 4 ∨ j = 5 ∨ j = 6 by omega) with rfl | rfl | rfl | rfl | rfl | rfl | rfl
    · rw [show b + 0 = b by omega, a0]; decide
    · rw [a1]; decide
    · rw [a2]; decide
    · rw [a3]; decide
    · rw [a4]; decide
    · rw [a5]; decide
    · rw [a6]; decide
def mwX10_docQuotemq : List Cond := .code yX10_docQuote cX10_docQuote 3 (some .boolean) :: (([.fieldLink RX10 8 "PatternGateModel" "all" "[I", .fieldLink RX10 130 "PatternGateModel" "end" "I", .methodLink RX10 133 yX10_byteAt, .instanceMethod yX10_byteAt, .selects RX10 yX10_byteAt yX10_byteAt, .initialized RX10, .methodLink RX10 137 yX10_isSmall, .static yX10_isSmall, .methodLink RX10 126 yX10_failsAt, .instanceMethod yX10_failsAt, .selects RX10 yX10_failsAt yX10_failsAt] : List Cond) ++ (wsX100 ++ (mwX10_byteAtm ++ (mwX10_isSmallm ++ (mwX10_failsAtmq)))))
theorem fin_X10_docQuotemq_X10 : ∀ w ∈ wsX100, w ∈ mwX10_docQuotemq := fun w h => List.mem_cons_of_mem _ (List.mem_append_right _ (List.mem_append_left _ h))
set_option maxRecDepth 20000 in
theorem mg_X10_docQuotemq_X10_byteAt_133 : GoodIn mwX10_docQuotemq (wsV RX10 133 RX10 yX10_byteAt mwX10_byteAtm) := gi_app (A := [.methodLink RX10 133 yX10_byteAt, .instanceMethod yX10_byteAt, .selects RX10 yX10_byteAt yX10_byteAt, .initialized RX10]) (goodIn_r _ [3, 4, 5, 6] (by decide +kernel) (by decide +kernel)) (gi_sub gd_mwX10_byteAtm (fun w h => List.mem_cons_of_mem _ (List.mem_append_right _ (List.mem_append_right _ (List.mem_append_left _ h)))))
set_option maxRecDepth 20000 in
theorem mg_X10_docQuotemq_X10_isSmall_137 : GoodIn mwX10_docQuotemq (va_wsS RX10 137 yX10_isSmall mwX10_isSmallm) := gi_app (A := [.methodLink RX10 137 yX10_isSmall, .static yX10_isSmall, .initialized RX10]) (goodIn_r _ [7, 8, 6] (by decide +kernel) (by decide +kernel)) (gi_sub gd_mwX10_isSmallm (fun w h => List.mem_cons_of_mem _ (List.mem_append_right _ (List.mem_append_right _ (List.mem_append_right _ (List.mem_append_left _ h))))))
set_option maxRecDepth 20000 in
theorem mg_X10_docQuotemq_X10_failsAt_126 : GoodIn mwX10_docQuotemq (wsV RX10 126 RX10 yX10_failsAt mwX10_failsAtmq) := gi_app (A := [.methodLink RX10 126 yX10_failsAt, .instanceMethod yX10_failsAt, .selects RX10 yX10_failsAt yX10_failsAt, .initialized RX10]) (goodIn_r _ [9, 10, 11, 6] (by decide +kernel) (by decide +kernel)) (gi_sub gd_mwX10_failsAtmq (fun w h => List.mem_cons_of_mem _ (List.mem_append_right _ (List.mem_append_right _ (List.mem_append_right _ (List.mem_append_right _ (h)))))))
set_option maxHeartbeats 4000000 in
set_option maxRecDepth 100000 in
theorem m_docQuote_q (l : Launch) (dC : Nat → ClassId) (dI : Nat → Nat → Nat) (ad : Nat → Nat) (kc : Nat → ClassId) (x0 x1 x2 x3 x4 x5 x6 x7 x8 x9 x10 x11 x12 x13 x14 x15 x16 x17 x18 x19 x20 x21 : Int32) (f0 f1 f2 f3 f4 f5 f6 f7 f8 f9 f10 f11 f12 f13 f14 f15 f16 f17 f18 f19 f20 f21 : Nat → Int32) (fL : Nat → Nat → Int64) (fN : Nat → Nat → Int32) (fP : Nat → Nat → Nat) (fM : Nat → Nat → Int32) (fO : Nat → Nat → Int32) (sz : Nat) (q0 : 0 ≤ x7.toInt) (q1 : x7.toInt ≤ x4.toInt) (q2 : x4.toInt ≤ 900) (q3 : OKd f0 0) (q4 : vI f0 0 < 10) (q5 : 0 ≤ x8.toInt) : Met l yX10_docQuote mwX10_docQuotemq ({ frames := 1, cells := 0, slots := 0, locals := 60 }) (va_Pc [.ref (ad 0)] (fun U => U.heap.size = sz ∧ va_P (dC, dI) vwCl (mW ad kc x0 x1 x2 x3 x4 x5 x6 x7 x8 x9 x10 x11 x12 x13 x14 x15 x16 x17 x18 x19 x20 x21 f0 f1 f2 f3 f4 f5 f6 f7 f8 f9 f10 f11 f12 f13 f14 f15 f16 f17 f18 f19 f20 f21 fL fN fP fM fO) U.heap ∧ va_K (dC, dI) vwCl (mT kc) U ∧ va_D (fun _ => True) (mW ad kc x0 x1 x2 x3 x4 x5 x6 x7 x8 x9 x10 x11 x12 x13 x14 x15 x16 x17 x18 x19 x20 x21 f0 f1 f2 f3 f4 f5 f6 f7 f8 f9 f10 f11 f12 f13 f14 f15 f16 f17 f18 f19 f20 f21 fL fN fP fM fO))) (va_Qi (fun (o9 u9 : Int32) => o9 = u9) (fun (o9 : Int32) t => ∃ (y7 y8 y9 : Int32) (g0 : Nat → Int32), (OKd g0 0) ∧ (∀ z : Int, 7820 ≤ z → vI g0 z = vI f0 z) ∧ (x7.toInt ≤ y7.toInt) ∧ (y7.toInt ≤ x4.toInt) ∧ (o9.toInt = 0 ∨ o9.toInt = 1) ∧ (dR (tx f2 x4.toInt) x7.toInt y7.toInt (vI f0 0) o9.toInt) ∧ (o9.toInt = 1 → vI g0 0 = vI f0 0 + 1 ∧ vI g0 611 = vI f0 611) ∧ (o9.toInt = 1 ∧ y8.toInt = x8.toInt ∨ o9.toInt = 0 ∧ 0 < y8.toInt) ∧ va_P (dC, dI) vwCl (mW ad kc x0 x1 x2 x3 x4 x5 x6 y7 y8 y9 x10 x11 x12 x13 x14 x15 x16 x17 x18 x19 x20 x21 g0 f1 f2 f3 f4 f5 f6 f7 f8 f9 f10 f11 f12 f13 f14 f15 f16 f17 f18 f19 f20 f21 fL fN fP fM fO) t.heap ∧ va_K (dC, dI) vwCl (mT kc) t ∧ va_D (va_A (mW ad kc x0 x1 x2 x3 x4 x5 x6 x7 x8 x9 x10 x11 x12 x13 x14 x15 x16 x17 x18 x19 x20 x21 f0 f1 f2 f3 f4 f5 f6 f7 f8 f9 f10 f11 f12 f13 f14 f15 f16 f17 f18 f19 f20 f21 fL fN fP fM fO) sz) (mW ad kc x0 x1 x2 x3 x4 x5 x6 y7 y8 y9 x10 x11 x12 x13 x14 x15 x16 x17 x18 x19 x20 x21 g0 f1 f2 f3 f4 f5 f6 f7 f8 f9 f10 f11 f12 f13 f14 f15 f16 f17 f18 f19 f20 f21 fL fN fP fM fO)) (va_A (mW ad kc x0 x1 x2 x3 x4 x5 x6 x7 x8 x9 x10 x11 x12 x13 x14 x15 x16 x17 x18 x19 x20 x21 f0 f1 f2 f3 f4 f5 f6 f7 f8 f9 f10 f11 f12 f13 f14 f15 f16 f17 f18 f19 f20 f21 fL fN fP fM fO) sz)) 0 0 (va_A (mW ad kc x0 x1 x2 x3 x4 x5 x6 x7 x8 x9 x10 x11 x12 x13 x14 x15 x16 x17 x18 x19 x20 x21 f0 f1 f2 f3 f4 f5 f6 f7 f8 f9 f10 f11 f12 f13 f14 f15 f16 f17 f18 f19 f20 f21 fL fN fP fM fO) sz) := by
  refine Met.ofW (cc := cX10_docQuote) (maxL := 3) (ret := (some .boolean)) (by decide +kernel) rfl ?_
  intro p e s m args below meth c s₁ B hml hv
  obtain ⟨rfl, hsz, hP, hK, hD0⟩ := hv
  have hx := B.exec
  have hb := B.bytes
  have hr := B.returns
  have hts := atoms_spec (ws := mwX10_docQuotemq) B.pre
  have hown : s.vm.findClass RX10 = some m.cls := findClass_of_methodNamed B.named
  have hlocks := B.notSynchronized
  subst hsz
  have hD := hD0.self (sz := s.heap.size)
  generalize hAe : va_A (mW ad kc x0 x1 x2 x3 x4 x5 x6 x7 x8 x9 x10 x11 x12 x13 x14 x15 x16 x17 x18 x19 x20 x21 f0 f1 f2 f3 f4 f5 f6 f7 f8 f9 f10 f11 f12 f13 f14 f15 f16 f17 f18 f19 f20 f21 fL fN fP fM fO) s.heap.size = A at hD ⊢
  have hA : ∀ q : Nat, s.heap.size ≤ q → A q := fun q h => by rw [← hAe]; exact Or.inr h
  have hP : va_P (dC, dI) vwCl (mW ad kc x0 x1 x2 x3 x4 x5 x6 x7 x8 x9 x10 x11 x12 x13 x14 x15 x16 x17 x18 x19 x20 x21 f0 f1 f2 f3 f4 f5 f6 f7 f8 f9 f10 f11 f12 f13 f14 f15 f16 f17 f18 f19 f20 f21 fL fN fP fM fO) s.heap := hP
  have hD : va_D A (mW ad kc x0 x1 x2 x3 x4 x5 x6 x7 x8 x9 x10 x11 x12 x13 x14 x15 x16 x17 x18 x19 x20 x21 f0 f1 f2 f3 f4 f5 f6 f7 f8 f9 f10 f11 f12 f13 f14 f15 f16 f17 f18 f19 f20 f21 fL fN fP fM fO) := hD
  have hK : va_K (dC, dI) vwCl (mT kc) s := hK
  generalize hH : s.heap = H at hP ⊢
  have hS : va_S A s.heap H [] := by rw [← hH]; exact va_S.rf
  have hl := lv_entry ([.ref (ad 0)]) (n := 3) (Nat.le_of_ble_eq_true rfl)
  rw [lg_entry_eq]
  generalize (lg_sl ([.ref (ad 0)]) ++ List.replicate (3 - (lg_sl ([.ref (ad 0)])).length) Slot.unset).toArray = ls at hl ⊢
  have hl : lv_has ls 3 [(0, .ref (ad 0))] := hl
  have q3a := q3.1
  refine lv_aload_n hx hb dX10_docQuote_0 rfl (lv_at hl 0 rfl) ?_
  refine va_get (D := (dC, dI)) (ci := 10) (v := .ref (ad 1)) (C := RX10) (T := TX10) (N := 48) hx hb hts fin_X10_docQuotemq_X10 hown hK hP 0 rfl rfl 0 (by decide) (hts (.fieldLink RX10 8 "PatternGateModel" "all" "[I") (List.mem_of_getElem? (i := 1) (by decide +kernel))) (fun _ h9 => h9) rfl dX10_docQuote_1 ?_
  refine lv_iconst (v := 0) hx hb dX10_docQuote_4 (by decide) ?_
  refine va_iald hx hb hK hP 1 0 rfl rfl (i := 0) (by unfold vp_in; decide +kernel) dX10_docQuote_5 ?_
  refine lv_topi (fun y_1 ey_1 => ?_)
  have rg_y_1 := i_rng y_1
  have vy_1 := vI_lda (f := f0) (i := 0) (a := 0) ey_1 (by first | omega | decide)
  have rg_y_1 := i_rng y_1
  refine lv_istore_n (lv' := [(1, .int y_1), (0, .ref (ad 0))]) hx hb dX10_docQuote_6 rfl hl (by decide) rfl (fun ls hl => ?_)
  refine lv_iconst (v := 0) hx hb dX10_docQuote_7 (by decide) ?_
  refine lv_istore_n (lv' := [(2, .int 0), (1, .int y_1), (0, .ref (ad 0))]) hx hb dX10_docQuote_8 rfl hl (by decide) rfl (fun ls hl => ?_)
  have loop9 : ∀ (lm9 : Nat) (nn ea : Int32) (ga : Nat → Int32), (0 ≤ nn.toInt) → (nn.toInt ≤ 60) → (x7.toInt ≤ ea.toInt) → (ea.toInt ≤ x4.toInt) → (∀ z : Int, 0 ≤ z → (z < 11 + 60 * y_1.toInt ∨ 71 + 60 * y_1.toInt ≤ z) → vI ga z = vI f0 z) → (∀ k : Int, 0 ≤ k → k < nn.toInt → 0 ≤ vI ga (11 + 60 * y_1.toInt + k) ∧ vI ga (11 + 60 * y_1.toInt + k) ≤ 25) → (ea.toInt = x7.toInt + nn.toInt) → (∀ p, Ld (tx f2 x4.toInt) (zDc x7.toInt x7.toInt (vI f0 0) p) (zDc ea.toInt x7.toInt (vI f0 0) p)) → ((x4.toInt - ea.toInt).toNat) < lm9 → ∀ (H : Heap) (locs : List Loc) (ls : Array Slot), va_P (dC, dI) vwCl (mW ad kc x0 x1 x2 x3 x4 x5 x6 ea x8 x9 x10 x11 x12 x13 x14 x15 x16 x17 x18 x19 x20 x21 ga f1 f2 f3 f4 f5 f6 f7 f8 f9 f10 f11 f12 f13 f14 f15 f16 f17 f18 f19 f20 f21 fL fN fP fM fO) H → va_D A (mW ad kc x0 x1 x2 x3 x4 x5 x6 ea x8 x9 x10 x11 x12 x13 x14 x15 x16 x17 x18 x19 x20 x21 ga f1 f2 f3 f4 f5 f6 f7 f8 f9 f10 f11 f12 f13 f14 f15 f16 f17 f18 f19 f20 f21 fL fN fP fM fO) → va_S A s.heap H locs → lv_has ls 3 [(2, .int nn), (1, .int y_1), (0, .ref (ad 0))] → W p l e (headSpec mwX10_docQuotemq ({ frames := 1, cells := 0, slots := 0, locals := 60 })).room s m ([.ref (ad 0)]).toArray below meth c H locs 0 0 (MQ below (va_Qi (fun (o9 u9 : Int32) => o9 = u9) (fun (o9 : Int32) t => ∃ (y7 y8 y9 : Int32) (g0 : Nat → Int32), (OKd g0 0) ∧ (∀ z : Int, 7820 ≤ z → vI g0 z = vI f0 z) ∧ (x7.toInt ≤ y7.toInt) ∧ (y7.toInt ≤ x4.toInt) ∧ (o9.toInt = 0 ∨ o9.toInt = 1) ∧ (dR (tx f2 x4.toInt) x7.toInt y7.toInt (vI f0 0) o9.toInt) ∧ (o9.toInt = 1 → vI g0 0 = vI f0 0 + 1 ∧ vI g0 611 = vI f0 611) ∧ (o9.toInt = 1 ∧ y8.toInt = x8.toInt ∨ o9.toInt = 0 ∧ 0 < y8.toInt) ∧ va_P (dC, dI) vwCl (mW ad kc x0 x1 x2 x3 x4 x5 x6 y7 y8 y9 x10 x11 x12 x13 x14 x15 x16 x17 x18 x19 x20 x21 g0 f1 f2 f3 f4 f5 f6 f7 f8 f9 f10 f11 f12 f13 f14 f15 f16 f17 f18 f19 f20 f21 fL fN fP fM fO) t.heap ∧ va_K (dC, dI) vwCl (mT kc) t ∧ va_D A (mW ad kc x0 x1 x2 x3 x4 x5 x6 y7 y8 y9 x10 x11 x12 x13 x14 x15 x16 x17 x18 x19 x20 x21 g0 f1 f2 f3 f4 f5 f6 f7 f8 f9 f10 f11 f12 f13 f14 f15 f16 f17 f18 f19 f20 f21 fL fN fP fM fO)) A) ([.ref (ad 0)]).toArray s 0 0 A) (F0 m 9 ls []) := by
    intro lm9
    induction lm9 with
    | zero => intro nn ea ga v9_0 v9_1 v9_2 v9_3 v9_4 v9_5 v9_6 v9_7 hm9; exact absurd hm9 (Nat.not_lt_zero _)
    | succ lm9 ih9 =>
      intro nn ea ga v9_0 v9_1 v9_2 v9_3 v9_4 v9_5 v9_6 v9_7 hm9 H locs ls hP hD hS hl
      have rg_nn := i_rng nn
      have rg_ea := i_rng ea
      refine lv_aload_n hx hb dX10_docQuote_9 rfl (lv_at hl 2 rfl) ?_
      refine lv_aload_n hx hb dX10_docQuote_10 rfl (lv_at hl 2 rfl) ?_
      refine va_get (D := (dC, dI)) (ci := 10) (v := .int ea) (C := RX10) (T := TX10) (N := 48) hx hb hts fin_X10_docQuotemq_X10 hown hK hP 0 rfl rfl 10 (by decide) (hts (.fieldLink RX10 130 "PatternGateModel" "end" "I") (List.mem_of_getElem? (i := 2) (by decide +kernel))) (fun _ h9 => h9) rfl dX10_docQuote_11 ?_
      refine vp_callSi (W.runV (As := [.int ea]) (rest := []) ⟨hx, hb, hml, hown, hts⟩ (m_byteAt l dC dI ad kc x0 x1 x2 x3 x4 x5 x6 ea x8 x9 x10 x11 x12 x13 x14 x15 x16 x17 x18 x19 x20 x21 ga f1 f2 f3 f4 f5 f6 f7 f8 f9 f10 f11 f12 f13 f14 f15 f16 f17 f18 f19 f20 f21 fL fN fP fM fO ea (by first | omega | assumption | decide | (have l0 := Int32.toInt_zero; omega)) (by first | omega | assumption | decide | (have l0 := Int32.toInt_zero; omega))) (cwV 1 hts mg_X10_docQuotemq_X10_byteAt_133 rfl rfl rfl (by decide +kernel) ⟨Nat.le_of_ble_eq_true rfl, Nat.le_of_ble_eq_true rfl⟩) ⟨fun a U g mk q => by obtain ⟨q0, qP, qK⟩ := q; exact ⟨q0, qP, va_K.moved (u := U) (U := U.calling g mk a) (Vm.Alike.refl U.vm) qK⟩, va_recv hK hP (ci := 10) (q0 := 0) rfl rfl, fun U hU hW => ⟨rfl, by rw [hU]; exact hP, va_K.moved hW.alike hK⟩⟩ rfl rfl hl.1 rfl (lv_room (Nat.le_of_ble_eq_true rfl)) dX10_docQuote_14 ⟨Nat.le_of_ble_eq_true rfl, Nat.le_of_ble_eq_true rfl⟩) (fun r_2 hr_2 => ?_)
      have rg_r_2 := i_rng r_2
      refine vp_callSi (W.runS (As := [.int r_2]) (rest := []) ⟨hx, hb, hml, hown, hts⟩ (m_isSmall l dC dI  r_2 ) (va_cwS 1 hts mg_X10_docQuotemq_X10_isSmall_137 rfl rfl rfl (by decide +kernel) ⟨Nat.le_of_ble_eq_true rfl, Nat.le_of_ble_eq_true rfl⟩) ⟨fun a U g mk q => ⟨q.1, trivial⟩, fun U hU hW => ⟨rfl, trivial⟩⟩ rfl rfl hl.1 rfl (lv_room (Nat.le_of_ble_eq_true rfl)) dX10_docQuote_17 ⟨Nat.le_of_ble_eq_true rfl, Nat.le_of_ble_eq_true rfl⟩) (fun r_3 hr_3 => ?_)
      have rg_r_3 := i_rng r_3
      refine lv_if_eq (tgt := 80) hx hb dX10_docQuote_20 (by decide) (fun k_4 => ?_) (fun k_4 => ?_)
      · have tk_4 := c_eq (a := r_3.toInt) (b := 0) rfl (by decide) k_4
        refine lv_iload_n hx hb dX10_docQuote_80 rfl (lv_at hl 0 rfl) ?_
        refine lv_if_eq (tgt := 97) hx hb dX10_docQuote_81 (by decide) (fun k_5 => ?_) (fun k_5 => ?_)
        · have tk_5 := c_eq (a := nn.toInt) (b := 0) rfl (by decide) k_5
          refine lv_aload_n hx hb dX10_docQuote_97 rfl (lv_at hl 2 rfl) ?_
          refine lv_iconst (v := 1) hx hb dX10_docQuote_98 (by decide) ?_
          refine lv_aload_n hx hb dX10_docQuote_99 rfl (lv_at hl 2 rfl) ?_
          refine va_get (D := (dC, dI)) (ci := 10) (v := .int ea) (C := RX10) (T := TX10) (N := 48) hx hb hts fin_X10_docQuotemq_X10 hown hK hP 0 rfl rfl 10 (by decide) (hts (.fieldLink RX10 130 "PatternGateModel" "end" "I") (List.mem_of_getElem? (i := 2) (by decide +kernel))) (fun _ h9 => h9) rfl dX10_docQuote_100 ?_
          have lit_5 : (1 : Int32).toInt = 1 := by decide
          have hFc := m_free hD hS hA
          refine va_calli (va_runV (As := [.int 1, .int ea]) (rest := []) ⟨hx, hb, hml, hown, hts⟩ (m_failsAt_q l dC dI ad kc x0 x1 x2 x3 x4 x5 x6 ea x8 x9 x10 x11 x12 x13 x14 x15 x16 x17 x18 x19 x20 x21 ga f1 f2 f3 f4 f5 f6 f7 f8 f9 f10 f11 f12 f13 f14 f15 f16 f17 f18 f19 f20 f21 fL fN fP fM fO H.size 1 ea (by first | omega | assumption | decide | (have l0 := Int32.toInt_zero; omega)) (by first | omega | assumption | decide | (have l0 := Int32.toInt_zero; omega))) (cwV 2 hts mg_X10_docQuotemq_X10_failsAt_126 rfl rfl rfl (by decide +kernel) ⟨Nat.le_of_ble_eq_true rfl, Nat.le_of_ble_eq_true rfl⟩) ⟨fun a U g mk q => by obtain ⟨q0, q1, qP, qK, qD⟩ := q; exact ⟨q0, q1, qP, va_K.moved (u := U) (U := U.calling g mk a) (Vm.Alike.refl U.vm) qK, qD⟩, va_recv hK hP (ci := 10) (q0 := 0) rfl rfl, fun U hU hW => ⟨rfl, by rw [hU], by rw [hU]; exact hP, va_K.moved hW.alike hK, hD.weaken (fun _ _ _ _ => trivial)⟩⟩ rfl rfl hl.1 rfl (lv_room (Nat.le_of_ble_eq_true rfl)) dX10_docQuote_103 ⟨Nat.le_of_ble_eq_true rfl, Nat.le_of_ble_eq_true rfl⟩) hS (fun q _ h => hFc q h) hFc (fun r_7 u t H1 locs ht hvm hw hB hz1 hk1 hS => ?_)
          subst hw
          obtain ⟨x_8, x_9, hr_7_0, hr_7_1, hP, hK1, hD1⟩ := hB
          rw [ht] at hP
          have hD := hD1.weaken (fun k q _ h => hFc q.1 h)
          clear hz1 hk1 hFc hD1 hK1 hvm
          generalize H1 = H at hP hS ⊢
          have rg_x_8 := i_rng x_8
          have rg_x_9 := i_rng x_9
          have rg_r_7 := i_rng r_7
          have hP : va_P (dC, dI) vwCl (mW ad kc x0 x1 x2 x3 x4 x5 x6 ea x_8 x_9 x10 x11 x12 x13 x14 x15 x16 x17 x18 x19 x20 x21 ga f1 f2 f3 f4 f5 f6 f7 f8 f9 f10 f11 f12 f13 f14 f15 f16 f17 f18 f19 f20 f21 fL fN fP fM fO) H := hP
          have hD : va_D A (mW ad kc x0 x1 x2 x3 x4 x5 x6 ea x_8 x_9 x10 x11 x12 x13 x14 x15 x16 x17 x18 x19 x20 x21 ga f1 f2 f3 f4 f5 f6 f7 f8 f9 f10 f11 f12 f13 f14 f15 f16 f17 f18 f19 f20 f21 fL fN fP fM fO) := hD
          exact W.zret hx hb hr (z_nar (by first | assumption | decide | exact z_of (by omega))) (fun t ht hW => ⟨⟨_, _, rfl, rfl, ea, x_8, x_9, ga, (q3.congr (b' := 0) (fun z hz => by unfold OKl at hz; exact v9_4 _ (by omega) (by omega))), (fun z hz => v9_4 z (by omega) (by omega)), (by first | omega | assumption | rfl | decide), (by first | omega | assumption | rfl | decide), (by first | omega | assumption | rfl | decide), (dR_f v9_7 (by omega) (by unfold isSm; omega) (by omega)), (fun h9 => by omega), (by first | omega | assumption | rfl | decide), by rw [ht]; exact hP, va_K.moved hW.alike hK, hD⟩, hS.F ht⟩) hS.2.2 dX10_docQuote_106
        · have tk_5 := c_ne (a := nn.toInt) (b := 0) rfl (by decide) k_5
          refine lv_aload_n hx hb dX10_docQuote_84 rfl (lv_at hl 2 rfl) ?_
          refine lv_aload_n hx hb dX10_docQuote_85 rfl (lv_at hl 2 rfl) ?_
          refine va_get (D := (dC, dI)) (ci := 10) (v := .int ea) (C := RX10) (T := TX10) (N := 48) hx hb hts fin_X10_docQuotemq_X10 hown hK hP 0 rfl rfl 10 (by decide) (hts (.fieldLink RX10 130 "PatternGateModel" "end" "I") (List.mem_of_getElem? (i := 2) (by decide +kernel))) (fun _ h9 => h9) rfl dX10_docQuote_86 ?_
          refine vp_callSi (W.runV (As := [.int ea]) (rest := []) ⟨hx, hb, hml, hown, hts⟩ (m_byteAt l dC dI ad kc x0 x1 x2 x3 x4 x5 x6 ea x8 x9 x10 x11 x12 x13 x14 x15 x16 x17 x18 x19 x20 x21 ga f1 f2 f3 f4 f5 f6 f7 f8 f9 f10 f11 f12 f13 f14 f15 f16 f17 f18 f19 f20 f21 fL fN fP fM fO ea (by first | omega | assumption | decide | (have l0 := Int32.toInt_zero; omega)) (by first | omega | assumption | decide | (have l0 := Int32.toInt_zero; omega))) (cwV 1 hts mg_X10_docQuotemq_X10_byteAt_133 rfl rfl rfl (by decide +kernel) ⟨Nat.le_of_ble_eq_true rfl, Nat.le_of_ble_eq_true rfl⟩) ⟨fun a U g mk q => by obtain ⟨q0, qP, qK⟩ := q; exact ⟨q0, qP, va_K.moved (u := U) (U := U.calling g mk a) (Vm.Alike.refl U.vm) qK⟩, va_recv hK hP (ci := 10) (q0 := 0) rfl rfl, fun U hU hW => ⟨rfl, by rw [hU]; exact hP, va_K.moved hW.alike hK⟩⟩ rfl rfl hl.1 rfl (lv_room (Nat.le_of_ble_eq_true rfl)) dX10_docQuote_89 ⟨Nat.le_of_ble_eq_true rfl, Nat.le_of_ble_eq_true rfl⟩) (fun r_10 hr_10 => ?_)
          have rg_r_10 := i_rng r_10
          refine lv_bipush (v := 34) hx hb dX10_docQuote_92 (by decide) ?_
          refine lv_icmp_eq (tgt := 107) hx hb dX10_docQuote_94 (by decide) (fun k_11 => ?_) (fun k_11 => ?_)
          · have tk_11 := c_eq (a := r_10.toInt) (b := 34) rfl (by decide) k_11
            refine lv_aload_n hx hb dX10_docQuote_107 rfl (lv_at hl 2 rfl) ?_
            refine va_get (D := (dC, dI)) (ci := 10) (v := .ref (ad 1)) (C := RX10) (T := TX10) (N := 48) hx hb hts fin_X10_docQuotemq_X10 hown hK hP 0 rfl rfl 0 (by decide) (hts (.fieldLink RX10 8 "PatternGateModel" "all" "[I") (List.mem_of_getElem? (i := 1) (by decide +kernel))) (fun _ h9 => h9) rfl dX10_docQuote_108 ?_
            refine lv_iconst (v := 1) hx hb dX10_docQuote_111 (by decide) ?_
            refine lv_iload_n hx hb dX10_docQuote_112 rfl (lv_at hl 1 rfl) ?_
            refine lv_iadd hx hb dX10_docQuote_113 ?_
            refine lv_topi (fun y_12 ey_12 => ?_)
            first | have ty_12 := i_add (a := 1) (b := y_1.toInt) (by decide) rfl ey_12 (by omega) (by omega) | skip
            refine lv_iload_n hx hb dX10_docQuote_114 rfl (lv_at hl 0 rfl) ?_
            refine va_iast hx hb hK hP hD hS 1 0 rfl rfl (i := y_12) (vp_of (a := y_12.toInt) rfl (by omega) (by omega)) dX10_docQuote_115 (fun H locs hP hD hS => ?_)
            generalize hf_f_13 : upd ga _ _ = f_13 at hP hD
            have uf_13 := vI_up (a := (1 + y_1.toInt)) (b := nn.toInt) hf_f_13 (by first | omega | decide) (by omega) rfl
            have hP : va_P (dC, dI) vwCl (mW ad kc x0 x1 x2 x3 x4 x5 x6 ea x8 x9 x10 x11 x12 x13 x14 x15 x16 x17 x18 x19 x20 x21 f_13 f1 f2 f3 f4 f5 f6 f7 f8 f9 f10 f11 f12 f13 f14 f15 f16 f17 f18 f19 f20 f21 fL fN fP fM fO) H := hP
            have hD : va_D A (mW ad kc x0 x1 x2 x3 x4 x5 x6 ea x8 x9 x10 x11 x12 x13 x14 x15 x16 x17 x18 x19 x20 x21 f_13 f1 f2 f3 f4 f5 f6 f7 f8 f9 f10 f11 f12 f13 f14 f15 f16 f17 f18 f19 f20 f21 fL fN fP fM fO) := hD
            refine lv_aload_n hx hb dX10_docQuote_116 rfl (lv_at hl 2 rfl) ?_
            refine va_get (D := (dC, dI)) (ci := 10) (v := .ref (ad 1)) (C := RX10) (T := TX10) (N := 48) hx hb hts fin_X10_docQuotemq_X10 hown hK hP 0 rfl rfl 0 (by decide) (hts (.fieldLink RX10 8 "PatternGateModel" "all" "[I") (List.mem_of_getElem? (i := 1) (by decide +kernel))) (fun _ h9 => h9) rfl dX10_docQuote_117 ?_
            refine lv_iconst (v := 0) hx hb dX10_docQuote_120 (by decide) ?_
            refine lv_dup2_11 hx hb dX10_docQuote_121 rfl rfl ?_
            refine va_iald hx hb hK hP 1 0 rfl rfl (i := 0) (by unfold vp_in; decide +kernel) dX10_docQuote_122 ?_
            refine lv_topi (fun y_14 ey_14 => ?_)
            have rg_y_14 := i_rng y_14
            have vy_14 := vI_lda (f := f_13) (i := 0) (a := 0) ey_14 (by first | omega | decide)
            have rg_y_14 := i_rng y_14
            have wy_14 := (uf_13.2 0 (by omega) (by omega)).trans (v9_4 0 (by omega) (by omega))
            refine lv_iconst (v := 1) hx hb dX10_docQuote_123 (by decide) ?_
            refine lv_iadd hx hb dX10_docQuote_124 ?_
            refine lv_topi (fun y_15 ey_15 => ?_)
            first | have ty_15 := i_add (a := y_14.toInt) (b := 1) rfl (by decide) ey_15 (by omega) (by omega) | skip
            refine va_iast hx hb hK hP hD hS 1 0 rfl rfl (i := 0) (by unfold vp_in; decide +kernel) dX10_docQuote_125 (fun H locs hP hD hS => ?_)
            generalize hf_f_16 : upd f_13 _ _ = f_16 at hP hD
            have uf_16 := vI_up (a := 0) (b := y_15.toInt) hf_f_16 (by first | omega | decide) (by omega) rfl
            have hP : va_P (dC, dI) vwCl (mW ad kc x0 x1 x2 x3 x4 x5 x6 ea x8 x9 x10 x11 x12 x13 x14 x15 x16 x17 x18 x19 x20 x21 f_16 f1 f2 f3 f4 f5 f6 f7 f8 f9 f10 f11 f12 f13 f14 f15 f16 f17 f18 f19 f20 f21 fL fN fP fM fO) H := hP
            have hD : va_D A (mW ad kc x0 x1 x2 x3 x4 x5 x6 ea x8 x9 x10 x11 x12 x13 x14 x15 x16 x17 x18 x19 x20 x21 f_16 f1 f2 f3 f4 f5 f6 f7 f8 f9 f10 f11 f12 f13 f14 f15 f16 f17 f18 f19 f20 f21 fL fN fP fM fO) := hD
            refine lv_aload_n hx hb dX10_docQuote_126 rfl (lv_at hl 2 rfl) ?_
            refine lv_dup hx hb dX10_docQuote_127 rfl ?_
            refine va_get (D := (dC, dI)) (ci := 10) (v := .int ea) (C := RX10) (T := TX10) (N := 48) hx hb hts fin_X10_docQuotemq_X10 hown hK hP 0 rfl rfl 10 (by decide) (hts (.fieldLink RX10 130 "PatternGateModel" "end" "I") (List.mem_of_getElem? (i := 2) (by decide +kernel))) (fun _ h9 => h9) rfl dX10_docQuote_128 ?_
            refine lv_iconst (v := 1) hx hb dX10_docQuote_131 (by decide) ?_
            refine lv_iadd hx hb dX10_docQuote_132 ?_
            refine lv_topi (fun y_17 ey_17 => ?_)
            first | have ty_17 := i_add (a := ea.toInt) (b := 1) rfl (by decide) ey_17 (by omega) (by omega) | skip
            refine va_put (D := (dC, dI)) (ci := 10) (v := .int y_17) (ty := .int) (C := RX10) (T := TX10) (N := 48) hx hb hts fin_X10_docQuotemq_X10 tyX10 tyX10_ok nmX10 hown hK hP hD hS 0 rfl rfl 10 (by decide) (hts (.fieldLink RX10 130 "PatternGateModel" "end" "I") (List.mem_of_getElem? (i := 2) (by decide +kernel))) (fun _ h9 => h9) rfl (by decide +kernel) rfl rfl (Nat.le_of_ble_eq_true rfl) dX10_docQuote_133 (fun H locs hP hD hS => ?_)
            have hP : va_P (dC, dI) vwCl (mW ad kc x0 x1 x2 x3 x4 x5 x6 y_17 x8 x9 x10 x11 x12 x13 x14 x15 x16 x17 x18 x19 x20 x21 f_16 f1 f2 f3 f4 f5 f6 f7 f8 f9 f10 f11 f12 f13 f14 f15 f16 f17 f18 f19 f20 f21 fL fN fP fM fO) H := hP
            have hD : va_D A (mW ad kc x0 x1 x2 x3 x4 x5 x6 y_17 x8 x9 x10 x11 x12 x13 x14 x15 x16 x17 x18 x19 x20 x21 f_16 f1 f2 f3 f4 f5 f6 f7 f8 f9 f10 f11 f12 f13 f14 f15 f16 f17 f18 f19 f20 f21 fL fN fP fM fO) := hD
            refine lv_iconst (v := 1) hx hb dX10_docQuote_136 (by decide) ?_
            have lit_17 : (1 : Int32).toInt = 1 := by decide
            exact W.zret hx hb hr (z_nar (by first | assumption | decide | exact z_of (by omega))) (fun t ht hW => ⟨⟨_, _, rfl, rfl, y_17, x8, x9, f_16, (OKd.doc (n := nn.toInt) (d := y_1.toInt) q3 vy_1.symm (by omega) (by omega) (by omega) (fun k a b => by rw [uf_16.2 _ (by omega) (by omega), uf_13.2 _ (by omega) (by omega)]; exact v9_5 k a b) (by have h3 := uf_16.1; have h1 := uf_13.2 0 (by omega) (by omega); have h2 := v9_4 0 (by omega) (by omega); omega) (by rw [uf_16.2 _ (by omega) (by omega)]; exact uf_13.1) (fun z a b c d => by rw [uf_16.2 z a (by omega), uf_13.2 z a (by omega)]; exact v9_4 z a d)), (fun z hz => by rw [uf_16.2 z (by omega) (by omega), uf_13.2 z (by omega) (by omega)]; exact v9_4 z (by omega) (by omega)), (by first | omega | assumption | rfl | decide), (by first | omega | assumption | rfl | decide), (by first | omega | assumption | rfl | decide), (dR_e v9_7 (by omega) (by omega) (by omega) (by decide)), (fun _ => ⟨by have h3 := uf_16.1; have h1 := uf_13.2 0 (by omega) (by omega); have h2 := v9_4 0 (by omega) (by omega); omega, by rw [uf_16.2 611 (by omega) (by omega), uf_13.2 611 (by omega) (by omega)]; exact v9_4 611 (by omega) (by omega)⟩), (by first | omega | assumption | rfl | decide), by rw [ht]; exact hP, va_K.moved hW.alike hK, hD⟩, hS.F ht⟩) hS.2.2 dX10_docQuote_137
          · have tk_11 := c_ne (a := r_10.toInt) (b := 34) rfl (by decide) k_11
            refine lv_aload_n hx hb dX10_docQuote_97 rfl (lv_at hl 2 rfl) ?_
            refine lv_iconst (v := 1) hx hb dX10_docQuote_98 (by decide) ?_
            refine lv_aload_n hx hb dX10_docQuote_99 rfl (lv_at hl 2 rfl) ?_
            refine va_get (D := (dC, dI)) (ci := 10) (v := .int ea) (C := RX10) (T := TX10) (N := 48) hx hb hts fin_X10_docQuotemq_X10 hown hK hP 0 rfl rfl 10 (by decide) (hts (.fieldLink RX10 130 "PatternGateModel" "end" "I") (List.mem_of_getElem? (i := 2) (by decide +kernel))) (fun _ h9 => h9) rfl dX10_docQuote_100 ?_
            have lit_18 : (1 : Int32).toInt = 1 := by decide
            have hFc := m_free hD hS hA
            refine va_calli (va_runV (As := [.int 1, .int ea]) (rest := []) ⟨hx, hb, hml, hown, hts⟩ (m_failsAt_q l dC dI ad kc x0 x1 x2 x3 x4 x5 x6 ea x8 x9 x10 x11 x12 x13 x14 x15 x16 x17 x18 x19 x20 x21 ga f1 f2 f3 f4 f5 f6 f7 f8 f9 f10 f11 f12 f13 f14 f15 f16 f17 f18 f19 f20 f21 fL fN fP fM fO H.size 1 ea (by first | omega | assumption | decide | (have l0 := Int32.toInt_zero; omega)) (by first | omega | assumption | decide | (have l0 := Int32.toInt_zero; omega))) (cwV 2 hts mg_X10_docQuotemq_X10_failsAt_126 rfl rfl rfl (by decide +kernel) ⟨Nat.le_of_ble_eq_true rfl, Nat.le_of_ble_eq_true rfl⟩) ⟨fun a U g mk q => by obtain ⟨q0, q1, qP, qK, qD⟩ := q; exact ⟨q0, q1, qP, va_K.moved (u := U) (U := U.calling g mk a) (Vm.Alike.refl U.vm) qK, qD⟩, va_recv hK hP (ci := 10) (q0 := 0) rfl rfl, fun U hU hW => ⟨rfl, by rw [hU], by rw [hU]; exact hP, va_K.moved hW.alike hK, hD.weaken (fun _ _ _ _ => trivial)⟩⟩ rfl rfl hl.1 rfl (lv_room (Nat.le_of_ble_eq_true rfl)) dX10_docQuote_103 ⟨Nat.le_of_ble_eq_true rfl, Nat.le_of_ble_eq_true rfl⟩) hS (fun q _ h => hFc q h) hFc (fun r_20 u t H1 locs ht hvm hw hB hz1 hk1 hS => ?_)
            subst hw
            obtain ⟨x_21, x_22, hr_20_0, hr_20_1, hP, hK1, hD1⟩ := hB
            rw [ht] at hP
            have hD := hD1.weaken (fun k q _ h => hFc q.1 h)
            clear hz1 hk1 hFc hD1 hK1 hvm
            generalize H1 = H at hP hS ⊢
            have rg_x_21 := i_rng x_21
            have rg_x_22 := i_rng x_22
            have rg_r_20 := i_rng r_20
            have hP : va_P (dC, dI) vwCl (mW ad kc x0 x1 x2 x3 x4 x5 x6 ea x_21 x_22 x10 x11 x12 x13 x14 x15 x16 x17 x18 x19 x20 x21 ga f1 f2 f3 f4 f5 f6 f7 f8 f9 f10 f11 f12 f13 f14 f15 f16 f17 f18 f19 f20 f21 fL fN fP fM fO) H := hP
            have hD : va_D A (mW ad kc x0 x1 x2 x3 x4 x5 x6 ea x_21 x_22 x10 x11 x12 x13 x14 x15 x16 x17 x18 x19 x20 x21 ga f1 f2 f3 f4 f5 f6 f7 f8 f9 f10 f11 f12 f13 f14 f15 f16 f17 f18 f19 f20 f21 fL fN fP fM fO) := hD
            exact W.zret hx hb hr (z_nar (by first | assumption | decide | exact z_of (by omega))) (fun t ht hW => ⟨⟨_, _, rfl, rfl, ea, x_21, x_22, ga, (q3.congr (b' := 0) (fun z hz => by unfold OKl at hz; exact v9_4 _ (by omega) (by omega))), (fun z hz => v9_4 z (by omega) (by omega)), (by first | omega | assumption | rfl | decide), (by first | omega | assumption | rfl | decide), (by first | omega | assumption | rfl | decide), (dR_f v9_7 (by omega) (by unfold isSm; omega) (by omega)), (fun h9 => by omega), (by first | omega | assumption | rfl | decide), by rw [ht]; exact hP, va_K.moved hW.alike hK, hD⟩, hS.F ht⟩) hS.2.2 dX10_docQuote_106
      · have tk_4 := c_ne (a := r_3.toInt) (b := 0) rfl (by decide) k_4
        refine lv_iload_n hx hb dX10_docQuote_23 rfl (lv_at hl 0 rfl) ?_
        refine lv_bipush (v := 60) hx hb dX10_docQuote_24 (by decide) ?_
        refine lv_icmp_ne (tgt := 39) hx hb dX10_docQuote_26 (by decide) (fun k_23 => ?_) (fun k_23 => ?_)
        · have tk_23 := c_ne (a := nn.toInt) (b := 60) rfl (by decide) k_23
          refine lv_aload_n hx hb dX10_docQuote_39 rfl (lv_at hl 2 rfl) ?_
          refine va_get (D := (dC, dI)) (ci := 10) (v := .ref (ad 1)) (C := RX10) (T := TX10) (N := 48) hx hb hts fin_X10_docQuotemq_X10 hown hK hP 0 rfl rfl 0 (by decide) (hts (.fieldLink RX10 8 "PatternGateModel" "all" "[I") (List.mem_of_getElem? (i := 1) (by decide +kernel))) (fun _ h9 => h9) rfl dX10_docQuote_40 ?_
          refine lv_bipush (v := 11) hx hb dX10_docQuote_43 (by decide) ?_
          refine lv_bipush (v := 60) hx hb dX10_docQuote_45 (by decide) ?_
          refine lv_iload_n hx hb dX10_docQuote_47 rfl (lv_at hl 1 rfl) ?_
          refine lv_imul hx hb dX10_docQuote_48 ?_
          refine lv_topi (fun y_24 ey_24 => ?_)
          first | have ty_24 := i_mul (a := 60) (b := y_1.toInt) (by decide) rfl ey_24 (by omega) (by omega) | skip
          refine lv_iadd hx hb dX10_docQuote_49 ?_
          refine lv_topi (fun y_25 ey_25 => ?_)
          first | have ty_25 := i_add (a := 11) (b := y_24.toInt) (by decide) rfl ey_25 (by omega) (by omega) | skip
          refine lv_iload_n hx hb dX10_docQuote_50 rfl (lv_at hl 0 rfl) ?_
          refine lv_iadd hx hb dX10_docQuote_51 ?_
          refine lv_topi (fun y_26 ey_26 => ?_)
          first | have ty_26 := i_add (a := y_25.toInt) (b := nn.toInt) rfl rfl ey_26 (by omega) (by omega) | skip
          refine lv_aload_n hx hb dX10_docQuote_52 rfl (lv_at hl 2 rfl) ?_
          refine lv_aload_n hx hb dX10_docQuote_53 rfl (lv_at hl 2 rfl) ?_
          refine va_get (D := (dC, dI)) (ci := 10) (v := .int ea) (C := RX10) (T := TX10) (N := 48) hx hb hts fin_X10_docQuotemq_X10 hown hK hP 0 rfl rfl 10 (by decide) (hts (.fieldLink RX10 130 "PatternGateModel" "end" "I") (List.mem_of_getElem? (i := 2) (by decide +kernel))) (fun _ h9 => h9) rfl dX10_docQuote_54 ?_
          refine vp_callSi (W.runV (As := [.int ea]) (rest := [.int y_26, .ref (ad 1)]) ⟨hx, hb, hml, hown, hts⟩ (m_byteAt l dC dI ad kc x0 x1 x2 x3 x4 x5 x6 ea x8 x9 x10 x11 x12 x13 x14 x15 x16 x17 x18 x19 x20 x21 ga f1 f2 f3 f4 f5 f6 f7 f8 f9 f10 f11 f12 f13 f14 f15 f16 f17 f18 f19 f20 f21 fL fN fP fM fO ea (by first | omega | assumption | decide | (have l0 := Int32.toInt_zero; omega)) (by first | omega | assumption | decide | (have l0 := Int32.toInt_zero; omega))) (cwV 1 hts mg_X10_docQuotemq_X10_byteAt_133 rfl rfl rfl (by decide +kernel) ⟨Nat.le_of_ble_eq_true rfl, Nat.le_of_ble_eq_true rfl⟩) ⟨fun a U g mk q => by obtain ⟨q0, qP, qK⟩ := q; exact ⟨q0, qP, va_K.moved (u := U) (U := U.calling g mk a) (Vm.Alike.refl U.vm) qK⟩, va_recv hK hP (ci := 10) (q0 := 0) rfl rfl, fun U hU hW => ⟨rfl, by rw [hU]; exact hP, va_K.moved hW.alike hK⟩⟩ rfl rfl hl.1 rfl (lv_room (Nat.le_of_ble_eq_true rfl)) dX10_docQuote_57 ⟨Nat.le_of_ble_eq_true rfl, Nat.le_of_ble_eq_true rfl⟩) (fun r_27 hr_27 => ?_)
          have rg_r_27 := i_rng r_27
          refine lv_bipush (v := 97) hx hb dX10_docQuote_60 (by decide) ?_
          refine lv_isub hx hb dX10_docQuote_62 ?_
          refine lv_topi (fun y_28 ey_28 => ?_)
          first | have ty_28 := i_sub (a := r_27.toInt) (b := 97) rfl (by decide) ey_28 (by omega) (by omega) | skip
          refine va_iast hx hb hK hP hD hS 1 0 rfl rfl (i := y_26) (vp_of (a := y_26.toInt) rfl (by omega) (by omega)) dX10_docQuote_63 (fun H locs hP hD hS => ?_)
          generalize hf_f_29 : upd ga _ _ = f_29 at hP hD
          have uf_29 := vI_up (a := ((11 + (60 * y_1.toInt)) + nn.toInt)) (b := y_28.toInt) hf_f_29 (by first | omega | decide) (by omega) rfl
          have hP : va_P (dC, dI) vwCl (mW ad kc x0 x1 x2 x3 x4 x5 x6 ea x8 x9 x10 x11 x12 x13 x14 x15 x16 x17 x18 x19 x20 x21 f_29 f1 f2 f3 f4 f5 f6 f7 f8 f9 f10 f11 f12 f13 f14 f15 f16 f17 f18 f19 f20 f21 fL fN fP fM fO) H := hP
          have hD : va_D A (mW ad kc x0 x1 x2 x3 x4 x5 x6 ea x8 x9 x10 x11 x12 x13 x14 x15 x16 x17 x18 x19 x20 x21 f_29 f1 f2 f3 f4 f5 f6 f7 f8 f9 f10 f11 f12 f13 f14 f15 f16 f17 f18 f19 f20 f21 fL fN fP fM fO) := hD
          obtain ⟨y_30, ey_30⟩ : ∃ y : Int32, y = nn + 1 := ⟨_, rfl⟩
          first | have ty_30 := i_add (a := nn.toInt) (b := 1) rfl (by decide) ey_30 (by omega) (by omega) | skip
          refine lv_iinc (v := y_30) (lv' := [(2, .int y_30), (1, .int y_1), (0, .ref (ad 0))]) hx hb dX10_docQuote_64 hl (k := 0) rfl (by rw [ey_30]; rfl) (by decide) rfl (fun ls hl => ?_)
          refine lv_aload_n hx hb dX10_docQuote_67 rfl (lv_at hl 2 rfl) ?_
          refine lv_dup hx hb dX10_docQuote_68 rfl ?_
          refine va_get (D := (dC, dI)) (ci := 10) (v := .int ea) (C := RX10) (T := TX10) (N := 48) hx hb hts fin_X10_docQuotemq_X10 hown hK hP 0 rfl rfl 10 (by decide) (hts (.fieldLink RX10 130 "PatternGateModel" "end" "I") (List.mem_of_getElem? (i := 2) (by decide +kernel))) (fun _ h9 => h9) rfl dX10_docQuote_69 ?_
          refine lv_iconst (v := 1) hx hb dX10_docQuote_72 (by decide) ?_
          refine lv_iadd hx hb dX10_docQuote_73 ?_
          refine lv_topi (fun y_31 ey_31 => ?_)
          first | have ty_31 := i_add (a := ea.toInt) (b := 1) rfl (by decide) ey_31 (by omega) (by omega) | skip
          refine va_put (D := (dC, dI)) (ci := 10) (v := .int y_31) (ty := .int) (C := RX10) (T := TX10) (N := 48) hx hb hts fin_X10_docQuotemq_X10 tyX10 tyX10_ok nmX10 hown hK hP hD hS 0 rfl rfl 10 (by decide) (hts (.fieldLink RX10 130 "PatternGateModel" "end" "I") (List.mem_of_getElem? (i := 2) (by decide +kernel))) (fun _ h9 => h9) rfl (by decide +kernel) rfl rfl (Nat.le_of_ble_eq_true rfl) dX10_docQuote_74 (fun H locs hP hD hS => ?_)
          have hP : va_P (dC, dI) vwCl (mW ad kc x0 x1 x2 x3 x4 x5 x6 y_31 x8 x9 x10 x11 x12 x13 x14 x15 x16 x17 x18 x19 x20 x21 f_29 f1 f2 f3 f4 f5 f6 f7 f8 f9 f10 f11 f12 f13 f14 f15 f16 f17 f18 f19 f20 f21 fL fN fP fM fO) H := hP
          have hD : va_D A (mW ad kc x0 x1 x2 x3 x4 x5 x6 y_31 x8 x9 x10 x11 x12 x13 x14 x15 x16 x17 x18 x19 x20 x21 f_29 f1 f2 f3 f4 f5 f6 f7 f8 f9 f10 f11 f12 f13 f14 f15 f16 f17 f18 f19 f20 f21 fL fN fP fM fO) := hD
          refine lv_goto (tgt := 9) hx hb dX10_docQuote_77 (by decide) ?_
          exact ih9 y_30 y_31 f_29 (by first | omega | assumption | decide) (by first | omega | assumption | decide) (by first | omega | assumption | decide) (by first | omega | assumption | decide) (fun z hz hd => (uf_29.2 z hz (by omega)).trans (v9_4 z hz hd)) (by rw [show y_30.toInt = nn.toInt + 1 by omega]; exact dl_step v9_5 uf_29 (by omega) (by omega) (by omega)) (by first | omega | assumption | decide) (dR_next v9_7 (by unfold isSm; omega) (by omega) (show y_31.toInt = ea.toInt + 1 by omega)) (by omega) _ _ ls hP hD hS (lv_sub hl [0, 1, 2] rfl)
        · have tk_23 := c_eq (a := nn.toInt) (b := 60) rfl (by decide) k_23
          refine lv_aload_n hx hb dX10_docQuote_29 rfl (lv_at hl 2 rfl) ?_
          refine lv_iconst (v := 4) hx hb dX10_docQuote_30 (by decide) ?_
          refine lv_aload_n hx hb dX10_docQuote_31 rfl (lv_at hl 2 rfl) ?_
          refine va_get (D := (dC, dI)) (ci := 10) (v := .int ea) (C := RX10) (T := TX10) (N := 48) hx hb hts fin_X10_docQuotemq_X10 hown hK hP 0 rfl rfl 10 (by decide) (hts (.fieldLink RX10 130 "PatternGateModel" "end" "I") (List.mem_of_getElem? (i := 2) (by decide +kernel))) (fun _ h9 => h9) rfl dX10_docQuote_32 ?_
          have lit_31 : (4 : Int32).toInt = 4 := by decide
          have hFc := m_free hD hS hA
          refine va_calli (va_runV (As := [.int 4, .int ea]) (rest := []) ⟨hx, hb, hml, hown, hts⟩ (m_failsAt_q l dC dI ad kc x0 x1 x2 x3 x4 x5 x6 ea x8 x9 x10 x11 x12 x13 x14 x15 x16 x17 x18 x19 x20 x21 ga f1 f2 f3 f4 f5 f6 f7 f8 f9 f10 f11 f12 f13 f14 f15 f16 f17 f18 f19 f20 f21 fL fN fP fM fO H.size 4 ea (by first | omega | assumption | decide | (have l0 := Int32.toInt_zero; omega)) (by first | omega | assumption | decide | (have l0 := Int32.toInt_zero; omega))) (cwV 2 hts mg_X10_docQuotemq_X10_failsAt_126 rfl rfl rfl (by decide +kernel) ⟨Nat.le_of_ble_eq_true rfl, Nat.le_of_ble_eq_true rfl⟩) ⟨fun a U g mk q => by obtain ⟨q0, q1, qP, qK, qD⟩ := q; exact ⟨q0, q1, qP, va_K.moved (u := U) (U := U.calling g mk a) (Vm.Alike.refl U.vm) qK, qD⟩, va_recv hK hP (ci := 10) (q0 := 0) rfl rfl, fun U hU hW => ⟨rfl, by rw [hU], by rw [hU]; exact hP, va_K.moved hW.alike hK, hD.weaken (fun _ _ _ _ => trivial)⟩⟩ rfl rfl hl.1 rfl (lv_room (Nat.le_of_ble_eq_true rfl)) dX10_docQuote_35 ⟨Nat.le_of_ble_eq_true rfl, Nat.le_of_ble_eq_true rfl⟩) hS (fun q _ h => hFc q h) hFc (fun r_33 u t H1 locs ht hvm hw hB hz1 hk1 hS => ?_)
          subst hw
          obtain ⟨x_34, x_35, hr_33_0, hr_33_1, hP, hK1, hD1⟩ := hB
          rw [ht] at hP
          have hD := hD1.weaken (fun k q _ h => hFc q.1 h)
          clear hz1 hk1 hFc hD1 hK1 hvm
          generalize H1 = H at hP hS ⊢
          have rg_x_34 := i_rng x_34
          have rg_x_35 := i_rng x_35
          have rg_r_33 := i_rng r_33
          have hP : va_P (dC, dI) vwCl (mW ad kc x0 x1 x2 x3 x4 x5 x6 ea x_34 x_35 x10 x11 x12 x13 x14 x15 x16 x17 x18 x19 x20 x21 ga f1 f2 f3 f4 f5 f6 f7 f8 f9 f10 f11 f12 f13 f14 f15 f16 f17 f18 f19 f20 f21 fL fN fP fM fO) H := hP
          have hD : va_D A (mW ad kc x0 x1 x2 x3 x4 x5 x6 ea x_34 x_35 x10 x11 x12 x13 x14 x15 x16 x17 x18 x19 x20 x21 ga f1 f2 f3 f4 f5 f6 f7 f8 f9 f10 f11 f12 f13 f14 f15 f16 f17 f18 f19 f20 f21 fL fN fP fM fO) := hD
          exact W.zret hx hb hr (z_nar (by first | assumption | decide | exact z_of (by omega))) (fun t ht hW => ⟨⟨_, _, rfl, rfl, ea, x_34, x_35, ga, (q3.congr (b' := 0) (fun z hz => by unfold OKl at hz; exact v9_4 _ (by omega) (by omega))), (fun z hz => v9_4 z (by omega) (by omega)), (by first | omega | assumption | rfl | decide), (by first | omega | assumption | rfl | decide), (by first | omega | assumption | rfl | decide), (dR_f v9_7 (by omega) (by unfold isSm; omega) (by omega)), (fun h9 => by omega), (by first | omega | assumption | rfl | decide), by rw [ht]; exact hP, va_K.moved hW.alike hK, hD⟩, hS.F ht⟩) hS.2.2 dX10_docQuote_38
  have lit_35 : (0 : Int32).toInt = 0 := by decide
  exact loop9 _ 0 x7 f0 (by first | omega | assumption | decide) (by first | omega | assumption | decide) (by first | omega | assumption | decide) (by first | omega | assumption | decide) (fun z _ _ => rfl) (fun k a b => by omega) (by first | omega | assumption | decide) (fun _ => Ld.rf) (Nat.lt_succ_self _) _ _ ls hP hD hS (lv_sub hl [0, 1, 2] rfl)
def mwX10_patternQuotemq : List Cond := .code yX10_patternQuote cX10_patternQuote 4 (some .boolean) :: (([.fieldLink RX10 130 "PatternGateModel" "end" "I", .fieldLink RX10 151 "PatternGateModel" "spots" "I", .methodLink RX10 154 yX10_isPatternAt, .instanceMethod yX10_isPatternAt, .selects RX10 yX10_isPatternAt yX10_isPatternAt, .initialized RX10, .methodLink RX10 133 yX10_byteAt, .instanceMethod yX10_byteAt, .selects RX10 yX10_byteAt yX10_byteAt, .fieldLink RX10 8 "PatternGateModel" "all" "[I", .methodLink RX10 126 yX10_failsAt, .instanceMethod yX10_failsAt, .selects RX10 yX10_failsAt yX10_failsAt] : List Cond) ++ (wsX100 ++ (mwX10_isPatternAtmq0 ++ (mwX10_byteAtm ++ (mwX10_failsAtmq)))))
theorem fin_X10_patternQuotemq_X10 : ∀ w ∈ wsX100, w ∈ mwX10_patternQuotemq := fun w h => List.mem_cons_of_mem _ (List.mem_append_right _ (List.mem_append_left _ h))
set_option maxRecDepth 100000 in
theorem gd_mwX10_isPatternAtmq0 : mwX10_isPatternAtmq0.all goodWord = true := by decide +kernel
set_option maxRecDepth 20000 in
theorem mg_X10_patternQuotemq_X10_isPatternAt_154 : GoodIn mwX10_patternQuotemq (wsV RX10 154 RX10 yX10_isPatternAt mwX10_isPatternAtmq0) := gi_app (A := [.methodLink RX10 154 yX10_isPatternAt, .instanceMethod yX10_isPatternAt, .selects RX10 yX10_isPatternAt yX10_isPatternAt, .initialized RX10]) (goodIn_r _ [3, 4, 5, 6] (by decide +kernel) (by decide +kernel)) (gi_sub gd_mwX10_isPatternAtmq0 (fun w h => List.mem_cons_of_mem _ (List.mem_append_right _ (List.mem_append_right _ (List.mem_append_left _ h)))))
set_option maxRecDepth 20000 in
theorem mg_X10_patternQuotemq_X10_byteAt_133 : GoodIn mwX10_patternQuotemq (wsV RX10 133 RX10 yX10_byteAt mwX10_byteAtm) := gi_app (A := [.methodLink RX10 133 yX10_byteAt, .instanceMethod yX10_byteAt, .selects RX10 yX10_byteAt yX10_byteAt, .initialized RX10]) (goodIn_r _ [7, 8, 9, 6] (by decide +kernel) (by decide +kernel)) (gi_sub gd_mwX10_byteAtm (fun w h => List.mem_cons_of_mem _ (List.mem_append_right _ (List.mem_append_right _ (List.mem_append_right _ (List.mem_append_left _ h))))))
set_option maxRecDepth 20000 in
theorem mg_X10_patternQuotemq_X10_failsAt_126 : GoodIn mwX10_patternQuotemq (wsV RX10 126 RX10 yX10_failsAt mwX10_failsAtmq) := gi_app (A := [.methodLink RX10 126 yX10_failsAt, .instanceMethod yX10_failsAt, .selects RX10 yX10_failsAt yX10_failsAt, .initialized RX10]) (goodIn_r _ [11, 12, 13, 6] (by decide +kernel) (by decide +kernel)) (gi_sub gd_mwX10_failsAtmq (fun w h => List.mem_cons_of_mem _ (List.mem_append_right _ (List.mem_append_right _ (List.mem_append_right _ (List.mem_append_right _ (h)))))))
set_option maxHeartbeats 4000000 in
set_option maxRecDepth 100000 in
theorem m_patternQuote_q (l : Launch) (dC : Nat → ClassId) (dI : Nat → Nat → Nat) (ad : Nat → Nat) (kc : Nat → ClassId) (x0 x1 x2 x3 x4 x5 x6 x7 x8 x9 x10 x11 x12 x13 x14 x15 x16 x17 x18 x19 x20 x21 : Int32) (f0 f1 f2 f3 f4 f5 f6 f7 f8 f9 f10 f11 f12 f13 f14 f15 f16 f17 f18 f19 f20 f21 : Nat → Int32) (fL : Nat → Nat → Int64) (fN : Nat → Nat → Int32) (fP : Nat → Nat → Nat) (fM : Nat → Nat → Int32) (fO : Nat → Nat → Int32) (sz : Nat) (q0 : 0 ≤ x7.toInt) (q1 : x7.toInt ≤ x4.toInt) (q2 : x4.toInt ≤ 900) (q3 : OKd f0 0) (q4 : vI f0 611 < 8) (q5 : 0 ≤ x8.toInt) : Met l yX10_patternQuote mwX10_patternQuotemq ({ frames := 21, cells := 0, slots := 0, locals := 1260 }) (va_Pc [.ref (ad 0)] (fun U => U.heap.size = sz ∧ va_P (dC, dI) vwCl (mW ad kc x0 x1 x2 x3 x4 x5 x6 x7 x8 x9 x10 x11 x12 x13 x14 x15 x16 x17 x18 x19 x20 x21 f0 f1 f2 f3 f4 f5 f6 f7 f8 f9 f10 f11 f12 f13 f14 f15 f16 f17 f18 f19 f20 f21 fL fN fP fM fO) U.heap ∧ va_K (dC, dI) vwCl (mT kc) U ∧ va_D (fun _ => True) (mW ad kc x0 x1 x2 x3 x4 x5 x6 x7 x8 x9 x10 x11 x12 x13 x14 x15 x16 x17 x18 x19 x20 x21 f0 f1 f2 f3 f4 f5 f6 f7 f8 f9 f10 f11 f12 f13 f14 f15 f16 f17 f18 f19 f20 f21 fL fN fP fM fO))) (va_Qi (fun (o9 u9 : Int32) => o9 = u9) (fun (o9 : Int32) t => ∃ (y7 y8 y9 y11 : Int32) (g0 : Nat → Int32), (OKd g0 0) ∧ (∀ z : Int, 7820 ≤ z → vI g0 z = vI f0 z) ∧ (x7.toInt ≤ y7.toInt) ∧ (y7.toInt ≤ x4.toInt) ∧ (o9.toInt = 0 ∨ o9.toInt = 1) ∧ (qR (tx f2 x4.toInt) x7.toInt y7.toInt (vI f0 611) o9.toInt) ∧ (o9.toInt = 1 → vI g0 611 = vI f0 611 + 1 ∧ vI g0 0 = vI f0 0) ∧ (o9.toInt = 1 ∧ y8.toInt = x8.toInt ∨ o9.toInt = 0 ∧ 0 < y8.toInt) ∧ va_P (dC, dI) vwCl (mW ad kc x0 x1 x2 x3 x4 x5 x6 y7 y8 y9 x10 y11 x12 x13 x14 x15 x16 x17 x18 x19 x20 x21 g0 f1 f2 f3 f4 f5 f6 f7 f8 f9 f10 f11 f12 f13 f14 f15 f16 f17 f18 f19 f20 f21 fL fN fP fM fO) t.heap ∧ va_K (dC, dI) vwCl (mT kc) t ∧ va_D (va_A (mW ad kc x0 x1 x2 x3 x4 x5 x6 x7 x8 x9 x10 x11 x12 x13 x14 x15 x16 x17 x18 x19 x20 x21 f0 f1 f2 f3 f4 f5 f6 f7 f8 f9 f10 f11 f12 f13 f14 f15 f16 f17 f18 f19 f20 f21 fL fN fP fM fO) sz) (mW ad kc x0 x1 x2 x3 x4 x5 x6 y7 y8 y9 x10 y11 x12 x13 x14 x15 x16 x17 x18 x19 x20 x21 g0 f1 f2 f3 f4 f5 f6 f7 f8 f9 f10 f11 f12 f13 f14 f15 f16 f17 f18 f19 f20 f21 fL fN fP fM fO)) (va_A (mW ad kc x0 x1 x2 x3 x4 x5 x6 x7 x8 x9 x10 x11 x12 x13 x14 x15 x16 x17 x18 x19 x20 x21 f0 f1 f2 f3 f4 f5 f6 f7 f8 f9 f10 f11 f12 f13 f14 f15 f16 f17 f18 f19 f20 f21 fL fN fP fM fO) sz)) 0 0 (va_A (mW ad kc x0 x1 x2 x3 x4 x5 x6 x7 x8 x9 x10 x11 x12 x13 x14 x15 x16 x17 x18 x19 x20 x21 f0 f1 f2 f3 f4 f5 f6 f7 f8 f9 f10 f11 f12 f13 f14 f15 f16 f17 f18 f19 f20 f21 fL fN fP fM fO) sz) := by
  refine Met.ofW (cc := cX10_patternQuote) (maxL := 4) (ret := (some .boolean)) (by decide +kernel) rfl ?_
  intro p e s m args below meth c s₁ B hml hv
  obtain ⟨rfl, hsz, hP, hK, hD0⟩ := hv
  have hx := B.exec
  have hb := B.bytes
  have hr := B.returns
  have hts := atoms_spec (ws := mwX10_patternQuotemq) B.pre
  have hown : s.vm.findClass RX10 = some m.cls := findClass_of_methodNamed B.named
  have hlocks := B.notSynchronized
  subst hsz
  have hD := hD0.self (sz := s.heap.size)
  generalize hAe : va_A (mW ad kc x0 x1 x2 x3 x4 x5 x6 x7 x8 x9 x10 x11 x12 x13 x14 x15 x16 x17 x18 x19 x20 x21 f0 f1 f2 f3 f4 f5 f6 f7 f8 f9 f10 f11 f12 f13 f14 f15 f16 f17 f18 f19 f20 f21 fL fN fP fM fO) s.heap.size = A at hD ⊢
  have hA : ∀ q : Nat, s.heap.size ≤ q → A q := fun q h => by rw [← hAe]; exact Or.inr h
  have hP : va_P (dC, dI) vwCl (mW ad kc x0 x1 x2 x3 x4 x5 x6 x7 x8 x9 x10 x11 x12 x13 x14 x15 x16 x17 x18 x19 x20 x21 f0 f1 f2 f3 f4 f5 f6 f7 f8 f9 f10 f11 f12 f13 f14 f15 f16 f17 f18 f19 f20 f21 fL fN fP fM fO) s.heap := hP
  have hD : va_D A (mW ad kc x0 x1 x2 x3 x4 x5 x6 x7 x8 x9 x10 x11 x12 x13 x14 x15 x16 x17 x18 x19 x20 x21 f0 f1 f2 f3 f4 f5 f6 f7 f8 f9 f10 f11 f12 f13 f14 f15 f16 f17 f18 f19 f20 f21 fL fN fP fM fO) := hD
  have hK : va_K (dC, dI) vwCl (mT kc) s := hK
  generalize hH : s.heap = H at hP ⊢
  have hS : va_S A s.heap H [] := by rw [← hH]; exact va_S.rf
  have hl := lv_entry ([.ref (ad 0)]) (n := 4) (Nat.le_of_ble_eq_true rfl)
  rw [lg_entry_eq]
  generalize (lg_sl ([.ref (ad 0)]) ++ List.replicate (4 - (lg_sl ([.ref (ad 0)])).length) Slot.unset).toArray = ls at hl ⊢
  have hl : lv_has ls 4 [(0, .ref (ad 0))] := hl
  refine lv_aload_n hx hb dX10_patternQuote_0 rfl (lv_at hl 0 rfl) ?_
  refine va_get (D := (dC, dI)) (ci := 10) (v := .int x7) (C := RX10) (T := TX10) (N := 48) hx hb hts fin_X10_patternQuotemq_X10 hown hK hP 0 rfl rfl 10 (by decide) (hts (.fieldLink RX10 130 "PatternGateModel" "end" "I") (List.mem_of_getElem? (i := 1) (by decide +kernel))) (fun _ h9 => h9) rfl dX10_patternQuote_1 ?_
  refine lv_istore_n (lv' := [(1, .int x7), (0, .ref (ad 0))]) hx hb dX10_patternQuote_4 rfl hl (by decide) rfl (fun ls hl => ?_)
  refine lv_aload_n hx hb dX10_patternQuote_5 rfl (lv_at hl 1 rfl) ?_
  refine lv_iconst (v := 0) hx hb dX10_patternQuote_6 (by decide) ?_
  refine va_put (D := (dC, dI)) (ci := 10) (v := .int 0) (ty := .int) (C := RX10) (T := TX10) (N := 48) hx hb hts fin_X10_patternQuotemq_X10 tyX10 tyX10_ok nmX10 hown hK hP hD hS 0 rfl rfl 14 (by decide) (hts (.fieldLink RX10 151 "PatternGateModel" "spots" "I") (List.mem_of_getElem? (i := 2) (by decide +kernel))) (fun _ h9 => h9) rfl (by decide +kernel) rfl rfl (Nat.le_of_ble_eq_true rfl) dX10_patternQuote_7 (fun H locs hP hD hS => ?_)
  have hP : va_P (dC, dI) vwCl (mW ad kc x0 x1 x2 x3 x4 x5 x6 x7 x8 x9 x10 0 x12 x13 x14 x15 x16 x17 x18 x19 x20 x21 f0 f1 f2 f3 f4 f5 f6 f7 f8 f9 f10 f11 f12 f13 f14 f15 f16 f17 f18 f19 f20 f21 fL fN fP fM fO) H := hP
  have hD : va_D A (mW ad kc x0 x1 x2 x3 x4 x5 x6 x7 x8 x9 x10 0 x12 x13 x14 x15 x16 x17 x18 x19 x20 x21 f0 f1 f2 f3 f4 f5 f6 f7 f8 f9 f10 f11 f12 f13 f14 f15 f16 f17 f18 f19 f20 f21 fL fN fP fM fO) := hD
  have lit_0 : (0 : Int32).toInt = 0 := by decide
  refine lv_aload_n hx hb dX10_patternQuote_10 rfl (lv_at hl 1 rfl) ?_
  refine lv_iconst (v := 0) hx hb dX10_patternQuote_11 (by decide) ?_
  have lit_1 : (0 : Int32).toInt = 0 := by decide
  have hFc := m_free hD hS hA
  refine va_calli (va_runV (As := [.int 0]) (rest := []) ⟨hx, hb, hml, hown, hts⟩ (m_isPatternAt_q0 l dC dI ad kc x0 x1 x2 x3 x4 x5 x6 x7 x8 x9 x10 0 x12 x13 x14 x15 x16 x17 x18 x19 x20 x21 f0 f1 f2 f3 f4 f5 f6 f7 f8 f9 f10 f11 f12 f13 f14 f15 f16 f17 f18 f19 f20 f21 fL fN fP fM fO H.size 0 (by first | omega | assumption | decide | (have l0 := Int32.toInt_zero; omega)) (by first | omega | assumption | decide | (have l0 := Int32.toInt_zero; omega)) (by first | omega | assumption | decide | (have l0 := Int32.toInt_zero; omega)) (by first | omega | assumption | decide | (have l0 := Int32.toInt_zero; omega)) (by first | omega | assumption | decide | (have l0 := Int32.toInt_zero; omega)) (by first | omega | assumption | decide | (have l0 := Int32.toInt_zero; omega)) (by first | omega | assumption | decide | (have l0 := Int32.toInt_zero; omega))) (cwV 1 hts mg_X10_patternQuotemq_X10_isPatternAt_154 rfl rfl rfl (by decide +kernel) ⟨Nat.le_of_ble_eq_true rfl, Nat.le_of_ble_eq_true rfl⟩) ⟨fun a U g mk q => by obtain ⟨q0, q1, qP, qK, qD⟩ := q; exact ⟨q0, q1, qP, va_K.moved (u := U) (U := U.calling g mk a) (Vm.Alike.refl U.vm) qK, qD⟩, va_recv hK hP (ci := 10) (q0 := 0) rfl rfl, fun U hU hW => ⟨rfl, by rw [hU], by rw [hU]; exact hP, va_K.moved hW.alike hK, hD.weaken (fun _ _ _ _ => trivial)⟩⟩ rfl rfl hl.1 rfl (lv_room (Nat.le_of_ble_eq_true rfl)) dX10_patternQuote_12 ⟨Nat.le_of_ble_eq_true rfl, Nat.le_of_ble_eq_true rfl⟩) hS (fun q _ h => hFc q h) hFc (fun r_3 u t H1 locs ht hvm hw hB hz1 hk1 hS => ?_)
  subst hw
  obtain ⟨x_4, x_5, x_6, x_7, hr_3_0, hr_3_1, hr_3_2, hr_3_3, hr_3_4, hr_3_5, hr_3_6, hP, hK1, hD1⟩ := hB
  rw [ht] at hP
  have hD := hD1.weaken (fun k q _ h => hFc q.1 h)
  clear hz1 hk1 hFc hD1 hK1 hvm
  generalize H1 = H at hP hS ⊢
  have rg_x_4 := i_rng x_4
  have rg_x_5 := i_rng x_5
  have rg_x_6 := i_rng x_6
  have rg_x_7 := i_rng x_7
  have rg_r_3 := i_rng r_3
  have hP : va_P (dC, dI) vwCl (mW ad kc x0 x1 x2 x3 x4 x5 x6 x_4 x_5 x_6 x10 x_7 x12 x13 x14 x15 x16 x17 x18 x19 x20 x21 f0 f1 f2 f3 f4 f5 f6 f7 f8 f9 f10 f11 f12 f13 f14 f15 f16 f17 f18 f19 f20 f21 fL fN fP fM fO) H := hP
  have hD : va_D A (mW ad kc x0 x1 x2 x3 x4 x5 x6 x_4 x_5 x_6 x10 x_7 x12 x13 x14 x15 x16 x17 x18 x19 x20 x21 f0 f1 f2 f3 f4 f5 f6 f7 f8 f9 f10 f11 f12 f13 f14 f15 f16 f17 f18 f19 f20 f21 fL fN fP fM fO) := hD
  refine lv_if_ne (tgt := 20) hx hb dX10_patternQuote_15 (by decide) (fun k_8 => ?_) (fun k_8 => ?_)
  · have tk_8 := c_ne (a := r_3.toInt) (b := 0) rfl (by decide) k_8
    have hT := tf_t hr_3_4 (by omega)
    refine lv_aload_n hx hb dX10_patternQuote_20 rfl (lv_at hl 1 rfl) ?_
    refine lv_aload_n hx hb dX10_patternQuote_21 rfl (lv_at hl 1 rfl) ?_
    refine va_get (D := (dC, dI)) (ci := 10) (v := .int x_4) (C := RX10) (T := TX10) (N := 48) hx hb hts fin_X10_patternQuotemq_X10 hown hK hP 0 rfl rfl 10 (by decide) (hts (.fieldLink RX10 130 "PatternGateModel" "end" "I") (List.mem_of_getElem? (i := 1) (by decide +kernel))) (fun _ h9 => h9) rfl dX10_patternQuote_22 ?_
    refine vp_callSi (W.runV (As := [.int x_4]) (rest := []) ⟨hx, hb, hml, hown, hts⟩ (m_byteAt l dC dI ad kc x0 x1 x2 x3 x4 x5 x6 x_4 x_5 x_6 x10 x_7 x12 x13 x14 x15 x16 x17 x18 x19 x20 x21 f0 f1 f2 f3 f4 f5 f6 f7 f8 f9 f10 f11 f12 f13 f14 f15 f16 f17 f18 f19 f20 f21 fL fN fP fM fO x_4 (by first | omega | assumption | decide | (have l0 := Int32.toInt_zero; omega)) (by first | omega | assumption | decide | (have l0 := Int32.toInt_zero; omega))) (cwV 1 hts mg_X10_patternQuotemq_X10_byteAt_133 rfl rfl rfl (by decide +kernel) ⟨Nat.le_of_ble_eq_true rfl, Nat.le_of_ble_eq_true rfl⟩) ⟨fun a U g mk q => by obtain ⟨q0, qP, qK⟩ := q; exact ⟨q0, qP, va_K.moved (u := U) (U := U.calling g mk a) (Vm.Alike.refl U.vm) qK⟩, va_recv hK hP (ci := 10) (q0 := 0) rfl rfl, fun U hU hW => ⟨rfl, by rw [hU]; exact hP, va_K.moved hW.alike hK⟩⟩ rfl rfl hl.1 rfl (lv_room (Nat.le_of_ble_eq_true rfl)) dX10_patternQuote_25 ⟨Nat.le_of_ble_eq_true rfl, Nat.le_of_ble_eq_true rfl⟩) (fun r_9 hr_9 => ?_)
    have rg_r_9 := i_rng r_9
    refine lv_bipush (v := 34) hx hb dX10_patternQuote_28 (by decide) ?_
    refine lv_icmp_eq (tgt := 43) hx hb dX10_patternQuote_30 (by decide) (fun k_10 => ?_) (fun k_10 => ?_)
    · have tk_10 := c_eq (a := r_9.toInt) (b := 34) rfl (by decide) k_10
      refine lv_aload_n hx hb dX10_patternQuote_43 rfl (lv_at hl 1 rfl) ?_
      refine va_get (D := (dC, dI)) (ci := 10) (v := .ref (ad 1)) (C := RX10) (T := TX10) (N := 48) hx hb hts fin_X10_patternQuotemq_X10 hown hK hP 0 rfl rfl 0 (by decide) (hts (.fieldLink RX10 8 "PatternGateModel" "all" "[I") (List.mem_of_getElem? (i := 10) (by decide +kernel))) (fun _ h9 => h9) rfl dX10_patternQuote_44 ?_
      refine lv_sipush (v := 611) hx hb dX10_patternQuote_47 (by decide) ?_
      refine va_iald hx hb hK hP 1 0 rfl rfl (i := 611) (by unfold vp_in; decide +kernel) dX10_patternQuote_50 ?_
      refine lv_topi (fun y_11 ey_11 => ?_)
      have rg_y_11 := i_rng y_11
      have vy_11 := vI_lda (f := f0) (i := 611) (a := 611) ey_11 (by first | omega | decide)
      have rg_y_11 := i_rng y_11
      have wy_11 := q3.P0
      refine lv_istore_n (lv' := [(2, .int y_11), (1, .int x7), (0, .ref (ad 0))]) hx hb dX10_patternQuote_51 rfl hl (by decide) rfl (fun ls hl => ?_)
      refine lv_aload_n hx hb dX10_patternQuote_52 rfl (lv_at hl 2 rfl) ?_
      refine va_get (D := (dC, dI)) (ci := 10) (v := .ref (ad 1)) (C := RX10) (T := TX10) (N := 48) hx hb hts fin_X10_patternQuotemq_X10 hown hK hP 0 rfl rfl 0 (by decide) (hts (.fieldLink RX10 8 "PatternGateModel" "all" "[I") (List.mem_of_getElem? (i := 10) (by decide +kernel))) (fun _ h9 => h9) rfl dX10_patternQuote_53 ?_
      refine lv_sipush (v := 612) hx hb dX10_patternQuote_56 (by decide) ?_
      refine lv_iload_n hx hb dX10_patternQuote_59 rfl (lv_at hl 0 rfl) ?_
      refine lv_iadd hx hb dX10_patternQuote_60 ?_
      refine lv_topi (fun y_12 ey_12 => ?_)
      first | have ty_12 := i_add (a := 612) (b := y_11.toInt) (by decide) rfl ey_12 (by omega) (by omega) | skip
      refine lv_aload_n hx hb dX10_patternQuote_61 rfl (lv_at hl 2 rfl) ?_
      refine va_get (D := (dC, dI)) (ci := 10) (v := .int x_4) (C := RX10) (T := TX10) (N := 48) hx hb hts fin_X10_patternQuotemq_X10 hown hK hP 0 rfl rfl 10 (by decide) (hts (.fieldLink RX10 130 "PatternGateModel" "end" "I") (List.mem_of_getElem? (i := 1) (by decide +kernel))) (fun _ h9 => h9) rfl dX10_patternQuote_62 ?_
      refine lv_iload_n hx hb dX10_patternQuote_65 rfl (lv_at hl 1 rfl) ?_
      refine lv_isub hx hb dX10_patternQuote_66 ?_
      refine lv_topi (fun y_13 ey_13 => ?_)
      first | have ty_13 := i_sub (a := x_4.toInt) (b := x7.toInt) rfl rfl ey_13 (by omega) (by omega) | skip
      refine va_iast hx hb hK hP hD hS 1 0 rfl rfl (i := y_12) (vp_of (a := y_12.toInt) rfl (by omega) (by omega)) dX10_patternQuote_67 (fun H locs hP hD hS => ?_)
      generalize hf_f_14 : upd f0 _ _ = f_14 at hP hD
      have uf_14 := vI_up (a := (612 + y_11.toInt)) (b := y_13.toInt) hf_f_14 (by first | omega | decide) (by omega) rfl
      have hP : va_P (dC, dI) vwCl (mW ad kc x0 x1 x2 x3 x4 x5 x6 x_4 x_5 x_6 x10 x_7 x12 x13 x14 x15 x16 x17 x18 x19 x20 x21 f_14 f1 f2 f3 f4 f5 f6 f7 f8 f9 f10 f11 f12 f13 f14 f15 f16 f17 f18 f19 f20 f21 fL fN fP fM fO) H := hP
      have hD : va_D A (mW ad kc x0 x1 x2 x3 x4 x5 x6 x_4 x_5 x_6 x10 x_7 x12 x13 x14 x15 x16 x17 x18 x19 x20 x21 f_14 f1 f2 f3 f4 f5 f6 f7 f8 f9 f10 f11 f12 f13 f14 f15 f16 f17 f18 f19 f20 f21 fL fN fP fM fO) := hD
      refine lv_iload_n hx hb dX10_patternQuote_68 rfl (lv_at hl 1 rfl) ?_
      refine lv_istore_n (lv' := [(3, .int x7), (2, .int y_11), (1, .int x7), (0, .ref (ad 0))]) hx hb dX10_patternQuote_69 rfl hl (by decide) rfl (fun ls hl => ?_)
      have loop70 : ∀ (lm70 : Nat) (kk : Int32) (ga : Nat → Int32), (x7.toInt ≤ kk.toInt) → (kk.toInt ≤ x_4.toInt) → (∀ z : Int, 0 ≤ z → z ≠ 612 + y_11.toInt → (z < 620 + 900 * y_11.toInt ∨ 1520 + 900 * y_11.toInt ≤ z) → vI ga z = vI f0 z) → (vI ga (612 + y_11.toInt) = x_4.toInt - x7.toInt) → (∀ z : Int, x7.toInt ≤ z → z < kk.toInt → vI ga (620 + 900 * y_11.toInt + z - x7.toInt) = tx f2 x4.toInt z) → ((x_4.toInt - kk.toInt).toNat) < lm70 → ∀ (H : Heap) (locs : List Loc) (ls : Array Slot), va_P (dC, dI) vwCl (mW ad kc x0 x1 x2 x3 x4 x5 x6 x_4 x_5 x_6 x10 x_7 x12 x13 x14 x15 x16 x17 x18 x19 x20 x21 ga f1 f2 f3 f4 f5 f6 f7 f8 f9 f10 f11 f12 f13 f14 f15 f16 f17 f18 f19 f20 f21 fL fN fP fM fO) H → va_D A (mW ad kc x0 x1 x2 x3 x4 x5 x6 x_4 x_5 x_6 x10 x_7 x12 x13 x14 x15 x16 x17 x18 x19 x20 x21 ga f1 f2 f3 f4 f5 f6 f7 f8 f9 f10 f11 f12 f13 f14 f15 f16 f17 f18 f19 f20 f21 fL fN fP fM fO) → va_S A s.heap H locs → lv_has ls 4 [(3, .int kk), (2, .int y_11), (1, .int x7), (0, .ref (ad 0))] → W p l e (headSpec mwX10_patternQuotemq ({ frames := 21, cells := 0, slots := 0, locals := 1260 })).room s m ([.ref (ad 0)]).toArray below meth c H locs 0 0 (MQ below (va_Qi (fun (o9 u9 : Int32) => o9 = u9) (fun (o9 : Int32) t => ∃ (y7 y8 y9 y11 : Int32) (g0 : Nat → Int32), (OKd g0 0) ∧ (∀ z : Int, 7820 ≤ z → vI g0 z = vI f0 z) ∧ (x7.toInt ≤ y7.toInt) ∧ (y7.toInt ≤ x4.toInt) ∧ (o9.toInt = 0 ∨ o9.toInt = 1) ∧ (qR (tx f2 x4.toInt) x7.toInt y7.toInt (vI f0 611) o9.toInt) ∧ (o9.toInt = 1 → vI g0 611 = vI f0 611 + 1 ∧ vI g0 0 = vI f0 0) ∧ (o9.toInt = 1 ∧ y8.toInt = x8.toInt ∨ o9.toInt = 0 ∧ 0 < y8.toInt) ∧ va_P (dC, dI) vwCl (mW ad kc x0 x1 x2 x3 x4 x5 x6 y7 y8 y9 x10 y11 x12 x13 x14 x15 x16 x17 x18 x19 x20 x21 g0 f1 f2 f3 f4 f5 f6 f7 f8 f9 f10 f11 f12 f13 f14 f15 f16 f17 f18 f19 f20 f21 fL fN fP fM fO) t.heap ∧ va_K (dC, dI) vwCl (mT kc) t ∧ va_D A (mW ad kc x0 x1 x2 x3 x4 x5 x6 y7 y8 y9 x10 y11 x12 x13 x14 x15 x16 x17 x18 x19 x20 x21 g0 f1 f2 f3 f4 f5 f6 f7 f8 f9 f10 f11 f12 f13 f14 f15 f16 f17 f18 f19 f20 f21 fL fN fP fM fO)) A) ([.ref (ad 0)]).toArray s 0 0 A) (F0 m 70 ls []) := by
        intro lm70
        induction lm70 with
        | zero => intro kk ga v70_0 v70_1 v70_2 v70_3 v70_4 hm70; exact absurd hm70 (Nat.not_lt_zero _)
        | succ lm70 ih70 =>
          intro kk ga v70_0 v70_1 v70_2 v70_3 v70_4 hm70 H locs ls hP hD hS hl
          have rg_kk := i_rng kk
          refine lv_iload_n hx hb dX10_patternQuote_70 rfl (lv_at hl 0 rfl) ?_
          refine lv_aload_n hx hb dX10_patternQuote_71 rfl (lv_at hl 3 rfl) ?_
          refine va_get (D := (dC, dI)) (ci := 10) (v := .int x_4) (C := RX10) (T := TX10) (N := 48) hx hb hts fin_X10_patternQuotemq_X10 hown hK hP 0 rfl rfl 10 (by decide) (hts (.fieldLink RX10 130 "PatternGateModel" "end" "I") (List.mem_of_getElem? (i := 1) (by decide +kernel))) (fun _ h9 => h9) rfl dX10_patternQuote_72 ?_
          refine lv_icmp_ge (tgt := 107) hx hb dX10_patternQuote_75 (by decide) (fun k_15 => ?_) (fun k_15 => ?_)
          · have tk_15 := c_ge (a := kk.toInt) (b := x_4.toInt) rfl rfl k_15
            refine lv_aload_n hx hb dX10_patternQuote_107 rfl (lv_at hl 3 rfl) ?_
            refine va_get (D := (dC, dI)) (ci := 10) (v := .ref (ad 1)) (C := RX10) (T := TX10) (N := 48) hx hb hts fin_X10_patternQuotemq_X10 hown hK hP 0 rfl rfl 0 (by decide) (hts (.fieldLink RX10 8 "PatternGateModel" "all" "[I") (List.mem_of_getElem? (i := 10) (by decide +kernel))) (fun _ h9 => h9) rfl dX10_patternQuote_108 ?_
            refine lv_sipush (v := 611) hx hb dX10_patternQuote_111 (by decide) ?_
            refine lv_dup2_11 hx hb dX10_patternQuote_114 rfl rfl ?_
            refine va_iald hx hb hK hP 1 0 rfl rfl (i := 611) (by unfold vp_in; decide +kernel) dX10_patternQuote_115 ?_
            refine lv_topi (fun y_16 ey_16 => ?_)
            have rg_y_16 := i_rng y_16
            have vy_16 := vI_lda (f := ga) (i := 611) (a := 611) ey_16 (by first | omega | decide)
            have rg_y_16 := i_rng y_16
            have wy_16 := v70_2 611 (by omega) (by omega) (by omega)
            refine lv_iconst (v := 1) hx hb dX10_patternQuote_116 (by decide) ?_
            refine lv_iadd hx hb dX10_patternQuote_117 ?_
            refine lv_topi (fun y_17 ey_17 => ?_)
            first | have ty_17 := i_add (a := y_16.toInt) (b := 1) rfl (by decide) ey_17 (by omega) (by omega) | skip
            refine va_iast hx hb hK hP hD hS 1 0 rfl rfl (i := 611) (by unfold vp_in; decide +kernel) dX10_patternQuote_118 (fun H locs hP hD hS => ?_)
            generalize hf_f_18 : upd ga _ _ = f_18 at hP hD
            have uf_18 := vI_up (a := 611) (b := y_17.toInt) hf_f_18 (by first | omega | decide) (by omega) rfl
            have hP : va_P (dC, dI) vwCl (mW ad kc x0 x1 x2 x3 x4 x5 x6 x_4 x_5 x_6 x10 x_7 x12 x13 x14 x15 x16 x17 x18 x19 x20 x21 f_18 f1 f2 f3 f4 f5 f6 f7 f8 f9 f10 f11 f12 f13 f14 f15 f16 f17 f18 f19 f20 f21 fL fN fP fM fO) H := hP
            have hD : va_D A (mW ad kc x0 x1 x2 x3 x4 x5 x6 x_4 x_5 x_6 x10 x_7 x12 x13 x14 x15 x16 x17 x18 x19 x20 x21 f_18 f1 f2 f3 f4 f5 f6 f7 f8 f9 f10 f11 f12 f13 f14 f15 f16 f17 f18 f19 f20 f21 fL fN fP fM fO) := hD
            refine lv_aload_n hx hb dX10_patternQuote_119 rfl (lv_at hl 3 rfl) ?_
            refine lv_dup hx hb dX10_patternQuote_120 rfl ?_
            refine va_get (D := (dC, dI)) (ci := 10) (v := .int x_4) (C := RX10) (T := TX10) (N := 48) hx hb hts fin_X10_patternQuotemq_X10 hown hK hP 0 rfl rfl 10 (by decide) (hts (.fieldLink RX10 130 "PatternGateModel" "end" "I") (List.mem_of_getElem? (i := 1) (by decide +kernel))) (fun _ h9 => h9) rfl dX10_patternQuote_121 ?_
            refine lv_iconst (v := 1) hx hb dX10_patternQuote_124 (by decide) ?_
            refine lv_iadd hx hb dX10_patternQuote_125 ?_
            refine lv_topi (fun y_19 ey_19 => ?_)
            first | have ty_19 := i_add (a := x_4.toInt) (b := 1) rfl (by decide) ey_19 (by omega) (by omega) | skip
            refine va_put (D := (dC, dI)) (ci := 10) (v := .int y_19) (ty := .int) (C := RX10) (T := TX10) (N := 48) hx hb hts fin_X10_patternQuotemq_X10 tyX10 tyX10_ok nmX10 hown hK hP hD hS 0 rfl rfl 10 (by decide) (hts (.fieldLink RX10 130 "PatternGateModel" "end" "I") (List.mem_of_getElem? (i := 1) (by decide +kernel))) (fun _ h9 => h9) rfl (by decide +kernel) rfl rfl (Nat.le_of_ble_eq_true rfl) dX10_patternQuote_126 (fun H locs hP hD hS => ?_)
            have hP : va_P (dC, dI) vwCl (mW ad kc x0 x1 x2 x3 x4 x5 x6 y_19 x_5 x_6 x10 x_7 x12 x13 x14 x15 x16 x17 x18 x19 x20 x21 f_18 f1 f2 f3 f4 f5 f6 f7 f8 f9 f10 f11 f12 f13 f14 f15 f16 f17 f18 f19 f20 f21 fL fN fP fM fO) H := hP
            have hD : va_D A (mW ad kc x0 x1 x2 x3 x4 x5 x6 y_19 x_5 x_6 x10 x_7 x12 x13 x14 x15 x16 x17 x18 x19 x20 x21 f_18 f1 f2 f3 f4 f5 f6 f7 f8 f9 f10 f11 f12 f13 f14 f15 f16 f17 f18 f19 f20 f21 fL fN fP fM fO) := hD
            refine lv_iconst (v := 1) hx hb dX10_patternQuote_129 (by decide) ?_
            have lit_19 : (1 : Int32).toInt = 1 := by decide
            exact W.zret hx hb hr (z_nar (by first | assumption | decide | exact z_of (by omega))) (fun t ht hW => ⟨⟨_, _, rfl, rfl, y_19, x_5, x_6, x_7, f_18, (OKd.pat (p := y_11.toInt) (n := x_4.toInt - x7.toInt) q3 vy_11.symm (by omega) (by omega) (by omega) (PatOK.of (t := tx f2 x4.toInt) hT.1 (by omega) (by omega) (fun k a b => by show vI _ (620 + 900 * y_11.toInt + (k - x7.toInt)) = _; rw [uf_18.2 _ (by omega) (by omega), ← v70_4 k a (by omega)]; congr 1; omega)) (by have h9 := uf_18.1; omega) (by rw [uf_18.2 _ (by omega) (by omega)]; exact v70_3) (fun z a b c d => by rw [uf_18.2 z a (by omega)]; exact v70_2 z a c d)), (fun z hz => by rw [uf_18.2 z (by omega) (by omega)]; exact v70_2 z (by omega) (by omega) (by omega)), (by first | omega | assumption | rfl | decide), (by first | omega | assumption | rfl | decide), (by first | omega | assumption | rfl | decide), (qR_e hr_3_5 (by decide) (by omega) (by omega) (by omega) (by decide)), (fun _ => ⟨by have h9 := uf_18.1; omega, by rw [uf_18.2 0 (by omega) (by omega)]; exact v70_2 0 (by omega) (by omega) (by omega)⟩), (by first | omega | assumption | rfl | decide), by rw [ht]; exact hP, va_K.moved hW.alike hK, hD⟩, hS.F ht⟩) hS.2.2 dX10_patternQuote_130
          · have tk_15 := c_nge (a := kk.toInt) (b := x_4.toInt) rfl rfl k_15
            refine lv_aload_n hx hb dX10_patternQuote_78 rfl (lv_at hl 3 rfl) ?_
            refine va_get (D := (dC, dI)) (ci := 10) (v := .ref (ad 1)) (C := RX10) (T := TX10) (N := 48) hx hb hts fin_X10_patternQuotemq_X10 hown hK hP 0 rfl rfl 0 (by decide) (hts (.fieldLink RX10 8 "PatternGateModel" "all" "[I") (List.mem_of_getElem? (i := 10) (by decide +kernel))) (fun _ h9 => h9) rfl dX10_patternQuote_79 ?_
            refine lv_sipush (v := 620) hx hb dX10_patternQuote_82 (by decide) ?_
            refine lv_sipush (v := 900) hx hb dX10_patternQuote_85 (by decide) ?_
            refine lv_iload_n hx hb dX10_patternQuote_88 rfl (lv_at hl 1 rfl) ?_
            refine lv_imul hx hb dX10_patternQuote_89 ?_
            refine lv_topi (fun y_21 ey_21 => ?_)
            first | have ty_21 := i_mul (a := 900) (b := y_11.toInt) (by decide) rfl ey_21 (by omega) (by omega) | skip
            refine lv_iadd hx hb dX10_patternQuote_90 ?_
            refine lv_topi (fun y_22 ey_22 => ?_)
            first | have ty_22 := i_add (a := 620) (b := y_21.toInt) (by decide) rfl ey_22 (by omega) (by omega) | skip
            refine lv_iload_n hx hb dX10_patternQuote_91 rfl (lv_at hl 0 rfl) ?_
            refine lv_iadd hx hb dX10_patternQuote_92 ?_
            refine lv_topi (fun y_23 ey_23 => ?_)
            first | have ty_23 := i_add (a := y_22.toInt) (b := kk.toInt) rfl rfl ey_23 (by omega) (by omega) | skip
            refine lv_iload_n hx hb dX10_patternQuote_93 rfl (lv_at hl 2 rfl) ?_
            refine lv_isub hx hb dX10_patternQuote_94 ?_
            refine lv_topi (fun y_24 ey_24 => ?_)
            first | have ty_24 := i_sub (a := y_23.toInt) (b := x7.toInt) rfl rfl ey_24 (by omega) (by omega) | skip
            refine lv_aload_n hx hb dX10_patternQuote_95 rfl (lv_at hl 3 rfl) ?_
            refine lv_iload_n hx hb dX10_patternQuote_96 rfl (lv_at hl 0 rfl) ?_
            refine vp_callSi (W.runV (As := [.int kk]) (rest := [.int y_24, .ref (ad 1)]) ⟨hx, hb, hml, hown, hts⟩ (m_byteAt l dC dI ad kc x0 x1 x2 x3 x4 x5 x6 x_4 x_5 x_6 x10 x_7 x12 x13 x14 x15 x16 x17 x18 x19 x20 x21 ga f1 f2 f3 f4 f5 f6 f7 f8 f9 f10 f11 f12 f13 f14 f15 f16 f17 f18 f19 f20 f21 fL fN fP fM fO kk (by first | omega | assumption | decide | (have l0 := Int32.toInt_zero; omega)) (by first | omega | assumption | decide | (have l0 := Int32.toInt_zero; omega))) (cwV 1 hts mg_X10_patternQuotemq_X10_byteAt_133 rfl rfl rfl (by decide +kernel) ⟨Nat.le_of_ble_eq_true rfl, Nat.le_of_ble_eq_true rfl⟩) ⟨fun a U g mk q => by obtain ⟨q0, qP, qK⟩ := q; exact ⟨q0, qP, va_K.moved (u := U) (U := U.calling g mk a) (Vm.Alike.refl U.vm) qK⟩, va_recv hK hP (ci := 10) (q0 := 0) rfl rfl, fun U hU hW => ⟨rfl, by rw [hU]; exact hP, va_K.moved hW.alike hK⟩⟩ rfl rfl hl.1 rfl (lv_room (Nat.le_of_ble_eq_true rfl)) dX10_patternQuote_97 ⟨Nat.le_of_ble_eq_true rfl, Nat.le_of_ble_eq_true rfl⟩) (fun r_25 hr_25 => ?_)
            have rg_r_25 := i_rng r_25
            refine va_iast hx hb hK hP hD hS 1 0 rfl rfl (i := y_24) (vp_of (a := y_24.toInt) rfl (by omega) (by omega)) dX10_patternQuote_100 (fun H locs hP hD hS => ?_)
            generalize hf_f_26 : upd ga _ _ = f_26 at hP hD
            have uf_26 := vI_up (a := (((620 + (900 * y_11.toInt)) + kk.toInt) - x7.toInt)) (b := r_25.toInt) hf_f_26 (by first | omega | decide) (by omega) rfl
            have hP : va_P (dC, dI) vwCl (mW ad kc x0 x1 x2 x3 x4 x5 x6 x_4 x_5 x_6 x10 x_7 x12 x13 x14 x15 x16 x17 x18 x19 x20 x21 f_26 f1 f2 f3 f4 f5 f6 f7 f8 f9 f10 f11 f12 f13 f14 f15 f16 f17 f18 f19 f20 f21 fL fN fP fM fO) H := hP
            have hD : va_D A (mW ad kc x0 x1 x2 x3 x4 x5 x6 x_4 x_5 x_6 x10 x_7 x12 x13 x14 x15 x16 x17 x18 x19 x20 x21 f_26 f1 f2 f3 f4 f5 f6 f7 f8 f9 f10 f11 f12 f13 f14 f15 f16 f17 f18 f19 f20 f21 fL fN fP fM fO) := hD
            obtain ⟨y_27, ey_27⟩ : ∃ y : Int32, y = kk + 1 := ⟨_, rfl⟩
            first | have ty_27 := i_add (a := kk.toInt) (b := 1) rfl (by decide) ey_27 (by omega) (by omega) | skip
            refine lv_iinc (v := y_27) (lv' := [(3, .int y_27), (2, .int y_11), (1, .int x7), (0, .ref (ad 0))]) hx hb dX10_patternQuote_101 hl (k := 0) rfl (by rw [ey_27]; rfl) (by decide) rfl (fun ls hl => ?_)
            refine lv_goto (tgt := 70) hx hb dX10_patternQuote_104 (by decide) ?_
            exact ih70 y_27 f_26 (by first | omega | assumption | decide) (by first | omega | assumption | decide) (fun z a b c => (uf_26.2 z a (by omega)).trans (v70_2 z a b c)) (by have h9 := uf_26.2 (612 + y_11.toInt) (by omega) (by omega); omega) (by rw [show y_27.toInt = kk.toInt + 1 by omega]; exact cq_step v70_4 uf_26 (by omega) (by omega)) (by omega) _ _ ls hP hD hS (lv_sub hl [0, 1, 2, 3] rfl)
      exact loop70 _ x7 f_14 (by first | omega | assumption | decide) (by first | omega | assumption | decide) (fun z a b c => uf_14.2 z a (by omega)) (by have h9 := uf_14.1; omega) (fun z a b => by omega) (Nat.lt_succ_self _) _ _ ls hP hD hS (lv_sub hl [0, 1, 2, 3] rfl)
    · have tk_10 := c_ne (a := r_9.toInt) (b := 34) rfl (by decide) k_10
      refine lv_aload_n hx hb dX10_patternQuote_33 rfl (lv_at hl 1 rfl) ?_
      refine lv_iconst (v := 1) hx hb dX10_patternQuote_34 (by decide) ?_
      refine lv_aload_n hx hb dX10_patternQuote_35 rfl (lv_at hl 1 rfl) ?_
      refine va_get (D := (dC, dI)) (ci := 10) (v := .int x_4) (C := RX10) (T := TX10) (N := 48) hx hb hts fin_X10_patternQuotemq_X10 hown hK hP 0 rfl rfl 10 (by decide) (hts (.fieldLink RX10 130 "PatternGateModel" "end" "I") (List.mem_of_getElem? (i := 1) (by decide +kernel))) (fun _ h9 => h9) rfl dX10_patternQuote_36 ?_
      have lit_27 : (1 : Int32).toInt = 1 := by decide
      have hFc := m_free hD hS hA
      refine va_calli (va_runV (As := [.int 1, .int x_4]) (rest := []) ⟨hx, hb, hml, hown, hts⟩ (m_failsAt_q l dC dI ad kc x0 x1 x2 x3 x4 x5 x6 x_4 x_5 x_6 x10 x_7 x12 x13 x14 x15 x16 x17 x18 x19 x20 x21 f0 f1 f2 f3 f4 f5 f6 f7 f8 f9 f10 f11 f12 f13 f14 f15 f16 f17 f18 f19 f20 f21 fL fN fP fM fO H.size 1 x_4 (by first | omega | assumption | decide | (have l0 := Int32.toInt_zero; omega)) (by first | omega | assumption | decide | (have l0 := Int32.toInt_zero; omega))) (cwV 2 hts mg_X10_patternQuotemq_X10_failsAt_126 rfl rfl rfl (by decide +kernel) ⟨Nat.le_of_ble_eq_true rfl, Nat.le_of_ble_eq_true rfl⟩) ⟨fun a U g mk q => by obtain ⟨q0, q1, qP, qK, qD⟩ := q; exact ⟨q0, q1, qP, va_K.moved (u := U) (U := U.calling g mk a) (Vm.Alike.refl U.vm) qK, qD⟩, va_recv hK hP (ci := 10) (q0 := 0) rfl rfl, fun U hU hW => ⟨rfl, by rw [hU], by rw [hU]; exact hP, va_K.moved hW.alike hK, hD.weaken (fun _ _ _ _ => trivial)⟩⟩ rfl rfl hl.1 rfl (lv_room (Nat.le_of_ble_eq_true rfl)) dX10_patternQuote_39 ⟨Nat.le_of_ble_eq_true rfl, Nat.le_of_ble_eq_true rfl⟩) hS (fun q _ h => hFc q h) hFc (fun r_29 u t H1 locs ht hvm hw hB hz1 hk1 hS => ?_)
      subst hw
      obtain ⟨x_30, x_31, hr_29_0, hr_29_1, hP, hK1, hD1⟩ := hB
      rw [ht] at hP
      have hD := hD1.weaken (fun k q _ h => hFc q.1 h)
      clear hz1 hk1 hFc hD1 hK1 hvm
      generalize H1 = H at hP hS ⊢
      have rg_x_30 := i_rng x_30
      have rg_x_31 := i_rng x_31
      have rg_r_29 := i_rng r_29
      have hP : va_P (dC, dI) vwCl (mW ad kc x0 x1 x2 x3 x4 x5 x6 x_4 x_30 x_31 x10 x_7 x12 x13 x14 x15 x16 x17 x18 x19 x20 x21 f0 f1 f2 f3 f4 f5 f6 f7 f8 f9 f10 f11 f12 f13 f14 f15 f16 f17 f18 f19 f20 f21 fL fN fP fM fO) H := hP
      have hD : va_D A (mW ad kc x0 x1 x2 x3 x4 x5 x6 x_4 x_30 x_31 x10 x_7 x12 x13 x14 x15 x16 x17 x18 x19 x20 x21 f0 f1 f2 f3 f4 f5 f6 f7 f8 f9 f10 f11 f12 f13 f14 f15 f16 f17 f18 f19 f20 f21 fL fN fP fM fO) := hD
      exact W.zret hx hb hr (z_nar (by first | assumption | decide | exact z_of (by omega))) (fun t ht hW => ⟨⟨_, _, rfl, rfl, x_4, x_30, x_31, x_7, f0, q3, (fun z hz => rfl), (by first | omega | assumption | rfl | decide), (by first | omega | assumption | rfl | decide), (by first | omega | assumption | rfl | decide), (qR_n hr_3_5 (by decide) (by omega) (by omega) (by omega)), (fun h9 => by omega), (by first | omega | assumption | rfl | decide), by rw [ht]; exact hP, va_K.moved hW.alike hK, hD⟩, hS.F ht⟩) hS.2.2 dX10_patternQuote_42
  · have tk_8 := c_eq (a := r_3.toInt) (b := 0) rfl (by decide) k_8
    refine lv_iconst (v := 0) hx hb dX10_patternQuote_18 (by decide) ?_
    have lit_31 : (0 : Int32).toInt = 0 := by decide
    exact W.zret hx hb hr (z_nar (by first | assumption | decide | exact z_of (by omega))) (fun t ht hW => ⟨⟨_, _, rfl, rfl, x_4, x_5, x_6, x_7, f0, q3, (fun z hz => rfl), (by first | omega | assumption | rfl | decide), (by first | omega | assumption | rfl | decide), (by first | omega | assumption | rfl | decide), (qR_0 hr_3_5 (by decide) (by omega) (by decide)), (fun h9 => by omega), (by first | omega | assumption | rfl | decide), by rw [ht]; exact hP, va_K.moved hW.alike hK, hD⟩, hS.F ht⟩) hS.2.2 dX10_patternQuote_19
def mwX10_aheadmq : List Cond := .code yX10_ahead cX10_ahead 2 none :: (([.fieldLink RX10 130 "PatternGateModel" "end" "I", .methodLink RX10 133 yX10_byteAt, .instanceMethod yX10_byteAt, .selects RX10 yX10_byteAt yX10_byteAt, .initialized RX10, .fieldLink RX10 123 "PatternGateModel" "begin" "I", .methodLink RX10 137 yX10_isSmall, .static yX10_isSmall, .fieldLink RX10 120 "PatternGateModel" "token" "I"] : List Cond) ++ (wsX100 ++ (mwX10_byteAtm ++ (mwX10_isSmallm))))
theorem fin_X10_aheadmq_X10 : ∀ w ∈ wsX100, w ∈ mwX10_aheadmq := fun w h => List.mem_cons_of_mem _ (List.mem_append_right _ (List.mem_append_left _ h))
set_option maxRecDepth 20000 in
theorem mg_X10_aheadmq_X10_byteAt_133 : GoodIn mwX10_aheadmq (wsV RX10 133 RX10 yX10_byteAt mwX10_byteAtm) := gi_app (A := [.methodLink RX10 133 yX10_byteAt, .instanceMethod yX10_byteAt, .selects RX10 yX10_byteAt yX10_byteAt, .initialized RX10]) (goodIn_r _ [2, 3, 4, 5] (by decide +kernel) (by decide +kernel)) (gi_sub gd_mwX10_byteAtm (fun w h => List.mem_cons_of_mem _ (List.mem_append_right _ (List.mem_append_right _ (List.mem_append_left _ h)))))
set_option maxRecDepth 20000 in
theorem mg_X10_aheadmq_X10_isSmall_137 : GoodIn mwX10_aheadmq (va_wsS RX10 137 yX10_isSmall mwX10_isSmallm) := gi_app (A := [.methodLink RX10 137 yX10_isSmall, .static yX10_isSmall, .initialized RX10]) (goodIn_r _ [7, 8, 5] (by decide +kernel) (by decide +kernel)) (gi_sub gd_mwX10_isSmallm (fun w h => List.mem_cons_of_mem _ (List.mem_append_right _ (List.mem_append_right _ (List.mem_append_right _ (h))))))
set_option maxHeartbeats 4000000 in
set_option maxRecDepth 100000 in
theorem m_ahead_q (l : Launch) (dC : Nat → ClassId) (dI : Nat → Nat → Nat) (ad : Nat → Nat) (kc : Nat → ClassId) (x0 x1 x2 x3 x4 x5 x6 x7 x8 x9 x10 x11 x12 x13 x14 x15 x16 x17 x18 x19 x20 x21 : Int32) (f0 f1 f2 f3 f4 f5 f6 f7 f8 f9 f10 f11 f12 f13 f14 f15 f16 f17 f18 f19 f20 f21 : Nat → Int32) (fL : Nat → Nat → Int64) (fN : Nat → Nat → Int32) (fP : Nat → Nat → Nat) (fM : Nat → Nat → Int32) (fO : Nat → Nat → Int32) (sz : Nat) (q0 : 0 ≤ x7.toInt) (q1 : x7.toInt ≤ x4.toInt) (q2 : x4.toInt ≤ 900) : Met l yX10_ahead mwX10_aheadmq ({ frames := 1, cells := 0, slots := 0, locals := 60 }) (va_Pc [.ref (ad 0)] (fun U => U.heap.size = sz ∧ va_P (dC, dI) vwCl (mW ad kc x0 x1 x2 x3 x4 x5 x6 x7 x8 x9 x10 x11 x12 x13 x14 x15 x16 x17 x18 x19 x20 x21 f0 f1 f2 f3 f4 f5 f6 f7 f8 f9 f10 f11 f12 f13 f14 f15 f16 f17 f18 f19 f20 f21 fL fN fP fM fO) U.heap ∧ va_K (dC, dI) vwCl (mT kc) U ∧ va_D (fun _ => True) (mW ad kc x0 x1 x2 x3 x4 x5 x6 x7 x8 x9 x10 x11 x12 x13 x14 x15 x16 x17 x18 x19 x20 x21 f0 f1 f2 f3 f4 f5 f6 f7 f8 f9 f10 f11 f12 f13 f14 f15 f16 f17 f18 f19 f20 f21 fL fN fP fM fO))) (va_Qv (fun (_ : Unit) => True) (fun _ t => ∃ (y5 y6 y7 : Int32), (x7.toInt ≤ y7.toInt) ∧ (y7.toInt ≤ x4.toInt) ∧ (x7.toInt ≤ y6.toInt) ∧ (y6.toInt ≤ y7.toInt) ∧ (y5.toInt = 0 ∨ x7.toInt < y7.toInt) ∧ (tG (tx f2 x4.toInt) x7.toInt y6.toInt) ∧ (tK (tx f2 x4.toInt) y6.toInt y7.toInt y5.toInt) ∧ va_P (dC, dI) vwCl (mW ad kc x0 x1 x2 x3 x4 y5 y6 y7 x8 x9 x10 x11 x12 x13 x14 x15 x16 x17 x18 x19 x20 x21 f0 f1 f2 f3 f4 f5 f6 f7 f8 f9 f10 f11 f12 f13 f14 f15 f16 f17 f18 f19 f20 f21 fL fN fP fM fO) t.heap ∧ va_K (dC, dI) vwCl (mT kc) t ∧ va_D (va_A (mW ad kc x0 x1 x2 x3 x4 x5 x6 x7 x8 x9 x10 x11 x12 x13 x14 x15 x16 x17 x18 x19 x20 x21 f0 f1 f2 f3 f4 f5 f6 f7 f8 f9 f10 f11 f12 f13 f14 f15 f16 f17 f18 f19 f20 f21 fL fN fP fM fO) sz) (mW ad kc x0 x1 x2 x3 x4 y5 y6 y7 x8 x9 x10 x11 x12 x13 x14 x15 x16 x17 x18 x19 x20 x21 f0 f1 f2 f3 f4 f5 f6 f7 f8 f9 f10 f11 f12 f13 f14 f15 f16 f17 f18 f19 f20 f21 fL fN fP fM fO)) (va_A (mW ad kc x0 x1 x2 x3 x4 x5 x6 x7 x8 x9 x10 x11 x12 x13 x14 x15 x16 x17 x18 x19 x20 x21 f0 f1 f2 f3 f4 f5 f6 f7 f8 f9 f10 f11 f12 f13 f14 f15 f16 f17 f18 f19 f20 f21 fL fN fP fM fO) sz)) 0 0 (va_A (mW ad kc x0 x1 x2 x3 x4 x5 x6 x7 x8 x9 x10 x11 x12 x13 x14 x15 x16 x17 x18 x19 x20 x21 f0 f1 f2 f3 f4 f5 f6 f7 f8 f9 f10 f11 f12 f13 f14 f15 f16 f17 f18 f19 f20 f21 fL fN fP fM fO) sz) := by
  refine Met.ofW (cc := cX10_ahead) (maxL := 2) (ret := none) (by decide +kernel) rfl ?_
  intro p e s m args below meth c s₁ B hml hv
  obtain ⟨rfl, hsz, hP, hK, hD0⟩ := hv
  have hx := B.exec
  have hb := B.bytes
  have hr := B.returns
  have hts := atoms_spec (ws := mwX10_aheadmq) B.pre
  have hown : s.vm.findClass RX10 = some m.cls := findClass_of_methodNamed B.named
  have hlocks := B.notSynchronized
  subst hsz
  have hD := hD0.self (sz := s.heap.size)
  generalize hAe : va_A (mW ad kc x0 x1 x2 x3 x4 x5 x6 x7 x8 x9 x10 x11 x12 x13 x14 x15 x16 x17 x18 x19 x20 x21 f0 f1 f2 f3 f4 f5 f6 f7 f8 f9 f10 f11 f12 f13 f14 f15 f16 f17 f18 f19 f20 f21 fL fN fP fM fO) s.heap.size = A at hD ⊢
  have hA : ∀ q : Nat, s.heap.size ≤ q → A q := fun q h => by rw [← hAe]; exact Or.inr h
  have hP : va_P (dC, dI) vwCl (mW ad kc x0 x1 x2 x3 x4 x5 x6 x7 x8 x9 x10 x11 x12 x13 x14 x15 x16 x17 x18 x19 x20 x21 f0 f1 f2 f3 f4 f5 f6 f7 f8 f9 f10 f11 f12 f13 f14 f15 f16 f17 f18 f19 f20 f21 fL fN fP fM fO) s.heap := hP
  have hD : va_D A (mW ad kc x0 x1 x2 x3 x4 x5 x6 x7 x8 x9 x10 x11 x12 x13 x14 x15 x16 x17 x18 x19 x20 x21 f0 f1 f2 f3 f4 f5 f6 f7 f8 f9 f10 f11 f12 f13 f14 f15 f16 f17 f18 f19 f20 f21 fL fN fP fM fO) := hD
  have hK : va_K (dC, dI) vwCl (mT kc) s := hK
  generalize hH : s.heap = H at hP ⊢
  have hS : va_S A s.heap H [] := by rw [← hH]; exact va_S.rf
  have hl := lv_entry ([.ref (ad 0)]) (n := 2) (Nat.le_of_ble_eq_true rfl)
  rw [lg_entry_eq]
  generalize (lg_sl ([.ref (ad 0)]) ++ List.replicate (2 - (lg_sl ([.ref (ad 0)])).length) Slot.unset).toArray = ls at hl ⊢
  have hl : lv_has ls 2 [(0, .ref (ad 0))] := hl
  have loop0 : ∀ (lm0 : Nat) (ea : Int32), (x7.toInt ≤ ea.toInt) → (ea.toInt ≤ x4.toInt) → (tG (tx f2 x4.toInt) x7.toInt ea.toInt) → ((x4.toInt - ea.toInt).toNat) < lm0 → ∀ (H : Heap) (locs : List Loc) (ls : Array Slot), va_P (dC, dI) vwCl (mW ad kc x0 x1 x2 x3 x4 x5 x6 ea x8 x9 x10 x11 x12 x13 x14 x15 x16 x17 x18 x19 x20 x21 f0 f1 f2 f3 f4 f5 f6 f7 f8 f9 f10 f11 f12 f13 f14 f15 f16 f17 f18 f19 f20 f21 fL fN fP fM fO) H → va_D A (mW ad kc x0 x1 x2 x3 x4 x5 x6 ea x8 x9 x10 x11 x12 x13 x14 x15 x16 x17 x18 x19 x20 x21 f0 f1 f2 f3 f4 f5 f6 f7 f8 f9 f10 f11 f12 f13 f14 f15 f16 f17 f18 f19 f20 f21 fL fN fP fM fO) → va_S A s.heap H locs → lv_has ls 2 [(0, .ref (ad 0))] → W p l e (headSpec mwX10_aheadmq ({ frames := 1, cells := 0, slots := 0, locals := 60 })).room s m ([.ref (ad 0)]).toArray below meth c H locs 0 0 (MQ below (va_Qv (fun (_ : Unit) => True) (fun _ t => ∃ (y5 y6 y7 : Int32), (x7.toInt ≤ y7.toInt) ∧ (y7.toInt ≤ x4.toInt) ∧ (x7.toInt ≤ y6.toInt) ∧ (y6.toInt ≤ y7.toInt) ∧ (y5.toInt = 0 ∨ x7.toInt < y7.toInt) ∧ (tG (tx f2 x4.toInt) x7.toInt y6.toInt) ∧ (tK (tx f2 x4.toInt) y6.toInt y7.toInt y5.toInt) ∧ va_P (dC, dI) vwCl (mW ad kc x0 x1 x2 x3 x4 y5 y6 y7 x8 x9 x10 x11 x12 x13 x14 x15 x16 x17 x18 x19 x20 x21 f0 f1 f2 f3 f4 f5 f6 f7 f8 f9 f10 f11 f12 f13 f14 f15 f16 f17 f18 f19 f20 f21 fL fN fP fM fO) t.heap ∧ va_K (dC, dI) vwCl (mT kc) t ∧ va_D A (mW ad kc x0 x1 x2 x3 x4 y5 y6 y7 x8 x9 x10 x11 x12 x13 x14 x15 x16 x17 x18 x19 x20 x21 f0 f1 f2 f3 f4 f5 f6 f7 f8 f9 f10 f11 f12 f13 f14 f15 f16 f17 f18 f19 f20 f21 fL fN fP fM fO)) A) ([.ref (ad 0)]).toArray s 0 0 A) (F0 m 0 ls []) := by
    intro lm0
    induction lm0 with
    | zero => intro ea v0_0 v0_1 v0_2 hm0; exact absurd hm0 (Nat.not_lt_zero _)
    | succ lm0 ih0 =>
      intro ea v0_0 v0_1 v0_2 hm0 H locs ls hP hD hS hl
      have rg_ea := i_rng ea
      refine lv_aload_n hx hb dX10_ahead_0 rfl (lv_at hl 0 rfl) ?_
      refine lv_aload_n hx hb dX10_ahead_1 rfl (lv_at hl 0 rfl) ?_
      refine va_get (D := (dC, dI)) (ci := 10) (v := .int ea) (C := RX10) (T := TX10) (N := 48) hx hb hts fin_X10_aheadmq_X10 hown hK hP 0 rfl rfl 10 (by decide) (hts (.fieldLink RX10 130 "PatternGateModel" "end" "I") (List.mem_of_getElem? (i := 1) (by decide +kernel))) (fun _ h9 => h9) rfl dX10_ahead_2 ?_
      refine vp_callSi (W.runV (As := [.int ea]) (rest := []) ⟨hx, hb, hml, hown, hts⟩ (m_byteAt l dC dI ad kc x0 x1 x2 x3 x4 x5 x6 ea x8 x9 x10 x11 x12 x13 x14 x15 x16 x17 x18 x19 x20 x21 f0 f1 f2 f3 f4 f5 f6 f7 f8 f9 f10 f11 f12 f13 f14 f15 f16 f17 f18 f19 f20 f21 fL fN fP fM fO ea (by first | omega | assumption | decide | (have l0 := Int32.toInt_zero; omega)) (by first | omega | assumption | decide | (have l0 := Int32.toInt_zero; omega))) (cwV 1 hts mg_X10_aheadmq_X10_byteAt_133 rfl rfl rfl (by decide +kernel) ⟨Nat.le_of_ble_eq_true rfl, Nat.le_of_ble_eq_true rfl⟩) ⟨fun a U g mk q => by obtain ⟨q0, qP, qK⟩ := q; exact ⟨q0, qP, va_K.moved (u := U) (U := U.calling g mk a) (Vm.Alike.refl U.vm) qK⟩, va_recv hK hP (ci := 10) (q0 := 0) rfl rfl, fun U hU hW => ⟨rfl, by rw [hU]; exact hP, va_K.moved hW.alike hK⟩⟩ rfl rfl hl.1 rfl (lv_room (Nat.le_of_ble_eq_true rfl)) dX10_ahead_5 ⟨Nat.le_of_ble_eq_true rfl, Nat.le_of_ble_eq_true rfl⟩) (fun r_1 hr_1 => ?_)
      have rg_r_1 := i_rng r_1
      refine lv_bipush (v := 32) hx hb dX10_ahead_8 (by decide) ?_
      refine lv_icmp_eq (tgt := 26) hx hb dX10_ahead_10 (by decide) (fun k_2 => ?_) (fun k_2 => ?_)
      · have tk_2 := c_eq (a := r_1.toInt) (b := 32) rfl (by decide) k_2
        refine lv_aload_n hx hb dX10_ahead_26 rfl (lv_at hl 0 rfl) ?_
        refine lv_dup hx hb dX10_ahead_27 rfl ?_
        refine va_get (D := (dC, dI)) (ci := 10) (v := .int ea) (C := RX10) (T := TX10) (N := 48) hx hb hts fin_X10_aheadmq_X10 hown hK hP 0 rfl rfl 10 (by decide) (hts (.fieldLink RX10 130 "PatternGateModel" "end" "I") (List.mem_of_getElem? (i := 1) (by decide +kernel))) (fun _ h9 => h9) rfl dX10_ahead_28 ?_
        refine lv_iconst (v := 1) hx hb dX10_ahead_31 (by decide) ?_
        refine lv_iadd hx hb dX10_ahead_32 ?_
        refine lv_topi (fun y_3 ey_3 => ?_)
        first | have ty_3 := i_add (a := ea.toInt) (b := 1) rfl (by decide) ey_3 (by omega) (by omega) | skip
        refine va_put (D := (dC, dI)) (ci := 10) (v := .int y_3) (ty := .int) (C := RX10) (T := TX10) (N := 48) hx hb hts fin_X10_aheadmq_X10 tyX10 tyX10_ok nmX10 hown hK hP hD hS 0 rfl rfl 10 (by decide) (hts (.fieldLink RX10 130 "PatternGateModel" "end" "I") (List.mem_of_getElem? (i := 1) (by decide +kernel))) (fun _ h9 => h9) rfl (by decide +kernel) rfl rfl (Nat.le_of_ble_eq_true rfl) dX10_ahead_33 (fun H locs hP hD hS => ?_)
        have hP : va_P (dC, dI) vwCl (mW ad kc x0 x1 x2 x3 x4 x5 x6 y_3 x8 x9 x10 x11 x12 x13 x14 x15 x16 x17 x18 x19 x20 x21 f0 f1 f2 f3 f4 f5 f6 f7 f8 f9 f10 f11 f12 f13 f14 f15 f16 f17 f18 f19 f20 f21 fL fN fP fM fO) H := hP
        have hD : va_D A (mW ad kc x0 x1 x2 x3 x4 x5 x6 y_3 x8 x9 x10 x11 x12 x13 x14 x15 x16 x17 x18 x19 x20 x21 f0 f1 f2 f3 f4 f5 f6 f7 f8 f9 f10 f11 f12 f13 f14 f15 f16 f17 f18 f19 f20 f21 fL fN fP fM fO) := hD
        refine lv_goto (tgt := 0) hx hb dX10_ahead_36 (by decide) ?_
        exact ih0 y_3 (by first | omega | assumption | decide) (by first | omega | assumption | decide) (tG_next v0_2 (by omega) (show y_3.toInt = ea.toInt + 1 by omega)) (by omega) _ _ ls hP hD hS (lv_sub hl [0] rfl)
      · have tk_2 := c_ne (a := r_1.toInt) (b := 32) rfl (by decide) k_2
        refine lv_aload_n hx hb dX10_ahead_13 rfl (lv_at hl 0 rfl) ?_
        refine lv_aload_n hx hb dX10_ahead_14 rfl (lv_at hl 0 rfl) ?_
        refine va_get (D := (dC, dI)) (ci := 10) (v := .int ea) (C := RX10) (T := TX10) (N := 48) hx hb hts fin_X10_aheadmq_X10 hown hK hP 0 rfl rfl 10 (by decide) (hts (.fieldLink RX10 130 "PatternGateModel" "end" "I") (List.mem_of_getElem? (i := 1) (by decide +kernel))) (fun _ h9 => h9) rfl dX10_ahead_15 ?_
        refine vp_callSi (W.runV (As := [.int ea]) (rest := []) ⟨hx, hb, hml, hown, hts⟩ (m_byteAt l dC dI ad kc x0 x1 x2 x3 x4 x5 x6 ea x8 x9 x10 x11 x12 x13 x14 x15 x16 x17 x18 x19 x20 x21 f0 f1 f2 f3 f4 f5 f6 f7 f8 f9 f10 f11 f12 f13 f14 f15 f16 f17 f18 f19 f20 f21 fL fN fP fM fO ea (by first | omega | assumption | decide | (have l0 := Int32.toInt_zero; omega)) (by first | omega | assumption | decide | (have l0 := Int32.toInt_zero; omega))) (cwV 1 hts mg_X10_aheadmq_X10_byteAt_133 rfl rfl rfl (by decide +kernel) ⟨Nat.le_of_ble_eq_true rfl, Nat.le_of_ble_eq_true rfl⟩) ⟨fun a U g mk q => by obtain ⟨q0, qP, qK⟩ := q; exact ⟨q0, qP, va_K.moved (u := U) (U := U.calling g mk a) (Vm.Alike.refl U.vm) qK⟩, va_recv hK hP (ci := 10) (q0 := 0) rfl rfl, fun U hU hW => ⟨rfl, by rw [hU]; exact hP, va_K.moved hW.alike hK⟩⟩ rfl rfl hl.1 rfl (lv_room (Nat.le_of_ble_eq_true rfl)) dX10_ahead_18 ⟨Nat.le_of_ble_eq_true rfl, Nat.le_of_ble_eq_true rfl⟩) (fun r_4 hr_4 => ?_)
        have rg_r_4 := i_rng r_4
        refine lv_bipush (v := 10) hx hb dX10_ahead_21 (by decide) ?_
        refine lv_icmp_ne (tgt := 39) hx hb dX10_ahead_23 (by decide) (fun k_5 => ?_) (fun k_5 => ?_)
        · have tk_5 := c_ne (a := r_4.toInt) (b := 10) rfl (by decide) k_5
          refine lv_aload_n hx hb dX10_ahead_39 rfl (lv_at hl 0 rfl) ?_
          refine lv_aload_n hx hb dX10_ahead_40 rfl (lv_at hl 0 rfl) ?_
          refine va_get (D := (dC, dI)) (ci := 10) (v := .int ea) (C := RX10) (T := TX10) (N := 48) hx hb hts fin_X10_aheadmq_X10 hown hK hP 0 rfl rfl 10 (by decide) (hts (.fieldLink RX10 130 "PatternGateModel" "end" "I") (List.mem_of_getElem? (i := 1) (by decide +kernel))) (fun _ h9 => h9) rfl dX10_ahead_41 ?_
          refine va_put (D := (dC, dI)) (ci := 10) (v := .int ea) (ty := .int) (C := RX10) (T := TX10) (N := 48) hx hb hts fin_X10_aheadmq_X10 tyX10 tyX10_ok nmX10 hown hK hP hD hS 0 rfl rfl 9 (by decide) (hts (.fieldLink RX10 123 "PatternGateModel" "begin" "I") (List.mem_of_getElem? (i := 6) (by decide +kernel))) (fun _ h9 => h9) rfl (by decide +kernel) rfl rfl (Nat.le_of_ble_eq_true rfl) dX10_ahead_44 (fun H locs hP hD hS => ?_)
          have hP : va_P (dC, dI) vwCl (mW ad kc x0 x1 x2 x3 x4 x5 ea ea x8 x9 x10 x11 x12 x13 x14 x15 x16 x17 x18 x19 x20 x21 f0 f1 f2 f3 f4 f5 f6 f7 f8 f9 f10 f11 f12 f13 f14 f15 f16 f17 f18 f19 f20 f21 fL fN fP fM fO) H := hP
          have hD : va_D A (mW ad kc x0 x1 x2 x3 x4 x5 ea ea x8 x9 x10 x11 x12 x13 x14 x15 x16 x17 x18 x19 x20 x21 f0 f1 f2 f3 f4 f5 f6 f7 f8 f9 f10 f11 f12 f13 f14 f15 f16 f17 f18 f19 f20 f21 fL fN fP fM fO) := hD
          refine lv_aload_n hx hb dX10_ahead_47 rfl (lv_at hl 0 rfl) ?_
          refine lv_aload_n hx hb dX10_ahead_48 rfl (lv_at hl 0 rfl) ?_
          refine va_get (D := (dC, dI)) (ci := 10) (v := .int ea) (C := RX10) (T := TX10) (N := 48) hx hb hts fin_X10_aheadmq_X10 hown hK hP 0 rfl rfl 10 (by decide) (hts (.fieldLink RX10 130 "PatternGateModel" "end" "I") (List.mem_of_getElem? (i := 1) (by decide +kernel))) (fun _ h9 => h9) rfl dX10_ahead_49 ?_
          refine vp_callSi (W.runV (As := [.int ea]) (rest := []) ⟨hx, hb, hml, hown, hts⟩ (m_byteAt l dC dI ad kc x0 x1 x2 x3 x4 x5 ea ea x8 x9 x10 x11 x12 x13 x14 x15 x16 x17 x18 x19 x20 x21 f0 f1 f2 f3 f4 f5 f6 f7 f8 f9 f10 f11 f12 f13 f14 f15 f16 f17 f18 f19 f20 f21 fL fN fP fM fO ea (by first | omega | assumption | decide | (have l0 := Int32.toInt_zero; omega)) (by first | omega | assumption | decide | (have l0 := Int32.toInt_zero; omega))) (cwV 1 hts mg_X10_aheadmq_X10_byteAt_133 rfl rfl rfl (by decide +kernel) ⟨Nat.le_of_ble_eq_true rfl, Nat.le_of_ble_eq_true rfl⟩) ⟨fun a U g mk q => by obtain ⟨q0, qP, qK⟩ := q; exact ⟨q0, qP, va_K.moved (u := U) (U := U.calling g mk a) (Vm.Alike.refl U.vm) qK⟩, va_recv hK hP (ci := 10) (q0 := 0) rfl rfl, fun U hU hW => ⟨rfl, by rw [hU]; exact hP, va_K.moved hW.alike hK⟩⟩ rfl rfl hl.1 rfl (lv_room (Nat.le_of_ble_eq_true rfl)) dX10_ahead_52 ⟨Nat.le_of_ble_eq_true rfl, Nat.le_of_ble_eq_true rfl⟩) (fun r_6 hr_6 => ?_)
          have rg_r_6 := i_rng r_6
          refine lv_istore_n (lv' := [(1, .int r_6), (0, .ref (ad 0))]) hx hb dX10_ahead_55 rfl hl (by decide) rfl (fun ls hl => ?_)
          refine lv_iload_n hx hb dX10_ahead_56 rfl (lv_at hl 0 rfl) ?_
          refine lv_iconst (v := (-1)) hx hb dX10_ahead_57 (by decide) ?_
          refine lv_icmp_ne (tgt := 69) hx hb dX10_ahead_58 (by decide) (fun k_7 => ?_) (fun k_7 => ?_)
          · have tk_7 := c_ne (a := r_6.toInt) (b := (-1)) rfl (by decide) k_7
            refine lv_iload_n hx hb dX10_ahead_69 rfl (lv_at hl 0 rfl) ?_
            refine vp_callSi (W.runS (As := [.int r_6]) (rest := []) ⟨hx, hb, hml, hown, hts⟩ (m_isSmall l dC dI  r_6 ) (va_cwS 1 hts mg_X10_aheadmq_X10_isSmall_137 rfl rfl rfl (by decide +kernel) ⟨Nat.le_of_ble_eq_true rfl, Nat.le_of_ble_eq_true rfl⟩) ⟨fun a U g mk q => ⟨q.1, trivial⟩, fun U hU hW => ⟨rfl, trivial⟩⟩ rfl rfl hl.1 rfl (lv_room (Nat.le_of_ble_eq_true rfl)) dX10_ahead_70 ⟨Nat.le_of_ble_eq_true rfl, Nat.le_of_ble_eq_true rfl⟩) (fun r_8 hr_8 => ?_)
            have rg_r_8 := i_rng r_8
            refine lv_if_eq (tgt := 111) hx hb dX10_ahead_73 (by decide) (fun k_9 => ?_) (fun k_9 => ?_)
            · have tk_9 := c_eq (a := r_8.toInt) (b := 0) rfl (by decide) k_9
              refine lv_aload_n hx hb dX10_ahead_111 rfl (lv_at hl 1 rfl) ?_
              refine lv_dup hx hb dX10_ahead_112 rfl ?_
              refine va_get (D := (dC, dI)) (ci := 10) (v := .int ea) (C := RX10) (T := TX10) (N := 48) hx hb hts fin_X10_aheadmq_X10 hown hK hP 0 rfl rfl 10 (by decide) (hts (.fieldLink RX10 130 "PatternGateModel" "end" "I") (List.mem_of_getElem? (i := 1) (by decide +kernel))) (fun _ h9 => h9) rfl dX10_ahead_113 ?_
              refine lv_iconst (v := 1) hx hb dX10_ahead_116 (by decide) ?_
              refine lv_iadd hx hb dX10_ahead_117 ?_
              refine lv_topi (fun y_10 ey_10 => ?_)
              first | have ty_10 := i_add (a := ea.toInt) (b := 1) rfl (by decide) ey_10 (by omega) (by omega) | skip
              refine va_put (D := (dC, dI)) (ci := 10) (v := .int y_10) (ty := .int) (C := RX10) (T := TX10) (N := 48) hx hb hts fin_X10_aheadmq_X10 tyX10 tyX10_ok nmX10 hown hK hP hD hS 0 rfl rfl 10 (by decide) (hts (.fieldLink RX10 130 "PatternGateModel" "end" "I") (List.mem_of_getElem? (i := 1) (by decide +kernel))) (fun _ h9 => h9) rfl (by decide +kernel) rfl rfl (Nat.le_of_ble_eq_true rfl) dX10_ahead_118 (fun H locs hP hD hS => ?_)
              have hP : va_P (dC, dI) vwCl (mW ad kc x0 x1 x2 x3 x4 x5 ea y_10 x8 x9 x10 x11 x12 x13 x14 x15 x16 x17 x18 x19 x20 x21 f0 f1 f2 f3 f4 f5 f6 f7 f8 f9 f10 f11 f12 f13 f14 f15 f16 f17 f18 f19 f20 f21 fL fN fP fM fO) H := hP
              have hD : va_D A (mW ad kc x0 x1 x2 x3 x4 x5 ea y_10 x8 x9 x10 x11 x12 x13 x14 x15 x16 x17 x18 x19 x20 x21 f0 f1 f2 f3 f4 f5 f6 f7 f8 f9 f10 f11 f12 f13 f14 f15 f16 f17 f18 f19 f20 f21 fL fN fP fM fO) := hD
              refine lv_aload_n hx hb dX10_ahead_121 rfl (lv_at hl 1 rfl) ?_
              refine lv_iload_n hx hb dX10_ahead_122 rfl (lv_at hl 0 rfl) ?_
              refine lv_bipush (v := 34) hx hb dX10_ahead_123 (by decide) ?_
              refine lv_icmp_ne (tgt := 132) hx hb dX10_ahead_125 (by decide) (fun k_11 => ?_) (fun k_11 => ?_)
              · have tk_11 := c_ne (a := r_6.toInt) (b := 34) rfl (by decide) k_11
                refine lv_iload_n hx hb dX10_ahead_132 rfl (lv_at hl 0 rfl) ?_
                refine lv_bipush (v := 59) hx hb dX10_ahead_133 (by decide) ?_
                refine lv_icmp_ne (tgt := 142) hx hb dX10_ahead_135 (by decide) (fun k_12 => ?_) (fun k_12 => ?_)
                · have tk_12 := c_ne (a := r_6.toInt) (b := 59) rfl (by decide) k_12
                  refine lv_iconst (v := 1) hx hb dX10_ahead_142 (by decide) ?_
                  refine va_put (D := (dC, dI)) (ci := 10) (v := .int 1) (ty := .int) (C := RX10) (T := TX10) (N := 48) hx hb hts fin_X10_aheadmq_X10 tyX10 tyX10_ok nmX10 hown hK hP hD hS 0 rfl rfl 8 (by decide) (hts (.fieldLink RX10 120 "PatternGateModel" "token" "I") (List.mem_of_getElem? (i := 9) (by decide +kernel))) (fun _ h9 => h9) rfl (by decide +kernel) rfl rfl (Nat.le_of_ble_eq_true rfl) dX10_ahead_143 (fun H locs hP hD hS => ?_)
                  have hP : va_P (dC, dI) vwCl (mW ad kc x0 x1 x2 x3 x4 1 ea y_10 x8 x9 x10 x11 x12 x13 x14 x15 x16 x17 x18 x19 x20 x21 f0 f1 f2 f3 f4 f5 f6 f7 f8 f9 f10 f11 f12 f13 f14 f15 f16 f17 f18 f19 f20 f21 fL fN fP fM fO) H := hP
                  have hD : va_D A (mW ad kc x0 x1 x2 x3 x4 1 ea y_10 x8 x9 x10 x11 x12 x13 x14 x15 x16 x17 x18 x19 x20 x21 f0 f1 f2 f3 f4 f5 f6 f7 f8 f9 f10 f11 f12 f13 f14 f15 f16 f17 f18 f19 f20 f21 fL fN fP fM fO) := hD
                  have lit_12 : (1 : Int32).toInt = 1 := by decide
                  have lit_13 : (1 : Int32).toInt = 1 := by decide
                  exact W.vret hx hb hr (fun t ht hW => ⟨⟨(), rfl, trivial, 1, ea, y_10, (by first | omega | assumption | rfl | decide), (by first | omega | assumption | rfl | decide), (by first | omega | assumption | rfl | decide), (by first | omega | assumption | rfl | decide), (by first | omega | assumption | rfl | decide), v0_2, (Or.inr (Or.inr (Or.inr (Or.inr ⟨by decide, by omega, by unfold isSm; omega, by omega, by omega, by omega, by omega, by omega⟩)))), by rw [ht]; exact hP, va_K.moved hW.alike hK, hD⟩, hS.F ht⟩) hS.2.2 dX10_ahead_146
                · have tk_12 := c_eq (a := r_6.toInt) (b := 59) rfl (by decide) k_12
                  refine lv_iconst (v := 4) hx hb dX10_ahead_138 (by decide) ?_
                  refine lv_goto (tgt := 143) hx hb dX10_ahead_139 (by decide) ?_
                  refine va_put (D := (dC, dI)) (ci := 10) (v := .int 4) (ty := .int) (C := RX10) (T := TX10) (N := 48) hx hb hts fin_X10_aheadmq_X10 tyX10 tyX10_ok nmX10 hown hK hP hD hS 0 rfl rfl 8 (by decide) (hts (.fieldLink RX10 120 "PatternGateModel" "token" "I") (List.mem_of_getElem? (i := 9) (by decide +kernel))) (fun _ h9 => h9) rfl (by decide +kernel) rfl rfl (Nat.le_of_ble_eq_true rfl) dX10_ahead_143 (fun H locs hP hD hS => ?_)
                  have hP : va_P (dC, dI) vwCl (mW ad kc x0 x1 x2 x3 x4 4 ea y_10 x8 x9 x10 x11 x12 x13 x14 x15 x16 x17 x18 x19 x20 x21 f0 f1 f2 f3 f4 f5 f6 f7 f8 f9 f10 f11 f12 f13 f14 f15 f16 f17 f18 f19 f20 f21 fL fN fP fM fO) H := hP
                  have hD : va_D A (mW ad kc x0 x1 x2 x3 x4 4 ea y_10 x8 x9 x10 x11 x12 x13 x14 x15 x16 x17 x18 x19 x20 x21 f0 f1 f2 f3 f4 f5 f6 f7 f8 f9 f10 f11 f12 f13 f14 f15 f16 f17 f18 f19 f20 f21 fL fN fP fM fO) := hD
                  have lit_14 : (4 : Int32).toInt = 4 := by decide
                  have lit_15 : (4 : Int32).toInt = 4 := by decide
                  exact W.vret hx hb hr (fun t ht hW => ⟨⟨(), rfl, trivial, 4, ea, y_10, (by first | omega | assumption | rfl | decide), (by first | omega | assumption | rfl | decide), (by first | omega | assumption | rfl | decide), (by first | omega | assumption | rfl | decide), (by first | omega | assumption | rfl | decide), v0_2, (Or.inr (Or.inr (Or.inr (Or.inl ⟨by decide, by omega, by omega⟩)))), by rw [ht]; exact hP, va_K.moved hW.alike hK, hD⟩, hS.F ht⟩) hS.2.2 dX10_ahead_146
              · have tk_11 := c_eq (a := r_6.toInt) (b := 34) rfl (by decide) k_11
                refine lv_iconst (v := 3) hx hb dX10_ahead_128 (by decide) ?_
                refine lv_goto (tgt := 143) hx hb dX10_ahead_129 (by decide) ?_
                refine va_put (D := (dC, dI)) (ci := 10) (v := .int 3) (ty := .int) (C := RX10) (T := TX10) (N := 48) hx hb hts fin_X10_aheadmq_X10 tyX10 tyX10_ok nmX10 hown hK hP hD hS 0 rfl rfl 8 (by decide) (hts (.fieldLink RX10 120 "PatternGateModel" "token" "I") (List.mem_of_getElem? (i := 9) (by decide +kernel))) (fun _ h9 => h9) rfl (by decide +kernel) rfl rfl (Nat.le_of_ble_eq_true rfl) dX10_ahead_143 (fun H locs hP hD hS => ?_)
                have hP : va_P (dC, dI) vwCl (mW ad kc x0 x1 x2 x3 x4 3 ea y_10 x8 x9 x10 x11 x12 x13 x14 x15 x16 x17 x18 x19 x20 x21 f0 f1 f2 f3 f4 f5 f6 f7 f8 f9 f10 f11 f12 f13 f14 f15 f16 f17 f18 f19 f20 f21 fL fN fP fM fO) H := hP
                have hD : va_D A (mW ad kc x0 x1 x2 x3 x4 3 ea y_10 x8 x9 x10 x11 x12 x13 x14 x15 x16 x17 x18 x19 x20 x21 f0 f1 f2 f3 f4 f5 f6 f7 f8 f9 f10 f11 f12 f13 f14 f15 f16 f17 f18 f19 f20 f21 fL fN fP fM fO) := hD
                have lit_16 : (3 : Int32).toInt = 3 := by decide
                have lit_17 : (3 : Int32).toInt = 3 := by decide
                exact W.vret hx hb hr (fun t ht hW => ⟨⟨(), rfl, trivial, 3, ea, y_10, (by first | omega | assumption | rfl | decide), (by first | omega | assumption | rfl | decide), (by first | omega | assumption | rfl | decide), (by first | omega | assumption | rfl | decide), (by first | omega | assumption | rfl | decide), v0_2, (Or.inr (Or.inr (Or.inl ⟨by decide, by omega, by omega⟩))), by rw [ht]; exact hP, va_K.moved hW.alike hK, hD⟩, hS.F ht⟩) hS.2.2 dX10_ahead_146
            · have tk_9 := c_ne (a := r_8.toInt) (b := 0) rfl (by decide) k_9
              have loop76 : ∀ (lm76 : Nat) (eb : Int32), (ea.toInt ≤ eb.toInt) → (eb.toInt ≤ x4.toInt) → (ea.toInt < eb.toInt ∨ (97 ≤ tx f2 x4.toInt eb.toInt ∧ tx f2 x4.toInt eb.toInt ≤ 122)) → (∀ j, ea.toInt ≤ j → j < eb.toInt → isSm ((tx f2 x4.toInt) j)) → (97 ≤ (tx f2 x4.toInt) ea.toInt ∧ (tx f2 x4.toInt) ea.toInt ≤ 122) → ((x4.toInt - eb.toInt).toNat) < lm76 → ∀ (H : Heap) (locs : List Loc) (ls : Array Slot), va_P (dC, dI) vwCl (mW ad kc x0 x1 x2 x3 x4 x5 ea eb x8 x9 x10 x11 x12 x13 x14 x15 x16 x17 x18 x19 x20 x21 f0 f1 f2 f3 f4 f5 f6 f7 f8 f9 f10 f11 f12 f13 f14 f15 f16 f17 f18 f19 f20 f21 fL fN fP fM fO) H → va_D A (mW ad kc x0 x1 x2 x3 x4 x5 ea eb x8 x9 x10 x11 x12 x13 x14 x15 x16 x17 x18 x19 x20 x21 f0 f1 f2 f3 f4 f5 f6 f7 f8 f9 f10 f11 f12 f13 f14 f15 f16 f17 f18 f19 f20 f21 fL fN fP fM fO) → va_S A s.heap H locs → lv_has ls 2 [(1, .int r_6), (0, .ref (ad 0))] → W p l e (headSpec mwX10_aheadmq ({ frames := 1, cells := 0, slots := 0, locals := 60 })).room s m ([.ref (ad 0)]).toArray below meth c H locs 0 0 (MQ below (va_Qv (fun (_ : Unit) => True) (fun _ t => ∃ (y5 y6 y7 : Int32), (x7.toInt ≤ y7.toInt) ∧ (y7.toInt ≤ x4.toInt) ∧ (x7.toInt ≤ y6.toInt) ∧ (y6.toInt ≤ y7.toInt) ∧ (y5.toInt = 0 ∨ x7.toInt < y7.toInt) ∧ (tG (tx f2 x4.toInt) x7.toInt y6.toInt) ∧ (tK (tx f2 x4.toInt) y6.toInt y7.toInt y5.toInt) ∧ va_P (dC, dI) vwCl (mW ad kc x0 x1 x2 x3 x4 y5 y6 y7 x8 x9 x10 x11 x12 x13 x14 x15 x16 x17 x18 x19 x20 x21 f0 f1 f2 f3 f4 f5 f6 f7 f8 f9 f10 f11 f12 f13 f14 f15 f16 f17 f18 f19 f20 f21 fL fN fP fM fO) t.heap ∧ va_K (dC, dI) vwCl (mT kc) t ∧ va_D A (mW ad kc x0 x1 x2 x3 x4 y5 y6 y7 x8 x9 x10 x11 x12 x13 x14 x15 x16 x17 x18 x19 x20 x21 f0 f1 f2 f3 f4 f5 f6 f7 f8 f9 f10 f11 f12 f13 f14 f15 f16 f17 f18 f19 f20 f21 fL fN fP fM fO)) A) ([.ref (ad 0)]).toArray s 0 0 A) (F0 m 76 ls []) := by
                intro lm76
                induction lm76 with
                | zero => intro eb v76_0 v76_1 v76_2 v76_3 v76_4 hm76; exact absurd hm76 (Nat.not_lt_zero _)
                | succ lm76 ih76 =>
                  intro eb v76_0 v76_1 v76_2 v76_3 v76_4 hm76 H locs ls hP hD hS hl
                  have rg_eb := i_rng eb
                  refine lv_aload_n hx hb dX10_ahead_76 rfl (lv_at hl 1 rfl) ?_
                  refine lv_aload_n hx hb dX10_ahead_77 rfl (lv_at hl 1 rfl) ?_
                  refine va_get (D := (dC, dI)) (ci := 10) (v := .int eb) (C := RX10) (T := TX10) (N := 48) hx hb hts fin_X10_aheadmq_X10 hown hK hP 0 rfl rfl 10 (by decide) (hts (.fieldLink RX10 130 "PatternGateModel" "end" "I") (List.mem_of_getElem? (i := 1) (by decide +kernel))) (fun _ h9 => h9) rfl dX10_ahead_78 ?_
                  refine vp_callSi (W.runV (As := [.int eb]) (rest := []) ⟨hx, hb, hml, hown, hts⟩ (m_byteAt l dC dI ad kc x0 x1 x2 x3 x4 x5 ea eb x8 x9 x10 x11 x12 x13 x14 x15 x16 x17 x18 x19 x20 x21 f0 f1 f2 f3 f4 f5 f6 f7 f8 f9 f10 f11 f12 f13 f14 f15 f16 f17 f18 f19 f20 f21 fL fN fP fM fO eb (by first | omega | assumption | decide | (have l0 := Int32.toInt_zero; omega)) (by first | omega | assumption | decide | (have l0 := Int32.toInt_zero; omega))) (cwV 1 hts mg_X10_aheadmq_X10_byteAt_133 rfl rfl rfl (by decide +kernel) ⟨Nat.le_of_ble_eq_true rfl, Nat.le_of_ble_eq_true rfl⟩) ⟨fun a U g mk q => by obtain ⟨q0, qP, qK⟩ := q; exact ⟨q0, qP, va_K.moved (u := U) (U := U.calling g mk a) (Vm.Alike.refl U.vm) qK⟩, va_recv hK hP (ci := 10) (q0 := 0) rfl rfl, fun U hU hW => ⟨rfl, by rw [hU]; exact hP, va_K.moved hW.alike hK⟩⟩ rfl rfl hl.1 rfl (lv_room (Nat.le_of_ble_eq_true rfl)) dX10_ahead_81 ⟨Nat.le_of_ble_eq_true rfl, Nat.le_of_ble_eq_true rfl⟩) (fun r_19 hr_19 => ?_)
                  have rg_r_19 := i_rng r_19
                  refine vp_callSi (W.runS (As := [.int r_19]) (rest := []) ⟨hx, hb, hml, hown, hts⟩ (m_isSmall l dC dI  r_19 ) (va_cwS 1 hts mg_X10_aheadmq_X10_isSmall_137 rfl rfl rfl (by decide +kernel) ⟨Nat.le_of_ble_eq_true rfl, Nat.le_of_ble_eq_true rfl⟩) ⟨fun a U g mk q => ⟨q.1, trivial⟩, fun U hU hW => ⟨rfl, trivial⟩⟩ rfl rfl hl.1 rfl (lv_room (Nat.le_of_ble_eq_true rfl)) dX10_ahead_84 ⟨Nat.le_of_ble_eq_true rfl, Nat.le_of_ble_eq_true rfl⟩) (fun r_20 hr_20 => ?_)
                  have rg_r_20 := i_rng r_20
                  refine lv_if_eq (tgt := 103) hx hb dX10_ahead_87 (by decide) (fun k_21 => ?_) (fun k_21 => ?_)
                  · have tk_21 := c_eq (a := r_20.toInt) (b := 0) rfl (by decide) k_21
                    refine lv_aload_n hx hb dX10_ahead_103 rfl (lv_at hl 1 rfl) ?_
                    refine lv_iconst (v := 2) hx hb dX10_ahead_104 (by decide) ?_
                    refine va_put (D := (dC, dI)) (ci := 10) (v := .int 2) (ty := .int) (C := RX10) (T := TX10) (N := 48) hx hb hts fin_X10_aheadmq_X10 tyX10 tyX10_ok nmX10 hown hK hP hD hS 0 rfl rfl 8 (by decide) (hts (.fieldLink RX10 120 "PatternGateModel" "token" "I") (List.mem_of_getElem? (i := 9) (by decide +kernel))) (fun _ h9 => h9) rfl (by decide +kernel) rfl rfl (Nat.le_of_ble_eq_true rfl) dX10_ahead_105 (fun H locs hP hD hS => ?_)
                    have hP : va_P (dC, dI) vwCl (mW ad kc x0 x1 x2 x3 x4 2 ea eb x8 x9 x10 x11 x12 x13 x14 x15 x16 x17 x18 x19 x20 x21 f0 f1 f2 f3 f4 f5 f6 f7 f8 f9 f10 f11 f12 f13 f14 f15 f16 f17 f18 f19 f20 f21 fL fN fP fM fO) H := hP
                    have hD : va_D A (mW ad kc x0 x1 x2 x3 x4 2 ea eb x8 x9 x10 x11 x12 x13 x14 x15 x16 x17 x18 x19 x20 x21 f0 f1 f2 f3 f4 f5 f6 f7 f8 f9 f10 f11 f12 f13 f14 f15 f16 f17 f18 f19 f20 f21 fL fN fP fM fO) := hD
                    have lit_21 : (2 : Int32).toInt = 2 := by decide
                    refine lv_goto (tgt := 146) hx hb dX10_ahead_108 (by decide) ?_
                    have lit_22 : (2 : Int32).toInt = 2 := by decide
                    exact W.vret hx hb hr (fun t ht hW => ⟨⟨(), rfl, trivial, 2, ea, eb, (by first | omega | assumption | rfl | decide), (by first | omega | assumption | rfl | decide), (by first | omega | assumption | rfl | decide), (by first | omega | assumption | rfl | decide), (by first | omega | assumption | rfl | decide), v0_2, (Or.inr (Or.inl ⟨by decide, v76_4, by omega, v76_3, by unfold isSm; omega⟩)), by rw [ht]; exact hP, va_K.moved hW.alike hK, hD⟩, hS.F ht⟩) hS.2.2 dX10_ahead_146
                  · have tk_21 := c_ne (a := r_20.toInt) (b := 0) rfl (by decide) k_21
                    refine lv_aload_n hx hb dX10_ahead_90 rfl (lv_at hl 1 rfl) ?_
                    refine lv_dup hx hb dX10_ahead_91 rfl ?_
                    refine va_get (D := (dC, dI)) (ci := 10) (v := .int eb) (C := RX10) (T := TX10) (N := 48) hx hb hts fin_X10_aheadmq_X10 hown hK hP 0 rfl rfl 10 (by decide) (hts (.fieldLink RX10 130 "PatternGateModel" "end" "I") (List.mem_of_getElem? (i := 1) (by decide +kernel))) (fun _ h9 => h9) rfl dX10_ahead_92 ?_
                    refine lv_iconst (v := 1) hx hb dX10_ahead_95 (by decide) ?_
                    refine lv_iadd hx hb dX10_ahead_96 ?_
                    refine lv_topi (fun y_24 ey_24 => ?_)
                    first | have ty_24 := i_add (a := eb.toInt) (b := 1) rfl (by decide) ey_24 (by omega) (by omega) | skip
                    refine va_put (D := (dC, dI)) (ci := 10) (v := .int y_24) (ty := .int) (C := RX10) (T := TX10) (N := 48) hx hb hts fin_X10_aheadmq_X10 tyX10 tyX10_ok nmX10 hown hK hP hD hS 0 rfl rfl 10 (by decide) (hts (.fieldLink RX10 130 "PatternGateModel" "end" "I") (List.mem_of_getElem? (i := 1) (by decide +kernel))) (fun _ h9 => h9) rfl (by decide +kernel) rfl rfl (Nat.le_of_ble_eq_true rfl) dX10_ahead_97 (fun H locs hP hD hS => ?_)
                    have hP : va_P (dC, dI) vwCl (mW ad kc x0 x1 x2 x3 x4 x5 ea y_24 x8 x9 x10 x11 x12 x13 x14 x15 x16 x17 x18 x19 x20 x21 f0 f1 f2 f3 f4 f5 f6 f7 f8 f9 f10 f11 f12 f13 f14 f15 f16 f17 f18 f19 f20 f21 fL fN fP fM fO) H := hP
                    have hD : va_D A (mW ad kc x0 x1 x2 x3 x4 x5 ea y_24 x8 x9 x10 x11 x12 x13 x14 x15 x16 x17 x18 x19 x20 x21 f0 f1 f2 f3 f4 f5 f6 f7 f8 f9 f10 f11 f12 f13 f14 f15 f16 f17 f18 f19 f20 f21 fL fN fP fM fO) := hD
                    refine lv_goto (tgt := 76) hx hb dX10_ahead_100 (by decide) ?_
                    exact ih76 y_24 (by first | omega | assumption | decide) (by first | omega | assumption | decide) (by first | omega | assumption | decide) (by rw [show y_24.toInt = eb.toInt + 1 by omega]; exact sm_step v76_3 (by unfold isSm; omega)) (by first | omega | assumption | decide) (by omega) _ _ ls hP hD hS (lv_sub hl [0, 1] rfl)
              exact loop76 _ ea (by first | omega | assumption | decide) (by first | omega | assumption | decide) (by first | omega | assumption | decide) (fun k a b => by omega) (by first | omega | assumption | decide) (Nat.lt_succ_self _) _ _ ls hP hD hS (lv_sub hl [0, 1] rfl)
          · have tk_7 := c_eq (a := r_6.toInt) (b := (-1)) rfl (by decide) k_7
            refine lv_aload_n hx hb dX10_ahead_61 rfl (lv_at hl 1 rfl) ?_
            refine lv_iconst (v := 0) hx hb dX10_ahead_62 (by decide) ?_
            refine va_put (D := (dC, dI)) (ci := 10) (v := .int 0) (ty := .int) (C := RX10) (T := TX10) (N := 48) hx hb hts fin_X10_aheadmq_X10 tyX10 tyX10_ok nmX10 hown hK hP hD hS 0 rfl rfl 8 (by decide) (hts (.fieldLink RX10 120 "PatternGateModel" "token" "I") (List.mem_of_getElem? (i := 9) (by decide +kernel))) (fun _ h9 => h9) rfl (by decide +kernel) rfl rfl (Nat.le_of_ble_eq_true rfl) dX10_ahead_63 (fun H locs hP hD hS => ?_)
            have hP : va_P (dC, dI) vwCl (mW ad kc x0 x1 x2 x3 x4 0 ea ea x8 x9 x10 x11 x12 x13 x14 x15 x16 x17 x18 x19 x20 x21 f0 f1 f2 f3 f4 f5 f6 f7 f8 f9 f10 f11 f12 f13 f14 f15 f16 f17 f18 f19 f20 f21 fL fN fP fM fO) H := hP
            have hD : va_D A (mW ad kc x0 x1 x2 x3 x4 0 ea ea x8 x9 x10 x11 x12 x13 x14 x15 x16 x17 x18 x19 x20 x21 f0 f1 f2 f3 f4 f5 f6 f7 f8 f9 f10 f11 f12 f13 f14 f15 f16 f17 f18 f19 f20 f21 fL fN fP fM fO) := hD
            have lit_24 : (0 : Int32).toInt = 0 := by decide
            refine lv_goto (tgt := 146) hx hb dX10_ahead_66 (by decide) ?_
            have lit_25 : (0 : Int32).toInt = 0 := by decide
            exact W.vret hx hb hr (fun t ht hW => ⟨⟨(), rfl, trivial, 0, ea, ea, (by first | omega | assumption | rfl | decide), (by first | omega | assumption | rfl | decide), (by first | omega | assumption | rfl | decide), (by first | omega | assumption | rfl | decide), (by first | omega | assumption | rfl | decide), v0_2, (Or.inl ⟨by decide, by omega, by omega⟩), by rw [ht]; exact hP, va_K.moved hW.alike hK, hD⟩, hS.F ht⟩) hS.2.2 dX10_ahead_146
        · have tk_5 := c_eq (a := r_4.toInt) (b := 10) rfl (by decide) k_5
          refine lv_aload_n hx hb dX10_ahead_26 rfl (lv_at hl 0 rfl) ?_
          refine lv_dup hx hb dX10_ahead_27 rfl ?_
          refine va_get (D := (dC, dI)) (ci := 10) (v := .int ea) (C := RX10) (T := TX10) (N := 48) hx hb hts fin_X10_aheadmq_X10 hown hK hP 0 rfl rfl 10 (by decide) (hts (.fieldLink RX10 130 "PatternGateModel" "end" "I") (List.mem_of_getElem? (i := 1) (by decide +kernel))) (fun _ h9 => h9) rfl dX10_ahead_28 ?_
          refine lv_iconst (v := 1) hx hb dX10_ahead_31 (by decide) ?_
          refine lv_iadd hx hb dX10_ahead_32 ?_
          refine lv_topi (fun y_27 ey_27 => ?_)
          first | have ty_27 := i_add (a := ea.toInt) (b := 1) rfl (by decide) ey_27 (by omega) (by omega) | skip
          refine va_put (D := (dC, dI)) (ci := 10) (v := .int y_27) (ty := .int) (C := RX10) (T := TX10) (N := 48) hx hb hts fin_X10_aheadmq_X10 tyX10 tyX10_ok nmX10 hown hK hP hD hS 0 rfl rfl 10 (by decide) (hts (.fieldLink RX10 130 "PatternGateModel" "end" "I") (List.mem_of_getElem? (i := 1) (by decide +kernel))) (fun _ h9 => h9) rfl (by decide +kernel) rfl rfl (Nat.le_of_ble_eq_true rfl) dX10_ahead_33 (fun H locs hP hD hS => ?_)
          have hP : va_P (dC, dI) vwCl (mW ad kc x0 x1 x2 x3 x4 x5 x6 y_27 x8 x9 x10 x11 x12 x13 x14 x15 x16 x17 x18 x19 x20 x21 f0 f1 f2 f3 f4 f5 f6 f7 f8 f9 f10 f11 f12 f13 f14 f15 f16 f17 f18 f19 f20 f21 fL fN fP fM fO) H := hP
          have hD : va_D A (mW ad kc x0 x1 x2 x3 x4 x5 x6 y_27 x8 x9 x10 x11 x12 x13 x14 x15 x16 x17 x18 x19 x20 x21 f0 f1 f2 f3 f4 f5 f6 f7 f8 f9 f10 f11 f12 f13 f14 f15 f16 f17 f18 f19 f20 f21 fL fN fP fM fO) := hD
          refine lv_goto (tgt := 0) hx hb dX10_ahead_36 (by decide) ?_
          exact ih0 y_27 (by first | omega | assumption | decide) (by first | omega | assumption | decide) (tG_next v0_2 (by omega) (show y_27.toInt = ea.toInt + 1 by omega)) (by omega) _ _ ls hP hD hS (lv_sub hl [0] rfl)
  exact loop0 _ x7 (by first | omega | assumption | decide) (by first | omega | assumption | decide) (fun _ _ _ => Ld.rf) (Nat.lt_succ_self _) _ _ ls hP hD hS (lv_sub hl [0] rfl)

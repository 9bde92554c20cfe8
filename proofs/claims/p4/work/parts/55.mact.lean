theorem OKl.bd {f : Nat → Int32} {b z : Int} (h : OKd f b) (hz : OKl f b z) : 0 ≤ z ∧ z < 7820 := by
  have h1 := h.1
  have h2 := h.2.2.1
  unfold OKl at hz
  omega
theorem OKd.far {f g : Nat → Int32} {b : Int} (h : OKd f b) (e : ∀ z : Int, b ≤ z → z < b + 7820 → vI g z = vI f z) : OKd g b :=
  h.congr (fun z hz => by have := OKl.bd h hz; exact e (b + z) (by omega) (by omega))
/-- a block was copied -/
def CP (f g : Nat → Int32) (fr to : Int) : Prop := ∀ z : Int, 0 ≤ z → vI g z = if to ≤ z ∧ z < to + 7820 then vI f (z - to + fr) else vI f z
theorem CP.there {f g : Nat → Int32} {fr to : Int} (h : CP f g fr to) (ht : 0 ≤ to) (q : OKd f fr) : OKd g to :=
  q.congr (fun z hz => by
    have := OKl.bd q hz
    rw [h (to + z) (by omega), if_pos (by omega)]
    congr 1; omega)
theorem CP.else_ {f g : Nat → Int32} {fr to b : Int} (h : CP f g fr to) (hb : 0 ≤ b) (hd : b + 7820 ≤ to ∨ to + 7820 ≤ b) (q : OKd f b) : OKd g b :=
  q.far (fun z h1 h2 => by rw [h z (by omega), if_neg (by omega)])
/-- all but what there is -/
def mC (a k : Int) (f : Nat → Int32) : Prop := OKd f 7820 ∧ (∀ j : Int, 0 ≤ j → j < a → OKd f (15640 + 7820 * j)) ∧ ∀ j : Int, 0 ≤ j → j < k → OKd f (78200 + 7820 * j)
theorem mC.far {a k : Int} {f g : Nat → Int32} (h : mC a k f) (e : ∀ z : Int, 7820 ≤ z → vI g z = vI f z) : mC a k g := ⟨h.1.far (fun z h1 _ => e z (by omega)), fun j a1 a2 => (h.2.1 j a1 a2).far (fun z h1 _ => e z (by omega)), fun j a1 a2 => (h.2.2 j a1 a2).far (fun z h1 _ => e z (by omega))⟩
theorem mI.aside {a k t : Int} {f g : Nat → Int32} {P : Nat → Nat → Nat} (h : mI a k t f P) (hc : CP f g 0 7820) : OKd g 0 ∧ mC a k g := ⟨hc.else_ (by omega) (by omega) h.d, hc.there (by omega) h.d, fun j a1 a2 => hc.else_ (by omega) (by omega) (h.2.2.2.2.1 j a1 a2), fun j a1 a2 => hc.else_ (by omega) (by omega) (h.2.2.2.2.2.1 j a1 a2)⟩
theorem mC.shift {a k i : Int} {f g : Nat → Int32} (h : mC a k f) (hc : CP f g (15640 + 7820 * i) (15640 + 7820 * (i - 1))) (h0 : 1 ≤ i) (h1 : i < a) (ha : a ≤ 8) : mC a k g := by
  refine ⟨hc.else_ (by omega) (by omega) h.1, fun j a1 a2 => ?_, fun j a1 a2 => hc.else_ (by omega) (by omega) (h.2.2 j a1 a2)⟩
  by_cases e : j = i - 1
  · subst e
    exact hc.there (by omega) (h.2.1 i (by omega) h1)
  · exact hc.else_ (by omega) (by omega) (h.2.1 j a1 a2)
theorem mC.less {a a' k : Int} {f : Nat → Int32} (h : mC a k f) (ha : a' ≤ a) : mC a' k f := ⟨h.1, fun j a1 a2 => h.2.1 j a1 (by omega), h.2.2⟩
theorem mC.add {a k : Int} {f g : Nat → Int32} (h : mC a k f) (hc : CP f g 7820 (15640 + 7820 * a)) (h0 : 0 ≤ a) (h8 : a < 8) : mC (a + 1) k g := by
  refine ⟨hc.else_ (by omega) (by omega) h.1, fun j a1 a2 => ?_, fun j a1 a2 => hc.else_ (by omega) (by omega) (h.2.2 j a1 a2)⟩
  by_cases e : j = a
  · subst e
    exact hc.there (by omega) h.1
  · exact hc.else_ (by omega) (by omega) (h.2.1 j a1 (by omega))
theorem mC.mI {a k t : Int} {f : Nat → Int32} {P : Nat → Nat → Nat} (h : mC a k f) (hd : OKd f 0) (ha : 0 ≤ a ∧ a ≤ 8) (hk : 0 ≤ k ∧ k ≤ 3) (ht : 0 ≤ t ∧ t ≤ 900) (hp : PI P) : mI a k t f P := ⟨ha, hk, ht, hd, h.2.1, h.2.2, hp⟩
theorem mI.undo {a k t a' : Int} {f g : Nat → Int32} {P : Nat → Nat → Nat} (h : mI a k t f P) (ha : a' = a - 1) (h0 : 1 ≤ a) (hc : CP f g (15640 + 7820 * a') 0) : mI a' k t g P := ⟨by have := h.1; omega, h.2.1, h.2.2.1, hc.there (by omega) (h.2.2.2.2.1 a' (by omega) (by omega)), fun j a1 a2 => hc.else_ (by omega) (by omega) (h.2.2.2.2.1 j a1 (by omega)), fun j a1 a2 => hc.else_ (by omega) (by omega) (h.2.2.2.2.2.1 j a1 a2), h.p⟩
theorem mI.back {a k t k' : Int} {f g : Nat → Int32} {P : Nat → Nat → Nat} (h : mI a k t f P) (hk : k' = k - 1) (h0 : 1 ≤ k) (hc : CP f g (78200 + 7820 * k') 0) : mI a k' t g P := ⟨h.1, by have := h.2.1; omega, h.2.2.1, hc.there (by omega) (h.2.2.2.2.2.1 k' (by omega) (by omega)), fun j a1 a2 => hc.else_ (by omega) (by omega) (h.2.2.2.2.1 j a1 a2), fun j a1 a2 => hc.else_ (by omega) (by omega) (h.2.2.2.2.2.1 j a1 (by omega)), h.p⟩
theorem mI.mark {a k t k' : Int} {f g : Nat → Int32} {P : Nat → Nat → Nat} (h : mI a k t f P) (hk : k' = k + 1) (h3 : k < 3) (hc : CP f g 0 (78200 + 7820 * k)) : mI a k' t g P := by
  have h1 := h.1
  have h2 := h.2.1
  refine ⟨h.1, by omega, h.2.2.1, hc.else_ (by omega) (by omega) h.d, fun j a1 a2 => hc.else_ (by omega) (by omega) (h.2.2.2.2.1 j a1 a2), fun j a1 a2 => ?_, h.p⟩
  by_cases e : j = k
  · subst e
    exact hc.there (by omega) h.d
  · exact hc.else_ (by omega) (by omega) (h.2.2.2.2.2.1 j a1 (by omega))
/-- one number is another one -/
def U1 (f g : Nat → Int32) (a v : Int) : Prop := vI g a = v ∧ ∀ z : Int, 0 ≤ z → z ≠ a → vI g z = vI f z
theorem OKd.put {f g : Nat → Int32} {d k v : Int} (h : OKd f 0) (h0 : 0 ≤ d) (h1 : d < 10) (k0 : 0 ≤ k) (k1 : k < 60) (v0 : 0 ≤ v) (v1 : v ≤ 25) (hu : U1 f g (11 + 60 * d + k) v) : OKd g 0 := by
  obtain ⟨a1, a2, a3, a4⟩ := h
  have e0 : vI g 0 = vI f 0 := hu.2 0 (by omega) (by omega)
  have e1 : vI g (0 + 611) = vI f (0 + 611) := hu.2 _ (by omega) (by omega)
  refine ⟨by rw [e0]; exact a1, fun x b1 b2 => ?_, by rw [e1]; exact a3, fun p b1 b2 => ?_⟩
  · rw [e0] at b2
    obtain ⟨c1, c2, c3⟩ := a2 x b1 b2
    have e2 : vI g (0 + 1 + x) = vI f (0 + 1 + x) := hu.2 _ (by omega) (by omega)
    refine ⟨by rw [e2]; exact c1, by rw [e2]; exact c2, fun j j1 j2 => ?_⟩
    rw [e2] at j2
    by_cases e : (0 : Int) + 11 + 60 * x + j = 11 + 60 * d + k
    · rw [e, hu.1]; exact ⟨v0, v1⟩
    · rw [hu.2 _ (by omega) e]; exact c3 j j1 j2
  · rw [e1] at b2
    obtain ⟨c1, c2, c3⟩ := a4 p b1 b2
    have e2 : vI g (0 + 612 + p) = vI f (0 + 612 + p) := hu.2 _ (by omega) (by omega)
    refine ⟨by rw [e2]; exact c1, by rw [e2]; exact c2, ?_⟩
    rw [e2]
    exact c3.congr (fun j j1 j2 => hu.2 _ (by omega) (by omega))
theorem OKd.size {f g : Nat → Int32} {d n : Int} (h : OKd f 0) (h0 : 0 ≤ d) (h1 : d < vI f 0) (n1 : 1 ≤ n) (n2 : n ≤ 60) (hl : ∀ k : Int, 0 ≤ k → k < n → 0 ≤ vI f (11 + 60 * d + k) ∧ vI f (11 + 60 * d + k) ≤ 25) (hu : U1 f g (1 + d) n) : OKd g 0 := by
  obtain ⟨a1, a2, a3, a4⟩ := h
  have e0 : vI g 0 = vI f 0 := hu.2 0 (by omega) (by omega)
  have e1 : vI g (0 + 611) = vI f (0 + 611) := hu.2 _ (by omega) (by omega)
  refine ⟨by rw [e0]; exact a1, fun x b1 b2 => ?_, by rw [e1]; exact a3, fun p b1 b2 => ?_⟩
  · rw [e0] at b2
    by_cases e : x = d
    · subst e
      rw [show (0 : Int) + 1 + x = 1 + x by omega, hu.1]
      refine ⟨n1, n2, fun j j1 j2 => ?_⟩
      rw [show (0 : Int) + 11 + 60 * x + j = 11 + 60 * x + j by omega, hu.2 _ (by omega) (by omega)]
      exact hl j j1 j2
    · obtain ⟨c1, c2, c3⟩ := a2 x b1 b2
      have e2 : vI g (0 + 1 + x) = vI f (0 + 1 + x) := hu.2 _ (by omega) (by omega)
      refine ⟨by rw [e2]; exact c1, by rw [e2]; exact c2, fun j j1 j2 => ?_⟩
      rw [e2] at j2
      rw [hu.2 _ (by omega) (by omega)]; exact c3 j j1 j2
  · rw [e1] at b2
    obtain ⟨c1, c2, c3⟩ := a4 p b1 b2
    have e2 : vI g (0 + 612 + p) = vI f (0 + 612 + p) := hu.2 _ (by omega) (by omega)
    refine ⟨by rw [e2]; exact c1, by rw [e2]; exact c2, ?_⟩
    rw [e2]
    exact c3.congr (fun j j1 j2 => hu.2 _ (by omega) (by omega))
theorem lv_step {f g : Nat → Int32} {b k k' s v : Int} (h : ∀ j : Int, k < j → j ≤ s → 0 ≤ vI f (b + j) ∧ vI f (b + j) ≤ 25) (hu : U1 f g (b + k) v) (hb : 0 ≤ b) (h0 : 0 ≤ k) (v0 : 0 ≤ v) (v1 : v ≤ 25) (hk : k' = k - 1) : ∀ j : Int, k' < j → j ≤ s → 0 ≤ vI g (b + j) ∧ vI g (b + j) ≤ 25 := by
  intro j h1 h2
  by_cases e : j = k
  · subst e
    rw [hu.1]; exact ⟨v0, v1⟩
  · rw [hu.2 _ (by omega) (by omega)]
    exact h j (by omega) h2
/-- rows move up: sizes to s, letters to l -/
def DR (f g : Nat → Int32) (c s l : Int) : Prop := ∀ z : Int, 0 ≤ z → vI g z = if 1 + c ≤ z ∧ z < 1 + s then vI f (z + 1) else if 11 + 60 * c ≤ z ∧ z < l then vI f (z + 60) else vI f z
theorem DR.rf {f : Nat → Int32} {c : Int} : DR f f c c (11 + 60 * c) := fun z _ => by rw [if_neg (by omega), if_neg (by omega)]
theorem DR.s {f g g' : Nat → Int32} {c s l v : Int} (h : DR f g c s l) (hu : U1 g g' (1 + s) v) (hv : v = vI f (s + 2)) (h0 : 0 ≤ c) (h1 : c ≤ s) : DR f g' c (s + 1) l := by
  intro z hz
  by_cases e : z = 1 + s
  · subst e
    rw [hu.1, hv, if_pos (by omega)]
    congr 1; omega
  · rw [hu.2 z hz e, h z hz]
    by_cases c1 : 1 + c ≤ z ∧ z < 1 + s
    · rw [if_pos c1, if_pos (by omega)]
    · have c3 : ¬ (1 + c ≤ z ∧ z < 1 + (s + 1)) := by omega
      rw [if_neg c1, if_neg c3]
theorem DR.l {f g g' : Nat → Int32} {c s l v : Int} (h : DR f g c s l) (hu : U1 g g' l v) (hv : v = vI f (l + 60)) (h0 : 0 ≤ c) (h1 : 11 + 60 * c ≤ l) (h2 : s ≤ 10) : DR f g' c s (l + 1) := by
  intro z hz
  by_cases e : z = l
  · subst e
    rw [hu.1, hv, if_neg (by omega), if_pos (by omega)]
  · rw [hu.2 z hz e, h z hz]
    by_cases c1 : 1 + c ≤ z ∧ z < 1 + s
    · rw [if_pos c1, if_pos c1]
    · rw [if_neg c1, if_neg c1]
      by_cases c2 : 11 + 60 * c ≤ z ∧ z < l
      · rw [if_pos c2, if_pos (by omega)]
      · rw [if_neg c2, if_neg (by omega)]
theorem OKd.drop {f g g' : Nat → Int32} {c n : Int} (h : OKd f 0) (hn : vI f 0 = n) (h0 : 0 ≤ c) (h1 : c < n) (hd : DR f g c (n - 1) (11 + 60 * (n - 1))) (hu : U1 g g' 0 (n - 1)) : OKd g' 0 := by
  obtain ⟨a1, a2, a3, a4⟩ := h
  rw [hn] at a1 a2
  have e1 : ∀ z : Int, 611 ≤ z → vI g' z = vI f z := fun z hz => by rw [hu.2 z (by omega) (by omega), hd z (by omega), if_neg (by omega), if_neg (by omega)]
  refine ⟨by rw [hu.1]; omega, fun x b1 b2 => ?_, by rw [e1 _ (by omega)]; exact a3, fun p b1 b2 => ?_⟩
  · rw [hu.1] at b2
    by_cases e : x < c
    · obtain ⟨c1, c2, c3⟩ := a2 x b1 (by omega)
      have e2 : vI g' (0 + 1 + x) = vI f (0 + 1 + x) := by rw [hu.2 _ (by omega) (by omega), hd _ (by omega), if_neg (by omega), if_neg (by omega)]
      refine ⟨by rw [e2]; exact c1, by rw [e2]; exact c2, fun j j1 j2 => ?_⟩
      rw [e2] at j2
      rw [hu.2 _ (by omega) (by omega), hd _ (by omega), if_neg (by omega), if_neg (by omega)]
      exact c3 j j1 j2
    · obtain ⟨c1, c2, c3⟩ := a2 (x + 1) (by omega) (by omega)
      have e2 : vI g' (0 + 1 + x) = vI f (0 + 1 + (x + 1)) := by rw [hu.2 _ (by omega) (by omega), hd _ (by omega), if_pos (by omega)]; congr 1; omega
      refine ⟨by rw [e2]; exact c1, by rw [e2]; exact c2, fun j j1 j2 => ?_⟩
      rw [e2] at j2
      rw [hu.2 _ (by omega) (by omega), hd _ (by omega), if_neg (by omega), if_pos (by omega)]
      have := c3 j j1 j2
      rw [show (0 : Int) + 11 + 60 * (x + 1) + j = 0 + 11 + 60 * x + j + 60 by omega] at this
      exact this
  · rw [e1 _ (by omega)] at b2
    obtain ⟨c1, c2, c3⟩ := a4 p b1 b2
    rw [e1 _ (by omega)]
    exact ⟨c1, c2, c3.congr (fun j j1 j2 => e1 _ (by omega))⟩
/-- patterns move up: sizes to s, signs to l -/
def FR (f g : Nat → Int32) (c s l : Int) : Prop := ∀ z : Int, 0 ≤ z → vI g z = if 612 + c ≤ z ∧ z < 612 + s then vI f (z + 1) else if 620 + 900 * c ≤ z ∧ z < l then vI f (z + 900) else vI f z
theorem FR.rf {f : Nat → Int32} {c : Int} : FR f f c c (620 + 900 * c) := fun z _ => by rw [if_neg (by omega), if_neg (by omega)]
theorem FR.s {f g g' : Nat → Int32} {c s l v : Int} (h : FR f g c s l) (hu : U1 g g' (612 + s) v) (hv : v = vI f (613 + s)) (h0 : 0 ≤ c) (h1 : c ≤ s) : FR f g' c (s + 1) l := by
  intro z hz
  by_cases e : z = 612 + s
  · subst e
    rw [hu.1, hv, if_pos (by omega)]
    congr 1; omega
  · rw [hu.2 z hz e, h z hz]
    by_cases c1 : 612 + c ≤ z ∧ z < 612 + s
    · rw [if_pos c1, if_pos (by omega)]
    · have c3 : ¬ (612 + c ≤ z ∧ z < 612 + (s + 1)) := by omega
      rw [if_neg c1, if_neg c3]
theorem FR.l {f g g' : Nat → Int32} {c s l v : Int} (h : FR f g c s l) (hu : U1 g g' l v) (hv : v = vI f (l + 900)) (h0 : 0 ≤ c) (h1 : 620 + 900 * c ≤ l) (h2 : s ≤ 8) : FR f g' c s (l + 1) := by
  intro z hz
  by_cases e : z = l
  · subst e
    rw [hu.1, hv, if_neg (by omega), if_pos (by omega)]
  · rw [hu.2 z hz e, h z hz]
    by_cases c1 : 612 + c ≤ z ∧ z < 612 + s
    · rw [if_pos c1, if_pos c1]
    · rw [if_neg c1, if_neg c1]
      by_cases c2 : 620 + 900 * c ≤ z ∧ z < l
      · rw [if_pos c2, if_pos (by omega)]
      · rw [if_neg c2, if_neg (by omega)]
theorem OKd.forget {f g g' : Nat → Int32} {c n : Int} (h : OKd f 0) (hn : vI f 611 = n) (h0 : 0 ≤ c) (h1 : c < n) (hd : FR f g c (n - 1) (620 + 900 * (n - 1))) (hu : U1 g g' 611 (n - 1)) : OKd g' 0 := by
  obtain ⟨a1, a2, a3, a4⟩ := h
  have e9 : (0 : Int) + 611 = 611 := by omega
  rw [e9, hn] at a3 a4
  have e1 : ∀ z : Int, 0 ≤ z → z < 611 → vI g' z = vI f z := fun z hz hz2 => by rw [hu.2 z (by omega) (by omega), hd z (by omega), if_neg (by omega), if_neg (by omega)]
  refine ⟨by rw [e1 0 (by omega) (by omega)]; exact a1, fun x b1 b2 => ?_, by rw [e9, hu.1]; omega, fun x b1 b2 => ?_⟩
  · rw [e1 0 (by omega) (by omega)] at b2
    obtain ⟨c1, c2, c3⟩ := a2 x b1 b2
    have e2 : vI g' (0 + 1 + x) = vI f (0 + 1 + x) := e1 _ (by omega) (by omega)
    refine ⟨by rw [e2]; exact c1, by rw [e2]; exact c2, fun j j1 j2 => ?_⟩
    rw [e2] at j2
    rw [e1 _ (by omega) (by omega)]; exact c3 j j1 j2
  · rw [e9, hu.1] at b2
    by_cases e : x < c
    · obtain ⟨c1, c2, c3⟩ := a4 x b1 (by omega)
      have e2 : vI g' (0 + 612 + x) = vI f (0 + 612 + x) := by rw [hu.2 _ (by omega) (by omega), hd _ (by omega), if_neg (by omega), if_neg (by omega)]
      refine ⟨by rw [e2]; exact c1, by rw [e2]; exact c2, ?_⟩
      rw [e2]
      exact c3.congr (fun j j1 j2 => by show vI g' (0 + 620 + 900 * x + j) = _; rw [hu.2 _ (by omega) (by omega), hd _ (by omega), if_neg (by omega), if_neg (by omega)])
    · obtain ⟨c1, c2, c3⟩ := a4 (x + 1) (by omega) (by omega)
      have e2 : vI g' (0 + 612 + x) = vI f (0 + 612 + (x + 1)) := by rw [hu.2 _ (by omega) (by omega), hd _ (by omega), if_pos (by omega)]; congr 1; omega
      refine ⟨by rw [e2]; exact c1, by rw [e2]; exact c2, ?_⟩
      rw [e2]
      exact c3.congr (fun j j1 j2 => by show vI g' (0 + 620 + 900 * x + j) = _; rw [hu.2 _ (by omega) (by omega), hd _ (by omega), if_neg (by omega), if_pos (by omega)]; congr 1; omega)
theorem dX10_acted_0 : decode cX10_acted 0 = .ok (.aload_n 0, 1) := by decide +kernel
theorem dX10_acted_1 : decode cX10_acted 1 = .ok (.getfield 439, 3) := by decide +kernel
theorem dX10_acted_4 : decode cX10_acted 4 = .ok (.bipush 8, 2) := by decide +kernel
theorem dX10_acted_6 : decode cX10_acted 6 = .ok (.if_icmp .ne 51, 3) := by decide +kernel
theorem dX10_acted_9 : decode cX10_acted 9 = .ok (.iconst 1, 1) := by decide +kernel
theorem dX10_acted_10 : decode cX10_acted 10 = .ok (.istore_n 1, 1) := by decide +kernel
theorem dX10_acted_11 : decode cX10_acted 11 = .ok (.iload_n 1, 1) := by decide +kernel
theorem dX10_acted_12 : decode cX10_acted 12 = .ok (.bipush 8, 2) := by decide +kernel
theorem dX10_acted_14 : decode cX10_acted 14 = .ok (.if_icmp .ge 33, 3) := by decide +kernel
theorem dX10_acted_17 : decode cX10_acted 17 = .ok (.aload_n 0, 1) := by decide +kernel
theorem dX10_acted_18 : decode cX10_acted 18 = .ok (.sipush 15640, 3) := by decide +kernel
theorem dX10_acted_21 : decode cX10_acted 21 = .ok (.sipush 7820, 3) := by decide +kernel
theorem dX10_acted_24 : decode cX10_acted 24 = .ok (.iload_n 1, 1) := by decide +kernel
theorem dX10_acted_25 : decode cX10_acted 25 = .ok (.imul, 1) := by decide +kernel
theorem dX10_acted_26 : decode cX10_acted 26 = .ok (.iadd, 1) := by decide +kernel
theorem dX10_acted_27 : decode cX10_acted 27 = .ok (.sipush 15640, 3) := by decide +kernel
theorem dX10_acted_30 : decode cX10_acted 30 = .ok (.sipush 7820, 3) := by decide +kernel
theorem dX10_acted_33 : decode cX10_acted 33 = .ok (.iload_n 1, 1) := by decide +kernel
theorem dX10_acted_34 : decode cX10_acted 34 = .ok (.iconst 1, 1) := by decide +kernel
theorem dX10_acted_35 : decode cX10_acted 35 = .ok (.isub, 1) := by decide +kernel
theorem dX10_acted_36 : decode cX10_acted 36 = .ok (.imul, 1) := by decide +kernel
theorem dX10_acted_37 : decode cX10_acted 37 = .ok (.iadd, 1) := by decide +kernel
theorem dX10_acted_38 : decode cX10_acted 38 = .ok (.invokevirtual 193, 3) := by decide +kernel
theorem dX10_acted_41 : decode cX10_acted 41 = .ok (.iinc 1 1, 3) := by decide +kernel
theorem dX10_acted_44 : decode cX10_acted 44 = .ok (.goto (-33), 3) := by decide +kernel
theorem dX10_acted_47 : decode cX10_acted 47 = .ok (.aload_n 0, 1) := by decide +kernel
theorem dX10_acted_48 : decode cX10_acted 48 = .ok (.dup, 1) := by decide +kernel
theorem dX10_acted_49 : decode cX10_acted 49 = .ok (.getfield 439, 3) := by decide +kernel
theorem dX10_acted_52 : decode cX10_acted 52 = .ok (.iconst 1, 1) := by decide +kernel
theorem dX10_acted_53 : decode cX10_acted 53 = .ok (.isub, 1) := by decide +kernel
theorem dX10_acted_54 : decode cX10_acted 54 = .ok (.putfield 439, 3) := by decide +kernel
theorem dX10_acted_57 : decode cX10_acted 57 = .ok (.aload_n 0, 1) := by decide +kernel
theorem dX10_acted_58 : decode cX10_acted 58 = .ok (.sipush 7820, 3) := by decide +kernel
theorem dX10_acted_61 : decode cX10_acted 61 = .ok (.sipush 15640, 3) := by decide +kernel
theorem dX10_acted_64 : decode cX10_acted 64 = .ok (.sipush 7820, 3) := by decide +kernel
theorem dX10_acted_67 : decode cX10_acted 67 = .ok (.aload_n 0, 1) := by decide +kernel
theorem dX10_acted_68 : decode cX10_acted 68 = .ok (.getfield 439, 3) := by decide +kernel
theorem dX10_acted_71 : decode cX10_acted 71 = .ok (.imul, 1) := by decide +kernel
theorem dX10_acted_72 : decode cX10_acted 72 = .ok (.iadd, 1) := by decide +kernel
theorem dX10_acted_73 : decode cX10_acted 73 = .ok (.invokevirtual 193, 3) := by decide +kernel
theorem dX10_acted_76 : decode cX10_acted 76 = .ok (.aload_n 0, 1) := by decide +kernel
theorem dX10_acted_77 : decode cX10_acted 77 = .ok (.dup, 1) := by decide +kernel
theorem dX10_acted_78 : decode cX10_acted 78 = .ok (.getfield 439, 3) := by decide +kernel
theorem dX10_acted_81 : decode cX10_acted 81 = .ok (.iconst 1, 1) := by decide +kernel
theorem dX10_acted_82 : decode cX10_acted 82 = .ok (.iadd, 1) := by decide +kernel
theorem dX10_acted_83 : decode cX10_acted 83 = .ok (.putfield 439, 3) := by decide +kernel
theorem dX10_acted_86 : decode cX10_acted 86 = .ok (.return_, 1) := by decide +kernel
def mwX10_actedm : List Cond := .code yX10_acted cX10_acted 2 none :: (([.fieldLink RX10 439 "PatternGateModel" "acts" "I", .methodLink RX10 193 yX10_copies, .instanceMethod yX10_copies, .selects RX10 yX10_copies yX10_copies, .initialized RX10] : List Cond) ++ (wsX100 ++ (mwX10_copiesm)))
theorem fin_X10_actedm_X10 : ∀ w ∈ wsX100, w ∈ mwX10_actedm := fun w h => List.mem_cons_of_mem _ (List.mem_append_right _ (List.mem_append_left _ h))
set_option maxRecDepth 100000 in
theorem gd_mwX10_copiesm : mwX10_copiesm.all goodWord = true := by decide +kernel
set_option maxRecDepth 20000 in
theorem mg_X10_actedm_X10_copies_193 : GoodIn mwX10_actedm (wsV RX10 193 RX10 yX10_copies mwX10_copiesm) := gi_app (A := [.methodLink RX10 193 yX10_copies, .instanceMethod yX10_copies, .selects RX10 yX10_copies yX10_copies, .initialized RX10]) (goodIn_r _ [2, 3, 4, 5] (by decide +kernel) (by decide +kernel)) (gi_sub gd_mwX10_copiesm (fun w h => List.mem_cons_of_mem _ (List.mem_append_right _ (List.mem_append_right _ (h)))))
set_option maxHeartbeats 4000000 in
set_option maxRecDepth 100000 in
theorem m_acted (l : Launch) (dC : Nat → ClassId) (dI : Nat → Nat → Nat) (ad : Nat → Nat) (kc : Nat → ClassId) (x0 x1 x2 x3 x4 x5 x6 x7 x8 x9 x10 x11 x12 x13 x14 x15 x16 x17 x18 x19 x20 x21 : Int32) (f0 f1 f2 f3 f4 f5 f6 f7 f8 f9 f10 f11 f12 f13 f14 f15 f16 f17 f18 f19 f20 f21 : Nat → Int32) (fL : Nat → Nat → Int64) (fN : Nat → Nat → Int32) (fP : Nat → Nat → Nat) (fM : Nat → Nat → Int32) (fO : Nat → Nat → Int32) (sz : Nat) (q0 : 0 ≤ x1.toInt ∧ x1.toInt ≤ 8) (q1 : 0 ≤ x2.toInt ∧ x2.toInt ≤ 3) (q2 : OKd f0 0) (q3 : mC x1.toInt x2.toInt f0) : Met l yX10_acted mwX10_actedm ({ frames := 1, cells := 0, slots := 0, locals := 60 }) (va_Pc [.ref (ad 0)] (fun U => U.heap.size = sz ∧ va_P (dC, dI) vwCl (mW ad kc x0 x1 x2 x3 x4 x5 x6 x7 x8 x9 x10 x11 x12 x13 x14 x15 x16 x17 x18 x19 x20 x21 f0 f1 f2 f3 f4 f5 f6 f7 f8 f9 f10 f11 f12 f13 f14 f15 f16 f17 f18 f19 f20 f21 fL fN fP fM fO) U.heap ∧ va_K (dC, dI) vwCl (mT kc) U ∧ va_D (fun _ => True) (mW ad kc x0 x1 x2 x3 x4 x5 x6 x7 x8 x9 x10 x11 x12 x13 x14 x15 x16 x17 x18 x19 x20 x21 f0 f1 f2 f3 f4 f5 f6 f7 f8 f9 f10 f11 f12 f13 f14 f15 f16 f17 f18 f19 f20 f21 fL fN fP fM fO))) (va_Qv (fun (_ : Unit) => True) (fun _ t => ∃ (y1 : Int32) (g0 : Nat → Int32), (OKd g0 0) ∧ (mC y1.toInt x2.toInt g0) ∧ (1 ≤ y1.toInt ∧ y1.toInt ≤ 8) ∧ va_P (dC, dI) vwCl (mW ad kc x0 y1 x2 x3 x4 x5 x6 x7 x8 x9 x10 x11 x12 x13 x14 x15 x16 x17 x18 x19 x20 x21 g0 f1 f2 f3 f4 f5 f6 f7 f8 f9 f10 f11 f12 f13 f14 f15 f16 f17 f18 f19 f20 f21 fL fN fP fM fO) t.heap ∧ va_K (dC, dI) vwCl (mT kc) t ∧ va_D (va_A (mW ad kc x0 x1 x2 x3 x4 x5 x6 x7 x8 x9 x10 x11 x12 x13 x14 x15 x16 x17 x18 x19 x20 x21 f0 f1 f2 f3 f4 f5 f6 f7 f8 f9 f10 f11 f12 f13 f14 f15 f16 f17 f18 f19 f20 f21 fL fN fP fM fO) sz) (mW ad kc x0 y1 x2 x3 x4 x5 x6 x7 x8 x9 x10 x11 x12 x13 x14 x15 x16 x17 x18 x19 x20 x21 g0 f1 f2 f3 f4 f5 f6 f7 f8 f9 f10 f11 f12 f13 f14 f15 f16 f17 f18 f19 f20 f21 fL fN fP fM fO)) (va_A (mW ad kc x0 x1 x2 x3 x4 x5 x6 x7 x8 x9 x10 x11 x12 x13 x14 x15 x16 x17 x18 x19 x20 x21 f0 f1 f2 f3 f4 f5 f6 f7 f8 f9 f10 f11 f12 f13 f14 f15 f16 f17 f18 f19 f20 f21 fL fN fP fM fO) sz)) 0 0 (va_A (mW ad kc x0 x1 x2 x3 x4 x5 x6 x7 x8 x9 x10 x11 x12 x13 x14 x15 x16 x17 x18 x19 x20 x21 f0 f1 f2 f3 f4 f5 f6 f7 f8 f9 f10 f11 f12 f13 f14 f15 f16 f17 f18 f19 f20 f21 fL fN fP fM fO) sz) := by
  refine Met.ofW (cc := cX10_acted) (maxL := 2) (ret := none) (by decide +kernel) rfl ?_
  intro p e s m args below meth c s₁ B hml hv
  obtain ⟨rfl, hsz, hP, hK, hD0⟩ := hv
  have hx := B.exec
  have hb := B.bytes
  have hr := B.returns
  have hts := atoms_spec (ws := mwX10_actedm) B.pre
  have hown : s.vm.findClass RX10 = some m.cls := findClass_of_methodNamed B.named
  have hlocks := B.notSynchronized
  subst hsz
  have hD := hD0.self (sz := s.heap.size)
  generalize hAe : va_A (mW ad kc x0 x1 x2 x3 x4 x5 x6 x7 x8 x9 x10 x11 x12 x13 x14 x15 x16 x17 x18 x19 x20 x21 f0 f1 f2 f3 f4 f5 f6 f7 f8 f9 f10 f11 f12 f13 f14 f15 f16 f17 f18 f19 f20 f21 fL fN fP fM fO) s.heap.size = A at hD ⊢
  have hA : ∀ q : Nat, s.heap.size ≤ q → A q := fun q h => by rw [← hAe]; exact Or.inr h
  have hP : va_P (dC, dI) vwCl (mW ad kc x0 x1 x2 x3 x4 x5 x6 x7 x8 x9 x10 x11 x12 x13 x14 x15 x16 x17 x18 x19 x20 x21 f0 f1 f2 f3 f4 f5 f6 f7 f8 f9 f10 f11 f12 f13 f14 f15 f16 f17 f18 f19 f20 f21 fL fN fP fM fO) s.heap := hP
  have hD : va_D A (mW ad kc x0 x1 x2 x3 x4 x5 x6 x7 x8 x9 x10 x11 x12 x13 x14 x15 x16 x17 x18 x19 x20 x21 f0 f1 f2 f3 f4 f5 f6 f7 f8 f9 f10 f11 f12 f13 f14 f15 f16 f17 f18 f19 f20 f21 fL fN fP fM fO) := hD
  have hK : va_K (dC, dI) vwCl (mT kc) s := hK
  generalize hH : s.heap = H at hP ⊢
  have hS : va_S A s.heap H [] := by rw [← hH]; exact va_S.rf
  have hl := lv_entry ([.ref (ad 0)]) (n := 2) (Nat.le_of_ble_eq_true rfl)
  rw [lg_entry_eq]
  generalize (lg_sl ([.ref (ad 0)]) ++ List.replicate (2 - (lg_sl ([.ref (ad 0)])).length) Slot.unset).toArray = ls at hl ⊢
  have hl : lv_has ls 2 [(0, .ref (ad 0))] := hl
  refine lv_aload_n hx hb dX10_acted_0 rfl (lv_at hl 0 rfl) ?_
  refine va_get (D := (dC, dI)) (ci := 10) (v := .int x1) (C := RX10) (T := TX10) (N := 48) hx hb hts fin_X10_actedm_X10 hown hK hP 0 rfl rfl 2 (by decide) (hts (.fieldLink RX10 439 "PatternGateModel" "acts" "I") (List.mem_of_getElem? (i := 1) (by decide +kernel))) (fun _ h9 => h9) rfl dX10_acted_1 ?_
  refine lv_bipush (v := 8) hx hb dX10_acted_4 (by decide) ?_
  refine lv_icmp_ne (tgt := 57) hx hb dX10_acted_6 (by decide) (fun k_1 => ?_) (fun k_1 => ?_)
  · have tk_1 := c_ne (a := x1.toInt) (b := 8) rfl (by decide) k_1
    refine lv_aload_n hx hb dX10_acted_57 rfl (lv_at hl 0 rfl) ?_
    refine lv_sipush (v := 7820) hx hb dX10_acted_58 (by decide) ?_
    refine lv_sipush (v := 15640) hx hb dX10_acted_61 (by decide) ?_
    refine lv_sipush (v := 7820) hx hb dX10_acted_64 (by decide) ?_
    refine lv_aload_n hx hb dX10_acted_67 rfl (lv_at hl 0 rfl) ?_
    refine va_get (D := (dC, dI)) (ci := 10) (v := .int x1) (C := RX10) (T := TX10) (N := 48) hx hb hts fin_X10_actedm_X10 hown hK hP 0 rfl rfl 2 (by decide) (hts (.fieldLink RX10 439 "PatternGateModel" "acts" "I") (List.mem_of_getElem? (i := 1) (by decide +kernel))) (fun _ h9 => h9) rfl dX10_acted_68 ?_
    refine lv_imul hx hb dX10_acted_71 ?_
    refine lv_topi (fun y_2 ey_2 => ?_)
    first | have ty_2 := i_mul (a := 7820) (b := x1.toInt) (by decide) rfl ey_2 (by omega) (by omega) | skip
    refine lv_iadd hx hb dX10_acted_72 ?_
    refine lv_topi (fun y_3 ey_3 => ?_)
    first | have ty_3 := i_add (a := 15640) (b := y_2.toInt) (by decide) rfl ey_3 (by omega) (by omega) | skip
    have lit_3 : (7820 : Int32).toInt = 7820 := by decide
    have hFc := m_free hD hS hA
    refine va_callv (va_runV (As := [.int 7820, .int y_3]) (rest := []) ⟨hx, hb, hml, hown, hts⟩ (m_copies l dC dI ad kc x0 x1 x2 x3 x4 x5 x6 x7 x8 x9 x10 x11 x12 x13 x14 x15 x16 x17 x18 x19 x20 x21 f0 f1 f2 f3 f4 f5 f6 f7 f8 f9 f10 f11 f12 f13 f14 f15 f16 f17 f18 f19 f20 f21 fL fN fP fM fO H.size 7820 y_3 (by first | omega | assumption | decide | (have l0 := Int32.toInt_zero; omega)) (by first | omega | assumption | decide | (have l0 := Int32.toInt_zero; omega)) (by first | omega | assumption | decide | (have l0 := Int32.toInt_zero; omega)) (by first | omega | assumption | decide | (have l0 := Int32.toInt_zero; omega)) (by first | omega | assumption | decide | (have l0 := Int32.toInt_zero; omega))) (cwV 2 hts mg_X10_actedm_X10_copies_193 rfl rfl rfl (by decide +kernel) ⟨Nat.le_of_ble_eq_true rfl, Nat.le_of_ble_eq_true rfl⟩) ⟨fun a U g mk q => by obtain ⟨q0, q1, qP, qK, qD⟩ := q; exact ⟨q0, q1, qP, va_K.moved (u := U) (U := U.calling g mk a) (Vm.Alike.refl U.vm) qK, qD⟩, va_recv hK hP (ci := 10) (q0 := 0) rfl rfl, fun U hU hW => ⟨rfl, by rw [hU], by rw [hU]; exact hP, va_K.moved hW.alike hK, hD.weaken (fun _ _ _ _ => trivial)⟩⟩ rfl rfl hl.1 rfl (lv_room (Nat.le_of_ble_eq_true rfl)) dX10_acted_73 ⟨Nat.le_of_ble_eq_true rfl, Nat.le_of_ble_eq_true rfl⟩) hS (fun q _ h => hFc q h) hFc (fun u t H1 locs ht hvm hw hB hz1 hk1 hS => ?_)
    obtain ⟨f_6, hr_5_0, hP, hK1, hD1⟩ := hB
    rw [ht] at hP
    have hD := hD1.weaken (fun k q _ h => hFc q.1 h)
    clear hz1 hk1 hFc hD1 hK1 hvm
    generalize H1 = H at hP hS ⊢
    have hP : va_P (dC, dI) vwCl (mW ad kc x0 x1 x2 x3 x4 x5 x6 x7 x8 x9 x10 x11 x12 x13 x14 x15 x16 x17 x18 x19 x20 x21 f_6 f1 f2 f3 f4 f5 f6 f7 f8 f9 f10 f11 f12 f13 f14 f15 f16 f17 f18 f19 f20 f21 fL fN fP fM fO) H := hP
    have hD : va_D A (mW ad kc x0 x1 x2 x3 x4 x5 x6 x7 x8 x9 x10 x11 x12 x13 x14 x15 x16 x17 x18 x19 x20 x21 f_6 f1 f2 f3 f4 f5 f6 f7 f8 f9 f10 f11 f12 f13 f14 f15 f16 f17 f18 f19 f20 f21 fL fN fP fM fO) := hD
    have hc8 : CP f0 f_6 7820 (15640 + 7820 * x1.toInt) := by have h9 := hr_5_0; rw [(show (7820 : Int32).toInt = 7820 by decide), show y_3.toInt = 15640 + 7820 * x1.toInt by omega] at h9; exact h9
    refine lv_aload_n hx hb dX10_acted_76 rfl (lv_at hl 0 rfl) ?_
    refine lv_dup hx hb dX10_acted_77 rfl ?_
    refine va_get (D := (dC, dI)) (ci := 10) (v := .int x1) (C := RX10) (T := TX10) (N := 48) hx hb hts fin_X10_actedm_X10 hown hK hP 0 rfl rfl 2 (by decide) (hts (.fieldLink RX10 439 "PatternGateModel" "acts" "I") (List.mem_of_getElem? (i := 1) (by decide +kernel))) (fun _ h9 => h9) rfl dX10_acted_78 ?_
    refine lv_iconst (v := 1) hx hb dX10_acted_81 (by decide) ?_
    refine lv_iadd hx hb dX10_acted_82 ?_
    refine lv_topi (fun y_7 ey_7 => ?_)
    first | have ty_7 := i_add (a := x1.toInt) (b := 1) rfl (by decide) ey_7 (by omega) (by omega) | skip
    refine va_put (D := (dC, dI)) (ci := 10) (v := .int y_7) (ty := .int) (C := RX10) (T := TX10) (N := 48) hx hb hts fin_X10_actedm_X10 tyX10 tyX10_ok nmX10 hown hK hP hD hS 0 rfl rfl 2 (by decide) (hts (.fieldLink RX10 439 "PatternGateModel" "acts" "I") (List.mem_of_getElem? (i := 1) (by decide +kernel))) (fun _ h9 => h9) rfl (by decide +kernel) rfl rfl (Nat.le_of_ble_eq_true rfl) dX10_acted_83 (fun H locs hP hD hS => ?_)
    have hP : va_P (dC, dI) vwCl (mW ad kc x0 y_7 x2 x3 x4 x5 x6 x7 x8 x9 x10 x11 x12 x13 x14 x15 x16 x17 x18 x19 x20 x21 f_6 f1 f2 f3 f4 f5 f6 f7 f8 f9 f10 f11 f12 f13 f14 f15 f16 f17 f18 f19 f20 f21 fL fN fP fM fO) H := hP
    have hD : va_D A (mW ad kc x0 y_7 x2 x3 x4 x5 x6 x7 x8 x9 x10 x11 x12 x13 x14 x15 x16 x17 x18 x19 x20 x21 f_6 f1 f2 f3 f4 f5 f6 f7 f8 f9 f10 f11 f12 f13 f14 f15 f16 f17 f18 f19 f20 f21 fL fN fP fM fO) := hD
    exact W.vret hx hb hr (fun t ht hW => ⟨⟨(), rfl, trivial, y_7, f_6, (hc8.else_ (by omega) (by omega) q2), (by rw [show y_7.toInt = x1.toInt + 1 by omega]; exact q3.add hc8 (by omega) (by omega)), (by first | omega | assumption | rfl | decide), by rw [ht]; exact hP, va_K.moved hW.alike hK, hD⟩, hS.F ht⟩) hS.2.2 dX10_acted_86
  · have tk_1 := c_eq (a := x1.toInt) (b := 8) rfl (by decide) k_1
    refine lv_iconst (v := 1) hx hb dX10_acted_9 (by decide) ?_
    refine lv_istore_n (lv' := [(1, .int 1), (0, .ref (ad 0))]) hx hb dX10_acted_10 rfl hl (by decide) rfl (fun ls hl => ?_)
    have loop11 : ∀ (lm11 : Nat) (kk : Int32) (ga : Nat → Int32), (1 ≤ kk.toInt ∧ kk.toInt ≤ 8) → (OKd ga 0) → (mC 8 x2.toInt ga) → ((8 - kk.toInt).toNat) < lm11 → ∀ (H : Heap) (locs : List Loc) (ls : Array Slot), va_P (dC, dI) vwCl (mW ad kc x0 x1 x2 x3 x4 x5 x6 x7 x8 x9 x10 x11 x12 x13 x14 x15 x16 x17 x18 x19 x20 x21 ga f1 f2 f3 f4 f5 f6 f7 f8 f9 f10 f11 f12 f13 f14 f15 f16 f17 f18 f19 f20 f21 fL fN fP fM fO) H → va_D A (mW ad kc x0 x1 x2 x3 x4 x5 x6 x7 x8 x9 x10 x11 x12 x13 x14 x15 x16 x17 x18 x19 x20 x21 ga f1 f2 f3 f4 f5 f6 f7 f8 f9 f10 f11 f12 f13 f14 f15 f16 f17 f18 f19 f20 f21 fL fN fP fM fO) → va_S A s.heap H locs → lv_has ls 2 [(1, .int kk), (0, .ref (ad 0))] → W p l e (headSpec mwX10_actedm ({ frames := 1, cells := 0, slots := 0, locals := 60 })).room s m ([.ref (ad 0)]).toArray below meth c H locs 0 0 (MQ below (va_Qv (fun (_ : Unit) => True) (fun _ t => ∃ (y1 : Int32) (g0 : Nat → Int32), (OKd g0 0) ∧ (mC y1.toInt x2.toInt g0) ∧ (1 ≤ y1.toInt ∧ y1.toInt ≤ 8) ∧ va_P (dC, dI) vwCl (mW ad kc x0 y1 x2 x3 x4 x5 x6 x7 x8 x9 x10 x11 x12 x13 x14 x15 x16 x17 x18 x19 x20 x21 g0 f1 f2 f3 f4 f5 f6 f7 f8 f9 f10 f11 f12 f13 f14 f15 f16 f17 f18 f19 f20 f21 fL fN fP fM fO) t.heap ∧ va_K (dC, dI) vwCl (mT kc) t ∧ va_D A (mW ad kc x0 y1 x2 x3 x4 x5 x6 x7 x8 x9 x10 x11 x12 x13 x14 x15 x16 x17 x18 x19 x20 x21 g0 f1 f2 f3 f4 f5 f6 f7 f8 f9 f10 f11 f12 f13 f14 f15 f16 f17 f18 f19 f20 f21 fL fN fP fM fO)) A) ([.ref (ad 0)]).toArray s 0 0 A) (F0 m 11 ls []) := by
      intro lm11
      induction lm11 with
      | zero => intro kk ga v11_0 v11_1 v11_2 hm11; exact absurd hm11 (Nat.not_lt_zero _)
      | succ lm11 ih11 =>
        intro kk ga v11_0 v11_1 v11_2 hm11 H locs ls hP hD hS hl
        have rg_kk := i_rng kk
        refine lv_iload_n hx hb dX10_acted_11 rfl (lv_at hl 0 rfl) ?_
        refine lv_bipush (v := 8) hx hb dX10_acted_12 (by decide) ?_
        refine lv_icmp_ge (tgt := 47) hx hb dX10_acted_14 (by decide) (fun k_8 => ?_) (fun k_8 => ?_)
        · have tk_8 := c_ge (a := kk.toInt) (b := 8) rfl (by decide) k_8
          refine lv_aload_n hx hb dX10_acted_47 rfl (lv_at hl 1 rfl) ?_
          refine lv_dup hx hb dX10_acted_48 rfl ?_
          refine va_get (D := (dC, dI)) (ci := 10) (v := .int x1) (C := RX10) (T := TX10) (N := 48) hx hb hts fin_X10_actedm_X10 hown hK hP 0 rfl rfl 2 (by decide) (hts (.fieldLink RX10 439 "PatternGateModel" "acts" "I") (List.mem_of_getElem? (i := 1) (by decide +kernel))) (fun _ h9 => h9) rfl dX10_acted_49 ?_
          refine lv_iconst (v := 1) hx hb dX10_acted_52 (by decide) ?_
          refine lv_isub hx hb dX10_acted_53 ?_
          refine lv_topi (fun y_9 ey_9 => ?_)
          first | have ty_9 := i_sub (a := x1.toInt) (b := 1) rfl (by decide) ey_9 (by omega) (by omega) | skip
          refine va_put (D := (dC, dI)) (ci := 10) (v := .int y_9) (ty := .int) (C := RX10) (T := TX10) (N := 48) hx hb hts fin_X10_actedm_X10 tyX10 tyX10_ok nmX10 hown hK hP hD hS 0 rfl rfl 2 (by decide) (hts (.fieldLink RX10 439 "PatternGateModel" "acts" "I") (List.mem_of_getElem? (i := 1) (by decide +kernel))) (fun _ h9 => h9) rfl (by decide +kernel) rfl rfl (Nat.le_of_ble_eq_true rfl) dX10_acted_54 (fun H locs hP hD hS => ?_)
          have hP : va_P (dC, dI) vwCl (mW ad kc x0 y_9 x2 x3 x4 x5 x6 x7 x8 x9 x10 x11 x12 x13 x14 x15 x16 x17 x18 x19 x20 x21 ga f1 f2 f3 f4 f5 f6 f7 f8 f9 f10 f11 f12 f13 f14 f15 f16 f17 f18 f19 f20 f21 fL fN fP fM fO) H := hP
          have hD : va_D A (mW ad kc x0 y_9 x2 x3 x4 x5 x6 x7 x8 x9 x10 x11 x12 x13 x14 x15 x16 x17 x18 x19 x20 x21 ga f1 f2 f3 f4 f5 f6 f7 f8 f9 f10 f11 f12 f13 f14 f15 f16 f17 f18 f19 f20 f21 fL fN fP fM fO) := hD
          refine lv_aload_n hx hb dX10_acted_57 rfl (lv_at hl 1 rfl) ?_
          refine lv_sipush (v := 7820) hx hb dX10_acted_58 (by decide) ?_
          refine lv_sipush (v := 15640) hx hb dX10_acted_61 (by decide) ?_
          refine lv_sipush (v := 7820) hx hb dX10_acted_64 (by decide) ?_
          refine lv_aload_n hx hb dX10_acted_67 rfl (lv_at hl 1 rfl) ?_
          refine va_get (D := (dC, dI)) (ci := 10) (v := .int y_9) (C := RX10) (T := TX10) (N := 48) hx hb hts fin_X10_actedm_X10 hown hK hP 0 rfl rfl 2 (by decide) (hts (.fieldLink RX10 439 "PatternGateModel" "acts" "I") (List.mem_of_getElem? (i := 1) (by decide +kernel))) (fun _ h9 => h9) rfl dX10_acted_68 ?_
          refine lv_imul hx hb dX10_acted_71 ?_
          refine lv_topi (fun y_10 ey_10 => ?_)
          first | have ty_10 := i_mul (a := 7820) (b := y_9.toInt) (by decide) rfl ey_10 (by omega) (by omega) | skip
          refine lv_iadd hx hb dX10_acted_72 ?_
          refine lv_topi (fun y_11 ey_11 => ?_)
          first | have ty_11 := i_add (a := 15640) (b := y_10.toInt) (by decide) rfl ey_11 (by omega) (by omega) | skip
          have lit_11 : (7820 : Int32).toInt = 7820 := by decide
          have hFc := m_free hD hS hA
          refine va_callv (va_runV (As := [.int 7820, .int y_11]) (rest := []) ⟨hx, hb, hml, hown, hts⟩ (m_copies l dC dI ad kc x0 y_9 x2 x3 x4 x5 x6 x7 x8 x9 x10 x11 x12 x13 x14 x15 x16 x17 x18 x19 x20 x21 ga f1 f2 f3 f4 f5 f6 f7 f8 f9 f10 f11 f12 f13 f14 f15 f16 f17 f18 f19 f20 f21 fL fN fP fM fO H.size 7820 y_11 (by first | omega | assumption | decide | (have l0 := Int32.toInt_zero; omega)) (by first | omega | assumption | decide | (have l0 := Int32.toInt_zero; omega)) (by first | omega | assumption | decide | (have l0 := Int32.toInt_zero; omega)) (by first | omega | assumption | decide | (have l0 := Int32.toInt_zero; omega)) (by first | omega | assumption | decide | (have l0 := Int32.toInt_zero; omega))) (cwV 2 hts mg_X10_actedm_X10_copies_193 rfl rfl rfl (by decide +kernel) ⟨Nat.le_of_ble_eq_true rfl, Nat.le_of_ble_eq_true rfl⟩) ⟨fun a U g mk q => by obtain ⟨q0, q1, qP, qK, qD⟩ := q; exact ⟨q0, q1, qP, va_K.moved (u := U) (U := U.calling g mk a) (Vm.Alike.refl U.vm) qK, qD⟩, va_recv hK hP (ci := 10) (q0 := 0) rfl rfl, fun U hU hW => ⟨rfl, by rw [hU], by rw [hU]; exact hP, va_K.moved hW.alike hK, hD.weaken (fun _ _ _ _ => trivial)⟩⟩ rfl rfl hl.1 rfl (lv_room (Nat.le_of_ble_eq_true rfl)) dX10_acted_73 ⟨Nat.le_of_ble_eq_true rfl, Nat.le_of_ble_eq_true rfl⟩) hS (fun q _ h => hFc q h) hFc (fun u t H1 locs ht hvm hw hB hz1 hk1 hS => ?_)
          obtain ⟨f_14, hr_13_0, hP, hK1, hD1⟩ := hB
          rw [ht] at hP
          have hD := hD1.weaken (fun k q _ h => hFc q.1 h)
          clear hz1 hk1 hFc hD1 hK1 hvm
          generalize H1 = H at hP hS ⊢
          have hP : va_P (dC, dI) vwCl (mW ad kc x0 y_9 x2 x3 x4 x5 x6 x7 x8 x9 x10 x11 x12 x13 x14 x15 x16 x17 x18 x19 x20 x21 f_14 f1 f2 f3 f4 f5 f6 f7 f8 f9 f10 f11 f12 f13 f14 f15 f16 f17 f18 f19 f20 f21 fL fN fP fM fO) H := hP
          have hD : va_D A (mW ad kc x0 y_9 x2 x3 x4 x5 x6 x7 x8 x9 x10 x11 x12 x13 x14 x15 x16 x17 x18 x19 x20 x21 f_14 f1 f2 f3 f4 f5 f6 f7 f8 f9 f10 f11 f12 f13 f14 f15 f16 f17 f18 f19 f20 f21 fL fN fP fM fO) := hD
          have hc8 : CP ga f_14 7820 (15640 + 7820 * y_9.toInt) := by have h9 := hr_13_0; rw [(show (7820 : Int32).toInt = 7820 by decide), show y_11.toInt = 15640 + 7820 * y_9.toInt by omega] at h9; exact h9
          refine lv_aload_n hx hb dX10_acted_76 rfl (lv_at hl 1 rfl) ?_
          refine lv_dup hx hb dX10_acted_77 rfl ?_
          refine va_get (D := (dC, dI)) (ci := 10) (v := .int y_9) (C := RX10) (T := TX10) (N := 48) hx hb hts fin_X10_actedm_X10 hown hK hP 0 rfl rfl 2 (by decide) (hts (.fieldLink RX10 439 "PatternGateModel" "acts" "I") (List.mem_of_getElem? (i := 1) (by decide +kernel))) (fun _ h9 => h9) rfl dX10_acted_78 ?_
          refine lv_iconst (v := 1) hx hb dX10_acted_81 (by decide) ?_
          refine lv_iadd hx hb dX10_acted_82 ?_
          refine lv_topi (fun y_15 ey_15 => ?_)
          first | have ty_15 := i_add (a := y_9.toInt) (b := 1) rfl (by decide) ey_15 (by omega) (by omega) | skip
          refine va_put (D := (dC, dI)) (ci := 10) (v := .int y_15) (ty := .int) (C := RX10) (T := TX10) (N := 48) hx hb hts fin_X10_actedm_X10 tyX10 tyX10_ok nmX10 hown hK hP hD hS 0 rfl rfl 2 (by decide) (hts (.fieldLink RX10 439 "PatternGateModel" "acts" "I") (List.mem_of_getElem? (i := 1) (by decide +kernel))) (fun _ h9 => h9) rfl (by decide +kernel) rfl rfl (Nat.le_of_ble_eq_true rfl) dX10_acted_83 (fun H locs hP hD hS => ?_)
          have hP : va_P (dC, dI) vwCl (mW ad kc x0 y_15 x2 x3 x4 x5 x6 x7 x8 x9 x10 x11 x12 x13 x14 x15 x16 x17 x18 x19 x20 x21 f_14 f1 f2 f3 f4 f5 f6 f7 f8 f9 f10 f11 f12 f13 f14 f15 f16 f17 f18 f19 f20 f21 fL fN fP fM fO) H := hP
          have hD : va_D A (mW ad kc x0 y_15 x2 x3 x4 x5 x6 x7 x8 x9 x10 x11 x12 x13 x14 x15 x16 x17 x18 x19 x20 x21 f_14 f1 f2 f3 f4 f5 f6 f7 f8 f9 f10 f11 f12 f13 f14 f15 f16 f17 f18 f19 f20 f21 fL fN fP fM fO) := hD
          exact W.vret hx hb hr (fun t ht hW => ⟨⟨(), rfl, trivial, y_15, f_14, (hc8.else_ (by omega) (by omega) v11_1), (by rw [show y_15.toInt = y_9.toInt + 1 by omega]; exact (v11_2.less (show y_9.toInt ≤ 8 by omega)).add hc8 (by omega) (by omega)), (by first | omega | assumption | rfl | decide), by rw [ht]; exact hP, va_K.moved hW.alike hK, hD⟩, hS.F ht⟩) hS.2.2 dX10_acted_86
        · have tk_8 := c_nge (a := kk.toInt) (b := 8) rfl (by decide) k_8
          refine lv_aload_n hx hb dX10_acted_17 rfl (lv_at hl 1 rfl) ?_
          refine lv_sipush (v := 15640) hx hb dX10_acted_18 (by decide) ?_
          refine lv_sipush (v := 7820) hx hb dX10_acted_21 (by decide) ?_
          refine lv_iload_n hx hb dX10_acted_24 rfl (lv_at hl 0 rfl) ?_
          refine lv_imul hx hb dX10_acted_25 ?_
          refine lv_topi (fun y_16 ey_16 => ?_)
          first | have ty_16 := i_mul (a := 7820) (b := kk.toInt) (by decide) rfl ey_16 (by omega) (by omega) | skip
          refine lv_iadd hx hb dX10_acted_26 ?_
          refine lv_topi (fun y_17 ey_17 => ?_)
          first | have ty_17 := i_add (a := 15640) (b := y_16.toInt) (by decide) rfl ey_17 (by omega) (by omega) | skip
          refine lv_sipush (v := 15640) hx hb dX10_acted_27 (by decide) ?_
          refine lv_sipush (v := 7820) hx hb dX10_acted_30 (by decide) ?_
          refine lv_iload_n hx hb dX10_acted_33 rfl (lv_at hl 0 rfl) ?_
          refine lv_iconst (v := 1) hx hb dX10_acted_34 (by decide) ?_
          refine lv_isub hx hb dX10_acted_35 ?_
          refine lv_topi (fun y_18 ey_18 => ?_)
          first | have ty_18 := i_sub (a := kk.toInt) (b := 1) rfl (by decide) ey_18 (by omega) (by omega) | skip
          refine lv_imul hx hb dX10_acted_36 ?_
          refine lv_topi (fun y_19 ey_19 => ?_)
          first | have ty_19 := i_mul (a := 7820) (b := y_18.toInt) (by decide) rfl ey_19 (by omega) (by omega) | skip
          refine lv_iadd hx hb dX10_acted_37 ?_
          refine lv_topi (fun y_20 ey_20 => ?_)
          first | have ty_20 := i_add (a := 15640) (b := y_19.toInt) (by decide) rfl ey_20 (by omega) (by omega) | skip
          have hFc := m_free hD hS hA
          refine va_callv (va_runV (As := [.int y_17, .int y_20]) (rest := []) ⟨hx, hb, hml, hown, hts⟩ (m_copies l dC dI ad kc x0 x1 x2 x3 x4 x5 x6 x7 x8 x9 x10 x11 x12 x13 x14 x15 x16 x17 x18 x19 x20 x21 ga f1 f2 f3 f4 f5 f6 f7 f8 f9 f10 f11 f12 f13 f14 f15 f16 f17 f18 f19 f20 f21 fL fN fP fM fO H.size y_17 y_20 (by first | omega | assumption | decide | (have l0 := Int32.toInt_zero; omega)) (by first | omega | assumption | decide | (have l0 := Int32.toInt_zero; omega)) (by first | omega | assumption | decide | (have l0 := Int32.toInt_zero; omega)) (by first | omega | assumption | decide | (have l0 := Int32.toInt_zero; omega)) (by first | omega | assumption | decide | (have l0 := Int32.toInt_zero; omega))) (cwV 2 hts mg_X10_actedm_X10_copies_193 rfl rfl rfl (by decide +kernel) ⟨Nat.le_of_ble_eq_true rfl, Nat.le_of_ble_eq_true rfl⟩) ⟨fun a U g mk q => by obtain ⟨q0, q1, qP, qK, qD⟩ := q; exact ⟨q0, q1, qP, va_K.moved (u := U) (U := U.calling g mk a) (Vm.Alike.refl U.vm) qK, qD⟩, va_recv hK hP (ci := 10) (q0 := 0) rfl rfl, fun U hU hW => ⟨rfl, by rw [hU], by rw [hU]; exact hP, va_K.moved hW.alike hK, hD.weaken (fun _ _ _ _ => trivial)⟩⟩ rfl rfl hl.1 rfl (lv_room (Nat.le_of_ble_eq_true rfl)) dX10_acted_38 ⟨Nat.le_of_ble_eq_true rfl, Nat.le_of_ble_eq_true rfl⟩) hS (fun q _ h => hFc q h) hFc (fun u t H1 locs ht hvm hw hB hz1 hk1 hS => ?_)
          obtain ⟨f_22, hr_21_0, hP, hK1, hD1⟩ := hB
          rw [ht] at hP
          have hD := hD1.weaken (fun k q _ h => hFc q.1 h)
          clear hz1 hk1 hFc hD1 hK1 hvm
          generalize H1 = H at hP hS ⊢
          have hP : va_P (dC, dI) vwCl (mW ad kc x0 x1 x2 x3 x4 x5 x6 x7 x8 x9 x10 x11 x12 x13 x14 x15 x16 x17 x18 x19 x20 x21 f_22 f1 f2 f3 f4 f5 f6 f7 f8 f9 f10 f11 f12 f13 f14 f15 f16 f17 f18 f19 f20 f21 fL fN fP fM fO) H := hP
          have hD : va_D A (mW ad kc x0 x1 x2 x3 x4 x5 x6 x7 x8 x9 x10 x11 x12 x13 x14 x15 x16 x17 x18 x19 x20 x21 f_22 f1 f2 f3 f4 f5 f6 f7 f8 f9 f10 f11 f12 f13 f14 f15 f16 f17 f18 f19 f20 f21 fL fN fP fM fO) := hD
          have hc9 : CP ga f_22 (15640 + 7820 * kk.toInt) (15640 + 7820 * (kk.toInt - 1)) := by have h9 := hr_21_0; rw [show y_17.toInt = 15640 + 7820 * kk.toInt by omega, show y_20.toInt = 15640 + 7820 * (kk.toInt - 1) by omega] at h9; exact h9
          obtain ⟨y_23, ey_23⟩ : ∃ y : Int32, y = kk + 1 := ⟨_, rfl⟩
          first | have ty_23 := i_add (a := kk.toInt) (b := 1) rfl (by decide) ey_23 (by omega) (by omega) | skip
          refine lv_iinc (v := y_23) (lv' := [(1, .int y_23), (0, .ref (ad 0))]) hx hb dX10_acted_41 hl (k := 0) rfl (by rw [ey_23]; rfl) (by decide) rfl (fun ls hl => ?_)
          refine lv_goto (tgt := 11) hx hb dX10_acted_44 (by decide) ?_
          exact ih11 y_23 f_22 (by first | omega | assumption | decide) (hc9.else_ (by omega) (by omega) v11_1) (v11_2.shift hc9 (by omega) (by omega) (by omega)) (by omega) _ _ ls hP hD hS (lv_sub hl [0, 1] rfl)
    have lit_23 : (1 : Int32).toInt = 1 := by decide
    exact loop11 _ 1 f0 (by first | omega | assumption | decide) q2 (by have h9 := q3; rw [show x1.toInt = 8 by omega] at h9; exact h9) (Nat.lt_succ_self _) _ _ ls hP hD hS (lv_sub hl [0, 1] rfl)
theorem dX10_acted__0 : decode cX10_acted_ 0 = .ok (.aload_n 0, 1) := by decide +kernel
theorem dX10_acted__1 : decode cX10_acted_ 1 = .ok (.invokevirtual 211, 3) := by decide +kernel
theorem dX10_acted__4 : decode cX10_acted_ 4 = .ok (.aload_n 0, 1) := by decide +kernel
theorem dX10_acted__5 : decode cX10_acted_ 5 = .ok (.iload_n 1, 1) := by decide +kernel
theorem dX10_acted__6 : decode cX10_acted_ 6 = .ok (.invokevirtual 214, 3) := by decide +kernel
theorem dX10_acted__9 : decode cX10_acted_ 9 = .ok (.ireturn, 1) := by decide +kernel
def mwX10_acted_m : List Cond := .code yX10_acted_ cX10_acted_ 2 (some .int) :: (([.methodLink RX10 211 yX10_acted, .instanceMethod yX10_acted, .selects RX10 yX10_acted yX10_acted, .initialized RX10, .methodLink RX10 214 yX10_gives, .instanceMethod yX10_gives, .selects RX10 yX10_gives yX10_gives] : List Cond) ++ (mwX10_actedm ++ (mwX10_givesm)))
set_option maxRecDepth 100000 in
theorem gd_mwX10_actedm : mwX10_actedm.all goodWord = true := by decide +kernel
set_option maxRecDepth 20000 in
theorem mg_X10_acted_m_X10_acted_211 : GoodIn mwX10_acted_m (wsV RX10 211 RX10 yX10_acted mwX10_actedm) := gi_app (A := [.methodLink RX10 211 yX10_acted, .instanceMethod yX10_acted, .selects RX10 yX10_acted yX10_acted, .initialized RX10]) (goodIn_r _ [1, 2, 3, 4] (by decide +kernel) (by decide +kernel)) (gi_sub gd_mwX10_actedm (fun w h => List.mem_cons_of_mem _ (List.mem_append_right _ (List.mem_append_left _ h))))
set_option maxRecDepth 20000 in
theorem mg_X10_acted_m_X10_gives_214 : GoodIn mwX10_acted_m (wsV RX10 214 RX10 yX10_gives mwX10_givesm) := gi_app (A := [.methodLink RX10 214 yX10_gives, .instanceMethod yX10_gives, .selects RX10 yX10_gives yX10_gives, .initialized RX10]) (goodIn_r _ [5, 6, 7, 4] (by decide +kernel) (by decide +kernel)) (gi_sub gd_mwX10_givesm (fun w h => List.mem_cons_of_mem _ (List.mem_append_right _ (List.mem_append_right _ (h)))))
set_option maxHeartbeats 4000000 in
set_option maxRecDepth 100000 in
theorem m_actedV (l : Launch) (dC : Nat → ClassId) (dI : Nat → Nat → Nat) (ad : Nat → Nat) (kc : Nat → ClassId) (x0 x1 x2 x3 x4 x5 x6 x7 x8 x9 x10 x11 x12 x13 x14 x15 x16 x17 x18 x19 x20 x21 : Int32) (f0 f1 f2 f3 f4 f5 f6 f7 f8 f9 f10 f11 f12 f13 f14 f15 f16 f17 f18 f19 f20 f21 : Nat → Int32) (fL : Nat → Nat → Int64) (fN : Nat → Nat → Int32) (fP : Nat → Nat → Nat) (fM : Nat → Nat → Int32) (fO : Nat → Nat → Int32) (sz : Nat) (i1 : Int32) (q0 : 0 ≤ x1.toInt ∧ x1.toInt ≤ 8) (q1 : 0 ≤ x2.toInt ∧ x2.toInt ≤ 3) (q2 : OKd f0 0) (q3 : mC x1.toInt x2.toInt f0) : Met l yX10_acted_ mwX10_acted_m ({ frames := 2, cells := 0, slots := 0, locals := 120 }) (va_Pc [.ref (ad 0), .int i1] (fun U => U.heap.size = sz ∧ va_P (dC, dI) vwCl (mW ad kc x0 x1 x2 x3 x4 x5 x6 x7 x8 x9 x10 x11 x12 x13 x14 x15 x16 x17 x18 x19 x20 x21 f0 f1 f2 f3 f4 f5 f6 f7 f8 f9 f10 f11 f12 f13 f14 f15 f16 f17 f18 f19 f20 f21 fL fN fP fM fO) U.heap ∧ va_K (dC, dI) vwCl (mT kc) U ∧ va_D (fun _ => True) (mW ad kc x0 x1 x2 x3 x4 x5 x6 x7 x8 x9 x10 x11 x12 x13 x14 x15 x16 x17 x18 x19 x20 x21 f0 f1 f2 f3 f4 f5 f6 f7 f8 f9 f10 f11 f12 f13 f14 f15 f16 f17 f18 f19 f20 f21 fL fN fP fM fO))) (va_Qi (fun (o9 u9 : Int32) => o9 = u9) (fun (o9 : Int32) t => ∃ (y0 y1 : Int32) (g0 : Nat → Int32), (OKd g0 0) ∧ (mC y1.toInt x2.toInt g0) ∧ (1 ≤ y1.toInt ∧ y1.toInt ≤ 8) ∧ va_P (dC, dI) vwCl (mW ad kc y0 y1 x2 x3 x4 x5 x6 x7 x8 x9 x10 x11 x12 x13 x14 x15 x16 x17 x18 x19 x20 x21 g0 f1 f2 f3 f4 f5 f6 f7 f8 f9 f10 f11 f12 f13 f14 f15 f16 f17 f18 f19 f20 f21 fL fN fP fM fO) t.heap ∧ va_K (dC, dI) vwCl (mT kc) t ∧ va_D (va_A (mW ad kc x0 x1 x2 x3 x4 x5 x6 x7 x8 x9 x10 x11 x12 x13 x14 x15 x16 x17 x18 x19 x20 x21 f0 f1 f2 f3 f4 f5 f6 f7 f8 f9 f10 f11 f12 f13 f14 f15 f16 f17 f18 f19 f20 f21 fL fN fP fM fO) sz) (mW ad kc y0 y1 x2 x3 x4 x5 x6 x7 x8 x9 x10 x11 x12 x13 x14 x15 x16 x17 x18 x19 x20 x21 g0 f1 f2 f3 f4 f5 f6 f7 f8 f9 f10 f11 f12 f13 f14 f15 f16 f17 f18 f19 f20 f21 fL fN fP fM fO)) (va_A (mW ad kc x0 x1 x2 x3 x4 x5 x6 x7 x8 x9 x10 x11 x12 x13 x14 x15 x16 x17 x18 x19 x20 x21 f0 f1 f2 f3 f4 f5 f6 f7 f8 f9 f10 f11 f12 f13 f14 f15 f16 f17 f18 f19 f20 f21 fL fN fP fM fO) sz)) 0 0 (va_A (mW ad kc x0 x1 x2 x3 x4 x5 x6 x7 x8 x9 x10 x11 x12 x13 x14 x15 x16 x17 x18 x19 x20 x21 f0 f1 f2 f3 f4 f5 f6 f7 f8 f9 f10 f11 f12 f13 f14 f15 f16 f17 f18 f19 f20 f21 fL fN fP fM fO) sz) := by
  refine Met.ofW (cc := cX10_acted_) (maxL := 2) (ret := (some .int)) (by decide +kernel) rfl ?_
  intro p e s m args below meth c s₁ B hml hv
  obtain ⟨rfl, hsz, hP, hK, hD0⟩ := hv
  have hx := B.exec
  have hb := B.bytes
  have hr := B.returns
  have hts := atoms_spec (ws := mwX10_acted_m) B.pre
  have hown : s.vm.findClass RX10 = some m.cls := findClass_of_methodNamed B.named
  have hlocks := B.notSynchronized
  subst hsz
  have hD := hD0.self (sz := s.heap.size)
  generalize hAe : va_A (mW ad kc x0 x1 x2 x3 x4 x5 x6 x7 x8 x9 x10 x11 x12 x13 x14 x15 x16 x17 x18 x19 x20 x21 f0 f1 f2 f3 f4 f5 f6 f7 f8 f9 f10 f11 f12 f13 f14 f15 f16 f17 f18 f19 f20 f21 fL fN fP fM fO) s.heap.size = A at hD ⊢
  have hA : ∀ q : Nat, s.heap.size ≤ q → A q := fun q h => by rw [← hAe]; exact Or.inr h
  have hP : va_P (dC, dI) vwCl (mW ad kc x0 x1 x2 x3 x4 x5 x6 x7 x8 x9 x10 x11 x12 x13 x14 x15 x16 x17 x18 x19 x20 x21 f0 f1 f2 f3 f4 f5 f6 f7 f8 f9 f10 f11 f12 f13 f14 f15 f16 f17 f18 f19 f20 f21 fL fN fP fM fO) s.heap := hP
  have hD : va_D A (mW ad kc x0 x1 x2 x3 x4 x5 x6 x7 x8 x9 x10 x11 x12 x13 x14 x15 x16 x17 x18 x19 x20 x21 f0 f1 f2 f3 f4 f5 f6 f7 f8 f9 f10 f11 f12 f13 f14 f15 f16 f17 f18 f19 f20 f21 fL fN fP fM fO) := hD
  have hK : va_K (dC, dI) vwCl (mT kc) s := hK
  generalize hH : s.heap = H at hP ⊢
  have hS : va_S A s.heap H [] := by rw [← hH]; exact va_S.rf
  have hl := lv_entry ([.ref (ad 0), .int i1]) (n := 2) (Nat.le_of_ble_eq_true rfl)
  rw [lg_entry_eq]
  generalize (lg_sl ([.ref (ad 0), .int i1]) ++ List.replicate (2 - (lg_sl ([.ref (ad 0), .int i1])).length) Slot.unset).toArray = ls at hl ⊢
  have hl : lv_has ls 2 [(0, .ref (ad 0)), (1, .int i1)] := hl
  have rg_i1 := i_rng i1
  refine lv_aload_n hx hb dX10_acted__0 rfl (lv_at hl 0 rfl) ?_
  have hFc := m_free hD hS hA
  refine va_callv (va_runV (As := []) (rest := []) ⟨hx, hb, hml, hown, hts⟩ (m_acted l dC dI ad kc x0 x1 x2 x3 x4 x5 x6 x7 x8 x9 x10 x11 x12 x13 x14 x15 x16 x17 x18 x19 x20 x21 f0 f1 f2 f3 f4 f5 f6 f7 f8 f9 f10 f11 f12 f13 f14 f15 f16 f17 f18 f19 f20 f21 fL fN fP fM fO H.size (by first | omega | assumption | decide | (have l0 := Int32.toInt_zero; omega)) (by first | omega | assumption | decide | (have l0 := Int32.toInt_zero; omega)) (by first | omega | assumption | decide | (have l0 := Int32.toInt_zero; omega)) (by first | omega | assumption | decide | (have l0 := Int32.toInt_zero; omega))) (cwV 0 hts mg_X10_acted_m_X10_acted_211 rfl rfl rfl (by decide +kernel) ⟨Nat.le_of_ble_eq_true rfl, Nat.le_of_ble_eq_true rfl⟩) ⟨fun a U g mk q => by obtain ⟨q0, q1, qP, qK, qD⟩ := q; exact ⟨q0, q1, qP, va_K.moved (u := U) (U := U.calling g mk a) (Vm.Alike.refl U.vm) qK, qD⟩, va_recv hK hP (ci := 10) (q0 := 0) rfl rfl, fun U hU hW => ⟨rfl, by rw [hU], by rw [hU]; exact hP, va_K.moved hW.alike hK, hD.weaken (fun _ _ _ _ => trivial)⟩⟩ rfl rfl hl.1 rfl (lv_room (Nat.le_of_ble_eq_true rfl)) dX10_acted__1 ⟨Nat.le_of_ble_eq_true rfl, Nat.le_of_ble_eq_true rfl⟩) hS (fun q _ h => hFc q h) hFc (fun u t H1 locs ht hvm hw hB hz1 hk1 hS => ?_)
  obtain ⟨x_2, f_3, hr_1_0, hr_1_1, hr_1_2, hP, hK1, hD1⟩ := hB
  rw [ht] at hP
  have hD := hD1.weaken (fun k q _ h => hFc q.1 h)
  clear hz1 hk1 hFc hD1 hK1 hvm
  generalize H1 = H at hP hS ⊢
  have rg_x_2 := i_rng x_2
  have hP : va_P (dC, dI) vwCl (mW ad kc x0 x_2 x2 x3 x4 x5 x6 x7 x8 x9 x10 x11 x12 x13 x14 x15 x16 x17 x18 x19 x20 x21 f_3 f1 f2 f3 f4 f5 f6 f7 f8 f9 f10 f11 f12 f13 f14 f15 f16 f17 f18 f19 f20 f21 fL fN fP fM fO) H := hP
  have hD : va_D A (mW ad kc x0 x_2 x2 x3 x4 x5 x6 x7 x8 x9 x10 x11 x12 x13 x14 x15 x16 x17 x18 x19 x20 x21 f_3 f1 f2 f3 f4 f5 f6 f7 f8 f9 f10 f11 f12 f13 f14 f15 f16 f17 f18 f19 f20 f21 fL fN fP fM fO) := hD
  refine lv_aload_n hx hb dX10_acted__4 rfl (lv_at hl 0 rfl) ?_
  refine lv_iload_n hx hb dX10_acted__5 rfl (lv_at hl 1 rfl) ?_
  have hFc := m_free hD hS hA
  refine va_calli (va_runV (As := [.int i1]) (rest := []) ⟨hx, hb, hml, hown, hts⟩ (m_gives l dC dI ad kc x0 x_2 x2 x3 x4 x5 x6 x7 x8 x9 x10 x11 x12 x13 x14 x15 x16 x17 x18 x19 x20 x21 f_3 f1 f2 f3 f4 f5 f6 f7 f8 f9 f10 f11 f12 f13 f14 f15 f16 f17 f18 f19 f20 f21 fL fN fP fM fO H.size i1 ) (cwV 1 hts mg_X10_acted_m_X10_gives_214 rfl rfl rfl (by decide +kernel) ⟨Nat.le_of_ble_eq_true rfl, Nat.le_of_ble_eq_true rfl⟩) ⟨fun a U g mk q => by obtain ⟨q0, q1, qP, qK, qD⟩ := q; exact ⟨q0, q1, qP, va_K.moved (u := U) (U := U.calling g mk a) (Vm.Alike.refl U.vm) qK, qD⟩, va_recv hK hP (ci := 10) (q0 := 0) rfl rfl, fun U hU hW => ⟨rfl, by rw [hU], by rw [hU]; exact hP, va_K.moved hW.alike hK, hD.weaken (fun _ _ _ _ => trivial)⟩⟩ rfl rfl hl.1 rfl (lv_room (Nat.le_of_ble_eq_true rfl)) dX10_acted__6 ⟨Nat.le_of_ble_eq_true rfl, Nat.le_of_ble_eq_true rfl⟩) hS (fun q _ h => hFc q h) hFc (fun r_4 u t H1 locs ht hvm hw hB hz1 hk1 hS => ?_)
  subst hw
  obtain ⟨hr_4_0, hP, hK1, hD1⟩ := hB
  rw [ht] at hP
  have hD := hD1.weaken (fun k q _ h => hFc q.1 h)
  clear hz1 hk1 hFc hD1 hK1 hvm
  generalize H1 = H at hP hS ⊢
  have rg_r_4 := i_rng r_4
  have hP : va_P (dC, dI) vwCl (mW ad kc 0 x_2 x2 x3 x4 x5 x6 x7 x8 x9 x10 x11 x12 x13 x14 x15 x16 x17 x18 x19 x20 x21 f_3 f1 f2 f3 f4 f5 f6 f7 f8 f9 f10 f11 f12 f13 f14 f15 f16 f17 f18 f19 f20 f21 fL fN fP fM fO) H := hP
  have hD : va_D A (mW ad kc 0 x_2 x2 x3 x4 x5 x6 x7 x8 x9 x10 x11 x12 x13 x14 x15 x16 x17 x18 x19 x20 x21 f_3 f1 f2 f3 f4 f5 f6 f7 f8 f9 f10 f11 f12 f13 f14 f15 f16 f17 f18 f19 f20 f21 fL fN fP fM fO) := hD
  have lit_4 : (0 : Int32).toInt = 0 := by decide
  exact W.iret hx hb hr (fun t ht hW => ⟨⟨_, _, rfl, rfl, 0, x_2, f_3, hr_1_0, hr_1_1, hr_1_2, by rw [ht]; exact hP, va_K.moved hW.alike hK, hD⟩, hS.F ht⟩) hS.2.2 dX10_acted__9
theorem dX10_sets_0 : decode cX10_sets 0 = .ok (.aload_n 0, 1) := by decide +kernel
theorem dX10_sets_1 : decode cX10_sets 1 = .ok (.getfield 8, 3) := by decide +kernel
theorem dX10_sets_4 : decode cX10_sets 4 = .ok (.bipush 11, 2) := by decide +kernel
theorem dX10_sets_6 : decode cX10_sets 6 = .ok (.bipush 60, 2) := by decide +kernel
theorem dX10_sets_8 : decode cX10_sets 8 = .ok (.iload_n 1, 1) := by decide +kernel
theorem dX10_sets_9 : decode cX10_sets 9 = .ok (.imul, 1) := by decide +kernel
theorem dX10_sets_10 : decode cX10_sets 10 = .ok (.iadd, 1) := by decide +kernel
theorem dX10_sets_11 : decode cX10_sets 11 = .ok (.iload_n 2, 1) := by decide +kernel
theorem dX10_sets_12 : decode cX10_sets 12 = .ok (.iadd, 1) := by decide +kernel
theorem dX10_sets_13 : decode cX10_sets 13 = .ok (.iload_n 3, 1) := by decide +kernel
theorem dX10_sets_14 : decode cX10_sets 14 = .ok (.iastore, 1) := by decide +kernel
theorem dX10_sets_15 : decode cX10_sets 15 = .ok (.return_, 1) := by decide +kernel
def mwX10_setsm : List Cond := .code yX10_sets cX10_sets 4 none :: (([.fieldLink RX10 8 "PatternGateModel" "all" "[I"] : List Cond) ++ (wsX100))
theorem fin_X10_setsm_X10 : ∀ w ∈ wsX100, w ∈ mwX10_setsm := fun w h => List.mem_cons_of_mem _ (List.mem_append_right _ (h))
set_option maxHeartbeats 4000000 in
set_option maxRecDepth 100000 in
theorem m_sets (l : Launch) (dC : Nat → ClassId) (dI : Nat → Nat → Nat) (ad : Nat → Nat) (kc : Nat → ClassId) (x0 x1 x2 x3 x4 x5 x6 x7 x8 x9 x10 x11 x12 x13 x14 x15 x16 x17 x18 x19 x20 x21 : Int32) (f0 f1 f2 f3 f4 f5 f6 f7 f8 f9 f10 f11 f12 f13 f14 f15 f16 f17 f18 f19 f20 f21 : Nat → Int32) (fL : Nat → Nat → Int64) (fN : Nat → Nat → Int32) (fP : Nat → Nat → Nat) (fM : Nat → Nat → Int32) (fO : Nat → Nat → Int32) (sz : Nat) (i1 i2 i3 : Int32) (q0 : 0 ≤ i1.toInt ∧ i1.toInt < 10) (q1 : 0 ≤ i2.toInt ∧ i2.toInt < 60) : Met l yX10_sets mwX10_setsm ({ frames := 0, cells := 0, slots := 0, locals := 0 }) (va_Pc [.ref (ad 0), .int i1, .int i2, .int i3] (fun U => U.heap.size = sz ∧ va_P (dC, dI) vwCl (mW ad kc x0 x1 x2 x3 x4 x5 x6 x7 x8 x9 x10 x11 x12 x13 x14 x15 x16 x17 x18 x19 x20 x21 f0 f1 f2 f3 f4 f5 f6 f7 f8 f9 f10 f11 f12 f13 f14 f15 f16 f17 f18 f19 f20 f21 fL fN fP fM fO) U.heap ∧ va_K (dC, dI) vwCl (mT kc) U ∧ va_D (fun _ => True) (mW ad kc x0 x1 x2 x3 x4 x5 x6 x7 x8 x9 x10 x11 x12 x13 x14 x15 x16 x17 x18 x19 x20 x21 f0 f1 f2 f3 f4 f5 f6 f7 f8 f9 f10 f11 f12 f13 f14 f15 f16 f17 f18 f19 f20 f21 fL fN fP fM fO))) (va_Qv (fun (_ : Unit) => True) (fun _ t => ∃ (g0 : Nat → Int32), (U1 f0 g0 (11 + 60 * i1.toInt + i2.toInt) i3.toInt) ∧ va_P (dC, dI) vwCl (mW ad kc x0 x1 x2 x3 x4 x5 x6 x7 x8 x9 x10 x11 x12 x13 x14 x15 x16 x17 x18 x19 x20 x21 g0 f1 f2 f3 f4 f5 f6 f7 f8 f9 f10 f11 f12 f13 f14 f15 f16 f17 f18 f19 f20 f21 fL fN fP fM fO) t.heap ∧ va_K (dC, dI) vwCl (mT kc) t ∧ va_D (va_A (mW ad kc x0 x1 x2 x3 x4 x5 x6 x7 x8 x9 x10 x11 x12 x13 x14 x15 x16 x17 x18 x19 x20 x21 f0 f1 f2 f3 f4 f5 f6 f7 f8 f9 f10 f11 f12 f13 f14 f15 f16 f17 f18 f19 f20 f21 fL fN fP fM fO) sz) (mW ad kc x0 x1 x2 x3 x4 x5 x6 x7 x8 x9 x10 x11 x12 x13 x14 x15 x16 x17 x18 x19 x20 x21 g0 f1 f2 f3 f4 f5 f6 f7 f8 f9 f10 f11 f12 f13 f14 f15 f16 f17 f18 f19 f20 f21 fL fN fP fM fO)) (va_A (mW ad kc x0 x1 x2 x3 x4 x5 x6 x7 x8 x9 x10 x11 x12 x13 x14 x15 x16 x17 x18 x19 x20 x21 f0 f1 f2 f3 f4 f5 f6 f7 f8 f9 f10 f11 f12 f13 f14 f15 f16 f17 f18 f19 f20 f21 fL fN fP fM fO) sz)) 0 0 (va_A (mW ad kc x0 x1 x2 x3 x4 x5 x6 x7 x8 x9 x10 x11 x12 x13 x14 x15 x16 x17 x18 x19 x20 x21 f0 f1 f2 f3 f4 f5 f6 f7 f8 f9 f10 f11 f12 f13 f14 f15 f16 f17 f18 f19 f20 f21 fL fN fP fM fO) sz) := by
  refine Met.ofW (cc := cX10_sets) (maxL := 4) (ret := none) (by decide +kernel) rfl ?_
  intro p e s m args below meth c s₁ B hml hv
  obtain ⟨rfl, hsz, hP, hK, hD0⟩ := hv
  have hx := B.exec
  have hb := B.bytes
  have hr := B.returns
  have hts := atoms_spec (ws := mwX10_setsm) B.pre
  have hown : s.vm.findClass RX10 = some m.cls := findClass_of_methodNamed B.named
  have hlocks := B.notSynchronized
  subst hsz
  have hD := hD0.self (sz := s.heap.size)
  generalize hAe : va_A (mW ad kc x0 x1 x2 x3 x4 x5 x6 x7 x8 x9 x10 x11 x12 x13 x14 x15 x16 x17 x18 x19 x20 x21 f0 f1 f2 f3 f4 f5 f6 f7 f8 f9 f10 f11 f12 f13 f14 f15 f16 f17 f18 f19 f20 f21 fL fN fP fM fO) s.heap.size = A at hD ⊢
  have hA : ∀ q : Nat, s.heap.size ≤ q → A q := fun q h => by rw [← hAe]; exact Or.inr h
  have hP : va_P (dC, dI) vwCl (mW ad kc x0 x1 x2 x3 x4 x5 x6 x7 x8 x9 x10 x11 x12 x13 x14 x15 x16 x17 x18 x19 x20 x21 f0 f1 f2 f3 f4 f5 f6 f7 f8 f9 f10 f11 f12 f13 f14 f15 f16 f17 f18 f19 f20 f21 fL fN fP fM fO) s.heap := hP
  have hD : va_D A (mW ad kc x0 x1 x2 x3 x4 x5 x6 x7 x8 x9 x10 x11 x12 x13 x14 x15 x16 x17 x18 x19 x20 x21 f0 f1 f2 f3 f4 f5 f6 f7 f8 f9 f10 f11 f12 f13 f14 f15 f16 f17 f18 f19 f20 f21 fL fN fP fM fO) := hD
  have hK : va_K (dC, dI) vwCl (mT kc) s := hK
  generalize hH : s.heap = H at hP ⊢
  have hS : va_S A s.heap H [] := by rw [← hH]; exact va_S.rf
  have hl := lv_entry ([.ref (ad 0), .int i1, .int i2, .int i3]) (n := 4) (Nat.le_of_ble_eq_true rfl)
  rw [lg_entry_eq]
  generalize (lg_sl ([.ref (ad 0), .int i1, .int i2, .int i3]) ++ List.replicate (4 - (lg_sl ([.ref (ad 0), .int i1, .int i2, .int i3])).length) Slot.unset).toArray = ls at hl ⊢
  have hl : lv_has ls 4 [(0, .ref (ad 0)), (1, .int i1), (2, .int i2), (3, .int i3)] := hl
  have rg_i1 := i_rng i1
  have rg_i2 := i_rng i2
  have rg_i3 := i_rng i3
  refine lv_aload_n hx hb dX10_sets_0 rfl (lv_at hl 0 rfl) ?_
  refine va_get (D := (dC, dI)) (ci := 10) (v := .ref (ad 1)) (C := RX10) (T := TX10) (N := 48) hx hb hts fin_X10_setsm_X10 hown hK hP 0 rfl rfl 0 (by decide) (hts (.fieldLink RX10 8 "PatternGateModel" "all" "[I") (List.mem_of_getElem? (i := 1) (by decide +kernel))) (fun _ h9 => h9) rfl dX10_sets_1 ?_
  refine lv_bipush (v := 11) hx hb dX10_sets_4 (by decide) ?_
  refine lv_bipush (v := 60) hx hb dX10_sets_6 (by decide) ?_
  refine lv_iload_n hx hb dX10_sets_8 rfl (lv_at hl 1 rfl) ?_
  refine lv_imul hx hb dX10_sets_9 ?_
  refine lv_topi (fun y_1 ey_1 => ?_)
  first | have ty_1 := i_mul (a := 60) (b := i1.toInt) (by decide) rfl ey_1 (by omega) (by omega) | skip
  refine lv_iadd hx hb dX10_sets_10 ?_
  refine lv_topi (fun y_2 ey_2 => ?_)
  first | have ty_2 := i_add (a := 11) (b := y_1.toInt) (by decide) rfl ey_2 (by omega) (by omega) | skip
  refine lv_iload_n hx hb dX10_sets_11 rfl (lv_at hl 2 rfl) ?_
  refine lv_iadd hx hb dX10_sets_12 ?_
  refine lv_topi (fun y_3 ey_3 => ?_)
  first | have ty_3 := i_add (a := y_2.toInt) (b := i2.toInt) rfl rfl ey_3 (by omega) (by omega) | skip
  refine lv_iload_n hx hb dX10_sets_13 rfl (lv_at hl 3 rfl) ?_
  refine va_iast hx hb hK hP hD hS 1 0 rfl rfl (i := y_3) (vp_of (a := y_3.toInt) rfl (by omega) (by omega)) dX10_sets_14 (fun H locs hP hD hS => ?_)
  generalize hf_f_4 : upd f0 _ _ = f_4 at hP hD
  have uf_4 := vI_up (a := ((11 + (60 * i1.toInt)) + i2.toInt)) (b := i3.toInt) hf_f_4 (by first | omega | decide) (by omega) rfl
  have hP : va_P (dC, dI) vwCl (mW ad kc x0 x1 x2 x3 x4 x5 x6 x7 x8 x9 x10 x11 x12 x13 x14 x15 x16 x17 x18 x19 x20 x21 f_4 f1 f2 f3 f4 f5 f6 f7 f8 f9 f10 f11 f12 f13 f14 f15 f16 f17 f18 f19 f20 f21 fL fN fP fM fO) H := hP
  have hD : va_D A (mW ad kc x0 x1 x2 x3 x4 x5 x6 x7 x8 x9 x10 x11 x12 x13 x14 x15 x16 x17 x18 x19 x20 x21 f_4 f1 f2 f3 f4 f5 f6 f7 f8 f9 f10 f11 f12 f13 f14 f15 f16 f17 f18 f19 f20 f21 fL fN fP fM fO) := hD
  exact W.vret hx hb hr (fun t ht hW => ⟨⟨(), rfl, trivial, f_4, uf_4, by rw [ht]; exact hP, va_K.moved hW.alike hK, hD⟩, hS.F ht⟩) hS.2.2 dX10_sets_15
theorem dX10_wrongPut_0 : decode cX10_wrongPut 0 = .ok (.iload_n 2, 1) := by decide +kernel
theorem dX10_wrongPut_1 : decode cX10_wrongPut 1 = .ok (.ifCond .lt 13, 3) := by decide +kernel
theorem dX10_wrongPut_4 : decode cX10_wrongPut 4 = .ok (.iload_n 3, 1) := by decide +kernel
theorem dX10_wrongPut_5 : decode cX10_wrongPut 5 = .ok (.iconst 0, 1) := by decide +kernel
theorem dX10_wrongPut_6 : decode cX10_wrongPut 6 = .ok (.bipush 25, 2) := by decide +kernel
theorem dX10_wrongPut_8 : decode cX10_wrongPut 8 = .ok (.invokestatic 200, 3) := by decide +kernel
theorem dX10_wrongPut_11 : decode cX10_wrongPut 11 = .ok (.ifCond .ne 5, 3) := by decide +kernel
theorem dX10_wrongPut_14 : decode cX10_wrongPut 14 = .ok (.iconst 1, 1) := by decide +kernel
theorem dX10_wrongPut_15 : decode cX10_wrongPut 15 = .ok (.ireturn, 1) := by decide +kernel
theorem dX10_wrongPut_16 : decode cX10_wrongPut 16 = .ok (.aload_n 0, 1) := by decide +kernel
theorem dX10_wrongPut_17 : decode cX10_wrongPut 17 = .ok (.iload_n 1, 1) := by decide +kernel
theorem dX10_wrongPut_18 : decode cX10_wrongPut 18 = .ok (.invokevirtual 451, 3) := by decide +kernel
theorem dX10_wrongPut_21 : decode cX10_wrongPut 21 = .ok (.ifCond .ne 7, 3) := by decide +kernel
theorem dX10_wrongPut_24 : decode cX10_wrongPut 24 = .ok (.iconst 2, 1) := by decide +kernel
theorem dX10_wrongPut_25 : decode cX10_wrongPut 25 = .ok (.goto 17, 3) := by decide +kernel
theorem dX10_wrongPut_28 : decode cX10_wrongPut 28 = .ok (.iload_n 2, 1) := by decide +kernel
theorem dX10_wrongPut_29 : decode cX10_wrongPut 29 = .ok (.aload_n 0, 1) := by decide +kernel
theorem dX10_wrongPut_30 : decode cX10_wrongPut 30 = .ok (.iload_n 1, 1) := by decide +kernel
theorem dX10_wrongPut_31 : decode cX10_wrongPut 31 = .ok (.invokevirtual 396, 3) := by decide +kernel
theorem dX10_wrongPut_34 : decode cX10_wrongPut 34 = .ok (.if_icmp .lt 7, 3) := by decide +kernel
theorem dX10_wrongPut_37 : decode cX10_wrongPut 37 = .ok (.iconst 5, 1) := by decide +kernel
theorem dX10_wrongPut_38 : decode cX10_wrongPut 38 = .ok (.goto 4, 3) := by decide +kernel
theorem dX10_wrongPut_41 : decode cX10_wrongPut 41 = .ok (.iconst 0, 1) := by decide +kernel
theorem dX10_wrongPut_42 : decode cX10_wrongPut 42 = .ok (.ireturn, 1) := by decide +kernel
def mwX10_wrongPutm : List Cond := .code yX10_wrongPut cX10_wrongPut 4 (some .int) :: (([.methodLink RX10 200 yX10_isFrom, .static yX10_isFrom, .initialized RX10, .methodLink RX10 451 yX10_isDoc, .instanceMethod yX10_isDoc, .selects RX10 yX10_isDoc yX10_isDoc, .methodLink RX10 396 yX10_sizeOf, .instanceMethod yX10_sizeOf, .selects RX10 yX10_sizeOf yX10_sizeOf] : List Cond) ++ (mwX10_isFromm ++ (mwX10_isDocm ++ (mwX10_sizeOfm))))
set_option maxRecDepth 20000 in
theorem mg_X10_wrongPutm_X10_isFrom_200 : GoodIn mwX10_wrongPutm (va_wsS RX10 200 yX10_isFrom mwX10_isFromm) := gi_app (A := [.methodLink RX10 200 yX10_isFrom, .static yX10_isFrom, .initialized RX10]) (goodIn_r _ [1, 2, 3] (by decide +kernel) (by decide +kernel)) (gi_sub gd_mwX10_isFromm (fun w h => List.mem_cons_of_mem _ (List.mem_append_right _ (List.mem_append_left _ h))))
set_option maxRecDepth 20000 in
theorem mg_X10_wrongPutm_X10_isDoc_451 : GoodIn mwX10_wrongPutm (wsV RX10 451 RX10 yX10_isDoc mwX10_isDocm) := gi_app (A := [.methodLink RX10 451 yX10_isDoc, .instanceMethod yX10_isDoc, .selects RX10 yX10_isDoc yX10_isDoc, .initialized RX10]) (goodIn_r _ [4, 5, 6, 3] (by decide +kernel) (by decide +kernel)) (gi_sub gd_mwX10_isDocm (fun w h => List.mem_cons_of_mem _ (List.mem_append_right _ (List.mem_append_right _ (List.mem_append_left _ h)))))
set_option maxRecDepth 20000 in
theorem mg_X10_wrongPutm_X10_sizeOf_396 : GoodIn mwX10_wrongPutm (wsV RX10 396 RX10 yX10_sizeOf mwX10_sizeOfm) := gi_app (A := [.methodLink RX10 396 yX10_sizeOf, .instanceMethod yX10_sizeOf, .selects RX10 yX10_sizeOf yX10_sizeOf, .initialized RX10]) (goodIn_r _ [7, 8, 9, 3] (by decide +kernel) (by decide +kernel)) (gi_sub gd_mwX10_sizeOfm (fun w h => List.mem_cons_of_mem _ (List.mem_append_right _ (List.mem_append_right _ (List.mem_append_right _ (h))))))
set_option maxHeartbeats 4000000 in
set_option maxRecDepth 100000 in
theorem m_wrongPut (l : Launch) (dC : Nat → ClassId) (dI : Nat → Nat → Nat) (ad : Nat → Nat) (kc : Nat → ClassId) (x0 x1 x2 x3 x4 x5 x6 x7 x8 x9 x10 x11 x12 x13 x14 x15 x16 x17 x18 x19 x20 x21 : Int32) (f0 f1 f2 f3 f4 f5 f6 f7 f8 f9 f10 f11 f12 f13 f14 f15 f16 f17 f18 f19 f20 f21 : Nat → Int32) (fL : Nat → Nat → Int64) (fN : Nat → Nat → Int32) (fP : Nat → Nat → Nat) (fM : Nat → Nat → Int32) (fO : Nat → Nat → Int32) (i1 i2 i3 : Int32) (q0 : OKd f0 0) : Met l yX10_wrongPut mwX10_wrongPutm ({ frames := 1, cells := 0, slots := 0, locals := 60 }) (va_Pc [.ref (ad 0), .int i1, .int i2, .int i3] (fun U => va_P (dC, dI) vwCl (mW ad kc x0 x1 x2 x3 x4 x5 x6 x7 x8 x9 x10 x11 x12 x13 x14 x15 x16 x17 x18 x19 x20 x21 f0 f1 f2 f3 f4 f5 f6 f7 f8 f9 f10 f11 f12 f13 f14 f15 f16 f17 f18 f19 f20 f21 fL fN fP fM fO) U.heap ∧ va_K (dC, dI) vwCl (mT kc) U)) (vp_Si (fun o9 => (o9.toInt = 0 ∧ 0 ≤ i1.toInt ∧ i1.toInt < vI f0 0 ∧ 0 ≤ i2.toInt ∧ i2.toInt < vI f0 (1 + i1.toInt) ∧ 0 ≤ i3.toInt ∧ i3.toInt ≤ 25 ∨ 0 < o9.toInt))) 0 0 (fun _ => False) := by
  refine Met.ofW (cc := cX10_wrongPut) (maxL := 4) (ret := (some .int)) (by decide +kernel) rfl ?_
  intro p e s m args below meth c s₁ B hml hv
  obtain ⟨rfl, hP, hK⟩ := hv
  have hx := B.exec
  have hb := B.bytes
  have hr := B.returns
  have hts := atoms_spec (ws := mwX10_wrongPutm) B.pre
  have hown : s.vm.findClass RX10 = some m.cls := findClass_of_methodNamed B.named
  have hlocks := B.notSynchronized
  have hP : va_P (dC, dI) vwCl (mW ad kc x0 x1 x2 x3 x4 x5 x6 x7 x8 x9 x10 x11 x12 x13 x14 x15 x16 x17 x18 x19 x20 x21 f0 f1 f2 f3 f4 f5 f6 f7 f8 f9 f10 f11 f12 f13 f14 f15 f16 f17 f18 f19 f20 f21 fL fN fP fM fO) s.heap := hP
  have hK : va_K (dC, dI) vwCl (mT kc) s := hK
  generalize hH : s.heap = H at hP ⊢
  have hl := lv_entry ([.ref (ad 0), .int i1, .int i2, .int i3]) (n := 4) (Nat.le_of_ble_eq_true rfl)
  rw [lg_entry_eq]
  generalize (lg_sl ([.ref (ad 0), .int i1, .int i2, .int i3]) ++ List.replicate (4 - (lg_sl ([.ref (ad 0), .int i1, .int i2, .int i3])).length) Slot.unset).toArray = ls at hl ⊢
  have hl : lv_has ls 4 [(0, .ref (ad 0)), (1, .int i1), (2, .int i2), (3, .int i3)] := hl
  have rg_i1 := i_rng i1
  have rg_i2 := i_rng i2
  have rg_i3 := i_rng i3
  have hd10 := q0.n0
  have hp8 := q0.P0
  refine lv_iload_n hx hb dX10_wrongPut_0 rfl (lv_at hl 2 rfl) ?_
  refine lv_if_lt (tgt := 14) hx hb dX10_wrongPut_1 (by decide) (fun k_1 => ?_) (fun k_1 => ?_)
  · have tk_1 := c_lt (a := i2.toInt) (b := 0) rfl (by decide) k_1
    refine lv_iconst (v := 1) hx hb dX10_wrongPut_14 (by decide) ?_
    have lit_1 : (1 : Int32).toInt = 1 := by decide
    exact W.iret hx hb hr (fun t ht hW => ⟨_, rfl, (by first | omega | assumption | rfl | decide), ht.trans hH.symm⟩) t_nil dX10_wrongPut_15
  · have tk_1 := c_nlt (a := i2.toInt) (b := 0) rfl (by decide) k_1
    refine lv_iload_n hx hb dX10_wrongPut_4 rfl (lv_at hl 3 rfl) ?_
    refine lv_iconst (v := 0) hx hb dX10_wrongPut_5 (by decide) ?_
    refine lv_bipush (v := 25) hx hb dX10_wrongPut_6 (by decide) ?_
    have lit_2 : (0 : Int32).toInt = 0 := by decide
    have lit_3 : (25 : Int32).toInt = 25 := by decide
    refine vp_callSi (W.runS (As := [.int i3, .int 0, .int 25]) (rest := []) ⟨hx, hb, hml, hown, hts⟩ (m_isFrom l dC dI  i3 0 25 ) (va_cwS 3 hts mg_X10_wrongPutm_X10_isFrom_200 rfl rfl rfl (by decide +kernel) ⟨Nat.le_of_ble_eq_true rfl, Nat.le_of_ble_eq_true rfl⟩) ⟨fun a U g mk q => ⟨q.1, trivial⟩, fun U hU hW => ⟨rfl, trivial⟩⟩ rfl rfl hl.1 rfl (lv_room (Nat.le_of_ble_eq_true rfl)) dX10_wrongPut_8 ⟨Nat.le_of_ble_eq_true rfl, Nat.le_of_ble_eq_true rfl⟩) (fun r_5 hr_5 => ?_)
    have rg_r_5 := i_rng r_5
    refine lv_if_ne (tgt := 16) hx hb dX10_wrongPut_11 (by decide) (fun k_6 => ?_) (fun k_6 => ?_)
    · have tk_6 := c_ne (a := r_5.toInt) (b := 0) rfl (by decide) k_6
      refine lv_aload_n hx hb dX10_wrongPut_16 rfl (lv_at hl 0 rfl) ?_
      refine lv_iload_n hx hb dX10_wrongPut_17 rfl (lv_at hl 1 rfl) ?_
      refine vp_callSi (W.runV (As := [.int i1]) (rest := []) ⟨hx, hb, hml, hown, hts⟩ (m_isDoc l dC dI ad kc x0 x1 x2 x3 x4 x5 x6 x7 x8 x9 x10 x11 x12 x13 x14 x15 x16 x17 x18 x19 x20 x21 f0 f1 f2 f3 f4 f5 f6 f7 f8 f9 f10 f11 f12 f13 f14 f15 f16 f17 f18 f19 f20 f21 fL fN fP fM fO i1 ) (cwV 1 hts mg_X10_wrongPutm_X10_isDoc_451 rfl rfl rfl (by decide +kernel) ⟨Nat.le_of_ble_eq_true rfl, Nat.le_of_ble_eq_true rfl⟩) ⟨fun a U g mk q => by obtain ⟨q0, qP, qK⟩ := q; exact ⟨q0, qP, va_K.moved (u := U) (U := U.calling g mk a) (Vm.Alike.refl U.vm) qK⟩, va_recv hK hP (ci := 10) (q0 := 0) rfl rfl, fun U hU hW => ⟨rfl, by rw [hU]; exact hP, va_K.moved hW.alike hK⟩⟩ rfl rfl hl.1 rfl (lv_room (Nat.le_of_ble_eq_true rfl)) dX10_wrongPut_18 ⟨Nat.le_of_ble_eq_true rfl, Nat.le_of_ble_eq_true rfl⟩) (fun r_7 hr_7 => ?_)
      have rg_r_7 := i_rng r_7
      refine lv_if_ne (tgt := 28) hx hb dX10_wrongPut_21 (by decide) (fun k_8 => ?_) (fun k_8 => ?_)
      · have tk_8 := c_ne (a := r_7.toInt) (b := 0) rfl (by decide) k_8
        refine lv_iload_n hx hb dX10_wrongPut_28 rfl (lv_at hl 2 rfl) ?_
        refine lv_aload_n hx hb dX10_wrongPut_29 rfl (lv_at hl 0 rfl) ?_
        refine lv_iload_n hx hb dX10_wrongPut_30 rfl (lv_at hl 1 rfl) ?_
        refine vp_callSi (W.runV (As := [.int i1]) (rest := [.int i2]) ⟨hx, hb, hml, hown, hts⟩ (m_sizeOf l dC dI ad kc x0 x1 x2 x3 x4 x5 x6 x7 x8 x9 x10 x11 x12 x13 x14 x15 x16 x17 x18 x19 x20 x21 f0 f1 f2 f3 f4 f5 f6 f7 f8 f9 f10 f11 f12 f13 f14 f15 f16 f17 f18 f19 f20 f21 fL fN fP fM fO i1 (by first | omega | assumption | decide | (have l0 := Int32.toInt_zero; omega)) (by first | omega | assumption | decide | (have l0 := Int32.toInt_zero; omega))) (cwV 1 hts mg_X10_wrongPutm_X10_sizeOf_396 rfl rfl rfl (by decide +kernel) ⟨Nat.le_of_ble_eq_true rfl, Nat.le_of_ble_eq_true rfl⟩) ⟨fun a U g mk q => by obtain ⟨q0, qP, qK⟩ := q; exact ⟨q0, qP, va_K.moved (u := U) (U := U.calling g mk a) (Vm.Alike.refl U.vm) qK⟩, va_recv hK hP (ci := 10) (q0 := 0) rfl rfl, fun U hU hW => ⟨rfl, by rw [hU]; exact hP, va_K.moved hW.alike hK⟩⟩ rfl rfl hl.1 rfl (lv_room (Nat.le_of_ble_eq_true rfl)) dX10_wrongPut_31 ⟨Nat.le_of_ble_eq_true rfl, Nat.le_of_ble_eq_true rfl⟩) (fun r_9 hr_9 => ?_)
        have rg_r_9 := i_rng r_9
        have hlr_9 := OKd.sz q0 (d := i1.toInt) (by omega) (by omega)
        refine lv_icmp_lt (tgt := 41) hx hb dX10_wrongPut_34 (by decide) (fun k_10 => ?_) (fun k_10 => ?_)
        · have tk_10 := c_lt (a := i2.toInt) (b := r_9.toInt) rfl rfl k_10
          refine lv_iconst (v := 0) hx hb dX10_wrongPut_41 (by decide) ?_
          have lit_10 : (0 : Int32).toInt = 0 := by decide
          exact W.iret hx hb hr (fun t ht hW => ⟨_, rfl, (by first | omega | assumption | rfl | decide), ht.trans hH.symm⟩) t_nil dX10_wrongPut_42
        · have tk_10 := c_nlt (a := i2.toInt) (b := r_9.toInt) rfl rfl k_10
          refine lv_iconst (v := 5) hx hb dX10_wrongPut_37 (by decide) ?_
          refine lv_goto (tgt := 42) hx hb dX10_wrongPut_38 (by decide) ?_
          have lit_11 : (5 : Int32).toInt = 5 := by decide
          exact W.iret hx hb hr (fun t ht hW => ⟨_, rfl, (by first | omega | assumption | rfl | decide), ht.trans hH.symm⟩) t_nil dX10_wrongPut_42
      · have tk_8 := c_eq (a := r_7.toInt) (b := 0) rfl (by decide) k_8
        refine lv_iconst (v := 2) hx hb dX10_wrongPut_24 (by decide) ?_
        refine lv_goto (tgt := 42) hx hb dX10_wrongPut_25 (by decide) ?_
        have lit_12 : (2 : Int32).toInt = 2 := by decide
        exact W.iret hx hb hr (fun t ht hW => ⟨_, rfl, (by first | omega | assumption | rfl | decide), ht.trans hH.symm⟩) t_nil dX10_wrongPut_42
    · have tk_6 := c_eq (a := r_5.toInt) (b := 0) rfl (by decide) k_6
      refine lv_iconst (v := 1) hx hb dX10_wrongPut_14 (by decide) ?_
      have lit_13 : (1 : Int32).toInt = 1 := by decide
      exact W.iret hx hb hr (fun t ht hW => ⟨_, rfl, (by first | omega | assumption | rfl | decide), ht.trans hH.symm⟩) t_nil dX10_wrongPut_15
theorem dX10_put_0 : decode cX10_put 0 = .ok (.aload_n 0, 1) := by decide +kernel
theorem dX10_put_1 : decode cX10_put 1 = .ok (.iload_n 1, 1) := by decide +kernel
theorem dX10_put_2 : decode cX10_put 2 = .ok (.iload_n 2, 1) := by decide +kernel
theorem dX10_put_3 : decode cX10_put 3 = .ok (.iload_n 3, 1) := by decide +kernel
theorem dX10_put_4 : decode cX10_put 4 = .ok (.invokevirtual 470, 3) := by decide +kernel
theorem dX10_put_7 : decode cX10_put 7 = .ok (.istore 4, 2) := by decide +kernel
theorem dX10_put_9 : decode cX10_put 9 = .ok (.iload 4, 2) := by decide +kernel
theorem dX10_put_11 : decode cX10_put 11 = .ok (.ifCond .le 10, 3) := by decide +kernel
theorem dX10_put_14 : decode cX10_put 14 = .ok (.aload_n 0, 1) := by decide +kernel
theorem dX10_put_15 : decode cX10_put 15 = .ok (.iload 4, 2) := by decide +kernel
theorem dX10_put_17 : decode cX10_put 17 = .ok (.invokevirtual 204, 3) := by decide +kernel
theorem dX10_put_20 : decode cX10_put 20 = .ok (.ireturn, 1) := by decide +kernel
theorem dX10_put_21 : decode cX10_put 21 = .ok (.aload_n 0, 1) := by decide +kernel
theorem dX10_put_22 : decode cX10_put 22 = .ok (.iload_n 1, 1) := by decide +kernel
theorem dX10_put_23 : decode cX10_put 23 = .ok (.iload_n 2, 1) := by decide +kernel
theorem dX10_put_24 : decode cX10_put 24 = .ok (.invokevirtual 399, 3) := by decide +kernel
theorem dX10_put_27 : decode cX10_put 27 = .ok (.istore 5, 2) := by decide +kernel
theorem dX10_put_29 : decode cX10_put 29 = .ok (.iload 5, 2) := by decide +kernel
theorem dX10_put_31 : decode cX10_put 31 = .ok (.iload_n 3, 1) := by decide +kernel
theorem dX10_put_32 : decode cX10_put 32 = .ok (.if_icmp .ne 9, 3) := by decide +kernel
theorem dX10_put_35 : decode cX10_put 35 = .ok (.aload_n 0, 1) := by decide +kernel
theorem dX10_put_36 : decode cX10_put 36 = .ok (.iconst 4, 1) := by decide +kernel
theorem dX10_put_37 : decode cX10_put 37 = .ok (.invokevirtual 204, 3) := by decide +kernel
theorem dX10_put_40 : decode cX10_put 40 = .ok (.ireturn, 1) := by decide +kernel
theorem dX10_put_41 : decode cX10_put 41 = .ok (.aload_n 0, 1) := by decide +kernel
theorem dX10_put_42 : decode cX10_put 42 = .ok (.iconst 0, 1) := by decide +kernel
theorem dX10_put_43 : decode cX10_put 43 = .ok (.sipush 7820, 3) := by decide +kernel
theorem dX10_put_46 : decode cX10_put 46 = .ok (.invokevirtual 193, 3) := by decide +kernel
theorem dX10_put_49 : decode cX10_put 49 = .ok (.aload_n 0, 1) := by decide +kernel
theorem dX10_put_50 : decode cX10_put 50 = .ok (.iload_n 1, 1) := by decide +kernel
theorem dX10_put_51 : decode cX10_put 51 = .ok (.iload_n 2, 1) := by decide +kernel
theorem dX10_put_52 : decode cX10_put 52 = .ok (.iload_n 3, 1) := by decide +kernel
theorem dX10_put_53 : decode cX10_put 53 = .ok (.invokevirtual 473, 3) := by decide +kernel
theorem dX10_put_56 : decode cX10_put 56 = .ok (.aload_n 0, 1) := by decide +kernel
theorem dX10_put_57 : decode cX10_put 57 = .ok (.iload 5, 2) := by decide +kernel
theorem dX10_put_59 : decode cX10_put 59 = .ok (.invokevirtual 476, 3) := by decide +kernel
theorem dX10_put_62 : decode cX10_put 62 = .ok (.ireturn, 1) := by decide +kernel
def mwX10_putm : List Cond := .code yX10_put cX10_put 6 (some .int) :: (([.methodLink RX10 470 yX10_wrongPut, .instanceMethod yX10_wrongPut, .selects RX10 yX10_wrongPut yX10_wrongPut, .initialized RX10, .methodLink RX10 399 yX10_at, .instanceMethod yX10_at, .selects RX10 yX10_at yX10_at, .methodLink RX10 193 yX10_copies, .instanceMethod yX10_copies, .selects RX10 yX10_copies yX10_copies, .methodLink RX10 473 yX10_sets, .instanceMethod yX10_sets, .selects RX10 yX10_sets yX10_sets, .methodLink RX10 476 yX10_acted_, .instanceMethod yX10_acted_, .selects RX10 yX10_acted_ yX10_acted_, .methodLink RX10 204 yX10_refuse, .instanceMethod yX10_refuse, .selects RX10 yX10_refuse yX10_refuse] : List Cond) ++ (mwX10_wrongPutm ++ (mwX10_atm ++ (mwX10_copiesm ++ (mwX10_setsm ++ (mwX10_acted_m ++ (mwX10_refusem)))))))
set_option maxRecDepth 100000 in
theorem gd_mwX10_wrongPutm : mwX10_wrongPutm.all goodWord = true := by decide +kernel
set_option maxRecDepth 100000 in
theorem gd_mwX10_setsm : mwX10_setsm.all goodWord = true := by decide +kernel
set_option maxRecDepth 100000 in
theorem gd_mwX10_acted_m : mwX10_acted_m.all goodWord = true := by decide +kernel
set_option maxRecDepth 20000 in
theorem mg_X10_putm_X10_wrongPut_470 : GoodIn mwX10_putm (wsV RX10 470 RX10 yX10_wrongPut mwX10_wrongPutm) := gi_app (A := [.methodLink RX10 470 yX10_wrongPut, .instanceMethod yX10_wrongPut, .selects RX10 yX10_wrongPut yX10_wrongPut, .initialized RX10]) (goodIn_r _ [1, 2, 3, 4] (by decide +kernel) (by decide +kernel)) (gi_sub gd_mwX10_wrongPutm (fun w h => List.mem_cons_of_mem _ (List.mem_append_right _ (List.mem_append_left _ h))))
set_option maxRecDepth 20000 in
theorem mg_X10_putm_X10_at_399 : GoodIn mwX10_putm (wsV RX10 399 RX10 yX10_at mwX10_atm) := gi_app (A := [.methodLink RX10 399 yX10_at, .instanceMethod yX10_at, .selects RX10 yX10_at yX10_at, .initialized RX10]) (goodIn_r _ [5, 6, 7, 4] (by decide +kernel) (by decide +kernel)) (gi_sub gd_mwX10_atm (fun w h => List.mem_cons_of_mem _ (List.mem_append_right _ (List.mem_append_right _ (List.mem_append_left _ h)))))
set_option maxRecDepth 20000 in
theorem mg_X10_putm_X10_copies_193 : GoodIn mwX10_putm (wsV RX10 193 RX10 yX10_copies mwX10_copiesm) := gi_app (A := [.methodLink RX10 193 yX10_copies, .instanceMethod yX10_copies, .selects RX10 yX10_copies yX10_copies, .initialized RX10]) (goodIn_r _ [8, 9, 10, 4] (by decide +kernel) (by decide +kernel)) (gi_sub gd_mwX10_copiesm (fun w h => List.mem_cons_of_mem _ (List.mem_append_right _ (List.mem_append_right _ (List.mem_append_right _ (List.mem_append_left _ h))))))
set_option maxRecDepth 20000 in
theorem mg_X10_putm_X10_sets_473 : GoodIn mwX10_putm (wsV RX10 473 RX10 yX10_sets mwX10_setsm) := gi_app (A := [.methodLink RX10 473 yX10_sets, .instanceMethod yX10_sets, .selects RX10 yX10_sets yX10_sets, .initialized RX10]) (goodIn_r _ [11, 12, 13, 4] (by decide +kernel) (by decide +kernel)) (gi_sub gd_mwX10_setsm (fun w h => List.mem_cons_of_mem _ (List.mem_append_right _ (List.mem_append_right _ (List.mem_append_right _ (List.mem_append_right _ (List.mem_append_left _ h)))))))
set_option maxRecDepth 20000 in
theorem mg_X10_putm_X10_acted__476 : GoodIn mwX10_putm (wsV RX10 476 RX10 yX10_acted_ mwX10_acted_m) := gi_app (A := [.methodLink RX10 476 yX10_acted_, .instanceMethod yX10_acted_, .selects RX10 yX10_acted_ yX10_acted_, .initialized RX10]) (goodIn_r _ [14, 15, 16, 4] (by decide +kernel) (by decide +kernel)) (gi_sub gd_mwX10_acted_m (fun w h => List.mem_cons_of_mem _ (List.mem_append_right _ (List.mem_append_right _ (List.mem_append_right _ (List.mem_append_right _ (List.mem_append_right _ (List.mem_append_left _ h))))))))
set_option maxRecDepth 20000 in
theorem mg_X10_putm_X10_refuse_204 : GoodIn mwX10_putm (wsV RX10 204 RX10 yX10_refuse mwX10_refusem) := gi_app (A := [.methodLink RX10 204 yX10_refuse, .instanceMethod yX10_refuse, .selects RX10 yX10_refuse yX10_refuse, .initialized RX10]) (goodIn_r _ [17, 18, 19, 4] (by decide +kernel) (by decide +kernel)) (gi_sub gd_mwX10_refusem (fun w h => List.mem_cons_of_mem _ (List.mem_append_right _ (List.mem_append_right _ (List.mem_append_right _ (List.mem_append_right _ (List.mem_append_right _ (List.mem_append_right _ (h)))))))))
set_option maxHeartbeats 4000000 in
set_option maxRecDepth 100000 in
theorem m_put (l : Launch) (dC : Nat → ClassId) (dI : Nat → Nat → Nat) (ad : Nat → Nat) (kc : Nat → ClassId) (x0 x1 x2 x3 x4 x5 x6 x7 x8 x9 x10 x11 x12 x13 x14 x15 x16 x17 x18 x19 x20 x21 : Int32) (f0 f1 f2 f3 f4 f5 f6 f7 f8 f9 f10 f11 f12 f13 f14 f15 f16 f17 f18 f19 f20 f21 : Nat → Int32) (fL : Nat → Nat → Int64) (fN : Nat → Nat → Int32) (fP : Nat → Nat → Nat) (fM : Nat → Nat → Int32) (fO : Nat → Nat → Int32) (sz : Nat) (i1 i2 i3 : Int32) (q0 : mI x1.toInt x2.toInt x3.toInt f0 fP) : Met l yX10_put mwX10_putm ({ frames := 3, cells := 0, slots := 0, locals := 180 }) (va_Pc [.ref (ad 0), .int i1, .int i2, .int i3] (fun U => U.heap.size = sz ∧ va_P (dC, dI) vwCl (mW ad kc x0 x1 x2 x3 x4 x5 x6 x7 x8 x9 x10 x11 x12 x13 x14 x15 x16 x17 x18 x19 x20 x21 f0 f1 f2 f3 f4 f5 f6 f7 f8 f9 f10 f11 f12 f13 f14 f15 f16 f17 f18 f19 f20 f21 fL fN fP fM fO) U.heap ∧ va_K (dC, dI) vwCl (mT kc) U ∧ va_D (fun _ => True) (mW ad kc x0 x1 x2 x3 x4 x5 x6 x7 x8 x9 x10 x11 x12 x13 x14 x15 x16 x17 x18 x19 x20 x21 f0 f1 f2 f3 f4 f5 f6 f7 f8 f9 f10 f11 f12 f13 f14 f15 f16 f17 f18 f19 f20 f21 fL fN fP fM fO))) (va_Qi (fun (o9 u9 : Int32) => o9 = u9) (fun (o9 : Int32) t => ∃ (y0 y1 : Int32) (g0 : Nat → Int32), (mI y1.toInt x2.toInt x3.toInt g0 fP) ∧ va_P (dC, dI) vwCl (mW ad kc y0 y1 x2 x3 x4 x5 x6 x7 x8 x9 x10 x11 x12 x13 x14 x15 x16 x17 x18 x19 x20 x21 g0 f1 f2 f3 f4 f5 f6 f7 f8 f9 f10 f11 f12 f13 f14 f15 f16 f17 f18 f19 f20 f21 fL fN fP fM fO) t.heap ∧ va_K (dC, dI) vwCl (mT kc) t ∧ va_D (va_A (mW ad kc x0 x1 x2 x3 x4 x5 x6 x7 x8 x9 x10 x11 x12 x13 x14 x15 x16 x17 x18 x19 x20 x21 f0 f1 f2 f3 f4 f5 f6 f7 f8 f9 f10 f11 f12 f13 f14 f15 f16 f17 f18 f19 f20 f21 fL fN fP fM fO) sz) (mW ad kc y0 y1 x2 x3 x4 x5 x6 x7 x8 x9 x10 x11 x12 x13 x14 x15 x16 x17 x18 x19 x20 x21 g0 f1 f2 f3 f4 f5 f6 f7 f8 f9 f10 f11 f12 f13 f14 f15 f16 f17 f18 f19 f20 f21 fL fN fP fM fO)) (va_A (mW ad kc x0 x1 x2 x3 x4 x5 x6 x7 x8 x9 x10 x11 x12 x13 x14 x15 x16 x17 x18 x19 x20 x21 f0 f1 f2 f3 f4 f5 f6 f7 f8 f9 f10 f11 f12 f13 f14 f15 f16 f17 f18 f19 f20 f21 fL fN fP fM fO) sz)) 0 0 (va_A (mW ad kc x0 x1 x2 x3 x4 x5 x6 x7 x8 x9 x10 x11 x12 x13 x14 x15 x16 x17 x18 x19 x20 x21 f0 f1 f2 f3 f4 f5 f6 f7 f8 f9 f10 f11 f12 f13 f14 f15 f16 f17 f18 f19 f20 f21 fL fN fP fM fO) sz) := by
  refine Met.ofW (cc := cX10_put) (maxL := 6) (ret := (some .int)) (by decide +kernel) rfl ?_
  intro p e s m args below meth c s₁ B hml hv
  obtain ⟨rfl, hsz, hP, hK, hD0⟩ := hv
  have hx := B.exec
  have hb := B.bytes
  have hr := B.returns
  have hts := atoms_spec (ws := mwX10_putm) B.pre
  have hown : s.vm.findClass RX10 = some m.cls := findClass_of_methodNamed B.named
  have hlocks := B.notSynchronized
  subst hsz
  have hD := hD0.self (sz := s.heap.size)
  generalize hAe : va_A (mW ad kc x0 x1 x2 x3 x4 x5 x6 x7 x8 x9 x10 x11 x12 x13 x14 x15 x16 x17 x18 x19 x20 x21 f0 f1 f2 f3 f4 f5 f6 f7 f8 f9 f10 f11 f12 f13 f14 f15 f16 f17 f18 f19 f20 f21 fL fN fP fM fO) s.heap.size = A at hD ⊢
  have hA : ∀ q : Nat, s.heap.size ≤ q → A q := fun q h => by rw [← hAe]; exact Or.inr h
  have hP : va_P (dC, dI) vwCl (mW ad kc x0 x1 x2 x3 x4 x5 x6 x7 x8 x9 x10 x11 x12 x13 x14 x15 x16 x17 x18 x19 x20 x21 f0 f1 f2 f3 f4 f5 f6 f7 f8 f9 f10 f11 f12 f13 f14 f15 f16 f17 f18 f19 f20 f21 fL fN fP fM fO) s.heap := hP
  have hD : va_D A (mW ad kc x0 x1 x2 x3 x4 x5 x6 x7 x8 x9 x10 x11 x12 x13 x14 x15 x16 x17 x18 x19 x20 x21 f0 f1 f2 f3 f4 f5 f6 f7 f8 f9 f10 f11 f12 f13 f14 f15 f16 f17 f18 f19 f20 f21 fL fN fP fM fO) := hD
  have hK : va_K (dC, dI) vwCl (mT kc) s := hK
  generalize hH : s.heap = H at hP ⊢
  have hS : va_S A s.heap H [] := by rw [← hH]; exact va_S.rf
  have hl := lv_entry ([.ref (ad 0), .int i1, .int i2, .int i3]) (n := 6) (Nat.le_of_ble_eq_true rfl)
  rw [lg_entry_eq]
  generalize (lg_sl ([.ref (ad 0), .int i1, .int i2, .int i3]) ++ List.replicate (6 - (lg_sl ([.ref (ad 0), .int i1, .int i2, .int i3])).length) Slot.unset).toArray = ls at hl ⊢
  have hl : lv_has ls 6 [(0, .ref (ad 0)), (1, .int i1), (2, .int i2), (3, .int i3)] := hl
  have rg_i1 := i_rng i1
  have rg_i2 := i_rng i2
  have rg_i3 := i_rng i3
  have hd := q0.d
  have hpi := q0.p
  have hq1 := q0.1
  have hq2 := q0.2.1
  have hq3 := q0.2.2.1
  have hd10 := hd.n0
  have hp8 := hd.P0
  refine lv_aload_n hx hb dX10_put_0 rfl (lv_at hl 0 rfl) ?_
  refine lv_iload_n hx hb dX10_put_1 rfl (lv_at hl 1 rfl) ?_
  refine lv_iload_n hx hb dX10_put_2 rfl (lv_at hl 2 rfl) ?_
  refine lv_iload_n hx hb dX10_put_3 rfl (lv_at hl 3 rfl) ?_
  refine vp_callSi (W.runV (As := [.int i1, .int i2, .int i3]) (rest := []) ⟨hx, hb, hml, hown, hts⟩ (m_wrongPut l dC dI ad kc x0 x1 x2 x3 x4 x5 x6 x7 x8 x9 x10 x11 x12 x13 x14 x15 x16 x17 x18 x19 x20 x21 f0 f1 f2 f3 f4 f5 f6 f7 f8 f9 f10 f11 f12 f13 f14 f15 f16 f17 f18 f19 f20 f21 fL fN fP fM fO i1 i2 i3 (by first | omega | assumption | decide | (have l0 := Int32.toInt_zero; omega))) (cwV 3 hts mg_X10_putm_X10_wrongPut_470 rfl rfl rfl (by decide +kernel) ⟨Nat.le_of_ble_eq_true rfl, Nat.le_of_ble_eq_true rfl⟩) ⟨fun a U g mk q => by obtain ⟨q0, qP, qK⟩ := q; exact ⟨q0, qP, va_K.moved (u := U) (U := U.calling g mk a) (Vm.Alike.refl U.vm) qK⟩, va_recv hK hP (ci := 10) (q0 := 0) rfl rfl, fun U hU hW => ⟨rfl, by rw [hU]; exact hP, va_K.moved hW.alike hK⟩⟩ rfl rfl hl.1 rfl (lv_room (Nat.le_of_ble_eq_true rfl)) dX10_put_4 ⟨Nat.le_of_ble_eq_true rfl, Nat.le_of_ble_eq_true rfl⟩) (fun r_1 hr_1 => ?_)
  have rg_r_1 := i_rng r_1
  refine lv_istore (lv' := [(4, .int r_1), (0, .ref (ad 0)), (1, .int i1), (2, .int i2), (3, .int i3)]) hx hb dX10_put_7 hl (by decide) rfl (fun ls hl => ?_)
  refine lv_iload hx hb dX10_put_9 (lv_at hl 0 rfl) ?_
  refine lv_if_le (tgt := 21) hx hb dX10_put_11 (by decide) (fun k_2 => ?_) (fun k_2 => ?_)
  · have tk_2 := c_le (a := r_1.toInt) (b := 0) rfl (by decide) k_2
    refine lv_aload_n hx hb dX10_put_21 rfl (lv_at hl 1 rfl) ?_
    refine lv_iload_n hx hb dX10_put_22 rfl (lv_at hl 2 rfl) ?_
    refine lv_iload_n hx hb dX10_put_23 rfl (lv_at hl 3 rfl) ?_
    have hsz := hd.sz (d := i1.toInt) (by omega) (by omega)
    refine vp_callSi (W.runV (As := [.int i1, .int i2]) (rest := []) ⟨hx, hb, hml, hown, hts⟩ (m_at l dC dI ad kc x0 x1 x2 x3 x4 x5 x6 x7 x8 x9 x10 x11 x12 x13 x14 x15 x16 x17 x18 x19 x20 x21 f0 f1 f2 f3 f4 f5 f6 f7 f8 f9 f10 f11 f12 f13 f14 f15 f16 f17 f18 f19 f20 f21 fL fN fP fM fO i1 i2 (by first | omega | assumption | decide | (have l0 := Int32.toInt_zero; omega)) (by first | omega | assumption | decide | (have l0 := Int32.toInt_zero; omega)) (by first | omega | assumption | decide | (have l0 := Int32.toInt_zero; omega)) (by first | omega | assumption | decide | (have l0 := Int32.toInt_zero; omega))) (cwV 2 hts mg_X10_putm_X10_at_399 rfl rfl rfl (by decide +kernel) ⟨Nat.le_of_ble_eq_true rfl, Nat.le_of_ble_eq_true rfl⟩) ⟨fun a U g mk q => by obtain ⟨q0, qP, qK⟩ := q; exact ⟨q0, qP, va_K.moved (u := U) (U := U.calling g mk a) (Vm.Alike.refl U.vm) qK⟩, va_recv hK hP (ci := 10) (q0 := 0) rfl rfl, fun U hU hW => ⟨rfl, by rw [hU]; exact hP, va_K.moved hW.alike hK⟩⟩ rfl rfl hl.1 rfl (lv_room (Nat.le_of_ble_eq_true rfl)) dX10_put_24 ⟨Nat.le_of_ble_eq_true rfl, Nat.le_of_ble_eq_true rfl⟩) (fun r_3 hr_3 => ?_)
    have rg_r_3 := i_rng r_3
    have hlr_3 := OKd.lt hd (d := i1.toInt) (k := i2.toInt) (by omega) (by omega) (by omega) (by omega)
    refine lv_istore (lv' := [(5, .int r_3), (4, .int r_1), (0, .ref (ad 0)), (1, .int i1), (2, .int i2), (3, .int i3)]) hx hb dX10_put_27 hl (by decide) rfl (fun ls hl => ?_)
    refine lv_iload hx hb dX10_put_29 (lv_at hl 0 rfl) ?_
    refine lv_iload_n hx hb dX10_put_31 rfl (lv_at hl 5 rfl) ?_
    refine lv_icmp_ne (tgt := 41) hx hb dX10_put_32 (by decide) (fun k_4 => ?_) (fun k_4 => ?_)
    · have tk_4 := c_ne (a := r_3.toInt) (b := i3.toInt) rfl rfl k_4
      refine lv_aload_n hx hb dX10_put_41 rfl (lv_at hl 2 rfl) ?_
      refine lv_iconst (v := 0) hx hb dX10_put_42 (by decide) ?_
      refine lv_sipush (v := 7820) hx hb dX10_put_43 (by decide) ?_
      have lit_4 : (0 : Int32).toInt = 0 := by decide
      have lit_5 : (7820 : Int32).toInt = 7820 := by decide
      have hFc := m_free hD hS hA
      refine va_callv (va_runV (As := [.int 0, .int 7820]) (rest := []) ⟨hx, hb, hml, hown, hts⟩ (m_copies l dC dI ad kc x0 x1 x2 x3 x4 x5 x6 x7 x8 x9 x10 x11 x12 x13 x14 x15 x16 x17 x18 x19 x20 x21 f0 f1 f2 f3 f4 f5 f6 f7 f8 f9 f10 f11 f12 f13 f14 f15 f16 f17 f18 f19 f20 f21 fL fN fP fM fO H.size 0 7820 (by first | omega | assumption | decide | (have l0 := Int32.toInt_zero; omega)) (by first | omega | assumption | decide | (have l0 := Int32.toInt_zero; omega)) (by first | omega | assumption | decide | (have l0 := Int32.toInt_zero; omega)) (by first | omega | assumption | decide | (have l0 := Int32.toInt_zero; omega)) (by first | omega | assumption | decide | (have l0 := Int32.toInt_zero; omega))) (cwV 2 hts mg_X10_putm_X10_copies_193 rfl rfl rfl (by decide +kernel) ⟨Nat.le_of_ble_eq_true rfl, Nat.le_of_ble_eq_true rfl⟩) ⟨fun a U g mk q => by obtain ⟨q0, q1, qP, qK, qD⟩ := q; exact ⟨q0, q1, qP, va_K.moved (u := U) (U := U.calling g mk a) (Vm.Alike.refl U.vm) qK, qD⟩, va_recv hK hP (ci := 10) (q0 := 0) rfl rfl, fun U hU hW => ⟨rfl, by rw [hU], by rw [hU]; exact hP, va_K.moved hW.alike hK, hD.weaken (fun _ _ _ _ => trivial)⟩⟩ rfl rfl hl.1 rfl (lv_room (Nat.le_of_ble_eq_true rfl)) dX10_put_46 ⟨Nat.le_of_ble_eq_true rfl, Nat.le_of_ble_eq_true rfl⟩) hS (fun q _ h => hFc q h) hFc (fun u t H1 locs ht hvm hw hB hz1 hk1 hS => ?_)
      obtain ⟨f_8, hr_7_0, hP, hK1, hD1⟩ := hB
      rw [ht] at hP
      have hD := hD1.weaken (fun k q _ h => hFc q.1 h)
      clear hz1 hk1 hFc hD1 hK1 hvm
      generalize H1 = H at hP hS ⊢
      have hP : va_P (dC, dI) vwCl (mW ad kc x0 x1 x2 x3 x4 x5 x6 x7 x8 x9 x10 x11 x12 x13 x14 x15 x16 x17 x18 x19 x20 x21 f_8 f1 f2 f3 f4 f5 f6 f7 f8 f9 f10 f11 f12 f13 f14 f15 f16 f17 f18 f19 f20 f21 fL fN fP fM fO) H := hP
      have hD : va_D A (mW ad kc x0 x1 x2 x3 x4 x5 x6 x7 x8 x9 x10 x11 x12 x13 x14 x15 x16 x17 x18 x19 x20 x21 f_8 f1 f2 f3 f4 f5 f6 f7 f8 f9 f10 f11 f12 f13 f14 f15 f16 f17 f18 f19 f20 f21 fL fN fP fM fO) := hD
      have hc9 : CP f0 f_8 0 7820 := by have h9 := hr_7_0; rw [(show (0 : Int32).toInt = 0 by decide), (show (7820 : Int32).toInt = 7820 by decide)] at h9; exact h9
      have hA9 := q0.aside hc9
      have hd9 := hA9.1
      have hm9 := hA9.2
      have hsm : ∀ z : Int, 0 ≤ z → z < 7820 → vI f_8 z = vI f0 z := fun z h1 h2 => by rw [hc9 z h1, if_neg (by omega)]
      refine lv_aload_n hx hb dX10_put_49 rfl (lv_at hl 2 rfl) ?_
      refine lv_iload_n hx hb dX10_put_50 rfl (lv_at hl 3 rfl) ?_
      refine lv_iload_n hx hb dX10_put_51 rfl (lv_at hl 4 rfl) ?_
      refine lv_iload_n hx hb dX10_put_52 rfl (lv_at hl 5 rfl) ?_
      have hsz := hd.sz (d := i1.toInt) (by omega) (by omega)
      have hFc := m_free hD hS hA
      refine va_callv (va_runV (As := [.int i1, .int i2, .int i3]) (rest := []) ⟨hx, hb, hml, hown, hts⟩ (m_sets l dC dI ad kc x0 x1 x2 x3 x4 x5 x6 x7 x8 x9 x10 x11 x12 x13 x14 x15 x16 x17 x18 x19 x20 x21 f_8 f1 f2 f3 f4 f5 f6 f7 f8 f9 f10 f11 f12 f13 f14 f15 f16 f17 f18 f19 f20 f21 fL fN fP fM fO H.size i1 i2 i3 (by first | omega | assumption | decide | (have l0 := Int32.toInt_zero; omega)) (by first | omega | assumption | decide | (have l0 := Int32.toInt_zero; omega))) (cwV 3 hts mg_X10_putm_X10_sets_473 rfl rfl rfl (by decide +kernel) ⟨Nat.le_of_ble_eq_true rfl, Nat.le_of_ble_eq_true rfl⟩) ⟨fun a U g mk q => by obtain ⟨q0, q1, qP, qK, qD⟩ := q; exact ⟨q0, q1, qP, va_K.moved (u := U) (U := U.calling g mk a) (Vm.Alike.refl U.vm) qK, qD⟩, va_recv hK hP (ci := 10) (q0 := 0) rfl rfl, fun U hU hW => ⟨rfl, by rw [hU], by rw [hU]; exact hP, va_K.moved hW.alike hK, hD.weaken (fun _ _ _ _ => trivial)⟩⟩ rfl rfl hl.1 rfl (lv_room (Nat.le_of_ble_eq_true rfl)) dX10_put_53 ⟨Nat.le_of_ble_eq_true rfl, Nat.le_of_ble_eq_true rfl⟩) hS (fun q _ h => hFc q h) hFc (fun u t H1 locs ht hvm hw hB hz1 hk1 hS => ?_)
      obtain ⟨f_10, hr_9_0, hP, hK1, hD1⟩ := hB
      rw [ht] at hP
      have hD := hD1.weaken (fun k q _ h => hFc q.1 h)
      clear hz1 hk1 hFc hD1 hK1 hvm
      generalize H1 = H at hP hS ⊢
      have hP : va_P (dC, dI) vwCl (mW ad kc x0 x1 x2 x3 x4 x5 x6 x7 x8 x9 x10 x11 x12 x13 x14 x15 x16 x17 x18 x19 x20 x21 f_10 f1 f2 f3 f4 f5 f6 f7 f8 f9 f10 f11 f12 f13 f14 f15 f16 f17 f18 f19 f20 f21 fL fN fP fM fO) H := hP
      have hD : va_D A (mW ad kc x0 x1 x2 x3 x4 x5 x6 x7 x8 x9 x10 x11 x12 x13 x14 x15 x16 x17 x18 x19 x20 x21 f_10 f1 f2 f3 f4 f5 f6 f7 f8 f9 f10 f11 f12 f13 f14 f15 f16 f17 f18 f19 f20 f21 fL fN fP fM fO) := hD
      have hd8 := hd9.put (by omega) (by omega) (by omega) (by omega) (by omega) (by omega) hr_9_0
      have hm8 := hm9.far (fun z hz => hr_9_0.2 z (by omega) (by omega))
      refine lv_aload_n hx hb dX10_put_56 rfl (lv_at hl 2 rfl) ?_
      refine lv_iload hx hb dX10_put_57 (lv_at hl 0 rfl) ?_
      have hFc := m_free hD hS hA
      refine va_calli (va_runV (As := [.int r_3]) (rest := []) ⟨hx, hb, hml, hown, hts⟩ (m_actedV l dC dI ad kc x0 x1 x2 x3 x4 x5 x6 x7 x8 x9 x10 x11 x12 x13 x14 x15 x16 x17 x18 x19 x20 x21 f_10 f1 f2 f3 f4 f5 f6 f7 f8 f9 f10 f11 f12 f13 f14 f15 f16 f17 f18 f19 f20 f21 fL fN fP fM fO H.size r_3 (by first | omega | assumption | decide | (have l0 := Int32.toInt_zero; omega)) (by first | omega | assumption | decide | (have l0 := Int32.toInt_zero; omega)) hd8 hm8) (cwV 1 hts mg_X10_putm_X10_acted__476 rfl rfl rfl (by decide +kernel) ⟨Nat.le_of_ble_eq_true rfl, Nat.le_of_ble_eq_true rfl⟩) ⟨fun a U g mk q => by obtain ⟨q0, q1, qP, qK, qD⟩ := q; exact ⟨q0, q1, qP, va_K.moved (u := U) (U := U.calling g mk a) (Vm.Alike.refl U.vm) qK, qD⟩, va_recv hK hP (ci := 10) (q0 := 0) rfl rfl, fun U hU hW => ⟨rfl, by rw [hU], by rw [hU]; exact hP, va_K.moved hW.alike hK, hD.weaken (fun _ _ _ _ => trivial)⟩⟩ rfl rfl hl.1 rfl (lv_room (Nat.le_of_ble_eq_true rfl)) dX10_put_59 ⟨Nat.le_of_ble_eq_true rfl, Nat.le_of_ble_eq_true rfl⟩) hS (fun q _ h => hFc q h) hFc (fun r_11 u t H1 locs ht hvm hw hB hz1 hk1 hS => ?_)
      subst hw
      obtain ⟨x_12, x_13, f_14, hr_11_0, hr_11_1, hr_11_2, hP, hK1, hD1⟩ := hB
      rw [ht] at hP
      have hD := hD1.weaken (fun k q _ h => hFc q.1 h)
      clear hz1 hk1 hFc hD1 hK1 hvm
      generalize H1 = H at hP hS ⊢
      have rg_x_12 := i_rng x_12
      have rg_x_13 := i_rng x_13
      have rg_r_11 := i_rng r_11
      have hP : va_P (dC, dI) vwCl (mW ad kc x_12 x_13 x2 x3 x4 x5 x6 x7 x8 x9 x10 x11 x12 x13 x14 x15 x16 x17 x18 x19 x20 x21 f_14 f1 f2 f3 f4 f5 f6 f7 f8 f9 f10 f11 f12 f13 f14 f15 f16 f17 f18 f19 f20 f21 fL fN fP fM fO) H := hP
      have hD : va_D A (mW ad kc x_12 x_13 x2 x3 x4 x5 x6 x7 x8 x9 x10 x11 x12 x13 x14 x15 x16 x17 x18 x19 x20 x21 f_14 f1 f2 f3 f4 f5 f6 f7 f8 f9 f10 f11 f12 f13 f14 f15 f16 f17 f18 f19 f20 f21 fL fN fP fM fO) := hD
      exact W.iret hx hb hr (fun t ht hW => ⟨⟨_, _, rfl, rfl, x_12, x_13, f_14, (mC.mI hr_11_1 hr_11_0 (by have h9 := hr_11_2; omega) hq2 hq3 hpi), by rw [ht]; exact hP, va_K.moved hW.alike hK, hD⟩, hS.F ht⟩) hS.2.2 dX10_put_62
    · have tk_4 := c_eq (a := r_3.toInt) (b := i3.toInt) rfl rfl k_4
      refine lv_aload_n hx hb dX10_put_35 rfl (lv_at hl 2 rfl) ?_
      refine lv_iconst (v := 4) hx hb dX10_put_36 (by decide) ?_
      have lit_14 : (4 : Int32).toInt = 4 := by decide
      have hFc := m_free hD hS hA
      refine va_calli (va_runV (As := [.int 4]) (rest := []) ⟨hx, hb, hml, hown, hts⟩ (m_refuse l dC dI ad kc x0 x1 x2 x3 x4 x5 x6 x7 x8 x9 x10 x11 x12 x13 x14 x15 x16 x17 x18 x19 x20 x21 f0 f1 f2 f3 f4 f5 f6 f7 f8 f9 f10 f11 f12 f13 f14 f15 f16 f17 f18 f19 f20 f21 fL fN fP fM fO H.size 4 ) (cwV 1 hts mg_X10_putm_X10_refuse_204 rfl rfl rfl (by decide +kernel) ⟨Nat.le_of_ble_eq_true rfl, Nat.le_of_ble_eq_true rfl⟩) ⟨fun a U g mk q => by obtain ⟨q0, q1, qP, qK, qD⟩ := q; exact ⟨q0, q1, qP, va_K.moved (u := U) (U := U.calling g mk a) (Vm.Alike.refl U.vm) qK, qD⟩, va_recv hK hP (ci := 10) (q0 := 0) rfl rfl, fun U hU hW => ⟨rfl, by rw [hU], by rw [hU]; exact hP, va_K.moved hW.alike hK, hD.weaken (fun _ _ _ _ => trivial)⟩⟩ rfl rfl hl.1 rfl (lv_room (Nat.le_of_ble_eq_true rfl)) dX10_put_37 ⟨Nat.le_of_ble_eq_true rfl, Nat.le_of_ble_eq_true rfl⟩) hS (fun q _ h => hFc q h) hFc (fun r_16 u t H1 locs ht hvm hw hB hz1 hk1 hS => ?_)
      subst hw
      obtain ⟨hr_16_0, hP, hK1, hD1⟩ := hB
      rw [ht] at hP
      have hD := hD1.weaken (fun k q _ h => hFc q.1 h)
      clear hz1 hk1 hFc hD1 hK1 hvm
      generalize H1 = H at hP hS ⊢
      have rg_r_16 := i_rng r_16
      have hP : va_P (dC, dI) vwCl (mW ad kc 4 x1 x2 x3 x4 x5 x6 x7 x8 x9 x10 x11 x12 x13 x14 x15 x16 x17 x18 x19 x20 x21 f0 f1 f2 f3 f4 f5 f6 f7 f8 f9 f10 f11 f12 f13 f14 f15 f16 f17 f18 f19 f20 f21 fL fN fP fM fO) H := hP
      have hD : va_D A (mW ad kc 4 x1 x2 x3 x4 x5 x6 x7 x8 x9 x10 x11 x12 x13 x14 x15 x16 x17 x18 x19 x20 x21 f0 f1 f2 f3 f4 f5 f6 f7 f8 f9 f10 f11 f12 f13 f14 f15 f16 f17 f18 f19 f20 f21 fL fN fP fM fO) := hD
      have lit_16 : (4 : Int32).toInt = 4 := by decide
      exact W.iret hx hb hr (fun t ht hW => ⟨⟨_, _, rfl, rfl, 4, x1, f0, q0, by rw [ht]; exact hP, va_K.moved hW.alike hK, hD⟩, hS.F ht⟩) hS.2.2 dX10_put_40
  · have tk_2 := c_nle (a := r_1.toInt) (b := 0) rfl (by decide) k_2
    refine lv_aload_n hx hb dX10_put_14 rfl (lv_at hl 1 rfl) ?_
    refine lv_iload hx hb dX10_put_15 (lv_at hl 0 rfl) ?_
    have hFc := m_free hD hS hA
    refine va_calli (va_runV (As := [.int r_1]) (rest := []) ⟨hx, hb, hml, hown, hts⟩ (m_refuse l dC dI ad kc x0 x1 x2 x3 x4 x5 x6 x7 x8 x9 x10 x11 x12 x13 x14 x15 x16 x17 x18 x19 x20 x21 f0 f1 f2 f3 f4 f5 f6 f7 f8 f9 f10 f11 f12 f13 f14 f15 f16 f17 f18 f19 f20 f21 fL fN fP fM fO H.size r_1 ) (cwV 1 hts mg_X10_putm_X10_refuse_204 rfl rfl rfl (by decide +kernel) ⟨Nat.le_of_ble_eq_true rfl, Nat.le_of_ble_eq_true rfl⟩) ⟨fun a U g mk q => by obtain ⟨q0, q1, qP, qK, qD⟩ := q; exact ⟨q0, q1, qP, va_K.moved (u := U) (U := U.calling g mk a) (Vm.Alike.refl U.vm) qK, qD⟩, va_recv hK hP (ci := 10) (q0 := 0) rfl rfl, fun U hU hW => ⟨rfl, by rw [hU], by rw [hU]; exact hP, va_K.moved hW.alike hK, hD.weaken (fun _ _ _ _ => trivial)⟩⟩ rfl rfl hl.1 rfl (lv_room (Nat.le_of_ble_eq_true rfl)) dX10_put_17 ⟨Nat.le_of_ble_eq_true rfl, Nat.le_of_ble_eq_true rfl⟩) hS (fun q _ h => hFc q h) hFc (fun r_18 u t H1 locs ht hvm hw hB hz1 hk1 hS => ?_)
    subst hw
    obtain ⟨hr_18_0, hP, hK1, hD1⟩ := hB
    rw [ht] at hP
    have hD := hD1.weaken (fun k q _ h => hFc q.1 h)
    clear hz1 hk1 hFc hD1 hK1 hvm
    generalize H1 = H at hP hS ⊢
    have rg_r_18 := i_rng r_18
    have hP : va_P (dC, dI) vwCl (mW ad kc r_1 x1 x2 x3 x4 x5 x6 x7 x8 x9 x10 x11 x12 x13 x14 x15 x16 x17 x18 x19 x20 x21 f0 f1 f2 f3 f4 f5 f6 f7 f8 f9 f10 f11 f12 f13 f14 f15 f16 f17 f18 f19 f20 f21 fL fN fP fM fO) H := hP
    have hD : va_D A (mW ad kc r_1 x1 x2 x3 x4 x5 x6 x7 x8 x9 x10 x11 x12 x13 x14 x15 x16 x17 x18 x19 x20 x21 f0 f1 f2 f3 f4 f5 f6 f7 f8 f9 f10 f11 f12 f13 f14 f15 f16 f17 f18 f19 f20 f21 fL fN fP fM fO) := hD
    exact W.iret hx hb hr (fun t ht hW => ⟨⟨_, _, rfl, rfl, r_1, x1, f0, q0, by rw [ht]; exact hP, va_K.moved hW.alike hK, hD⟩, hS.F ht⟩) hS.2.2 dX10_put_20
theorem dX10_let_0 : decode cX10_let 0 = .ok (.iload_n 2, 1) := by decide +kernel
theorem dX10_let_1 : decode cX10_let 1 = .ok (.ifCond .lt 13, 3) := by decide +kernel
theorem dX10_let_4 : decode cX10_let 4 = .ok (.iload_n 3, 1) := by decide +kernel
theorem dX10_let_5 : decode cX10_let 5 = .ok (.iconst 0, 1) := by decide +kernel
theorem dX10_let_6 : decode cX10_let 6 = .ok (.bipush 25, 2) := by decide +kernel
theorem dX10_let_8 : decode cX10_let 8 = .ok (.invokestatic 200, 3) := by decide +kernel
theorem dX10_let_11 : decode cX10_let 11 = .ok (.ifCond .ne 9, 3) := by decide +kernel
theorem dX10_let_14 : decode cX10_let 14 = .ok (.aload_n 0, 1) := by decide +kernel
theorem dX10_let_15 : decode cX10_let 15 = .ok (.iconst 1, 1) := by decide +kernel
theorem dX10_let_16 : decode cX10_let 16 = .ok (.invokevirtual 204, 3) := by decide +kernel
theorem dX10_let_19 : decode cX10_let 19 = .ok (.ireturn, 1) := by decide +kernel
theorem dX10_let_20 : decode cX10_let 20 = .ok (.aload_n 0, 1) := by decide +kernel
theorem dX10_let_21 : decode cX10_let 21 = .ok (.iload_n 1, 1) := by decide +kernel
theorem dX10_let_22 : decode cX10_let 22 = .ok (.invokevirtual 451, 3) := by decide +kernel
theorem dX10_let_25 : decode cX10_let 25 = .ok (.ifCond .ne 9, 3) := by decide +kernel
theorem dX10_let_28 : decode cX10_let 28 = .ok (.aload_n 0, 1) := by decide +kernel
theorem dX10_let_29 : decode cX10_let 29 = .ok (.iconst 2, 1) := by decide +kernel
theorem dX10_let_30 : decode cX10_let 30 = .ok (.invokevirtual 204, 3) := by decide +kernel
theorem dX10_let_33 : decode cX10_let 33 = .ok (.ireturn, 1) := by decide +kernel
theorem dX10_let_34 : decode cX10_let 34 = .ok (.iload_n 2, 1) := by decide +kernel
theorem dX10_let_35 : decode cX10_let 35 = .ok (.aload_n 0, 1) := by decide +kernel
theorem dX10_let_36 : decode cX10_let 36 = .ok (.iload_n 1, 1) := by decide +kernel
theorem dX10_let_37 : decode cX10_let 37 = .ok (.invokevirtual 396, 3) := by decide +kernel
theorem dX10_let_40 : decode cX10_let 40 = .ok (.if_icmp .le 9, 3) := by decide +kernel
theorem dX10_let_43 : decode cX10_let 43 = .ok (.aload_n 0, 1) := by decide +kernel
theorem dX10_let_44 : decode cX10_let 44 = .ok (.iconst 5, 1) := by decide +kernel
theorem dX10_let_45 : decode cX10_let 45 = .ok (.invokevirtual 204, 3) := by decide +kernel
theorem dX10_let_48 : decode cX10_let 48 = .ok (.ireturn, 1) := by decide +kernel
theorem dX10_let_49 : decode cX10_let 49 = .ok (.aload_n 0, 1) := by decide +kernel
theorem dX10_let_50 : decode cX10_let 50 = .ok (.iload_n 1, 1) := by decide +kernel
theorem dX10_let_51 : decode cX10_let 51 = .ok (.invokevirtual 396, 3) := by decide +kernel
theorem dX10_let_54 : decode cX10_let 54 = .ok (.bipush 60, 2) := by decide +kernel
theorem dX10_let_56 : decode cX10_let 56 = .ok (.if_icmp .ne 10, 3) := by decide +kernel
theorem dX10_let_59 : decode cX10_let 59 = .ok (.aload_n 0, 1) := by decide +kernel
theorem dX10_let_60 : decode cX10_let 60 = .ok (.bipush 6, 2) := by decide +kernel
theorem dX10_let_62 : decode cX10_let 62 = .ok (.invokevirtual 204, 3) := by decide +kernel
theorem dX10_let_65 : decode cX10_let 65 = .ok (.ireturn, 1) := by decide +kernel
theorem dX10_let_66 : decode cX10_let 66 = .ok (.aload_n 0, 1) := by decide +kernel
theorem dX10_let_67 : decode cX10_let 67 = .ok (.iconst 0, 1) := by decide +kernel
theorem dX10_let_68 : decode cX10_let 68 = .ok (.sipush 7820, 3) := by decide +kernel
theorem dX10_let_71 : decode cX10_let 71 = .ok (.invokevirtual 193, 3) := by decide +kernel
theorem dX10_let_74 : decode cX10_let 74 = .ok (.aload_n 0, 1) := by decide +kernel
theorem dX10_let_75 : decode cX10_let 75 = .ok (.iload_n 1, 1) := by decide +kernel
theorem dX10_let_76 : decode cX10_let 76 = .ok (.invokevirtual 396, 3) := by decide +kernel
theorem dX10_let_79 : decode cX10_let 79 = .ok (.istore 4, 2) := by decide +kernel
theorem dX10_let_81 : decode cX10_let 81 = .ok (.iload 4, 2) := by decide +kernel
theorem dX10_let_83 : decode cX10_let 83 = .ok (.iload_n 2, 1) := by decide +kernel
theorem dX10_let_84 : decode cX10_let 84 = .ok (.if_icmp .le 25, 3) := by decide +kernel
theorem dX10_let_87 : decode cX10_let 87 = .ok (.aload_n 0, 1) := by decide +kernel
theorem dX10_let_88 : decode cX10_let 88 = .ok (.iload_n 1, 1) := by decide +kernel
theorem dX10_let_89 : decode cX10_let 89 = .ok (.iload 4, 2) := by decide +kernel
theorem dX10_let_91 : decode cX10_let 91 = .ok (.aload_n 0, 1) := by decide +kernel
theorem dX10_let_92 : decode cX10_let 92 = .ok (.iload_n 1, 1) := by decide +kernel
theorem dX10_let_93 : decode cX10_let 93 = .ok (.iload 4, 2) := by decide +kernel
theorem dX10_let_95 : decode cX10_let 95 = .ok (.iconst 1, 1) := by decide +kernel
theorem dX10_let_96 : decode cX10_let 96 = .ok (.isub, 1) := by decide +kernel
theorem dX10_let_97 : decode cX10_let 97 = .ok (.invokevirtual 399, 3) := by decide +kernel
theorem dX10_let_100 : decode cX10_let 100 = .ok (.invokevirtual 473, 3) := by decide +kernel
theorem dX10_let_103 : decode cX10_let 103 = .ok (.iinc 4 (-1), 3) := by decide +kernel
theorem dX10_let_106 : decode cX10_let 106 = .ok (.goto (-25), 3) := by decide +kernel
theorem dX10_let_109 : decode cX10_let 109 = .ok (.aload_n 0, 1) := by decide +kernel
theorem dX10_let_110 : decode cX10_let 110 = .ok (.iload_n 1, 1) := by decide +kernel
theorem dX10_let_111 : decode cX10_let 111 = .ok (.iload_n 2, 1) := by decide +kernel
theorem dX10_let_112 : decode cX10_let 112 = .ok (.iload_n 3, 1) := by decide +kernel
theorem dX10_let_113 : decode cX10_let 113 = .ok (.invokevirtual 473, 3) := by decide +kernel
theorem dX10_let_116 : decode cX10_let 116 = .ok (.aload_n 0, 1) := by decide +kernel
theorem dX10_let_117 : decode cX10_let 117 = .ok (.getfield 8, 3) := by decide +kernel
theorem dX10_let_120 : decode cX10_let 120 = .ok (.iconst 1, 1) := by decide +kernel
theorem dX10_let_121 : decode cX10_let 121 = .ok (.iload_n 1, 1) := by decide +kernel
theorem dX10_let_122 : decode cX10_let 122 = .ok (.iadd, 1) := by decide +kernel
theorem dX10_let_123 : decode cX10_let 123 = .ok (.dup2, 1) := by decide +kernel
theorem dX10_let_124 : decode cX10_let 124 = .ok (.iaload, 1) := by decide +kernel
theorem dX10_let_125 : decode cX10_let 125 = .ok (.iconst 1, 1) := by decide +kernel
theorem dX10_let_126 : decode cX10_let 126 = .ok (.iadd, 1) := by decide +kernel
theorem dX10_let_127 : decode cX10_let 127 = .ok (.iastore, 1) := by decide +kernel
theorem dX10_let_128 : decode cX10_let 128 = .ok (.aload_n 0, 1) := by decide +kernel
theorem dX10_let_129 : decode cX10_let 129 = .ok (.aload_n 0, 1) := by decide +kernel
theorem dX10_let_130 : decode cX10_let 130 = .ok (.iload_n 1, 1) := by decide +kernel
theorem dX10_let_131 : decode cX10_let 131 = .ok (.invokevirtual 396, 3) := by decide +kernel
theorem dX10_let_134 : decode cX10_let 134 = .ok (.invokevirtual 476, 3) := by decide +kernel
theorem dX10_let_137 : decode cX10_let 137 = .ok (.ireturn, 1) := by decide +kernel
def mwX10_letm : List Cond := .code yX10_let cX10_let 5 (some .int) :: (([.methodLink RX10 204 yX10_refuse, .instanceMethod yX10_refuse, .selects RX10 yX10_refuse yX10_refuse, .initialized RX10, .methodLink RX10 200 yX10_isFrom, .static yX10_isFrom, .methodLink RX10 451 yX10_isDoc, .instanceMethod yX10_isDoc, .selects RX10 yX10_isDoc yX10_isDoc, .methodLink RX10 396 yX10_sizeOf, .instanceMethod yX10_sizeOf, .selects RX10 yX10_sizeOf yX10_sizeOf, .methodLink RX10 193 yX10_copies, .instanceMethod yX10_copies, .selects RX10 yX10_copies yX10_copies, .methodLink RX10 473 yX10_sets, .instanceMethod yX10_sets, .selects RX10 yX10_sets yX10_sets, .fieldLink RX10 8 "PatternGateModel" "all" "[I", .methodLink RX10 476 yX10_acted_, .instanceMethod yX10_acted_, .selects RX10 yX10_acted_ yX10_acted_, .methodLink RX10 399 yX10_at, .instanceMethod yX10_at, .selects RX10 yX10_at yX10_at] : List Cond) ++ (wsX100 ++ (mwX10_refusem ++ (mwX10_isFromm ++ (mwX10_isDocm ++ (mwX10_sizeOfm ++ (mwX10_copiesm ++ (mwX10_setsm ++ (mwX10_acted_m ++ (mwX10_atm))))))))))
theorem fin_X10_letm_X10 : ∀ w ∈ wsX100, w ∈ mwX10_letm := fun w h => List.mem_cons_of_mem _ (List.mem_append_right _ (List.mem_append_left _ h))
set_option maxRecDepth 20000 in
theorem mg_X10_letm_X10_refuse_204 : GoodIn mwX10_letm (wsV RX10 204 RX10 yX10_refuse mwX10_refusem) := gi_app (A := [.methodLink RX10 204 yX10_refuse, .instanceMethod yX10_refuse, .selects RX10 yX10_refuse yX10_refuse, .initialized RX10]) (goodIn_r _ [1, 2, 3, 4] (by decide +kernel) (by decide +kernel)) (gi_sub gd_mwX10_refusem (fun w h => List.mem_cons_of_mem _ (List.mem_append_right _ (List.mem_append_right _ (List.mem_append_left _ h)))))
set_option maxRecDepth 20000 in
theorem mg_X10_letm_X10_isFrom_200 : GoodIn mwX10_letm (va_wsS RX10 200 yX10_isFrom mwX10_isFromm) := gi_app (A := [.methodLink RX10 200 yX10_isFrom, .static yX10_isFrom, .initialized RX10]) (goodIn_r _ [5, 6, 4] (by decide +kernel) (by decide +kernel)) (gi_sub gd_mwX10_isFromm (fun w h => List.mem_cons_of_mem _ (List.mem_append_right _ (List.mem_append_right _ (List.mem_append_right _ (List.mem_append_left _ h))))))
set_option maxRecDepth 20000 in
theorem mg_X10_letm_X10_isDoc_451 : GoodIn mwX10_letm (wsV RX10 451 RX10 yX10_isDoc mwX10_isDocm) := gi_app (A := [.methodLink RX10 451 yX10_isDoc, .instanceMethod yX10_isDoc, .selects RX10 yX10_isDoc yX10_isDoc, .initialized RX10]) (goodIn_r _ [7, 8, 9, 4] (by decide +kernel) (by decide +kernel)) (gi_sub gd_mwX10_isDocm (fun w h => List.mem_cons_of_mem _ (List.mem_append_right _ (List.mem_append_right _ (List.mem_append_right _ (List.mem_append_right _ (List.mem_append_left _ h)))))))
set_option maxRecDepth 20000 in
theorem mg_X10_letm_X10_sizeOf_396 : GoodIn mwX10_letm (wsV RX10 396 RX10 yX10_sizeOf mwX10_sizeOfm) := gi_app (A := [.methodLink RX10 396 yX10_sizeOf, .instanceMethod yX10_sizeOf, .selects RX10 yX10_sizeOf yX10_sizeOf, .initialized RX10]) (goodIn_r _ [10, 11, 12, 4] (by decide +kernel) (by decide +kernel)) (gi_sub gd_mwX10_sizeOfm (fun w h => List.mem_cons_of_mem _ (List.mem_append_right _ (List.mem_append_right _ (List.mem_append_right _ (List.mem_append_right _ (List.mem_append_right _ (List.mem_append_left _ h))))))))
set_option maxRecDepth 20000 in
theorem mg_X10_letm_X10_copies_193 : GoodIn mwX10_letm (wsV RX10 193 RX10 yX10_copies mwX10_copiesm) := gi_app (A := [.methodLink RX10 193 yX10_copies, .instanceMethod yX10_copies, .selects RX10 yX10_copies yX10_copies, .initialized RX10]) (goodIn_r _ [13, 14, 15, 4] (by decide +kernel) (by decide +kernel)) (gi_sub gd_mwX10_copiesm (fun w h => List.mem_cons_of_mem _ (List.mem_append_right _ (List.mem_append_right _ (List.mem_append_right _ (List.mem_append_right _ (List.mem_append_right _ (List.mem_append_right _ (List.mem_append_left _ h)))))))))
set_option maxRecDepth 20000 in
theorem mg_X10_letm_X10_sets_473 : GoodIn mwX10_letm (wsV RX10 473 RX10 yX10_sets mwX10_setsm) := gi_app (A := [.methodLink RX10 473 yX10_sets, .instanceMethod yX10_sets, .selects RX10 yX10_sets yX10_sets, .initialized RX10]) (goodIn_r _ [16, 17, 18, 4] (by decide +kernel) (by decide +kernel)) (gi_sub gd_mwX10_setsm (fun w h => List.mem_cons_of_mem _ (List.mem_append_right _ (List.mem_append_right _ (List.mem_append_right _ (List.mem_append_right _ (List.mem_append_right _ (List.mem_append_right _ (List.mem_append_right _ (List.mem_append_left _ h))))))))))
set_option maxRecDepth 20000 in
theorem mg_X10_letm_X10_acted__476 : GoodIn mwX10_letm (wsV RX10 476 RX10 yX10_acted_ mwX10_acted_m) := gi_app (A := [.methodLink RX10 476 yX10_acted_, .instanceMethod yX10_acted_, .selects RX10 yX10_acted_ yX10_acted_, .initialized RX10]) (goodIn_r _ [20, 21, 22, 4] (by decide +kernel) (by decide +kernel)) (gi_sub gd_mwX10_acted_m (fun w h => List.mem_cons_of_mem _ (List.mem_append_right _ (List.mem_append_right _ (List.mem_append_right _ (List.mem_append_right _ (List.mem_append_right _ (List.mem_append_right _ (List.mem_append_right _ (List.mem_append_right _ (List.mem_append_left _ h)))))))))))
set_option maxRecDepth 20000 in
theorem mg_X10_letm_X10_at_399 : GoodIn mwX10_letm (wsV RX10 399 RX10 yX10_at mwX10_atm) := gi_app (A := [.methodLink RX10 399 yX10_at, .instanceMethod yX10_at, .selects RX10 yX10_at yX10_at, .initialized RX10]) (goodIn_r _ [23, 24, 25, 4] (by decide +kernel) (by decide +kernel)) (gi_sub gd_mwX10_atm (fun w h => List.mem_cons_of_mem _ (List.mem_append_right _ (List.mem_append_right _ (List.mem_append_right _ (List.mem_append_right _ (List.mem_append_right _ (List.mem_append_right _ (List.mem_append_right _ (List.mem_append_right _ (List.mem_append_right _ (h))))))))))))
set_option maxHeartbeats 4000000 in
set_option maxRecDepth 100000 in
theorem m_let (l : Launch) (dC : Nat → ClassId) (dI : Nat → Nat → Nat) (ad : Nat → Nat) (kc : Nat → ClassId) (x0 x1 x2 x3 x4 x5 x6 x7 x8 x9 x10 x11 x12 x13 x14 x15 x16 x17 x18 x19 x20 x21 : Int32) (f0 f1 f2 f3 f4 f5 f6 f7 f8 f9 f10 f11 f12 f13 f14 f15 f16 f17 f18 f19 f20 f21 : Nat → Int32) (fL : Nat → Nat → Int64) (fN : Nat → Nat → Int32) (fP : Nat → Nat → Nat) (fM : Nat → Nat → Int32) (fO : Nat → Nat → Int32) (sz : Nat) (i1 i2 i3 : Int32) (q0 : mI x1.toInt x2.toInt x3.toInt f0 fP) : Met l yX10_let mwX10_letm ({ frames := 3, cells := 0, slots := 0, locals := 180 }) (va_Pc [.ref (ad 0), .int i1, .int i2, .int i3] (fun U => U.heap.size = sz ∧ va_P (dC, dI) vwCl (mW ad kc x0 x1 x2 x3 x4 x5 x6 x7 x8 x9 x10 x11 x12 x13 x14 x15 x16 x17 x18 x19 x20 x21 f0 f1 f2 f3 f4 f5 f6 f7 f8 f9 f10 f11 f12 f13 f14 f15 f16 f17 f18 f19 f20 f21 fL fN fP fM fO) U.heap ∧ va_K (dC, dI) vwCl (mT kc) U ∧ va_D (fun _ => True) (mW ad kc x0 x1 x2 x3 x4 x5 x6 x7 x8 x9 x10 x11 x12 x13 x14 x15 x16 x17 x18 x19 x20 x21 f0 f1 f2 f3 f4 f5 f6 f7 f8 f9 f10 f11 f12 f13 f14 f15 f16 f17 f18 f19 f20 f21 fL fN fP fM fO))) (va_Qi (fun (o9 u9 : Int32) => o9 = u9) (fun (o9 : Int32) t => ∃ (y0 y1 : Int32) (g0 : Nat → Int32), (mI y1.toInt x2.toInt x3.toInt g0 fP) ∧ va_P (dC, dI) vwCl (mW ad kc y0 y1 x2 x3 x4 x5 x6 x7 x8 x9 x10 x11 x12 x13 x14 x15 x16 x17 x18 x19 x20 x21 g0 f1 f2 f3 f4 f5 f6 f7 f8 f9 f10 f11 f12 f13 f14 f15 f16 f17 f18 f19 f20 f21 fL fN fP fM fO) t.heap ∧ va_K (dC, dI) vwCl (mT kc) t ∧ va_D (va_A (mW ad kc x0 x1 x2 x3 x4 x5 x6 x7 x8 x9 x10 x11 x12 x13 x14 x15 x16 x17 x18 x19 x20 x21 f0 f1 f2 f3 f4 f5 f6 f7 f8 f9 f10 f11 f12 f13 f14 f15 f16 f17 f18 f19 f20 f21 fL fN fP fM fO) sz) (mW ad kc y0 y1 x2 x3 x4 x5 x6 x7 x8 x9 x10 x11 x12 x13 x14 x15 x16 x17 x18 x19 x20 x21 g0 f1 f2 f3 f4 f5 f6 f7 f8 f9 f10 f11 f12 f13 f14 f15 f16 f17 f18 f19 f20 f21 fL fN fP fM fO)) (va_A (mW ad kc x0 x1 x2 x3 x4 x5 x6 x7 x8 x9 x10 x11 x12 x13 x14 x15 x16 x17 x18 x19 x20 x21 f0 f1 f2 f3 f4 f5 f6 f7 f8 f9 f10 f11 f12 f13 f14 f15 f16 f17 f18 f19 f20 f21 fL fN fP fM fO) sz)) 0 0 (va_A (mW ad kc x0 x1 x2 x3 x4 x5 x6 x7 x8 x9 x10 x11 x12 x13 x14 x15 x16 x17 x18 x19 x20 x21 f0 f1 f2 f3 f4 f5 f6 f7 f8 f9 f10 f11 f12 f13 f14 f15 f16 f17 f18 f19 f20 f21 fL fN fP fM fO) sz) := by
  refine Met.ofW (cc := cX10_let) (maxL := 5) (ret := (some .int)) (by decide +kernel) rfl ?_
  intro p e s m args below meth c s₁ B hml hv
  obtain ⟨rfl, hsz, hP, hK, hD0⟩ := hv
  have hx := B.exec
  have hb := B.bytes
  have hr := B.returns
  have hts := atoms_spec (ws := mwX10_letm) B.pre
  have hown : s.vm.findClass RX10 = some m.cls := findClass_of_methodNamed B.named
  have hlocks := B.notSynchronized
  subst hsz
  have hD := hD0.self (sz := s.heap.size)
  generalize hAe : va_A (mW ad kc x0 x1 x2 x3 x4 x5 x6 x7 x8 x9 x10 x11 x12 x13 x14 x15 x16 x17 x18 x19 x20 x21 f0 f1 f2 f3 f4 f5 f6 f7 f8 f9 f10 f11 f12 f13 f14 f15 f16 f17 f18 f19 f20 f21 fL fN fP fM fO) s.heap.size = A at hD ⊢
  have hA : ∀ q : Nat, s.heap.size ≤ q → A q := fun q h => by rw [← hAe]; exact Or.inr h
  have hP : va_P (dC, dI) vwCl (mW ad kc x0 x1 x2 x3 x4 x5 x6 x7 x8 x9 x10 x11 x12 x13 x14 x15 x16 x17 x18 x19 x20 x21 f0 f1 f2 f3 f4 f5 f6 f7 f8 f9 f10 f11 f12 f13 f14 f15 f16 f17 f18 f19 f20 f21 fL fN fP fM fO) s.heap := hP
  have hD : va_D A (mW ad kc x0 x1 x2 x3 x4 x5 x6 x7 x8 x9 x10 x11 x12 x13 x14 x15 x16 x17 x18 x19 x20 x21 f0 f1 f2 f3 f4 f5 f6 f7 f8 f9 f10 f11 f12 f13 f14 f15 f16 f17 f18 f19 f20 f21 fL fN fP fM fO) := hD
  have hK : va_K (dC, dI) vwCl (mT kc) s := hK
  generalize hH : s.heap = H at hP ⊢
  have hS : va_S A s.heap H [] := by rw [← hH]; exact va_S.rf
  have hl := lv_entry ([.ref (ad 0), .int i1, .int i2, .int i3]) (n := 5) (Nat.le_of_ble_eq_true rfl)
  rw [lg_entry_eq]
  generalize (lg_sl ([.ref (ad 0), .int i1, .int i2, .int i3]) ++ List.replicate (5 - (lg_sl ([.ref (ad 0), .int i1, .int i2, .int i3])).length) Slot.unset).toArray = ls at hl ⊢
  have hl : lv_has ls 5 [(0, .ref (ad 0)), (1, .int i1), (2, .int i2), (3, .int i3)] := hl
  have rg_i1 := i_rng i1
  have rg_i2 := i_rng i2
  have rg_i3 := i_rng i3
  have hd := q0.d
  have hpi := q0.p
  have hq1 := q0.1
  have hq2 := q0.2.1
  have hq3 := q0.2.2.1
  have hd10 := hd.n0
  have hp8 := hd.P0
  refine lv_iload_n hx hb dX10_let_0 rfl (lv_at hl 2 rfl) ?_
  refine lv_if_lt (tgt := 14) hx hb dX10_let_1 (by decide) (fun k_1 => ?_) (fun k_1 => ?_)
  · have tk_1 := c_lt (a := i2.toInt) (b := 0) rfl (by decide) k_1
    refine lv_aload_n hx hb dX10_let_14 rfl (lv_at hl 0 rfl) ?_
    refine lv_iconst (v := 1) hx hb dX10_let_15 (by decide) ?_
    have lit_1 : (1 : Int32).toInt = 1 := by decide
    have hFc := m_free hD hS hA
    refine va_calli (va_runV (As := [.int 1]) (rest := []) ⟨hx, hb, hml, hown, hts⟩ (m_refuse l dC dI ad kc x0 x1 x2 x3 x4 x5 x6 x7 x8 x9 x10 x11 x12 x13 x14 x15 x16 x17 x18 x19 x20 x21 f0 f1 f2 f3 f4 f5 f6 f7 f8 f9 f10 f11 f12 f13 f14 f15 f16 f17 f18 f19 f20 f21 fL fN fP fM fO H.size 1 ) (cwV 1 hts mg_X10_letm_X10_refuse_204 rfl rfl rfl (by decide +kernel) ⟨Nat.le_of_ble_eq_true rfl, Nat.le_of_ble_eq_true rfl⟩) ⟨fun a U g mk q => by obtain ⟨q0, q1, qP, qK, qD⟩ := q; exact ⟨q0, q1, qP, va_K.moved (u := U) (U := U.calling g mk a) (Vm.Alike.refl U.vm) qK, qD⟩, va_recv hK hP (ci := 10) (q0 := 0) rfl rfl, fun U hU hW => ⟨rfl, by rw [hU], by rw [hU]; exact hP, va_K.moved hW.alike hK, hD.weaken (fun _ _ _ _ => trivial)⟩⟩ rfl rfl hl.1 rfl (lv_room (Nat.le_of_ble_eq_true rfl)) dX10_let_16 ⟨Nat.le_of_ble_eq_true rfl, Nat.le_of_ble_eq_true rfl⟩) hS (fun q _ h => hFc q h) hFc (fun r_3 u t H1 locs ht hvm hw hB hz1 hk1 hS => ?_)
    subst hw
    obtain ⟨hr_3_0, hP, hK1, hD1⟩ := hB
    rw [ht] at hP
    have hD := hD1.weaken (fun k q _ h => hFc q.1 h)
    clear hz1 hk1 hFc hD1 hK1 hvm
    generalize H1 = H at hP hS ⊢
    have rg_r_3 := i_rng r_3
    have hP : va_P (dC, dI) vwCl (mW ad kc 1 x1 x2 x3 x4 x5 x6 x7 x8 x9 x10 x11 x12 x13 x14 x15 x16 x17 x18 x19 x20 x21 f0 f1 f2 f3 f4 f5 f6 f7 f8 f9 f10 f11 f12 f13 f14 f15 f16 f17 f18 f19 f20 f21 fL fN fP fM fO) H := hP
    have hD : va_D A (mW ad kc 1 x1 x2 x3 x4 x5 x6 x7 x8 x9 x10 x11 x12 x13 x14 x15 x16 x17 x18 x19 x20 x21 f0 f1 f2 f3 f4 f5 f6 f7 f8 f9 f10 f11 f12 f13 f14 f15 f16 f17 f18 f19 f20 f21 fL fN fP fM fO) := hD
    have lit_3 : (1 : Int32).toInt = 1 := by decide
    exact W.iret hx hb hr (fun t ht hW => ⟨⟨_, _, rfl, rfl, 1, x1, f0, q0, by rw [ht]; exact hP, va_K.moved hW.alike hK, hD⟩, hS.F ht⟩) hS.2.2 dX10_let_19
  · have tk_1 := c_nlt (a := i2.toInt) (b := 0) rfl (by decide) k_1
    refine lv_iload_n hx hb dX10_let_4 rfl (lv_at hl 3 rfl) ?_
    refine lv_iconst (v := 0) hx hb dX10_let_5 (by decide) ?_
    refine lv_bipush (v := 25) hx hb dX10_let_6 (by decide) ?_
    have lit_4 : (0 : Int32).toInt = 0 := by decide
    have lit_5 : (25 : Int32).toInt = 25 := by decide
    refine vp_callSi (W.runS (As := [.int i3, .int 0, .int 25]) (rest := []) ⟨hx, hb, hml, hown, hts⟩ (m_isFrom l dC dI  i3 0 25 ) (va_cwS 3 hts mg_X10_letm_X10_isFrom_200 rfl rfl rfl (by decide +kernel) ⟨Nat.le_of_ble_eq_true rfl, Nat.le_of_ble_eq_true rfl⟩) ⟨fun a U g mk q => ⟨q.1, trivial⟩, fun U hU hW => ⟨rfl, trivial⟩⟩ rfl rfl hl.1 rfl (lv_room (Nat.le_of_ble_eq_true rfl)) dX10_let_8 ⟨Nat.le_of_ble_eq_true rfl, Nat.le_of_ble_eq_true rfl⟩) (fun r_7 hr_7 => ?_)
    have rg_r_7 := i_rng r_7
    refine lv_if_ne (tgt := 20) hx hb dX10_let_11 (by decide) (fun k_8 => ?_) (fun k_8 => ?_)
    · have tk_8 := c_ne (a := r_7.toInt) (b := 0) rfl (by decide) k_8
      refine lv_aload_n hx hb dX10_let_20 rfl (lv_at hl 0 rfl) ?_
      refine lv_iload_n hx hb dX10_let_21 rfl (lv_at hl 1 rfl) ?_
      refine vp_callSi (W.runV (As := [.int i1]) (rest := []) ⟨hx, hb, hml, hown, hts⟩ (m_isDoc l dC dI ad kc x0 x1 x2 x3 x4 x5 x6 x7 x8 x9 x10 x11 x12 x13 x14 x15 x16 x17 x18 x19 x20 x21 f0 f1 f2 f3 f4 f5 f6 f7 f8 f9 f10 f11 f12 f13 f14 f15 f16 f17 f18 f19 f20 f21 fL fN fP fM fO i1 ) (cwV 1 hts mg_X10_letm_X10_isDoc_451 rfl rfl rfl (by decide +kernel) ⟨Nat.le_of_ble_eq_true rfl, Nat.le_of_ble_eq_true rfl⟩) ⟨fun a U g mk q => by obtain ⟨q0, qP, qK⟩ := q; exact ⟨q0, qP, va_K.moved (u := U) (U := U.calling g mk a) (Vm.Alike.refl U.vm) qK⟩, va_recv hK hP (ci := 10) (q0 := 0) rfl rfl, fun U hU hW => ⟨rfl, by rw [hU]; exact hP, va_K.moved hW.alike hK⟩⟩ rfl rfl hl.1 rfl (lv_room (Nat.le_of_ble_eq_true rfl)) dX10_let_22 ⟨Nat.le_of_ble_eq_true rfl, Nat.le_of_ble_eq_true rfl⟩) (fun r_9 hr_9 => ?_)
      have rg_r_9 := i_rng r_9
      refine lv_if_ne (tgt := 34) hx hb dX10_let_25 (by decide) (fun k_10 => ?_) (fun k_10 => ?_)
      · have tk_10 := c_ne (a := r_9.toInt) (b := 0) rfl (by decide) k_10
        refine lv_iload_n hx hb dX10_let_34 rfl (lv_at hl 2 rfl) ?_
        refine lv_aload_n hx hb dX10_let_35 rfl (lv_at hl 0 rfl) ?_
        refine lv_iload_n hx hb dX10_let_36 rfl (lv_at hl 1 rfl) ?_
        refine vp_callSi (W.runV (As := [.int i1]) (rest := [.int i2]) ⟨hx, hb, hml, hown, hts⟩ (m_sizeOf l dC dI ad kc x0 x1 x2 x3 x4 x5 x6 x7 x8 x9 x10 x11 x12 x13 x14 x15 x16 x17 x18 x19 x20 x21 f0 f1 f2 f3 f4 f5 f6 f7 f8 f9 f10 f11 f12 f13 f14 f15 f16 f17 f18 f19 f20 f21 fL fN fP fM fO i1 (by first | omega | assumption | decide | (have l0 := Int32.toInt_zero; omega)) (by first | omega | assumption | decide | (have l0 := Int32.toInt_zero; omega))) (cwV 1 hts mg_X10_letm_X10_sizeOf_396 rfl rfl rfl (by decide +kernel) ⟨Nat.le_of_ble_eq_true rfl, Nat.le_of_ble_eq_true rfl⟩) ⟨fun a U g mk q => by obtain ⟨q0, qP, qK⟩ := q; exact ⟨q0, qP, va_K.moved (u := U) (U := U.calling g mk a) (Vm.Alike.refl U.vm) qK⟩, va_recv hK hP (ci := 10) (q0 := 0) rfl rfl, fun U hU hW => ⟨rfl, by rw [hU]; exact hP, va_K.moved hW.alike hK⟩⟩ rfl rfl hl.1 rfl (lv_room (Nat.le_of_ble_eq_true rfl)) dX10_let_37 ⟨Nat.le_of_ble_eq_true rfl, Nat.le_of_ble_eq_true rfl⟩) (fun r_11 hr_11 => ?_)
        have rg_r_11 := i_rng r_11
        have hlr_11 := OKd.sz hd (d := i1.toInt) (by omega) (by omega)
        refine lv_icmp_le (tgt := 49) hx hb dX10_let_40 (by decide) (fun k_12 => ?_) (fun k_12 => ?_)
        · have tk_12 := c_le (a := i2.toInt) (b := r_11.toInt) rfl rfl k_12
          refine lv_aload_n hx hb dX10_let_49 rfl (lv_at hl 0 rfl) ?_
          refine lv_iload_n hx hb dX10_let_50 rfl (lv_at hl 1 rfl) ?_
          refine vp_callSi (W.runV (As := [.int i1]) (rest := []) ⟨hx, hb, hml, hown, hts⟩ (m_sizeOf l dC dI ad kc x0 x1 x2 x3 x4 x5 x6 x7 x8 x9 x10 x11 x12 x13 x14 x15 x16 x17 x18 x19 x20 x21 f0 f1 f2 f3 f4 f5 f6 f7 f8 f9 f10 f11 f12 f13 f14 f15 f16 f17 f18 f19 f20 f21 fL fN fP fM fO i1 (by first | omega | assumption | decide | (have l0 := Int32.toInt_zero; omega)) (by first | omega | assumption | decide | (have l0 := Int32.toInt_zero; omega))) (cwV 1 hts mg_X10_letm_X10_sizeOf_396 rfl rfl rfl (by decide +kernel) ⟨Nat.le_of_ble_eq_true rfl, Nat.le_of_ble_eq_true rfl⟩) ⟨fun a U g mk q => by obtain ⟨q0, qP, qK⟩ := q; exact ⟨q0, qP, va_K.moved (u := U) (U := U.calling g mk a) (Vm.Alike.refl U.vm) qK⟩, va_recv hK hP (ci := 10) (q0 := 0) rfl rfl, fun U hU hW => ⟨rfl, by rw [hU]; exact hP, va_K.moved hW.alike hK⟩⟩ rfl rfl hl.1 rfl (lv_room (Nat.le_of_ble_eq_true rfl)) dX10_let_51 ⟨Nat.le_of_ble_eq_true rfl, Nat.le_of_ble_eq_true rfl⟩) (fun r_13 hr_13 => ?_)
          have rg_r_13 := i_rng r_13
          have hlr_13 := OKd.sz hd (d := i1.toInt) (by omega) (by omega)
          refine lv_bipush (v := 60) hx hb dX10_let_54 (by decide) ?_
          refine lv_icmp_ne (tgt := 66) hx hb dX10_let_56 (by decide) (fun k_14 => ?_) (fun k_14 => ?_)
          · have tk_14 := c_ne (a := r_13.toInt) (b := 60) rfl (by decide) k_14
            refine lv_aload_n hx hb dX10_let_66 rfl (lv_at hl 0 rfl) ?_
            refine lv_iconst (v := 0) hx hb dX10_let_67 (by decide) ?_
            refine lv_sipush (v := 7820) hx hb dX10_let_68 (by decide) ?_
            have lit_14 : (0 : Int32).toInt = 0 := by decide
            have lit_15 : (7820 : Int32).toInt = 7820 := by decide
            have hFc := m_free hD hS hA
            refine va_callv (va_runV (As := [.int 0, .int 7820]) (rest := []) ⟨hx, hb, hml, hown, hts⟩ (m_copies l dC dI ad kc x0 x1 x2 x3 x4 x5 x6 x7 x8 x9 x10 x11 x12 x13 x14 x15 x16 x17 x18 x19 x20 x21 f0 f1 f2 f3 f4 f5 f6 f7 f8 f9 f10 f11 f12 f13 f14 f15 f16 f17 f18 f19 f20 f21 fL fN fP fM fO H.size 0 7820 (by first | omega | assumption | decide | (have l0 := Int32.toInt_zero; omega)) (by first | omega | assumption | decide | (have l0 := Int32.toInt_zero; omega)) (by first | omega | assumption | decide | (have l0 := Int32.toInt_zero; omega)) (by first | omega | assumption | decide | (have l0 := Int32.toInt_zero; omega)) (by first | omega | assumption | decide | (have l0 := Int32.toInt_zero; omega))) (cwV 2 hts mg_X10_letm_X10_copies_193 rfl rfl rfl (by decide +kernel) ⟨Nat.le_of_ble_eq_true rfl, Nat.le_of_ble_eq_true rfl⟩) ⟨fun a U g mk q => by obtain ⟨q0, q1, qP, qK, qD⟩ := q; exact ⟨q0, q1, qP, va_K.moved (u := U) (U := U.calling g mk a) (Vm.Alike.refl U.vm) qK, qD⟩, va_recv hK hP (ci := 10) (q0 := 0) rfl rfl, fun U hU hW => ⟨rfl, by rw [hU], by rw [hU]; exact hP, va_K.moved hW.alike hK, hD.weaken (fun _ _ _ _ => trivial)⟩⟩ rfl rfl hl.1 rfl (lv_room (Nat.le_of_ble_eq_true rfl)) dX10_let_71 ⟨Nat.le_of_ble_eq_true rfl, Nat.le_of_ble_eq_true rfl⟩) hS (fun q _ h => hFc q h) hFc (fun u t H1 locs ht hvm hw hB hz1 hk1 hS => ?_)
            obtain ⟨f_18, hr_17_0, hP, hK1, hD1⟩ := hB
            rw [ht] at hP
            have hD := hD1.weaken (fun k q _ h => hFc q.1 h)
            clear hz1 hk1 hFc hD1 hK1 hvm
            generalize H1 = H at hP hS ⊢
            have hP : va_P (dC, dI) vwCl (mW ad kc x0 x1 x2 x3 x4 x5 x6 x7 x8 x9 x10 x11 x12 x13 x14 x15 x16 x17 x18 x19 x20 x21 f_18 f1 f2 f3 f4 f5 f6 f7 f8 f9 f10 f11 f12 f13 f14 f15 f16 f17 f18 f19 f20 f21 fL fN fP fM fO) H := hP
            have hD : va_D A (mW ad kc x0 x1 x2 x3 x4 x5 x6 x7 x8 x9 x10 x11 x12 x13 x14 x15 x16 x17 x18 x19 x20 x21 f_18 f1 f2 f3 f4 f5 f6 f7 f8 f9 f10 f11 f12 f13 f14 f15 f16 f17 f18 f19 f20 f21 fL fN fP fM fO) := hD
            have hc9 : CP f0 f_18 0 7820 := by have h9 := hr_17_0; rw [(show (0 : Int32).toInt = 0 by decide), (show (7820 : Int32).toInt = 7820 by decide)] at h9; exact h9
            have hA9 := q0.aside hc9
            have hd9 := hA9.1
            have hm9 := hA9.2
            have hsm : ∀ z : Int, 0 ≤ z → z < 7820 → vI f_18 z = vI f0 z := fun z h1 h2 => by rw [hc9 z h1, if_neg (by omega)]
            refine lv_aload_n hx hb dX10_let_74 rfl (lv_at hl 0 rfl) ?_
            refine lv_iload_n hx hb dX10_let_75 rfl (lv_at hl 1 rfl) ?_
            refine vp_callSi (W.runV (As := [.int i1]) (rest := []) ⟨hx, hb, hml, hown, hts⟩ (m_sizeOf l dC dI ad kc x0 x1 x2 x3 x4 x5 x6 x7 x8 x9 x10 x11 x12 x13 x14 x15 x16 x17 x18 x19 x20 x21 f_18 f1 f2 f3 f4 f5 f6 f7 f8 f9 f10 f11 f12 f13 f14 f15 f16 f17 f18 f19 f20 f21 fL fN fP fM fO i1 (by first | omega | assumption | decide | (have l0 := Int32.toInt_zero; omega)) (by first | omega | assumption | decide | (have l0 := Int32.toInt_zero; omega))) (cwV 1 hts mg_X10_letm_X10_sizeOf_396 rfl rfl rfl (by decide +kernel) ⟨Nat.le_of_ble_eq_true rfl, Nat.le_of_ble_eq_true rfl⟩) ⟨fun a U g mk q => by obtain ⟨q0, qP, qK⟩ := q; exact ⟨q0, qP, va_K.moved (u := U) (U := U.calling g mk a) (Vm.Alike.refl U.vm) qK⟩, va_recv hK hP (ci := 10) (q0 := 0) rfl rfl, fun U hU hW => ⟨rfl, by rw [hU]; exact hP, va_K.moved hW.alike hK⟩⟩ rfl rfl hl.1 rfl (lv_room (Nat.le_of_ble_eq_true rfl)) dX10_let_76 ⟨Nat.le_of_ble_eq_true rfl, Nat.le_of_ble_eq_true rfl⟩) (fun r_19 hr_19 => ?_)
            have rg_r_19 := i_rng r_19
            have hss := hsm (1 + i1.toInt) (by omega) (by omega)
            have hs0 := hsm 0 (by omega) (by omega)
            refine lv_istore (lv' := [(4, .int r_19), (0, .ref (ad 0)), (1, .int i1), (2, .int i2), (3, .int i3)]) hx hb dX10_let_79 hl (by decide) rfl (fun ls hl => ?_)
            have loop81 : ∀ (lm81 : Nat) (kk : Int32) (ga : Nat → Int32), (i2.toInt ≤ kk.toInt ∧ kk.toInt ≤ vI f0 (1 + i1.toInt)) → (OKd ga 0) → (mC x1.toInt x2.toInt ga) → (vI ga 0 = vI f0 0) → (vI ga (1 + i1.toInt) = vI f0 (1 + i1.toInt)) → (∀ j : Int, kk.toInt < j → j ≤ vI f0 (1 + i1.toInt) → 0 ≤ vI ga (11 + 60 * i1.toInt + j) ∧ vI ga (11 + 60 * i1.toInt + j) ≤ 25) → kk.toInt.toNat < lm81 → ∀ (H : Heap) (locs : List Loc) (ls : Array Slot), va_P (dC, dI) vwCl (mW ad kc x0 x1 x2 x3 x4 x5 x6 x7 x8 x9 x10 x11 x12 x13 x14 x15 x16 x17 x18 x19 x20 x21 ga f1 f2 f3 f4 f5 f6 f7 f8 f9 f10 f11 f12 f13 f14 f15 f16 f17 f18 f19 f20 f21 fL fN fP fM fO) H → va_D A (mW ad kc x0 x1 x2 x3 x4 x5 x6 x7 x8 x9 x10 x11 x12 x13 x14 x15 x16 x17 x18 x19 x20 x21 ga f1 f2 f3 f4 f5 f6 f7 f8 f9 f10 f11 f12 f13 f14 f15 f16 f17 f18 f19 f20 f21 fL fN fP fM fO) → va_S A s.heap H locs → lv_has ls 5 [(4, .int kk), (0, .ref (ad 0)), (1, .int i1), (2, .int i2), (3, .int i3)] → W p l e (headSpec mwX10_letm ({ frames := 3, cells := 0, slots := 0, locals := 180 })).room s m ([.ref (ad 0), .int i1, .int i2, .int i3]).toArray below meth c H locs 0 0 (MQ below (va_Qi (fun (o9 u9 : Int32) => o9 = u9) (fun (o9 : Int32) t => ∃ (y0 y1 : Int32) (g0 : Nat → Int32), (mI y1.toInt x2.toInt x3.toInt g0 fP) ∧ va_P (dC, dI) vwCl (mW ad kc y0 y1 x2 x3 x4 x5 x6 x7 x8 x9 x10 x11 x12 x13 x14 x15 x16 x17 x18 x19 x20 x21 g0 f1 f2 f3 f4 f5 f6 f7 f8 f9 f10 f11 f12 f13 f14 f15 f16 f17 f18 f19 f20 f21 fL fN fP fM fO) t.heap ∧ va_K (dC, dI) vwCl (mT kc) t ∧ va_D A (mW ad kc y0 y1 x2 x3 x4 x5 x6 x7 x8 x9 x10 x11 x12 x13 x14 x15 x16 x17 x18 x19 x20 x21 g0 f1 f2 f3 f4 f5 f6 f7 f8 f9 f10 f11 f12 f13 f14 f15 f16 f17 f18 f19 f20 f21 fL fN fP fM fO)) A) ([.ref (ad 0), .int i1, .int i2, .int i3]).toArray s 0 0 A) (F0 m 81 ls []) := by
              intro lm81
              induction lm81 with
              | zero => intro kk ga v81_0 v81_1 v81_2 v81_3 v81_4 v81_5 hm81; exact absurd hm81 (Nat.not_lt_zero _)
              | succ lm81 ih81 =>
                intro kk ga v81_0 v81_1 v81_2 v81_3 v81_4 v81_5 hm81 H locs ls hP hD hS hl
                have rg_kk := i_rng kk
                refine lv_iload hx hb dX10_let_81 (lv_at hl 0 rfl) ?_
                refine lv_iload_n hx hb dX10_let_83 rfl (lv_at hl 3 rfl) ?_
                refine lv_icmp_le (tgt := 109) hx hb dX10_let_84 (by decide) (fun k_20 => ?_) (fun k_20 => ?_)
                · have tk_20 := c_le (a := kk.toInt) (b := i2.toInt) rfl rfl k_20
                  refine lv_aload_n hx hb dX10_let_109 rfl (lv_at hl 1 rfl) ?_
                  refine lv_iload_n hx hb dX10_let_110 rfl (lv_at hl 2 rfl) ?_
                  refine lv_iload_n hx hb dX10_let_111 rfl (lv_at hl 3 rfl) ?_
                  refine lv_iload_n hx hb dX10_let_112 rfl (lv_at hl 4 rfl) ?_
                  have hFc := m_free hD hS hA
                  refine va_callv (va_runV (As := [.int i1, .int i2, .int i3]) (rest := []) ⟨hx, hb, hml, hown, hts⟩ (m_sets l dC dI ad kc x0 x1 x2 x3 x4 x5 x6 x7 x8 x9 x10 x11 x12 x13 x14 x15 x16 x17 x18 x19 x20 x21 ga f1 f2 f3 f4 f5 f6 f7 f8 f9 f10 f11 f12 f13 f14 f15 f16 f17 f18 f19 f20 f21 fL fN fP fM fO H.size i1 i2 i3 (by first | omega | assumption | decide | (have l0 := Int32.toInt_zero; omega)) (by first | omega | assumption | decide | (have l0 := Int32.toInt_zero; omega))) (cwV 3 hts mg_X10_letm_X10_sets_473 rfl rfl rfl (by decide +kernel) ⟨Nat.le_of_ble_eq_true rfl, Nat.le_of_ble_eq_true rfl⟩) ⟨fun a U g mk q => by obtain ⟨q0, q1, qP, qK, qD⟩ := q; exact ⟨q0, q1, qP, va_K.moved (u := U) (U := U.calling g mk a) (Vm.Alike.refl U.vm) qK, qD⟩, va_recv hK hP (ci := 10) (q0 := 0) rfl rfl, fun U hU hW => ⟨rfl, by rw [hU], by rw [hU]; exact hP, va_K.moved hW.alike hK, hD.weaken (fun _ _ _ _ => trivial)⟩⟩ rfl rfl hl.1 rfl (lv_room (Nat.le_of_ble_eq_true rfl)) dX10_let_113 ⟨Nat.le_of_ble_eq_true rfl, Nat.le_of_ble_eq_true rfl⟩) hS (fun q _ h => hFc q h) hFc (fun u t H1 locs ht hvm hw hB hz1 hk1 hS => ?_)
                  obtain ⟨f_22, hr_21_0, hP, hK1, hD1⟩ := hB
                  rw [ht] at hP
                  have hD := hD1.weaken (fun k q _ h => hFc q.1 h)
                  clear hz1 hk1 hFc hD1 hK1 hvm
                  generalize H1 = H at hP hS ⊢
                  have hP : va_P (dC, dI) vwCl (mW ad kc x0 x1 x2 x3 x4 x5 x6 x7 x8 x9 x10 x11 x12 x13 x14 x15 x16 x17 x18 x19 x20 x21 f_22 f1 f2 f3 f4 f5 f6 f7 f8 f9 f10 f11 f12 f13 f14 f15 f16 f17 f18 f19 f20 f21 fL fN fP fM fO) H := hP
                  have hD : va_D A (mW ad kc x0 x1 x2 x3 x4 x5 x6 x7 x8 x9 x10 x11 x12 x13 x14 x15 x16 x17 x18 x19 x20 x21 f_22 f1 f2 f3 f4 f5 f6 f7 f8 f9 f10 f11 f12 f13 f14 f15 f16 f17 f18 f19 f20 f21 fL fN fP fM fO) := hD
                  have hd7 := v81_1.put (by omega) (by omega) (by omega) (by omega) (by omega) (by omega) hr_21_0
                  have hm7 := v81_2.far (fun z hz => hr_21_0.2 z (by omega) (by omega))
                  have hs7 := (hr_21_0.2 (1 + i1.toInt) (by omega) (by omega)).trans v81_4
                  have hz7 := (hr_21_0.2 0 (by omega) (by omega)).trans v81_3
                  have hl7 : ∀ j : Int, 0 ≤ j → j < vI f0 (1 + i1.toInt) + 1 → 0 ≤ vI f_22 (11 + 60 * i1.toInt + j) ∧ vI f_22 (11 + 60 * i1.toInt + j) ≤ 25 := fun j h1 h2 => by
                    by_cases e : j = i2.toInt
                    · rw [e, hr_21_0.1]; omega
                    · rw [hr_21_0.2 _ (by omega) (by omega)]
                      by_cases e2 : j < vI f0 (1 + i1.toInt)
                      · exact v81_1.lt (by omega) (by omega) h1 (by omega)
                      · exact v81_5 j (by omega) (by omega)
                  refine lv_aload_n hx hb dX10_let_116 rfl (lv_at hl 1 rfl) ?_
                  refine va_get (D := (dC, dI)) (ci := 10) (v := .ref (ad 1)) (C := RX10) (T := TX10) (N := 48) hx hb hts fin_X10_letm_X10 hown hK hP 0 rfl rfl 0 (by decide) (hts (.fieldLink RX10 8 "PatternGateModel" "all" "[I") (List.mem_of_getElem? (i := 19) (by decide +kernel))) (fun _ h9 => h9) rfl dX10_let_117 ?_
                  refine lv_iconst (v := 1) hx hb dX10_let_120 (by decide) ?_
                  refine lv_iload_n hx hb dX10_let_121 rfl (lv_at hl 2 rfl) ?_
                  refine lv_iadd hx hb dX10_let_122 ?_
                  refine lv_topi (fun y_23 ey_23 => ?_)
                  first | have ty_23 := i_add (a := 1) (b := i1.toInt) (by decide) rfl ey_23 (by omega) (by omega) | skip
                  refine lv_dup2_11 hx hb dX10_let_123 rfl rfl ?_
                  refine va_iald hx hb hK hP 1 0 rfl rfl (i := y_23) (vp_of (a := y_23.toInt) rfl (by omega) (by omega)) dX10_let_124 ?_
                  refine lv_topi (fun y_24 ey_24 => ?_)
                  have rg_y_24 := i_rng y_24
                  have vy_24 := vI_lda (f := f_22) (i := y_23) (a := (1 + i1.toInt)) ey_24 (by first | omega | decide)
                  have rg_y_24 := i_rng y_24
                  have hy7 : y_24.toInt = vI f0 (1 + i1.toInt) := vy_24.trans hs7
                  refine lv_iconst (v := 1) hx hb dX10_let_125 (by decide) ?_
                  refine lv_iadd hx hb dX10_let_126 ?_
                  refine lv_topi (fun y_25 ey_25 => ?_)
                  first | have ty_25 := i_add (a := y_24.toInt) (b := 1) rfl (by decide) ey_25 (by omega) (by omega) | skip
                  refine va_iast hx hb hK hP hD hS 1 0 rfl rfl (i := y_23) (vp_of (a := y_23.toInt) rfl (by omega) (by omega)) dX10_let_127 (fun H locs hP hD hS => ?_)
                  generalize hf_f_26 : upd f_22 _ _ = f_26 at hP hD
                  have uf_26 := vI_up (a := (1 + i1.toInt)) (b := y_25.toInt) hf_f_26 (by first | omega | decide) (by omega) rfl
                  have hP : va_P (dC, dI) vwCl (mW ad kc x0 x1 x2 x3 x4 x5 x6 x7 x8 x9 x10 x11 x12 x13 x14 x15 x16 x17 x18 x19 x20 x21 f_26 f1 f2 f3 f4 f5 f6 f7 f8 f9 f10 f11 f12 f13 f14 f15 f16 f17 f18 f19 f20 f21 fL fN fP fM fO) H := hP
                  have hD : va_D A (mW ad kc x0 x1 x2 x3 x4 x5 x6 x7 x8 x9 x10 x11 x12 x13 x14 x15 x16 x17 x18 x19 x20 x21 f_26 f1 f2 f3 f4 f5 f6 f7 f8 f9 f10 f11 f12 f13 f14 f15 f16 f17 f18 f19 f20 f21 fL fN fP fM fO) := hD
                  have hd6 := hd7.size (d := i1.toInt) (n := vI f0 (1 + i1.toInt) + 1) (by omega) (by omega) (by omega) (by omega) hl7 (by have h9 := uf_26; rw [show y_25.toInt = vI f0 (1 + i1.toInt) + 1 by omega] at h9; exact h9)
                  have hm6 := hm7.far (fun z hz => uf_26.2 z (by omega) (by omega))
                  refine lv_aload_n hx hb dX10_let_128 rfl (lv_at hl 1 rfl) ?_
                  refine lv_aload_n hx hb dX10_let_129 rfl (lv_at hl 1 rfl) ?_
                  refine lv_iload_n hx hb dX10_let_130 rfl (lv_at hl 2 rfl) ?_
                  refine vp_callSi (W.runV (As := [.int i1]) (rest := [.ref (ad 0)]) ⟨hx, hb, hml, hown, hts⟩ (m_sizeOf l dC dI ad kc x0 x1 x2 x3 x4 x5 x6 x7 x8 x9 x10 x11 x12 x13 x14 x15 x16 x17 x18 x19 x20 x21 f_26 f1 f2 f3 f4 f5 f6 f7 f8 f9 f10 f11 f12 f13 f14 f15 f16 f17 f18 f19 f20 f21 fL fN fP fM fO i1 (by first | omega | assumption | decide | (have l0 := Int32.toInt_zero; omega)) (by first | omega | assumption | decide | (have l0 := Int32.toInt_zero; omega))) (cwV 1 hts mg_X10_letm_X10_sizeOf_396 rfl rfl rfl (by decide +kernel) ⟨Nat.le_of_ble_eq_true rfl, Nat.le_of_ble_eq_true rfl⟩) ⟨fun a U g mk q => by obtain ⟨q0, qP, qK⟩ := q; exact ⟨q0, qP, va_K.moved (u := U) (U := U.calling g mk a) (Vm.Alike.refl U.vm) qK⟩, va_recv hK hP (ci := 10) (q0 := 0) rfl rfl, fun U hU hW => ⟨rfl, by rw [hU]; exact hP, va_K.moved hW.alike hK⟩⟩ rfl rfl hl.1 rfl (lv_room (Nat.le_of_ble_eq_true rfl)) dX10_let_131 ⟨Nat.le_of_ble_eq_true rfl, Nat.le_of_ble_eq_true rfl⟩) (fun r_27 hr_27 => ?_)
                  have rg_r_27 := i_rng r_27
                  have hFc := m_free hD hS hA
                  refine va_calli (va_runV (As := [.int r_27]) (rest := []) ⟨hx, hb, hml, hown, hts⟩ (m_actedV l dC dI ad kc x0 x1 x2 x3 x4 x5 x6 x7 x8 x9 x10 x11 x12 x13 x14 x15 x16 x17 x18 x19 x20 x21 f_26 f1 f2 f3 f4 f5 f6 f7 f8 f9 f10 f11 f12 f13 f14 f15 f16 f17 f18 f19 f20 f21 fL fN fP fM fO H.size r_27 (by first | omega | assumption | decide | (have l0 := Int32.toInt_zero; omega)) (by first | omega | assumption | decide | (have l0 := Int32.toInt_zero; omega)) hd6 hm6) (cwV 1 hts mg_X10_letm_X10_acted__476 rfl rfl rfl (by decide +kernel) ⟨Nat.le_of_ble_eq_true rfl, Nat.le_of_ble_eq_true rfl⟩) ⟨fun a U g mk q => by obtain ⟨q0, q1, qP, qK, qD⟩ := q; exact ⟨q0, q1, qP, va_K.moved (u := U) (U := U.calling g mk a) (Vm.Alike.refl U.vm) qK, qD⟩, va_recv hK hP (ci := 10) (q0 := 0) rfl rfl, fun U hU hW => ⟨rfl, by rw [hU], by rw [hU]; exact hP, va_K.moved hW.alike hK, hD.weaken (fun _ _ _ _ => trivial)⟩⟩ rfl rfl hl.1 rfl (lv_room (Nat.le_of_ble_eq_true rfl)) dX10_let_134 ⟨Nat.le_of_ble_eq_true rfl, Nat.le_of_ble_eq_true rfl⟩) hS (fun q _ h => hFc q h) hFc (fun r_28 u t H1 locs ht hvm hw hB hz1 hk1 hS => ?_)
                  subst hw
                  obtain ⟨x_29, x_30, f_31, hr_28_0, hr_28_1, hr_28_2, hP, hK1, hD1⟩ := hB
                  rw [ht] at hP
                  have hD := hD1.weaken (fun k q _ h => hFc q.1 h)
                  clear hz1 hk1 hFc hD1 hK1 hvm
                  generalize H1 = H at hP hS ⊢
                  have rg_x_29 := i_rng x_29
                  have rg_x_30 := i_rng x_30
                  have rg_r_28 := i_rng r_28
                  have hP : va_P (dC, dI) vwCl (mW ad kc x_29 x_30 x2 x3 x4 x5 x6 x7 x8 x9 x10 x11 x12 x13 x14 x15 x16 x17 x18 x19 x20 x21 f_31 f1 f2 f3 f4 f5 f6 f7 f8 f9 f10 f11 f12 f13 f14 f15 f16 f17 f18 f19 f20 f21 fL fN fP fM fO) H := hP
                  have hD : va_D A (mW ad kc x_29 x_30 x2 x3 x4 x5 x6 x7 x8 x9 x10 x11 x12 x13 x14 x15 x16 x17 x18 x19 x20 x21 f_31 f1 f2 f3 f4 f5 f6 f7 f8 f9 f10 f11 f12 f13 f14 f15 f16 f17 f18 f19 f20 f21 fL fN fP fM fO) := hD
                  exact W.iret hx hb hr (fun t ht hW => ⟨⟨_, _, rfl, rfl, x_29, x_30, f_31, (mC.mI hr_28_1 hr_28_0 (by have h9 := hr_28_2; omega) hq2 hq3 hpi), by rw [ht]; exact hP, va_K.moved hW.alike hK, hD⟩, hS.F ht⟩) hS.2.2 dX10_let_137
                · have tk_20 := c_nle (a := kk.toInt) (b := i2.toInt) rfl rfl k_20
                  refine lv_aload_n hx hb dX10_let_87 rfl (lv_at hl 1 rfl) ?_
                  refine lv_iload_n hx hb dX10_let_88 rfl (lv_at hl 2 rfl) ?_
                  refine lv_iload hx hb dX10_let_89 (lv_at hl 0 rfl) ?_
                  refine lv_aload_n hx hb dX10_let_91 rfl (lv_at hl 1 rfl) ?_
                  refine lv_iload_n hx hb dX10_let_92 rfl (lv_at hl 2 rfl) ?_
                  refine lv_iload hx hb dX10_let_93 (lv_at hl 0 rfl) ?_
                  refine lv_iconst (v := 1) hx hb dX10_let_95 (by decide) ?_
                  refine lv_isub hx hb dX10_let_96 ?_
                  refine lv_topi (fun y_32 ey_32 => ?_)
                  first | have ty_32 := i_sub (a := kk.toInt) (b := 1) rfl (by decide) ey_32 (by omega) (by omega) | skip
                  refine vp_callSi (W.runV (As := [.int i1, .int y_32]) (rest := [.int kk, .int i1, .ref (ad 0)]) ⟨hx, hb, hml, hown, hts⟩ (m_at l dC dI ad kc x0 x1 x2 x3 x4 x5 x6 x7 x8 x9 x10 x11 x12 x13 x14 x15 x16 x17 x18 x19 x20 x21 ga f1 f2 f3 f4 f5 f6 f7 f8 f9 f10 f11 f12 f13 f14 f15 f16 f17 f18 f19 f20 f21 fL fN fP fM fO i1 y_32 (by first | omega | assumption | decide | (have l0 := Int32.toInt_zero; omega)) (by first | omega | assumption | decide | (have l0 := Int32.toInt_zero; omega)) (by first | omega | assumption | decide | (have l0 := Int32.toInt_zero; omega)) (by first | omega | assumption | decide | (have l0 := Int32.toInt_zero; omega))) (cwV 2 hts mg_X10_letm_X10_at_399 rfl rfl rfl (by decide +kernel) ⟨Nat.le_of_ble_eq_true rfl, Nat.le_of_ble_eq_true rfl⟩) ⟨fun a U g mk q => by obtain ⟨q0, qP, qK⟩ := q; exact ⟨q0, qP, va_K.moved (u := U) (U := U.calling g mk a) (Vm.Alike.refl U.vm) qK⟩, va_recv hK hP (ci := 10) (q0 := 0) rfl rfl, fun U hU hW => ⟨rfl, by rw [hU]; exact hP, va_K.moved hW.alike hK⟩⟩ rfl rfl hl.1 rfl (lv_room (Nat.le_of_ble_eq_true rfl)) dX10_let_97 ⟨Nat.le_of_ble_eq_true rfl, Nat.le_of_ble_eq_true rfl⟩) (fun r_33 hr_33 => ?_)
                  have rg_r_33 := i_rng r_33
                  have hl9 := v81_1.lt (d := i1.toInt) (k := y_32.toInt) (by omega) (by have h9 := v81_3; omega) (by omega) (by have h9 := v81_4; omega)
                  have hFc := m_free hD hS hA
                  refine va_callv (va_runV (As := [.int i1, .int kk, .int r_33]) (rest := []) ⟨hx, hb, hml, hown, hts⟩ (m_sets l dC dI ad kc x0 x1 x2 x3 x4 x5 x6 x7 x8 x9 x10 x11 x12 x13 x14 x15 x16 x17 x18 x19 x20 x21 ga f1 f2 f3 f4 f5 f6 f7 f8 f9 f10 f11 f12 f13 f14 f15 f16 f17 f18 f19 f20 f21 fL fN fP fM fO H.size i1 kk r_33 (by first | omega | assumption | decide | (have l0 := Int32.toInt_zero; omega)) (by first | omega | assumption | decide | (have l0 := Int32.toInt_zero; omega))) (cwV 3 hts mg_X10_letm_X10_sets_473 rfl rfl rfl (by decide +kernel) ⟨Nat.le_of_ble_eq_true rfl, Nat.le_of_ble_eq_true rfl⟩) ⟨fun a U g mk q => by obtain ⟨q0, q1, qP, qK, qD⟩ := q; exact ⟨q0, q1, qP, va_K.moved (u := U) (U := U.calling g mk a) (Vm.Alike.refl U.vm) qK, qD⟩, va_recv hK hP (ci := 10) (q0 := 0) rfl rfl, fun U hU hW => ⟨rfl, by rw [hU], by rw [hU]; exact hP, va_K.moved hW.alike hK, hD.weaken (fun _ _ _ _ => trivial)⟩⟩ rfl rfl hl.1 rfl (lv_room (Nat.le_of_ble_eq_true rfl)) dX10_let_100 ⟨Nat.le_of_ble_eq_true rfl, Nat.le_of_ble_eq_true rfl⟩) hS (fun q _ h => hFc q h) hFc (fun u t H1 locs ht hvm hw hB hz1 hk1 hS => ?_)
                  obtain ⟨f_35, hr_34_0, hP, hK1, hD1⟩ := hB
                  rw [ht] at hP
                  have hD := hD1.weaken (fun k q _ h => hFc q.1 h)
                  clear hz1 hk1 hFc hD1 hK1 hvm
                  generalize H1 = H at hP hS ⊢
                  have hP : va_P (dC, dI) vwCl (mW ad kc x0 x1 x2 x3 x4 x5 x6 x7 x8 x9 x10 x11 x12 x13 x14 x15 x16 x17 x18 x19 x20 x21 f_35 f1 f2 f3 f4 f5 f6 f7 f8 f9 f10 f11 f12 f13 f14 f15 f16 f17 f18 f19 f20 f21 fL fN fP fM fO) H := hP
                  have hD : va_D A (mW ad kc x0 x1 x2 x3 x4 x5 x6 x7 x8 x9 x10 x11 x12 x13 x14 x15 x16 x17 x18 x19 x20 x21 f_35 f1 f2 f3 f4 f5 f6 f7 f8 f9 f10 f11 f12 f13 f14 f15 f16 f17 f18 f19 f20 f21 fL fN fP fM fO) := hD
                  have hd7 := v81_1.put (by omega) (by omega) (by omega) (by omega) (by omega) (by omega) hr_34_0
                  obtain ⟨y_36, ey_36⟩ : ∃ y : Int32, y = kk + (-1) := ⟨_, rfl⟩
                  first | have ty_36 := i_add (a := kk.toInt) (b := (-1)) rfl (by decide) ey_36 (by omega) (by omega) | skip
                  refine lv_iinc (v := y_36) (lv' := [(4, .int y_36), (0, .ref (ad 0)), (1, .int i1), (2, .int i2), (3, .int i3)]) hx hb dX10_let_103 hl (k := 0) rfl (by rw [ey_36]; rfl) (by decide) rfl (fun ls hl => ?_)
                  refine lv_goto (tgt := 81) hx hb dX10_let_106 (by decide) ?_
                  exact ih81 y_36 f_35 (by first | omega | assumption | decide) hd7 (v81_2.far (fun z hz => hr_34_0.2 z (by omega) (by omega))) ((hr_34_0.2 0 (by omega) (by omega)).trans v81_3) ((hr_34_0.2 (1 + i1.toInt) (by omega) (by omega)).trans v81_4) (lv_step v81_5 hr_34_0 (by omega) (by omega) (by omega) (by omega) (by omega)) (by omega) _ _ ls hP hD hS (lv_sub hl [0, 1, 2, 3, 4] rfl)
            exact loop81 _ r_19 f_18 (by first | omega | assumption | decide) hd9 hm9 hs0 hss (fun j h1 h2 => by omega) (Nat.lt_succ_self _) _ _ ls hP hD hS (lv_sub hl [0, 1, 2, 3, 4] rfl)
          · have tk_14 := c_eq (a := r_13.toInt) (b := 60) rfl (by decide) k_14
            refine lv_aload_n hx hb dX10_let_59 rfl (lv_at hl 0 rfl) ?_
            refine lv_bipush (v := 6) hx hb dX10_let_60 (by decide) ?_
            have lit_36 : (6 : Int32).toInt = 6 := by decide
            have hFc := m_free hD hS hA
            refine va_calli (va_runV (As := [.int 6]) (rest := []) ⟨hx, hb, hml, hown, hts⟩ (m_refuse l dC dI ad kc x0 x1 x2 x3 x4 x5 x6 x7 x8 x9 x10 x11 x12 x13 x14 x15 x16 x17 x18 x19 x20 x21 f0 f1 f2 f3 f4 f5 f6 f7 f8 f9 f10 f11 f12 f13 f14 f15 f16 f17 f18 f19 f20 f21 fL fN fP fM fO H.size 6 ) (cwV 1 hts mg_X10_letm_X10_refuse_204 rfl rfl rfl (by decide +kernel) ⟨Nat.le_of_ble_eq_true rfl, Nat.le_of_ble_eq_true rfl⟩) ⟨fun a U g mk q => by obtain ⟨q0, q1, qP, qK, qD⟩ := q; exact ⟨q0, q1, qP, va_K.moved (u := U) (U := U.calling g mk a) (Vm.Alike.refl U.vm) qK, qD⟩, va_recv hK hP (ci := 10) (q0 := 0) rfl rfl, fun U hU hW => ⟨rfl, by rw [hU], by rw [hU]; exact hP, va_K.moved hW.alike hK, hD.weaken (fun _ _ _ _ => trivial)⟩⟩ rfl rfl hl.1 rfl (lv_room (Nat.le_of_ble_eq_true rfl)) dX10_let_62 ⟨Nat.le_of_ble_eq_true rfl, Nat.le_of_ble_eq_true rfl⟩) hS (fun q _ h => hFc q h) hFc (fun r_38 u t H1 locs ht hvm hw hB hz1 hk1 hS => ?_)
            subst hw
            obtain ⟨hr_38_0, hP, hK1, hD1⟩ := hB
            rw [ht] at hP
            have hD := hD1.weaken (fun k q _ h => hFc q.1 h)
            clear hz1 hk1 hFc hD1 hK1 hvm
            generalize H1 = H at hP hS ⊢
            have rg_r_38 := i_rng r_38
            have hP : va_P (dC, dI) vwCl (mW ad kc 6 x1 x2 x3 x4 x5 x6 x7 x8 x9 x10 x11 x12 x13 x14 x15 x16 x17 x18 x19 x20 x21 f0 f1 f2 f3 f4 f5 f6 f7 f8 f9 f10 f11 f12 f13 f14 f15 f16 f17 f18 f19 f20 f21 fL fN fP fM fO) H := hP
            have hD : va_D A (mW ad kc 6 x1 x2 x3 x4 x5 x6 x7 x8 x9 x10 x11 x12 x13 x14 x15 x16 x17 x18 x19 x20 x21 f0 f1 f2 f3 f4 f5 f6 f7 f8 f9 f10 f11 f12 f13 f14 f15 f16 f17 f18 f19 f20 f21 fL fN fP fM fO) := hD
            have lit_38 : (6 : Int32).toInt = 6 := by decide
            exact W.iret hx hb hr (fun t ht hW => ⟨⟨_, _, rfl, rfl, 6, x1, f0, q0, by rw [ht]; exact hP, va_K.moved hW.alike hK, hD⟩, hS.F ht⟩) hS.2.2 dX10_let_65
        · have tk_12 := c_nle (a := i2.toInt) (b := r_11.toInt) rfl rfl k_12
          refine lv_aload_n hx hb dX10_let_43 rfl (lv_at hl 0 rfl) ?_
          refine lv_iconst (v := 5) hx hb dX10_let_44 (by decide) ?_
          have lit_39 : (5 : Int32).toInt = 5 := by decide
          have hFc := m_free hD hS hA
          refine va_calli (va_runV (As := [.int 5]) (rest := []) ⟨hx, hb, hml, hown, hts⟩ (m_refuse l dC dI ad kc x0 x1 x2 x3 x4 x5 x6 x7 x8 x9 x10 x11 x12 x13 x14 x15 x16 x17 x18 x19 x20 x21 f0 f1 f2 f3 f4 f5 f6 f7 f8 f9 f10 f11 f12 f13 f14 f15 f16 f17 f18 f19 f20 f21 fL fN fP fM fO H.size 5 ) (cwV 1 hts mg_X10_letm_X10_refuse_204 rfl rfl rfl (by decide +kernel) ⟨Nat.le_of_ble_eq_true rfl, Nat.le_of_ble_eq_true rfl⟩) ⟨fun a U g mk q => by obtain ⟨q0, q1, qP, qK, qD⟩ := q; exact ⟨q0, q1, qP, va_K.moved (u := U) (U := U.calling g mk a) (Vm.Alike.refl U.vm) qK, qD⟩, va_recv hK hP (ci := 10) (q0 := 0) rfl rfl, fun U hU hW => ⟨rfl, by rw [hU], by rw [hU]; exact hP, va_K.moved hW.alike hK, hD.weaken (fun _ _ _ _ => trivial)⟩⟩ rfl rfl hl.1 rfl (lv_room (Nat.le_of_ble_eq_true rfl)) dX10_let_45 ⟨Nat.le_of_ble_eq_true rfl, Nat.le_of_ble_eq_true rfl⟩) hS (fun q _ h => hFc q h) hFc (fun r_41 u t H1 locs ht hvm hw hB hz1 hk1 hS => ?_)
          subst hw
          obtain ⟨hr_41_0, hP, hK1, hD1⟩ := hB
          rw [ht] at hP
          have hD := hD1.weaken (fun k q _ h => hFc q.1 h)
          clear hz1 hk1 hFc hD1 hK1 hvm
          generalize H1 = H at hP hS ⊢
          have rg_r_41 := i_rng r_41
          have hP : va_P (dC, dI) vwCl (mW ad kc 5 x1 x2 x3 x4 x5 x6 x7 x8 x9 x10 x11 x12 x13 x14 x15 x16 x17 x18 x19 x20 x21 f0 f1 f2 f3 f4 f5 f6 f7 f8 f9 f10 f11 f12 f13 f14 f15 f16 f17 f18 f19 f20 f21 fL fN fP fM fO) H := hP
          have hD : va_D A (mW ad kc 5 x1 x2 x3 x4 x5 x6 x7 x8 x9 x10 x11 x12 x13 x14 x15 x16 x17 x18 x19 x20 x21 f0 f1 f2 f3 f4 f5 f6 f7 f8 f9 f10 f11 f12 f13 f14 f15 f16 f17 f18 f19 f20 f21 fL fN fP fM fO) := hD
          have lit_41 : (5 : Int32).toInt = 5 := by decide
          exact W.iret hx hb hr (fun t ht hW => ⟨⟨_, _, rfl, rfl, 5, x1, f0, q0, by rw [ht]; exact hP, va_K.moved hW.alike hK, hD⟩, hS.F ht⟩) hS.2.2 dX10_let_48
      · have tk_10 := c_eq (a := r_9.toInt) (b := 0) rfl (by decide) k_10
        refine lv_aload_n hx hb dX10_let_28 rfl (lv_at hl 0 rfl) ?_
        refine lv_iconst (v := 2) hx hb dX10_let_29 (by decide) ?_
        have lit_42 : (2 : Int32).toInt = 2 := by decide
        have hFc := m_free hD hS hA
        refine va_calli (va_runV (As := [.int 2]) (rest := []) ⟨hx, hb, hml, hown, hts⟩ (m_refuse l dC dI ad kc x0 x1 x2 x3 x4 x5 x6 x7 x8 x9 x10 x11 x12 x13 x14 x15 x16 x17 x18 x19 x20 x21 f0 f1 f2 f3 f4 f5 f6 f7 f8 f9 f10 f11 f12 f13 f14 f15 f16 f17 f18 f19 f20 f21 fL fN fP fM fO H.size 2 ) (cwV 1 hts mg_X10_letm_X10_refuse_204 rfl rfl rfl (by decide +kernel) ⟨Nat.le_of_ble_eq_true rfl, Nat.le_of_ble_eq_true rfl⟩) ⟨fun a U g mk q => by obtain ⟨q0, q1, qP, qK, qD⟩ := q; exact ⟨q0, q1, qP, va_K.moved (u := U) (U := U.calling g mk a) (Vm.Alike.refl U.vm) qK, qD⟩, va_recv hK hP (ci := 10) (q0 := 0) rfl rfl, fun U hU hW => ⟨rfl, by rw [hU], by rw [hU]; exact hP, va_K.moved hW.alike hK, hD.weaken (fun _ _ _ _ => trivial)⟩⟩ rfl rfl hl.1 rfl (lv_room (Nat.le_of_ble_eq_true rfl)) dX10_let_30 ⟨Nat.le_of_ble_eq_true rfl, Nat.le_of_ble_eq_true rfl⟩) hS (fun q _ h => hFc q h) hFc (fun r_44 u t H1 locs ht hvm hw hB hz1 hk1 hS => ?_)
        subst hw
        obtain ⟨hr_44_0, hP, hK1, hD1⟩ := hB
        rw [ht] at hP
        have hD := hD1.weaken (fun k q _ h => hFc q.1 h)
        clear hz1 hk1 hFc hD1 hK1 hvm
        generalize H1 = H at hP hS ⊢
        have rg_r_44 := i_rng r_44
        have hP : va_P (dC, dI) vwCl (mW ad kc 2 x1 x2 x3 x4 x5 x6 x7 x8 x9 x10 x11 x12 x13 x14 x15 x16 x17 x18 x19 x20 x21 f0 f1 f2 f3 f4 f5 f6 f7 f8 f9 f10 f11 f12 f13 f14 f15 f16 f17 f18 f19 f20 f21 fL fN fP fM fO) H := hP
        have hD : va_D A (mW ad kc 2 x1 x2 x3 x4 x5 x6 x7 x8 x9 x10 x11 x12 x13 x14 x15 x16 x17 x18 x19 x20 x21 f0 f1 f2 f3 f4 f5 f6 f7 f8 f9 f10 f11 f12 f13 f14 f15 f16 f17 f18 f19 f20 f21 fL fN fP fM fO) := hD
        have lit_44 : (2 : Int32).toInt = 2 := by decide
        exact W.iret hx hb hr (fun t ht hW => ⟨⟨_, _, rfl, rfl, 2, x1, f0, q0, by rw [ht]; exact hP, va_K.moved hW.alike hK, hD⟩, hS.F ht⟩) hS.2.2 dX10_let_33
    · have tk_8 := c_eq (a := r_7.toInt) (b := 0) rfl (by decide) k_8
      refine lv_aload_n hx hb dX10_let_14 rfl (lv_at hl 0 rfl) ?_
      refine lv_iconst (v := 1) hx hb dX10_let_15 (by decide) ?_
      have lit_45 : (1 : Int32).toInt = 1 := by decide
      have hFc := m_free hD hS hA
      refine va_calli (va_runV (As := [.int 1]) (rest := []) ⟨hx, hb, hml, hown, hts⟩ (m_refuse l dC dI ad kc x0 x1 x2 x3 x4 x5 x6 x7 x8 x9 x10 x11 x12 x13 x14 x15 x16 x17 x18 x19 x20 x21 f0 f1 f2 f3 f4 f5 f6 f7 f8 f9 f10 f11 f12 f13 f14 f15 f16 f17 f18 f19 f20 f21 fL fN fP fM fO H.size 1 ) (cwV 1 hts mg_X10_letm_X10_refuse_204 rfl rfl rfl (by decide +kernel) ⟨Nat.le_of_ble_eq_true rfl, Nat.le_of_ble_eq_true rfl⟩) ⟨fun a U g mk q => by obtain ⟨q0, q1, qP, qK, qD⟩ := q; exact ⟨q0, q1, qP, va_K.moved (u := U) (U := U.calling g mk a) (Vm.Alike.refl U.vm) qK, qD⟩, va_recv hK hP (ci := 10) (q0 := 0) rfl rfl, fun U hU hW => ⟨rfl, by rw [hU], by rw [hU]; exact hP, va_K.moved hW.alike hK, hD.weaken (fun _ _ _ _ => trivial)⟩⟩ rfl rfl hl.1 rfl (lv_room (Nat.le_of_ble_eq_true rfl)) dX10_let_16 ⟨Nat.le_of_ble_eq_true rfl, Nat.le_of_ble_eq_true rfl⟩) hS (fun q _ h => hFc q h) hFc (fun r_47 u t H1 locs ht hvm hw hB hz1 hk1 hS => ?_)
      subst hw
      obtain ⟨hr_47_0, hP, hK1, hD1⟩ := hB
      rw [ht] at hP
      have hD := hD1.weaken (fun k q _ h => hFc q.1 h)
      clear hz1 hk1 hFc hD1 hK1 hvm
      generalize H1 = H at hP hS ⊢
      have rg_r_47 := i_rng r_47
      have hP : va_P (dC, dI) vwCl (mW ad kc 1 x1 x2 x3 x4 x5 x6 x7 x8 x9 x10 x11 x12 x13 x14 x15 x16 x17 x18 x19 x20 x21 f0 f1 f2 f3 f4 f5 f6 f7 f8 f9 f10 f11 f12 f13 f14 f15 f16 f17 f18 f19 f20 f21 fL fN fP fM fO) H := hP
      have hD : va_D A (mW ad kc 1 x1 x2 x3 x4 x5 x6 x7 x8 x9 x10 x11 x12 x13 x14 x15 x16 x17 x18 x19 x20 x21 f0 f1 f2 f3 f4 f5 f6 f7 f8 f9 f10 f11 f12 f13 f14 f15 f16 f17 f18 f19 f20 f21 fL fN fP fM fO) := hD
      have lit_47 : (1 : Int32).toInt = 1 := by decide
      exact W.iret hx hb hr (fun t ht hW => ⟨⟨_, _, rfl, rfl, 1, x1, f0, q0, by rw [ht]; exact hP, va_K.moved hW.alike hK, hD⟩, hS.F ht⟩) hS.2.2 dX10_let_19
theorem dX10_cut_0 : decode cX10_cut 0 = .ok (.iload_n 2, 1) := by decide +kernel
theorem dX10_cut_1 : decode cX10_cut 1 = .ok (.ifCond .lt 8, 3) := by decide +kernel
theorem dX10_cut_4 : decode cX10_cut 4 = .ok (.iload_n 3, 1) := by decide +kernel
theorem dX10_cut_5 : decode cX10_cut 5 = .ok (.iconst 1, 1) := by decide +kernel
theorem dX10_cut_6 : decode cX10_cut 6 = .ok (.if_icmp .ge 9, 3) := by decide +kernel
theorem dX10_cut_9 : decode cX10_cut 9 = .ok (.aload_n 0, 1) := by decide +kernel
theorem dX10_cut_10 : decode cX10_cut 10 = .ok (.iconst 1, 1) := by decide +kernel
theorem dX10_cut_11 : decode cX10_cut 11 = .ok (.invokevirtual 204, 3) := by decide +kernel
theorem dX10_cut_14 : decode cX10_cut 14 = .ok (.ireturn, 1) := by decide +kernel
theorem dX10_cut_15 : decode cX10_cut 15 = .ok (.aload_n 0, 1) := by decide +kernel
theorem dX10_cut_16 : decode cX10_cut 16 = .ok (.iload_n 1, 1) := by decide +kernel
theorem dX10_cut_17 : decode cX10_cut 17 = .ok (.invokevirtual 451, 3) := by decide +kernel
theorem dX10_cut_20 : decode cX10_cut 20 = .ok (.ifCond .ne 9, 3) := by decide +kernel
theorem dX10_cut_23 : decode cX10_cut 23 = .ok (.aload_n 0, 1) := by decide +kernel
theorem dX10_cut_24 : decode cX10_cut 24 = .ok (.iconst 2, 1) := by decide +kernel
theorem dX10_cut_25 : decode cX10_cut 25 = .ok (.invokevirtual 204, 3) := by decide +kernel
theorem dX10_cut_28 : decode cX10_cut 28 = .ok (.ireturn, 1) := by decide +kernel
theorem dX10_cut_29 : decode cX10_cut 29 = .ok (.iload_n 2, 1) := by decide +kernel
theorem dX10_cut_30 : decode cX10_cut 30 = .ok (.aload_n 0, 1) := by decide +kernel
theorem dX10_cut_31 : decode cX10_cut 31 = .ok (.iload_n 1, 1) := by decide +kernel
theorem dX10_cut_32 : decode cX10_cut 32 = .ok (.invokevirtual 396, 3) := by decide +kernel
theorem dX10_cut_35 : decode cX10_cut 35 = .ok (.if_icmp .gt 14, 3) := by decide +kernel
theorem dX10_cut_38 : decode cX10_cut 38 = .ok (.iload_n 3, 1) := by decide +kernel
theorem dX10_cut_39 : decode cX10_cut 39 = .ok (.aload_n 0, 1) := by decide +kernel
theorem dX10_cut_40 : decode cX10_cut 40 = .ok (.iload_n 1, 1) := by decide +kernel
theorem dX10_cut_41 : decode cX10_cut 41 = .ok (.invokevirtual 396, 3) := by decide +kernel
theorem dX10_cut_44 : decode cX10_cut 44 = .ok (.iload_n 2, 1) := by decide +kernel
theorem dX10_cut_45 : decode cX10_cut 45 = .ok (.isub, 1) := by decide +kernel
theorem dX10_cut_46 : decode cX10_cut 46 = .ok (.if_icmp .le 9, 3) := by decide +kernel
theorem dX10_cut_49 : decode cX10_cut 49 = .ok (.aload_n 0, 1) := by decide +kernel
theorem dX10_cut_50 : decode cX10_cut 50 = .ok (.iconst 5, 1) := by decide +kernel
theorem dX10_cut_51 : decode cX10_cut 51 = .ok (.invokevirtual 204, 3) := by decide +kernel
theorem dX10_cut_54 : decode cX10_cut 54 = .ok (.ireturn, 1) := by decide +kernel
theorem dX10_cut_55 : decode cX10_cut 55 = .ok (.iload_n 3, 1) := by decide +kernel
theorem dX10_cut_56 : decode cX10_cut 56 = .ok (.aload_n 0, 1) := by decide +kernel
theorem dX10_cut_57 : decode cX10_cut 57 = .ok (.iload_n 1, 1) := by decide +kernel
theorem dX10_cut_58 : decode cX10_cut 58 = .ok (.invokevirtual 396, 3) := by decide +kernel
theorem dX10_cut_61 : decode cX10_cut 61 = .ok (.if_icmp .ne 10, 3) := by decide +kernel
theorem dX10_cut_64 : decode cX10_cut 64 = .ok (.aload_n 0, 1) := by decide +kernel
theorem dX10_cut_65 : decode cX10_cut 65 = .ok (.bipush 6, 2) := by decide +kernel
theorem dX10_cut_67 : decode cX10_cut 67 = .ok (.invokevirtual 204, 3) := by decide +kernel
theorem dX10_cut_70 : decode cX10_cut 70 = .ok (.ireturn, 1) := by decide +kernel
theorem dX10_cut_71 : decode cX10_cut 71 = .ok (.aload_n 0, 1) := by decide +kernel
theorem dX10_cut_72 : decode cX10_cut 72 = .ok (.iconst 0, 1) := by decide +kernel
theorem dX10_cut_73 : decode cX10_cut 73 = .ok (.sipush 7820, 3) := by decide +kernel
theorem dX10_cut_76 : decode cX10_cut 76 = .ok (.invokevirtual 193, 3) := by decide +kernel
theorem dX10_cut_79 : decode cX10_cut 79 = .ok (.iload_n 2, 1) := by decide +kernel
theorem dX10_cut_80 : decode cX10_cut 80 = .ok (.istore 4, 2) := by decide +kernel
theorem dX10_cut_82 : decode cX10_cut 82 = .ok (.iload 4, 2) := by decide +kernel
theorem dX10_cut_84 : decode cX10_cut 84 = .ok (.iload_n 3, 1) := by decide +kernel
theorem dX10_cut_85 : decode cX10_cut 85 = .ok (.iadd, 1) := by decide +kernel
theorem dX10_cut_86 : decode cX10_cut 86 = .ok (.aload_n 0, 1) := by decide +kernel
theorem dX10_cut_87 : decode cX10_cut 87 = .ok (.iload_n 1, 1) := by decide +kernel
theorem dX10_cut_88 : decode cX10_cut 88 = .ok (.invokevirtual 396, 3) := by decide +kernel
theorem dX10_cut_91 : decode cX10_cut 91 = .ok (.if_icmp .ge 25, 3) := by decide +kernel
theorem dX10_cut_94 : decode cX10_cut 94 = .ok (.aload_n 0, 1) := by decide +kernel
theorem dX10_cut_95 : decode cX10_cut 95 = .ok (.iload_n 1, 1) := by decide +kernel
theorem dX10_cut_96 : decode cX10_cut 96 = .ok (.iload 4, 2) := by decide +kernel
theorem dX10_cut_98 : decode cX10_cut 98 = .ok (.aload_n 0, 1) := by decide +kernel
theorem dX10_cut_99 : decode cX10_cut 99 = .ok (.iload_n 1, 1) := by decide +kernel
theorem dX10_cut_100 : decode cX10_cut 100 = .ok (.iload 4, 2) := by decide +kernel
theorem dX10_cut_102 : decode cX10_cut 102 = .ok (.iload_n 3, 1) := by decide +kernel
theorem dX10_cut_103 : decode cX10_cut 103 = .ok (.iadd, 1) := by decide +kernel
theorem dX10_cut_104 : decode cX10_cut 104 = .ok (.invokevirtual 399, 3) := by decide +kernel
theorem dX10_cut_107 : decode cX10_cut 107 = .ok (.invokevirtual 473, 3) := by decide +kernel
theorem dX10_cut_110 : decode cX10_cut 110 = .ok (.iinc 4 1, 3) := by decide +kernel
theorem dX10_cut_113 : decode cX10_cut 113 = .ok (.goto (-31), 3) := by decide +kernel
theorem dX10_cut_116 : decode cX10_cut 116 = .ok (.aload_n 0, 1) := by decide +kernel
theorem dX10_cut_117 : decode cX10_cut 117 = .ok (.getfield 8, 3) := by decide +kernel
theorem dX10_cut_120 : decode cX10_cut 120 = .ok (.iconst 1, 1) := by decide +kernel
theorem dX10_cut_121 : decode cX10_cut 121 = .ok (.iload_n 1, 1) := by decide +kernel
theorem dX10_cut_122 : decode cX10_cut 122 = .ok (.iadd, 1) := by decide +kernel
theorem dX10_cut_123 : decode cX10_cut 123 = .ok (.dup2, 1) := by decide +kernel
theorem dX10_cut_124 : decode cX10_cut 124 = .ok (.iaload, 1) := by decide +kernel
theorem dX10_cut_125 : decode cX10_cut 125 = .ok (.iload_n 3, 1) := by decide +kernel
theorem dX10_cut_126 : decode cX10_cut 126 = .ok (.isub, 1) := by decide +kernel
theorem dX10_cut_127 : decode cX10_cut 127 = .ok (.iastore, 1) := by decide +kernel
theorem dX10_cut_128 : decode cX10_cut 128 = .ok (.aload_n 0, 1) := by decide +kernel
theorem dX10_cut_129 : decode cX10_cut 129 = .ok (.aload_n 0, 1) := by decide +kernel
theorem dX10_cut_130 : decode cX10_cut 130 = .ok (.iload_n 1, 1) := by decide +kernel
theorem dX10_cut_131 : decode cX10_cut 131 = .ok (.invokevirtual 396, 3) := by decide +kernel
theorem dX10_cut_134 : decode cX10_cut 134 = .ok (.invokevirtual 476, 3) := by decide +kernel
theorem dX10_cut_137 : decode cX10_cut 137 = .ok (.ireturn, 1) := by decide +kernel
def mwX10_cutm : List Cond := .code yX10_cut cX10_cut 5 (some .int) :: (([.methodLink RX10 204 yX10_refuse, .instanceMethod yX10_refuse, .selects RX10 yX10_refuse yX10_refuse, .initialized RX10, .methodLink RX10 451 yX10_isDoc, .instanceMethod yX10_isDoc, .selects RX10 yX10_isDoc yX10_isDoc, .methodLink RX10 396 yX10_sizeOf, .instanceMethod yX10_sizeOf, .selects RX10 yX10_sizeOf yX10_sizeOf, .methodLink RX10 193 yX10_copies, .instanceMethod yX10_copies, .selects RX10 yX10_copies yX10_copies, .fieldLink RX10 8 "PatternGateModel" "all" "[I", .methodLink RX10 476 yX10_acted_, .instanceMethod yX10_acted_, .selects RX10 yX10_acted_ yX10_acted_, .methodLink RX10 399 yX10_at, .instanceMethod yX10_at, .selects RX10 yX10_at yX10_at, .methodLink RX10 473 yX10_sets, .instanceMethod yX10_sets, .selects RX10 yX10_sets yX10_sets] : List Cond) ++ (wsX100 ++ (mwX10_refusem ++ (mwX10_isDocm ++ (mwX10_sizeOfm ++ (mwX10_copiesm ++ (mwX10_acted_m ++ (mwX10_atm ++ (mwX10_setsm)))))))))
theorem fin_X10_cutm_X10 : ∀ w ∈ wsX100, w ∈ mwX10_cutm := fun w h => List.mem_cons_of_mem _ (List.mem_append_right _ (List.mem_append_left _ h))
set_option maxRecDepth 20000 in
theorem mg_X10_cutm_X10_refuse_204 : GoodIn mwX10_cutm (wsV RX10 204 RX10 yX10_refuse mwX10_refusem) := gi_app (A := [.methodLink RX10 204 yX10_refuse, .instanceMethod yX10_refuse, .selects RX10 yX10_refuse yX10_refuse, .initialized RX10]) (goodIn_r _ [1, 2, 3, 4] (by decide +kernel) (by decide +kernel)) (gi_sub gd_mwX10_refusem (fun w h => List.mem_cons_of_mem _ (List.mem_append_right _ (List.mem_append_right _ (List.mem_append_left _ h)))))
set_option maxRecDepth 20000 in
theorem mg_X10_cutm_X10_isDoc_451 : GoodIn mwX10_cutm (wsV RX10 451 RX10 yX10_isDoc mwX10_isDocm) := gi_app (A := [.methodLink RX10 451 yX10_isDoc, .instanceMethod yX10_isDoc, .selects RX10 yX10_isDoc yX10_isDoc, .initialized RX10]) (goodIn_r _ [5, 6, 7, 4] (by decide +kernel) (by decide +kernel)) (gi_sub gd_mwX10_isDocm (fun w h => List.mem_cons_of_mem _ (List.mem_append_right _ (List.mem_append_right _ (List.mem_append_right _ (List.mem_append_left _ h))))))
set_option maxRecDepth 20000 in
theorem mg_X10_cutm_X10_sizeOf_396 : GoodIn mwX10_cutm (wsV RX10 396 RX10 yX10_sizeOf mwX10_sizeOfm) := gi_app (A := [.methodLink RX10 396 yX10_sizeOf, .instanceMethod yX10_sizeOf, .selects RX10 yX10_sizeOf yX10_sizeOf, .initialized RX10]) (goodIn_r _ [8, 9, 10, 4] (by decide +kernel) (by decide +kernel)) (gi_sub gd_mwX10_sizeOfm (fun w h => List.mem_cons_of_mem _ (List.mem_append_right _ (List.mem_append_right _ (List.mem_append_right _ (List.mem_append_right _ (List.mem_append_left _ h)))))))
set_option maxRecDepth 20000 in
theorem mg_X10_cutm_X10_copies_193 : GoodIn mwX10_cutm (wsV RX10 193 RX10 yX10_copies mwX10_copiesm) := gi_app (A := [.methodLink RX10 193 yX10_copies, .instanceMethod yX10_copies, .selects RX10 yX10_copies yX10_copies, .initialized RX10]) (goodIn_r _ [11, 12, 13, 4] (by decide +kernel) (by decide +kernel)) (gi_sub gd_mwX10_copiesm (fun w h => List.mem_cons_of_mem _ (List.mem_append_right _ (List.mem_append_right _ (List.mem_append_right _ (List.mem_append_right _ (List.mem_append_right _ (List.mem_append_left _ h))))))))
set_option maxRecDepth 20000 in
theorem mg_X10_cutm_X10_acted__476 : GoodIn mwX10_cutm (wsV RX10 476 RX10 yX10_acted_ mwX10_acted_m) := gi_app (A := [.methodLink RX10 476 yX10_acted_, .instanceMethod yX10_acted_, .selects RX10 yX10_acted_ yX10_acted_, .initialized RX10]) (goodIn_r _ [15, 16, 17, 4] (by decide +kernel) (by decide +kernel)) (gi_sub gd_mwX10_acted_m (fun w h => List.mem_cons_of_mem _ (List.mem_append_right _ (List.mem_append_right _ (List.mem_append_right _ (List.mem_append_right _ (List.mem_append_right _ (List.mem_append_right _ (List.mem_append_left _ h)))))))))
set_option maxRecDepth 20000 in
theorem mg_X10_cutm_X10_at_399 : GoodIn mwX10_cutm (wsV RX10 399 RX10 yX10_at mwX10_atm) := gi_app (A := [.methodLink RX10 399 yX10_at, .instanceMethod yX10_at, .selects RX10 yX10_at yX10_at, .initialized RX10]) (goodIn_r _ [18, 19, 20, 4] (by decide +kernel) (by decide +kernel)) (gi_sub gd_mwX10_atm (fun w h => List.mem_cons_of_mem _ (List.mem_append_right _ (List.mem_append_right _ (List.mem_append_right _ (List.mem_append_right _ (List.mem_append_right _ (List.mem_append_right _ (List.mem_append_right _ (List.mem_append_left _ h))))))))))
set_option maxRecDepth 20000 in
theorem mg_X10_cutm_X10_sets_473 : GoodIn mwX10_cutm (wsV RX10 473 RX10 yX10_sets mwX10_setsm) := gi_app (A := [.methodLink RX10 473 yX10_sets, .instanceMethod yX10_sets, .selects RX10 yX10_sets yX10_sets, .initialized RX10]) (goodIn_r _ [21, 22, 23, 4] (by decide +kernel) (by decide +kernel)) (gi_sub gd_mwX10_setsm (fun w h => List.mem_cons_of_mem _ (List.mem_append_right _ (List.mem_append_right _ (List.mem_append_right _ (List.mem_append_right _ (List.mem_append_right _ (List.mem_append_right _ (List.mem_append_right _ (List.mem_append_right _ (h)))))))))))
set_option maxHeartbeats 4000000 in
set_option maxRecDepth 100000 in
theorem m_cut (l : Launch) (dC : Nat → ClassId) (dI : Nat → Nat → Nat) (ad : Nat → Nat) (kc : Nat → ClassId) (x0 x1 x2 x3 x4 x5 x6 x7 x8 x9 x10 x11 x12 x13 x14 x15 x16 x17 x18 x19 x20 x21 : Int32) (f0 f1 f2 f3 f4 f5 f6 f7 f8 f9 f10 f11 f12 f13 f14 f15 f16 f17 f18 f19 f20 f21 : Nat → Int32) (fL : Nat → Nat → Int64) (fN : Nat → Nat → Int32) (fP : Nat → Nat → Nat) (fM : Nat → Nat → Int32) (fO : Nat → Nat → Int32) (sz : Nat) (i1 i2 i3 : Int32) (q0 : mI x1.toInt x2.toInt x3.toInt f0 fP) : Met l yX10_cut mwX10_cutm ({ frames := 3, cells := 0, slots := 0, locals := 180 }) (va_Pc [.ref (ad 0), .int i1, .int i2, .int i3] (fun U => U.heap.size = sz ∧ va_P (dC, dI) vwCl (mW ad kc x0 x1 x2 x3 x4 x5 x6 x7 x8 x9 x10 x11 x12 x13 x14 x15 x16 x17 x18 x19 x20 x21 f0 f1 f2 f3 f4 f5 f6 f7 f8 f9 f10 f11 f12 f13 f14 f15 f16 f17 f18 f19 f20 f21 fL fN fP fM fO) U.heap ∧ va_K (dC, dI) vwCl (mT kc) U ∧ va_D (fun _ => True) (mW ad kc x0 x1 x2 x3 x4 x5 x6 x7 x8 x9 x10 x11 x12 x13 x14 x15 x16 x17 x18 x19 x20 x21 f0 f1 f2 f3 f4 f5 f6 f7 f8 f9 f10 f11 f12 f13 f14 f15 f16 f17 f18 f19 f20 f21 fL fN fP fM fO))) (va_Qi (fun (o9 u9 : Int32) => o9 = u9) (fun (o9 : Int32) t => ∃ (y0 y1 : Int32) (g0 : Nat → Int32), (mI y1.toInt x2.toInt x3.toInt g0 fP) ∧ va_P (dC, dI) vwCl (mW ad kc y0 y1 x2 x3 x4 x5 x6 x7 x8 x9 x10 x11 x12 x13 x14 x15 x16 x17 x18 x19 x20 x21 g0 f1 f2 f3 f4 f5 f6 f7 f8 f9 f10 f11 f12 f13 f14 f15 f16 f17 f18 f19 f20 f21 fL fN fP fM fO) t.heap ∧ va_K (dC, dI) vwCl (mT kc) t ∧ va_D (va_A (mW ad kc x0 x1 x2 x3 x4 x5 x6 x7 x8 x9 x10 x11 x12 x13 x14 x15 x16 x17 x18 x19 x20 x21 f0 f1 f2 f3 f4 f5 f6 f7 f8 f9 f10 f11 f12 f13 f14 f15 f16 f17 f18 f19 f20 f21 fL fN fP fM fO) sz) (mW ad kc y0 y1 x2 x3 x4 x5 x6 x7 x8 x9 x10 x11 x12 x13 x14 x15 x16 x17 x18 x19 x20 x21 g0 f1 f2 f3 f4 f5 f6 f7 f8 f9 f10 f11 f12 f13 f14 f15 f16 f17 f18 f19 f20 f21 fL fN fP fM fO)) (va_A (mW ad kc x0 x1 x2 x3 x4 x5 x6 x7 x8 x9 x10 x11 x12 x13 x14 x15 x16 x17 x18 x19 x20 x21 f0 f1 f2 f3 f4 f5 f6 f7 f8 f9 f10 f11 f12 f13 f14 f15 f16 f17 f18 f19 f20 f21 fL fN fP fM fO) sz)) 0 0 (va_A (mW ad kc x0 x1 x2 x3 x4 x5 x6 x7 x8 x9 x10 x11 x12 x13 x14 x15 x16 x17 x18 x19 x20 x21 f0 f1 f2 f3 f4 f5 f6 f7 f8 f9 f10 f11 f12 f13 f14 f15 f16 f17 f18 f19 f20 f21 fL fN fP fM fO) sz) := by
  refine Met.ofW (cc := cX10_cut) (maxL := 5) (ret := (some .int)) (by decide +kernel) rfl ?_
  intro p e s m args below meth c s₁ B hml hv
  obtain ⟨rfl, hsz, hP, hK, hD0⟩ := hv
  have hx := B.exec
  have hb := B.bytes
  have hr := B.returns
  have hts := atoms_spec (ws := mwX10_cutm) B.pre
  have hown : s.vm.findClass RX10 = some m.cls := findClass_of_methodNamed B.named
  have hlocks := B.notSynchronized
  subst hsz
  have hD := hD0.self (sz := s.heap.size)
  generalize hAe : va_A (mW ad kc x0 x1 x2 x3 x4 x5 x6 x7 x8 x9 x10 x11 x12 x13 x14 x15 x16 x17 x18 x19 x20 x21 f0 f1 f2 f3 f4 f5 f6 f7 f8 f9 f10 f11 f12 f13 f14 f15 f16 f17 f18 f19 f20 f21 fL fN fP fM fO) s.heap.size = A at hD ⊢
  have hA : ∀ q : Nat, s.heap.size ≤ q → A q := fun q h => by rw [← hAe]; exact Or.inr h
  have hP : va_P (dC, dI) vwCl (mW ad kc x0 x1 x2 x3 x4 x5 x6 x7 x8 x9 x10 x11 x12 x13 x14 x15 x16 x17 x18 x19 x20 x21 f0 f1 f2 f3 f4 f5 f6 f7 f8 f9 f10 f11 f12 f13 f14 f15 f16 f17 f18 f19 f20 f21 fL fN fP fM fO) s.heap := hP
  have hD : va_D A (mW ad kc x0 x1 x2 x3 x4 x5 x6 x7 x8 x9 x10 x11 x12 x13 x14 x15 x16 x17 x18 x19 x20 x21 f0 f1 f2 f3 f4 f5 f6 f7 f8 f9 f10 f11 f12 f13 f14 f15 f16 f17 f18 f19 f20 f21 fL fN fP fM fO) := hD
  have hK : va_K (dC, dI) vwCl (mT kc) s := hK
  generalize hH : s.heap = H at hP ⊢
  have hS : va_S A s.heap H [] := by rw [← hH]; exact va_S.rf
  have hl := lv_entry ([.ref (ad 0), .int i1, .int i2, .int i3]) (n := 5) (Nat.le_of_ble_eq_true rfl)
  rw [lg_entry_eq]
  generalize (lg_sl ([.ref (ad 0), .int i1, .int i2, .int i3]) ++ List.replicate (5 - (lg_sl ([.ref (ad 0), .int i1, .int i2, .int i3])).length) Slot.unset).toArray = ls at hl ⊢
  have hl : lv_has ls 5 [(0, .ref (ad 0)), (1, .int i1), (2, .int i2), (3, .int i3)] := hl
  have rg_i1 := i_rng i1
  have rg_i2 := i_rng i2
  have rg_i3 := i_rng i3
  have hd := q0.d
  have hpi := q0.p
  have hq1 := q0.1
  have hq2 := q0.2.1
  have hq3 := q0.2.2.1
  have hd10 := hd.n0
  have hp8 := hd.P0
  refine lv_iload_n hx hb dX10_cut_0 rfl (lv_at hl 2 rfl) ?_
  refine lv_if_lt (tgt := 9) hx hb dX10_cut_1 (by decide) (fun k_1 => ?_) (fun k_1 => ?_)
  · have tk_1 := c_lt (a := i2.toInt) (b := 0) rfl (by decide) k_1
    refine lv_aload_n hx hb dX10_cut_9 rfl (lv_at hl 0 rfl) ?_
    refine lv_iconst (v := 1) hx hb dX10_cut_10 (by decide) ?_
    have lit_1 : (1 : Int32).toInt = 1 := by decide
    have hFc := m_free hD hS hA
    refine va_calli (va_runV (As := [.int 1]) (rest := []) ⟨hx, hb, hml, hown, hts⟩ (m_refuse l dC dI ad kc x0 x1 x2 x3 x4 x5 x6 x7 x8 x9 x10 x11 x12 x13 x14 x15 x16 x17 x18 x19 x20 x21 f0 f1 f2 f3 f4 f5 f6 f7 f8 f9 f10 f11 f12 f13 f14 f15 f16 f17 f18 f19 f20 f21 fL fN fP fM fO H.size 1 ) (cwV 1 hts mg_X10_cutm_X10_refuse_204 rfl rfl rfl (by decide +kernel) ⟨Nat.le_of_ble_eq_true rfl, Nat.le_of_ble_eq_true rfl⟩) ⟨fun a U g mk q => by obtain ⟨q0, q1, qP, qK, qD⟩ := q; exact ⟨q0, q1, qP, va_K.moved (u := U) (U := U.calling g mk a) (Vm.Alike.refl U.vm) qK, qD⟩, va_recv hK hP (ci := 10) (q0 := 0) rfl rfl, fun U hU hW => ⟨rfl, by rw [hU], by rw [hU]; exact hP, va_K.moved hW.alike hK, hD.weaken (fun _ _ _ _ => trivial)⟩⟩ rfl rfl hl.1 rfl (lv_room (Nat.le_of_ble_eq_true rfl)) dX10_cut_11 ⟨Nat.le_of_ble_eq_true rfl, Nat.le_of_ble_eq_true rfl⟩) hS (fun q _ h => hFc q h) hFc (fun r_3 u t H1 locs ht hvm hw hB hz1 hk1 hS => ?_)
    subst hw
    obtain ⟨hr_3_0, hP, hK1, hD1⟩ := hB
    rw [ht] at hP
    have hD := hD1.weaken (fun k q _ h => hFc q.1 h)
    clear hz1 hk1 hFc hD1 hK1 hvm
    generalize H1 = H at hP hS ⊢
    have rg_r_3 := i_rng r_3
    have hP : va_P (dC, dI) vwCl (mW ad kc 1 x1 x2 x3 x4 x5 x6 x7 x8 x9 x10 x11 x12 x13 x14 x15 x16 x17 x18 x19 x20 x21 f0 f1 f2 f3 f4 f5 f6 f7 f8 f9 f10 f11 f12 f13 f14 f15 f16 f17 f18 f19 f20 f21 fL fN fP fM fO) H := hP
    have hD : va_D A (mW ad kc 1 x1 x2 x3 x4 x5 x6 x7 x8 x9 x10 x11 x12 x13 x14 x15 x16 x17 x18 x19 x20 x21 f0 f1 f2 f3 f4 f5 f6 f7 f8 f9 f10 f11 f12 f13 f14 f15 f16 f17 f18 f19 f20 f21 fL fN fP fM fO) := hD
    have lit_3 : (1 : Int32).toInt = 1 := by decide
    exact W.iret hx hb hr (fun t ht hW => ⟨⟨_, _, rfl, rfl, 1, x1, f0, q0, by rw [ht]; exact hP, va_K.moved hW.alike hK, hD⟩, hS.F ht⟩) hS.2.2 dX10_cut_14
  · have tk_1 := c_nlt (a := i2.toInt) (b := 0) rfl (by decide) k_1
    refine lv_iload_n hx hb dX10_cut_4 rfl (lv_at hl 3 rfl) ?_
    refine lv_iconst (v := 1) hx hb dX10_cut_5 (by decide) ?_
    refine lv_icmp_ge (tgt := 15) hx hb dX10_cut_6 (by decide) (fun k_5 => ?_) (fun k_5 => ?_)
    · have tk_5 := c_ge (a := i3.toInt) (b := 1) rfl (by decide) k_5
      refine lv_aload_n hx hb dX10_cut_15 rfl (lv_at hl 0 rfl) ?_
      refine lv_iload_n hx hb dX10_cut_16 rfl (lv_at hl 1 rfl) ?_
      refine vp_callSi (W.runV (As := [.int i1]) (rest := []) ⟨hx, hb, hml, hown, hts⟩ (m_isDoc l dC dI ad kc x0 x1 x2 x3 x4 x5 x6 x7 x8 x9 x10 x11 x12 x13 x14 x15 x16 x17 x18 x19 x20 x21 f0 f1 f2 f3 f4 f5 f6 f7 f8 f9 f10 f11 f12 f13 f14 f15 f16 f17 f18 f19 f20 f21 fL fN fP fM fO i1 ) (cwV 1 hts mg_X10_cutm_X10_isDoc_451 rfl rfl rfl (by decide +kernel) ⟨Nat.le_of_ble_eq_true rfl, Nat.le_of_ble_eq_true rfl⟩) ⟨fun a U g mk q => by obtain ⟨q0, qP, qK⟩ := q; exact ⟨q0, qP, va_K.moved (u := U) (U := U.calling g mk a) (Vm.Alike.refl U.vm) qK⟩, va_recv hK hP (ci := 10) (q0 := 0) rfl rfl, fun U hU hW => ⟨rfl, by rw [hU]; exact hP, va_K.moved hW.alike hK⟩⟩ rfl rfl hl.1 rfl (lv_room (Nat.le_of_ble_eq_true rfl)) dX10_cut_17 ⟨Nat.le_of_ble_eq_true rfl, Nat.le_of_ble_eq_true rfl⟩) (fun r_6 hr_6 => ?_)
      have rg_r_6 := i_rng r_6
      refine lv_if_ne (tgt := 29) hx hb dX10_cut_20 (by decide) (fun k_7 => ?_) (fun k_7 => ?_)
      · have tk_7 := c_ne (a := r_6.toInt) (b := 0) rfl (by decide) k_7
        refine lv_iload_n hx hb dX10_cut_29 rfl (lv_at hl 2 rfl) ?_
        refine lv_aload_n hx hb dX10_cut_30 rfl (lv_at hl 0 rfl) ?_
        refine lv_iload_n hx hb dX10_cut_31 rfl (lv_at hl 1 rfl) ?_
        refine vp_callSi (W.runV (As := [.int i1]) (rest := [.int i2]) ⟨hx, hb, hml, hown, hts⟩ (m_sizeOf l dC dI ad kc x0 x1 x2 x3 x4 x5 x6 x7 x8 x9 x10 x11 x12 x13 x14 x15 x16 x17 x18 x19 x20 x21 f0 f1 f2 f3 f4 f5 f6 f7 f8 f9 f10 f11 f12 f13 f14 f15 f16 f17 f18 f19 f20 f21 fL fN fP fM fO i1 (by first | omega | assumption | decide | (have l0 := Int32.toInt_zero; omega)) (by first | omega | assumption | decide | (have l0 := Int32.toInt_zero; omega))) (cwV 1 hts mg_X10_cutm_X10_sizeOf_396 rfl rfl rfl (by decide +kernel) ⟨Nat.le_of_ble_eq_true rfl, Nat.le_of_ble_eq_true rfl⟩) ⟨fun a U g mk q => by obtain ⟨q0, qP, qK⟩ := q; exact ⟨q0, qP, va_K.moved (u := U) (U := U.calling g mk a) (Vm.Alike.refl U.vm) qK⟩, va_recv hK hP (ci := 10) (q0 := 0) rfl rfl, fun U hU hW => ⟨rfl, by rw [hU]; exact hP, va_K.moved hW.alike hK⟩⟩ rfl rfl hl.1 rfl (lv_room (Nat.le_of_ble_eq_true rfl)) dX10_cut_32 ⟨Nat.le_of_ble_eq_true rfl, Nat.le_of_ble_eq_true rfl⟩) (fun r_8 hr_8 => ?_)
        have rg_r_8 := i_rng r_8
        have hlr_8 := OKd.sz hd (d := i1.toInt) (by omega) (by omega)
        refine lv_icmp_gt (tgt := 49) hx hb dX10_cut_35 (by decide) (fun k_9 => ?_) (fun k_9 => ?_)
        · have tk_9 := c_gt (a := i2.toInt) (b := r_8.toInt) rfl rfl k_9
          refine lv_aload_n hx hb dX10_cut_49 rfl (lv_at hl 0 rfl) ?_
          refine lv_iconst (v := 5) hx hb dX10_cut_50 (by decide) ?_
          have lit_9 : (5 : Int32).toInt = 5 := by decide
          have hFc := m_free hD hS hA
          refine va_calli (va_runV (As := [.int 5]) (rest := []) ⟨hx, hb, hml, hown, hts⟩ (m_refuse l dC dI ad kc x0 x1 x2 x3 x4 x5 x6 x7 x8 x9 x10 x11 x12 x13 x14 x15 x16 x17 x18 x19 x20 x21 f0 f1 f2 f3 f4 f5 f6 f7 f8 f9 f10 f11 f12 f13 f14 f15 f16 f17 f18 f19 f20 f21 fL fN fP fM fO H.size 5 ) (cwV 1 hts mg_X10_cutm_X10_refuse_204 rfl rfl rfl (by decide +kernel) ⟨Nat.le_of_ble_eq_true rfl, Nat.le_of_ble_eq_true rfl⟩) ⟨fun a U g mk q => by obtain ⟨q0, q1, qP, qK, qD⟩ := q; exact ⟨q0, q1, qP, va_K.moved (u := U) (U := U.calling g mk a) (Vm.Alike.refl U.vm) qK, qD⟩, va_recv hK hP (ci := 10) (q0 := 0) rfl rfl, fun U hU hW => ⟨rfl, by rw [hU], by rw [hU]; exact hP, va_K.moved hW.alike hK, hD.weaken (fun _ _ _ _ => trivial)⟩⟩ rfl rfl hl.1 rfl (lv_room (Nat.le_of_ble_eq_true rfl)) dX10_cut_51 ⟨Nat.le_of_ble_eq_true rfl, Nat.le_of_ble_eq_true rfl⟩) hS (fun q _ h => hFc q h) hFc (fun r_11 u t H1 locs ht hvm hw hB hz1 hk1 hS => ?_)
          subst hw
          obtain ⟨hr_11_0, hP, hK1, hD1⟩ := hB
          rw [ht] at hP
          have hD := hD1.weaken (fun k q _ h => hFc q.1 h)
          clear hz1 hk1 hFc hD1 hK1 hvm
          generalize H1 = H at hP hS ⊢
          have rg_r_11 := i_rng r_11
          have hP : va_P (dC, dI) vwCl (mW ad kc 5 x1 x2 x3 x4 x5 x6 x7 x8 x9 x10 x11 x12 x13 x14 x15 x16 x17 x18 x19 x20 x21 f0 f1 f2 f3 f4 f5 f6 f7 f8 f9 f10 f11 f12 f13 f14 f15 f16 f17 f18 f19 f20 f21 fL fN fP fM fO) H := hP
          have hD : va_D A (mW ad kc 5 x1 x2 x3 x4 x5 x6 x7 x8 x9 x10 x11 x12 x13 x14 x15 x16 x17 x18 x19 x20 x21 f0 f1 f2 f3 f4 f5 f6 f7 f8 f9 f10 f11 f12 f13 f14 f15 f16 f17 f18 f19 f20 f21 fL fN fP fM fO) := hD
          have lit_11 : (5 : Int32).toInt = 5 := by decide
          exact W.iret hx hb hr (fun t ht hW => ⟨⟨_, _, rfl, rfl, 5, x1, f0, q0, by rw [ht]; exact hP, va_K.moved hW.alike hK, hD⟩, hS.F ht⟩) hS.2.2 dX10_cut_54
        · have tk_9 := c_ngt (a := i2.toInt) (b := r_8.toInt) rfl rfl k_9
          refine lv_iload_n hx hb dX10_cut_38 rfl (lv_at hl 3 rfl) ?_
          refine lv_aload_n hx hb dX10_cut_39 rfl (lv_at hl 0 rfl) ?_
          refine lv_iload_n hx hb dX10_cut_40 rfl (lv_at hl 1 rfl) ?_
          refine vp_callSi (W.runV (As := [.int i1]) (rest := [.int i3]) ⟨hx, hb, hml, hown, hts⟩ (m_sizeOf l dC dI ad kc x0 x1 x2 x3 x4 x5 x6 x7 x8 x9 x10 x11 x12 x13 x14 x15 x16 x17 x18 x19 x20 x21 f0 f1 f2 f3 f4 f5 f6 f7 f8 f9 f10 f11 f12 f13 f14 f15 f16 f17 f18 f19 f20 f21 fL fN fP fM fO i1 (by first | omega | assumption | decide | (have l0 := Int32.toInt_zero; omega)) (by first | omega | assumption | decide | (have l0 := Int32.toInt_zero; omega))) (cwV 1 hts mg_X10_cutm_X10_sizeOf_396 rfl rfl rfl (by decide +kernel) ⟨Nat.le_of_ble_eq_true rfl, Nat.le_of_ble_eq_true rfl⟩) ⟨fun a U g mk q => by obtain ⟨q0, qP, qK⟩ := q; exact ⟨q0, qP, va_K.moved (u := U) (U := U.calling g mk a) (Vm.Alike.refl U.vm) qK⟩, va_recv hK hP (ci := 10) (q0 := 0) rfl rfl, fun U hU hW => ⟨rfl, by rw [hU]; exact hP, va_K.moved hW.alike hK⟩⟩ rfl rfl hl.1 rfl (lv_room (Nat.le_of_ble_eq_true rfl)) dX10_cut_41 ⟨Nat.le_of_ble_eq_true rfl, Nat.le_of_ble_eq_true rfl⟩) (fun r_13 hr_13 => ?_)
          have rg_r_13 := i_rng r_13
          have hlr_13 := OKd.sz hd (d := i1.toInt) (by omega) (by omega)
          refine lv_iload_n hx hb dX10_cut_44 rfl (lv_at hl 2 rfl) ?_
          refine lv_isub hx hb dX10_cut_45 ?_
          refine lv_topi (fun y_14 ey_14 => ?_)
          first | have ty_14 := i_sub (a := r_13.toInt) (b := i2.toInt) rfl rfl ey_14 (by omega) (by omega) | skip
          refine lv_icmp_le (tgt := 55) hx hb dX10_cut_46 (by decide) (fun k_15 => ?_) (fun k_15 => ?_)
          · have tk_15 := c_le (a := i3.toInt) (b := y_14.toInt) rfl rfl k_15
            refine lv_iload_n hx hb dX10_cut_55 rfl (lv_at hl 3 rfl) ?_
            refine lv_aload_n hx hb dX10_cut_56 rfl (lv_at hl 0 rfl) ?_
            refine lv_iload_n hx hb dX10_cut_57 rfl (lv_at hl 1 rfl) ?_
            refine vp_callSi (W.runV (As := [.int i1]) (rest := [.int i3]) ⟨hx, hb, hml, hown, hts⟩ (m_sizeOf l dC dI ad kc x0 x1 x2 x3 x4 x5 x6 x7 x8 x9 x10 x11 x12 x13 x14 x15 x16 x17 x18 x19 x20 x21 f0 f1 f2 f3 f4 f5 f6 f7 f8 f9 f10 f11 f12 f13 f14 f15 f16 f17 f18 f19 f20 f21 fL fN fP fM fO i1 (by first | omega | assumption | decide | (have l0 := Int32.toInt_zero; omega)) (by first | omega | assumption | decide | (have l0 := Int32.toInt_zero; omega))) (cwV 1 hts mg_X10_cutm_X10_sizeOf_396 rfl rfl rfl (by decide +kernel) ⟨Nat.le_of_ble_eq_true rfl, Nat.le_of_ble_eq_true rfl⟩) ⟨fun a U g mk q => by obtain ⟨q0, qP, qK⟩ := q; exact ⟨q0, qP, va_K.moved (u := U) (U := U.calling g mk a) (Vm.Alike.refl U.vm) qK⟩, va_recv hK hP (ci := 10) (q0 := 0) rfl rfl, fun U hU hW => ⟨rfl, by rw [hU]; exact hP, va_K.moved hW.alike hK⟩⟩ rfl rfl hl.1 rfl (lv_room (Nat.le_of_ble_eq_true rfl)) dX10_cut_58 ⟨Nat.le_of_ble_eq_true rfl, Nat.le_of_ble_eq_true rfl⟩) (fun r_16 hr_16 => ?_)
            have rg_r_16 := i_rng r_16
            have hlr_16 := OKd.sz hd (d := i1.toInt) (by omega) (by omega)
            refine lv_icmp_ne (tgt := 71) hx hb dX10_cut_61 (by decide) (fun k_17 => ?_) (fun k_17 => ?_)
            · have tk_17 := c_ne (a := i3.toInt) (b := r_16.toInt) rfl rfl k_17
              refine lv_aload_n hx hb dX10_cut_71 rfl (lv_at hl 0 rfl) ?_
              refine lv_iconst (v := 0) hx hb dX10_cut_72 (by decide) ?_
              refine lv_sipush (v := 7820) hx hb dX10_cut_73 (by decide) ?_
              have lit_17 : (0 : Int32).toInt = 0 := by decide
              have lit_18 : (7820 : Int32).toInt = 7820 := by decide
              have hFc := m_free hD hS hA
              refine va_callv (va_runV (As := [.int 0, .int 7820]) (rest := []) ⟨hx, hb, hml, hown, hts⟩ (m_copies l dC dI ad kc x0 x1 x2 x3 x4 x5 x6 x7 x8 x9 x10 x11 x12 x13 x14 x15 x16 x17 x18 x19 x20 x21 f0 f1 f2 f3 f4 f5 f6 f7 f8 f9 f10 f11 f12 f13 f14 f15 f16 f17 f18 f19 f20 f21 fL fN fP fM fO H.size 0 7820 (by first | omega | assumption | decide | (have l0 := Int32.toInt_zero; omega)) (by first | omega | assumption | decide | (have l0 := Int32.toInt_zero; omega)) (by first | omega | assumption | decide | (have l0 := Int32.toInt_zero; omega)) (by first | omega | assumption | decide | (have l0 := Int32.toInt_zero; omega)) (by first | omega | assumption | decide | (have l0 := Int32.toInt_zero; omega))) (cwV 2 hts mg_X10_cutm_X10_copies_193 rfl rfl rfl (by decide +kernel) ⟨Nat.le_of_ble_eq_true rfl, Nat.le_of_ble_eq_true rfl⟩) ⟨fun a U g mk q => by obtain ⟨q0, q1, qP, qK, qD⟩ := q; exact ⟨q0, q1, qP, va_K.moved (u := U) (U := U.calling g mk a) (Vm.Alike.refl U.vm) qK, qD⟩, va_recv hK hP (ci := 10) (q0 := 0) rfl rfl, fun U hU hW => ⟨rfl, by rw [hU], by rw [hU]; exact hP, va_K.moved hW.alike hK, hD.weaken (fun _ _ _ _ => trivial)⟩⟩ rfl rfl hl.1 rfl (lv_room (Nat.le_of_ble_eq_true rfl)) dX10_cut_76 ⟨Nat.le_of_ble_eq_true rfl, Nat.le_of_ble_eq_true rfl⟩) hS (fun q _ h => hFc q h) hFc (fun u t H1 locs ht hvm hw hB hz1 hk1 hS => ?_)
              obtain ⟨f_21, hr_20_0, hP, hK1, hD1⟩ := hB
              rw [ht] at hP
              have hD := hD1.weaken (fun k q _ h => hFc q.1 h)
              clear hz1 hk1 hFc hD1 hK1 hvm
              generalize H1 = H at hP hS ⊢
              have hP : va_P (dC, dI) vwCl (mW ad kc x0 x1 x2 x3 x4 x5 x6 x7 x8 x9 x10 x11 x12 x13 x14 x15 x16 x17 x18 x19 x20 x21 f_21 f1 f2 f3 f4 f5 f6 f7 f8 f9 f10 f11 f12 f13 f14 f15 f16 f17 f18 f19 f20 f21 fL fN fP fM fO) H := hP
              have hD : va_D A (mW ad kc x0 x1 x2 x3 x4 x5 x6 x7 x8 x9 x10 x11 x12 x13 x14 x15 x16 x17 x18 x19 x20 x21 f_21 f1 f2 f3 f4 f5 f6 f7 f8 f9 f10 f11 f12 f13 f14 f15 f16 f17 f18 f19 f20 f21 fL fN fP fM fO) := hD
              have hc9 : CP f0 f_21 0 7820 := by have h9 := hr_20_0; rw [(show (0 : Int32).toInt = 0 by decide), (show (7820 : Int32).toInt = 7820 by decide)] at h9; exact h9
              have hA9 := q0.aside hc9
              have hd9 := hA9.1
              have hm9 := hA9.2
              have hsm : ∀ z : Int, 0 ≤ z → z < 7820 → vI f_21 z = vI f0 z := fun z h1 h2 => by rw [hc9 z h1, if_neg (by omega)]
              refine lv_iload_n hx hb dX10_cut_79 rfl (lv_at hl 2 rfl) ?_
              refine lv_istore (lv' := [(4, .int i2), (0, .ref (ad 0)), (1, .int i1), (2, .int i2), (3, .int i3)]) hx hb dX10_cut_80 hl (by decide) rfl (fun ls hl => ?_)
              have hss := hsm (1 + i1.toInt) (by omega) (by omega)
              have hs0 := hsm 0 (by omega) (by omega)
              have loop82 : ∀ (lm82 : Nat) (kk : Int32) (ga : Nat → Int32), (i2.toInt ≤ kk.toInt ∧ kk.toInt ≤ 60) → (OKd ga 0) → (mC x1.toInt x2.toInt ga) → (vI ga 0 = vI f0 0) → (vI ga (1 + i1.toInt) = vI f0 (1 + i1.toInt)) → ((60 - kk.toInt).toNat) < lm82 → ∀ (H : Heap) (locs : List Loc) (ls : Array Slot), va_P (dC, dI) vwCl (mW ad kc x0 x1 x2 x3 x4 x5 x6 x7 x8 x9 x10 x11 x12 x13 x14 x15 x16 x17 x18 x19 x20 x21 ga f1 f2 f3 f4 f5 f6 f7 f8 f9 f10 f11 f12 f13 f14 f15 f16 f17 f18 f19 f20 f21 fL fN fP fM fO) H → va_D A (mW ad kc x0 x1 x2 x3 x4 x5 x6 x7 x8 x9 x10 x11 x12 x13 x14 x15 x16 x17 x18 x19 x20 x21 ga f1 f2 f3 f4 f5 f6 f7 f8 f9 f10 f11 f12 f13 f14 f15 f16 f17 f18 f19 f20 f21 fL fN fP fM fO) → va_S A s.heap H locs → lv_has ls 5 [(4, .int kk), (0, .ref (ad 0)), (1, .int i1), (2, .int i2), (3, .int i3)] → W p l e (headSpec mwX10_cutm ({ frames := 3, cells := 0, slots := 0, locals := 180 })).room s m ([.ref (ad 0), .int i1, .int i2, .int i3]).toArray below meth c H locs 0 0 (MQ below (va_Qi (fun (o9 u9 : Int32) => o9 = u9) (fun (o9 : Int32) t => ∃ (y0 y1 : Int32) (g0 : Nat → Int32), (mI y1.toInt x2.toInt x3.toInt g0 fP) ∧ va_P (dC, dI) vwCl (mW ad kc y0 y1 x2 x3 x4 x5 x6 x7 x8 x9 x10 x11 x12 x13 x14 x15 x16 x17 x18 x19 x20 x21 g0 f1 f2 f3 f4 f5 f6 f7 f8 f9 f10 f11 f12 f13 f14 f15 f16 f17 f18 f19 f20 f21 fL fN fP fM fO) t.heap ∧ va_K (dC, dI) vwCl (mT kc) t ∧ va_D A (mW ad kc y0 y1 x2 x3 x4 x5 x6 x7 x8 x9 x10 x11 x12 x13 x14 x15 x16 x17 x18 x19 x20 x21 g0 f1 f2 f3 f4 f5 f6 f7 f8 f9 f10 f11 f12 f13 f14 f15 f16 f17 f18 f19 f20 f21 fL fN fP fM fO)) A) ([.ref (ad 0), .int i1, .int i2, .int i3]).toArray s 0 0 A) (F0 m 82 ls []) := by
                intro lm82
                induction lm82 with
                | zero => intro kk ga v82_0 v82_1 v82_2 v82_3 v82_4 hm82; exact absurd hm82 (Nat.not_lt_zero _)
                | succ lm82 ih82 =>
                  intro kk ga v82_0 v82_1 v82_2 v82_3 v82_4 hm82 H locs ls hP hD hS hl
                  have rg_kk := i_rng kk
                  refine lv_iload hx hb dX10_cut_82 (lv_at hl 0 rfl) ?_
                  refine lv_iload_n hx hb dX10_cut_84 rfl (lv_at hl 4 rfl) ?_
                  refine lv_iadd hx hb dX10_cut_85 ?_
                  refine lv_topi (fun y_22 ey_22 => ?_)
                  first | have ty_22 := i_add (a := kk.toInt) (b := i3.toInt) rfl rfl ey_22 (by omega) (by omega) | skip
                  refine lv_aload_n hx hb dX10_cut_86 rfl (lv_at hl 1 rfl) ?_
                  refine lv_iload_n hx hb dX10_cut_87 rfl (lv_at hl 2 rfl) ?_
                  refine vp_callSi (W.runV (As := [.int i1]) (rest := [.int y_22]) ⟨hx, hb, hml, hown, hts⟩ (m_sizeOf l dC dI ad kc x0 x1 x2 x3 x4 x5 x6 x7 x8 x9 x10 x11 x12 x13 x14 x15 x16 x17 x18 x19 x20 x21 ga f1 f2 f3 f4 f5 f6 f7 f8 f9 f10 f11 f12 f13 f14 f15 f16 f17 f18 f19 f20 f21 fL fN fP fM fO i1 (by first | omega | assumption | decide | (have l0 := Int32.toInt_zero; omega)) (by first | omega | assumption | decide | (have l0 := Int32.toInt_zero; omega))) (cwV 1 hts mg_X10_cutm_X10_sizeOf_396 rfl rfl rfl (by decide +kernel) ⟨Nat.le_of_ble_eq_true rfl, Nat.le_of_ble_eq_true rfl⟩) ⟨fun a U g mk q => by obtain ⟨q0, qP, qK⟩ := q; exact ⟨q0, qP, va_K.moved (u := U) (U := U.calling g mk a) (Vm.Alike.refl U.vm) qK⟩, va_recv hK hP (ci := 10) (q0 := 0) rfl rfl, fun U hU hW => ⟨rfl, by rw [hU]; exact hP, va_K.moved hW.alike hK⟩⟩ rfl rfl hl.1 rfl (lv_room (Nat.le_of_ble_eq_true rfl)) dX10_cut_88 ⟨Nat.le_of_ble_eq_true rfl, Nat.le_of_ble_eq_true rfl⟩) (fun r_23 hr_23 => ?_)
                  have rg_r_23 := i_rng r_23
                  refine lv_icmp_ge (tgt := 116) hx hb dX10_cut_91 (by decide) (fun k_24 => ?_) (fun k_24 => ?_)
                  · have tk_24 := c_ge (a := y_22.toInt) (b := r_23.toInt) rfl rfl k_24
                    refine lv_aload_n hx hb dX10_cut_116 rfl (lv_at hl 1 rfl) ?_
                    refine va_get (D := (dC, dI)) (ci := 10) (v := .ref (ad 1)) (C := RX10) (T := TX10) (N := 48) hx hb hts fin_X10_cutm_X10 hown hK hP 0 rfl rfl 0 (by decide) (hts (.fieldLink RX10 8 "PatternGateModel" "all" "[I") (List.mem_of_getElem? (i := 14) (by decide +kernel))) (fun _ h9 => h9) rfl dX10_cut_117 ?_
                    refine lv_iconst (v := 1) hx hb dX10_cut_120 (by decide) ?_
                    refine lv_iload_n hx hb dX10_cut_121 rfl (lv_at hl 2 rfl) ?_
                    refine lv_iadd hx hb dX10_cut_122 ?_
                    refine lv_topi (fun y_25 ey_25 => ?_)
                    first | have ty_25 := i_add (a := 1) (b := i1.toInt) (by decide) rfl ey_25 (by omega) (by omega) | skip
                    refine lv_dup2_11 hx hb dX10_cut_123 rfl rfl ?_
                    refine va_iald hx hb hK hP 1 0 rfl rfl (i := y_25) (vp_of (a := y_25.toInt) rfl (by omega) (by omega)) dX10_cut_124 ?_
                    refine lv_topi (fun y_26 ey_26 => ?_)
                    have rg_y_26 := i_rng y_26
                    have vy_26 := vI_lda (f := ga) (i := y_25) (a := (1 + i1.toInt)) ey_26 (by first | omega | decide)
                    have rg_y_26 := i_rng y_26
                    have hy7 : y_26.toInt = vI f0 (1 + i1.toInt) := vy_26.trans v82_4
                    refine lv_iload_n hx hb dX10_cut_125 rfl (lv_at hl 4 rfl) ?_
                    refine lv_isub hx hb dX10_cut_126 ?_
                    refine lv_topi (fun y_27 ey_27 => ?_)
                    first | have ty_27 := i_sub (a := y_26.toInt) (b := i3.toInt) rfl rfl ey_27 (by omega) (by omega) | skip
                    refine va_iast hx hb hK hP hD hS 1 0 rfl rfl (i := y_25) (vp_of (a := y_25.toInt) rfl (by omega) (by omega)) dX10_cut_127 (fun H locs hP hD hS => ?_)
                    generalize hf_f_28 : upd ga _ _ = f_28 at hP hD
                    have uf_28 := vI_up (a := (1 + i1.toInt)) (b := y_27.toInt) hf_f_28 (by first | omega | decide) (by omega) rfl
                    have hP : va_P (dC, dI) vwCl (mW ad kc x0 x1 x2 x3 x4 x5 x6 x7 x8 x9 x10 x11 x12 x13 x14 x15 x16 x17 x18 x19 x20 x21 f_28 f1 f2 f3 f4 f5 f6 f7 f8 f9 f10 f11 f12 f13 f14 f15 f16 f17 f18 f19 f20 f21 fL fN fP fM fO) H := hP
                    have hD : va_D A (mW ad kc x0 x1 x2 x3 x4 x5 x6 x7 x8 x9 x10 x11 x12 x13 x14 x15 x16 x17 x18 x19 x20 x21 f_28 f1 f2 f3 f4 f5 f6 f7 f8 f9 f10 f11 f12 f13 f14 f15 f16 f17 f18 f19 f20 f21 fL fN fP fM fO) := hD
                    have hd6 := v82_1.size (d := i1.toInt) (n := vI f0 (1 + i1.toInt) - i3.toInt) (by omega) (by omega) (by omega) (by omega) (fun k h1 h2 => v82_1.lt (by omega) (by omega) h1 (by omega)) (by have h9 := uf_28; rw [show y_27.toInt = vI f0 (1 + i1.toInt) - i3.toInt by omega] at h9; exact h9)
                    have hm6 := v82_2.far (fun z hz => uf_28.2 z (by omega) (by omega))
                    refine lv_aload_n hx hb dX10_cut_128 rfl (lv_at hl 1 rfl) ?_
                    refine lv_aload_n hx hb dX10_cut_129 rfl (lv_at hl 1 rfl) ?_
                    refine lv_iload_n hx hb dX10_cut_130 rfl (lv_at hl 2 rfl) ?_
                    refine vp_callSi (W.runV (As := [.int i1]) (rest := [.ref (ad 0)]) ⟨hx, hb, hml, hown, hts⟩ (m_sizeOf l dC dI ad kc x0 x1 x2 x3 x4 x5 x6 x7 x8 x9 x10 x11 x12 x13 x14 x15 x16 x17 x18 x19 x20 x21 f_28 f1 f2 f3 f4 f5 f6 f7 f8 f9 f10 f11 f12 f13 f14 f15 f16 f17 f18 f19 f20 f21 fL fN fP fM fO i1 (by first | omega | assumption | decide | (have l0 := Int32.toInt_zero; omega)) (by first | omega | assumption | decide | (have l0 := Int32.toInt_zero; omega))) (cwV 1 hts mg_X10_cutm_X10_sizeOf_396 rfl rfl rfl (by decide +kernel) ⟨Nat.le_of_ble_eq_true rfl, Nat.le_of_ble_eq_true rfl⟩) ⟨fun a U g mk q => by obtain ⟨q0, qP, qK⟩ := q; exact ⟨q0, qP, va_K.moved (u := U) (U := U.calling g mk a) (Vm.Alike.refl U.vm) qK⟩, va_recv hK hP (ci := 10) (q0 := 0) rfl rfl, fun U hU hW => ⟨rfl, by rw [hU]; exact hP, va_K.moved hW.alike hK⟩⟩ rfl rfl hl.1 rfl (lv_room (Nat.le_of_ble_eq_true rfl)) dX10_cut_131 ⟨Nat.le_of_ble_eq_true rfl, Nat.le_of_ble_eq_true rfl⟩) (fun r_29 hr_29 => ?_)
                    have rg_r_29 := i_rng r_29
                    have hFc := m_free hD hS hA
                    refine va_calli (va_runV (As := [.int r_29]) (rest := []) ⟨hx, hb, hml, hown, hts⟩ (m_actedV l dC dI ad kc x0 x1 x2 x3 x4 x5 x6 x7 x8 x9 x10 x11 x12 x13 x14 x15 x16 x17 x18 x19 x20 x21 f_28 f1 f2 f3 f4 f5 f6 f7 f8 f9 f10 f11 f12 f13 f14 f15 f16 f17 f18 f19 f20 f21 fL fN fP fM fO H.size r_29 (by first | omega | assumption | decide | (have l0 := Int32.toInt_zero; omega)) (by first | omega | assumption | decide | (have l0 := Int32.toInt_zero; omega)) hd6 hm6) (cwV 1 hts mg_X10_cutm_X10_acted__476 rfl rfl rfl (by decide +kernel) ⟨Nat.le_of_ble_eq_true rfl, Nat.le_of_ble_eq_true rfl⟩) ⟨fun a U g mk q => by obtain ⟨q0, q1, qP, qK, qD⟩ := q; exact ⟨q0, q1, qP, va_K.moved (u := U) (U := U.calling g mk a) (Vm.Alike.refl U.vm) qK, qD⟩, va_recv hK hP (ci := 10) (q0 := 0) rfl rfl, fun U hU hW => ⟨rfl, by rw [hU], by rw [hU]; exact hP, va_K.moved hW.alike hK, hD.weaken (fun _ _ _ _ => trivial)⟩⟩ rfl rfl hl.1 rfl (lv_room (Nat.le_of_ble_eq_true rfl)) dX10_cut_134 ⟨Nat.le_of_ble_eq_true rfl, Nat.le_of_ble_eq_true rfl⟩) hS (fun q _ h => hFc q h) hFc (fun r_30 u t H1 locs ht hvm hw hB hz1 hk1 hS => ?_)
                    subst hw
                    obtain ⟨x_31, x_32, f_33, hr_30_0, hr_30_1, hr_30_2, hP, hK1, hD1⟩ := hB
                    rw [ht] at hP
                    have hD := hD1.weaken (fun k q _ h => hFc q.1 h)
                    clear hz1 hk1 hFc hD1 hK1 hvm
                    generalize H1 = H at hP hS ⊢
                    have rg_x_31 := i_rng x_31
                    have rg_x_32 := i_rng x_32
                    have rg_r_30 := i_rng r_30
                    have hP : va_P (dC, dI) vwCl (mW ad kc x_31 x_32 x2 x3 x4 x5 x6 x7 x8 x9 x10 x11 x12 x13 x14 x15 x16 x17 x18 x19 x20 x21 f_33 f1 f2 f3 f4 f5 f6 f7 f8 f9 f10 f11 f12 f13 f14 f15 f16 f17 f18 f19 f20 f21 fL fN fP fM fO) H := hP
                    have hD : va_D A (mW ad kc x_31 x_32 x2 x3 x4 x5 x6 x7 x8 x9 x10 x11 x12 x13 x14 x15 x16 x17 x18 x19 x20 x21 f_33 f1 f2 f3 f4 f5 f6 f7 f8 f9 f10 f11 f12 f13 f14 f15 f16 f17 f18 f19 f20 f21 fL fN fP fM fO) := hD
                    exact W.iret hx hb hr (fun t ht hW => ⟨⟨_, _, rfl, rfl, x_31, x_32, f_33, (mC.mI hr_30_1 hr_30_0 (by have h9 := hr_30_2; omega) hq2 hq3 hpi), by rw [ht]; exact hP, va_K.moved hW.alike hK, hD⟩, hS.F ht⟩) hS.2.2 dX10_cut_137
                  · have tk_24 := c_nge (a := y_22.toInt) (b := r_23.toInt) rfl rfl k_24
                    refine lv_aload_n hx hb dX10_cut_94 rfl (lv_at hl 1 rfl) ?_
                    refine lv_iload_n hx hb dX10_cut_95 rfl (lv_at hl 2 rfl) ?_
                    refine lv_iload hx hb dX10_cut_96 (lv_at hl 0 rfl) ?_
                    refine lv_aload_n hx hb dX10_cut_98 rfl (lv_at hl 1 rfl) ?_
                    refine lv_iload_n hx hb dX10_cut_99 rfl (lv_at hl 2 rfl) ?_
                    refine lv_iload hx hb dX10_cut_100 (lv_at hl 0 rfl) ?_
                    refine lv_iload_n hx hb dX10_cut_102 rfl (lv_at hl 4 rfl) ?_
                    refine lv_iadd hx hb dX10_cut_103 ?_
                    refine lv_topi (fun y_34 ey_34 => ?_)
                    first | have ty_34 := i_add (a := kk.toInt) (b := i3.toInt) rfl rfl ey_34 (by omega) (by omega) | skip
                    refine vp_callSi (W.runV (As := [.int i1, .int y_34]) (rest := [.int kk, .int i1, .ref (ad 0)]) ⟨hx, hb, hml, hown, hts⟩ (m_at l dC dI ad kc x0 x1 x2 x3 x4 x5 x6 x7 x8 x9 x10 x11 x12 x13 x14 x15 x16 x17 x18 x19 x20 x21 ga f1 f2 f3 f4 f5 f6 f7 f8 f9 f10 f11 f12 f13 f14 f15 f16 f17 f18 f19 f20 f21 fL fN fP fM fO i1 y_34 (by first | omega | assumption | decide | (have l0 := Int32.toInt_zero; omega)) (by first | omega | assumption | decide | (have l0 := Int32.toInt_zero; omega)) (by first | omega | assumption | decide | (have l0 := Int32.toInt_zero; omega)) (by first | omega | assumption | decide | (have l0 := Int32.toInt_zero; omega))) (cwV 2 hts mg_X10_cutm_X10_at_399 rfl rfl rfl (by decide +kernel) ⟨Nat.le_of_ble_eq_true rfl, Nat.le_of_ble_eq_true rfl⟩) ⟨fun a U g mk q => by obtain ⟨q0, qP, qK⟩ := q; exact ⟨q0, qP, va_K.moved (u := U) (U := U.calling g mk a) (Vm.Alike.refl U.vm) qK⟩, va_recv hK hP (ci := 10) (q0 := 0) rfl rfl, fun U hU hW => ⟨rfl, by rw [hU]; exact hP, va_K.moved hW.alike hK⟩⟩ rfl rfl hl.1 rfl (lv_room (Nat.le_of_ble_eq_true rfl)) dX10_cut_104 ⟨Nat.le_of_ble_eq_true rfl, Nat.le_of_ble_eq_true rfl⟩) (fun r_35 hr_35 => ?_)
                    have rg_r_35 := i_rng r_35
                    have hl9 := v82_1.lt (d := i1.toInt) (k := y_34.toInt) (by omega) (by have h9 := v82_3; omega) (by omega) (by have h9 := v82_4; omega)
                    have hFc := m_free hD hS hA
                    refine va_callv (va_runV (As := [.int i1, .int kk, .int r_35]) (rest := []) ⟨hx, hb, hml, hown, hts⟩ (m_sets l dC dI ad kc x0 x1 x2 x3 x4 x5 x6 x7 x8 x9 x10 x11 x12 x13 x14 x15 x16 x17 x18 x19 x20 x21 ga f1 f2 f3 f4 f5 f6 f7 f8 f9 f10 f11 f12 f13 f14 f15 f16 f17 f18 f19 f20 f21 fL fN fP fM fO H.size i1 kk r_35 (by first | omega | assumption | decide | (have l0 := Int32.toInt_zero; omega)) (by first | omega | assumption | decide | (have l0 := Int32.toInt_zero; omega))) (cwV 3 hts mg_X10_cutm_X10_sets_473 rfl rfl rfl (by decide +kernel) ⟨Nat.le_of_ble_eq_true rfl, Nat.le_of_ble_eq_true rfl⟩) ⟨fun a U g mk q => by obtain ⟨q0, q1, qP, qK, qD⟩ := q; exact ⟨q0, q1, qP, va_K.moved (u := U) (U := U.calling g mk a) (Vm.Alike.refl U.vm) qK, qD⟩, va_recv hK hP (ci := 10) (q0 := 0) rfl rfl, fun U hU hW => ⟨rfl, by rw [hU], by rw [hU]; exact hP, va_K.moved hW.alike hK, hD.weaken (fun _ _ _ _ => trivial)⟩⟩ rfl rfl hl.1 rfl (lv_room (Nat.le_of_ble_eq_true rfl)) dX10_cut_107 ⟨Nat.le_of_ble_eq_true rfl, Nat.le_of_ble_eq_true rfl⟩) hS (fun q _ h => hFc q h) hFc (fun u t H1 locs ht hvm hw hB hz1 hk1 hS => ?_)
                    obtain ⟨f_37, hr_36_0, hP, hK1, hD1⟩ := hB
                    rw [ht] at hP
                    have hD := hD1.weaken (fun k q _ h => hFc q.1 h)
                    clear hz1 hk1 hFc hD1 hK1 hvm
                    generalize H1 = H at hP hS ⊢
                    have hP : va_P (dC, dI) vwCl (mW ad kc x0 x1 x2 x3 x4 x5 x6 x7 x8 x9 x10 x11 x12 x13 x14 x15 x16 x17 x18 x19 x20 x21 f_37 f1 f2 f3 f4 f5 f6 f7 f8 f9 f10 f11 f12 f13 f14 f15 f16 f17 f18 f19 f20 f21 fL fN fP fM fO) H := hP
                    have hD : va_D A (mW ad kc x0 x1 x2 x3 x4 x5 x6 x7 x8 x9 x10 x11 x12 x13 x14 x15 x16 x17 x18 x19 x20 x21 f_37 f1 f2 f3 f4 f5 f6 f7 f8 f9 f10 f11 f12 f13 f14 f15 f16 f17 f18 f19 f20 f21 fL fN fP fM fO) := hD
                    have hd7 := v82_1.put (by omega) (by omega) (by omega) (by omega) (by omega) (by omega) hr_36_0
                    obtain ⟨y_38, ey_38⟩ : ∃ y : Int32, y = kk + 1 := ⟨_, rfl⟩
                    first | have ty_38 := i_add (a := kk.toInt) (b := 1) rfl (by decide) ey_38 (by omega) (by omega) | skip
                    refine lv_iinc (v := y_38) (lv' := [(4, .int y_38), (0, .ref (ad 0)), (1, .int i1), (2, .int i2), (3, .int i3)]) hx hb dX10_cut_110 hl (k := 0) rfl (by rw [ey_38]; rfl) (by decide) rfl (fun ls hl => ?_)
                    refine lv_goto (tgt := 82) hx hb dX10_cut_113 (by decide) ?_
                    exact ih82 y_38 f_37 (by first | omega | assumption | decide) hd7 (v82_2.far (fun z hz => hr_36_0.2 z (by omega) (by omega))) ((hr_36_0.2 0 (by omega) (by omega)).trans v82_3) ((hr_36_0.2 (1 + i1.toInt) (by omega) (by omega)).trans v82_4) (by omega) _ _ ls hP hD hS (lv_sub hl [0, 1, 2, 3, 4] rfl)
              exact loop82 _ i2 f_21 (by first | omega | assumption | decide) hd9 hm9 hs0 hss (Nat.lt_succ_self _) _ _ ls hP hD hS (lv_sub hl [0, 1, 2, 3, 4] rfl)
            · have tk_17 := c_eq (a := i3.toInt) (b := r_16.toInt) rfl rfl k_17
              refine lv_aload_n hx hb dX10_cut_64 rfl (lv_at hl 0 rfl) ?_
              refine lv_bipush (v := 6) hx hb dX10_cut_65 (by decide) ?_
              have lit_38 : (6 : Int32).toInt = 6 := by decide
              have hFc := m_free hD hS hA
              refine va_calli (va_runV (As := [.int 6]) (rest := []) ⟨hx, hb, hml, hown, hts⟩ (m_refuse l dC dI ad kc x0 x1 x2 x3 x4 x5 x6 x7 x8 x9 x10 x11 x12 x13 x14 x15 x16 x17 x18 x19 x20 x21 f0 f1 f2 f3 f4 f5 f6 f7 f8 f9 f10 f11 f12 f13 f14 f15 f16 f17 f18 f19 f20 f21 fL fN fP fM fO H.size 6 ) (cwV 1 hts mg_X10_cutm_X10_refuse_204 rfl rfl rfl (by decide +kernel) ⟨Nat.le_of_ble_eq_true rfl, Nat.le_of_ble_eq_true rfl⟩) ⟨fun a U g mk q => by obtain ⟨q0, q1, qP, qK, qD⟩ := q; exact ⟨q0, q1, qP, va_K.moved (u := U) (U := U.calling g mk a) (Vm.Alike.refl U.vm) qK, qD⟩, va_recv hK hP (ci := 10) (q0 := 0) rfl rfl, fun U hU hW => ⟨rfl, by rw [hU], by rw [hU]; exact hP, va_K.moved hW.alike hK, hD.weaken (fun _ _ _ _ => trivial)⟩⟩ rfl rfl hl.1 rfl (lv_room (Nat.le_of_ble_eq_true rfl)) dX10_cut_67 ⟨Nat.le_of_ble_eq_true rfl, Nat.le_of_ble_eq_true rfl⟩) hS (fun q _ h => hFc q h) hFc (fun r_40 u t H1 locs ht hvm hw hB hz1 hk1 hS => ?_)
              subst hw
              obtain ⟨hr_40_0, hP, hK1, hD1⟩ := hB
              rw [ht] at hP
              have hD := hD1.weaken (fun k q _ h => hFc q.1 h)
              clear hz1 hk1 hFc hD1 hK1 hvm
              generalize H1 = H at hP hS ⊢
              have rg_r_40 := i_rng r_40
              have hP : va_P (dC, dI) vwCl (mW ad kc 6 x1 x2 x3 x4 x5 x6 x7 x8 x9 x10 x11 x12 x13 x14 x15 x16 x17 x18 x19 x20 x21 f0 f1 f2 f3 f4 f5 f6 f7 f8 f9 f10 f11 f12 f13 f14 f15 f16 f17 f18 f19 f20 f21 fL fN fP fM fO) H := hP
              have hD : va_D A (mW ad kc 6 x1 x2 x3 x4 x5 x6 x7 x8 x9 x10 x11 x12 x13 x14 x15 x16 x17 x18 x19 x20 x21 f0 f1 f2 f3 f4 f5 f6 f7 f8 f9 f10 f11 f12 f13 f14 f15 f16 f17 f18 f19 f20 f21 fL fN fP fM fO) := hD
              have lit_40 : (6 : Int32).toInt = 6 := by decide
              exact W.iret hx hb hr (fun t ht hW => ⟨⟨_, _, rfl, rfl, 6, x1, f0, q0, by rw [ht]; exact hP, va_K.moved hW.alike hK, hD⟩, hS.F ht⟩) hS.2.2 dX10_cut_70
          · have tk_15 := c_nle (a := i3.toInt) (b := y_14.toInt) rfl rfl k_15
            refine lv_aload_n hx hb dX10_cut_49 rfl (lv_at hl 0 rfl) ?_
            refine lv_iconst (v := 5) hx hb dX10_cut_50 (by decide) ?_
            have lit_41 : (5 : Int32).toInt = 5 := by decide
            have hFc := m_free hD hS hA
            refine va_calli (va_runV (As := [.int 5]) (rest := []) ⟨hx, hb, hml, hown, hts⟩ (m_refuse l dC dI ad kc x0 x1 x2 x3 x4 x5 x6 x7 x8 x9 x10 x11 x12 x13 x14 x15 x16 x17 x18 x19 x20 x21 f0 f1 f2 f3 f4 f5 f6 f7 f8 f9 f10 f11 f12 f13 f14 f15 f16 f17 f18 f19 f20 f21 fL fN fP fM fO H.size 5 ) (cwV 1 hts mg_X10_cutm_X10_refuse_204 rfl rfl rfl (by decide +kernel) ⟨Nat.le_of_ble_eq_true rfl, Nat.le_of_ble_eq_true rfl⟩) ⟨fun a U g mk q => by obtain ⟨q0, q1, qP, qK, qD⟩ := q; exact ⟨q0, q1, qP, va_K.moved (u := U) (U := U.calling g mk a) (Vm.Alike.refl U.vm) qK, qD⟩, va_recv hK hP (ci := 10) (q0 := 0) rfl rfl, fun U hU hW => ⟨rfl, by rw [hU], by rw [hU]; exact hP, va_K.moved hW.alike hK, hD.weaken (fun _ _ _ _ => trivial)⟩⟩ rfl rfl hl.1 rfl (lv_room (Nat.le_of_ble_eq_true rfl)) dX10_cut_51 ⟨Nat.le_of_ble_eq_true rfl, Nat.le_of_ble_eq_true rfl⟩) hS (fun q _ h => hFc q h) hFc (fun r_43 u t H1 locs ht hvm hw hB hz1 hk1 hS => ?_)
            subst hw
            obtain ⟨hr_43_0, hP, hK1, hD1⟩ := hB
            rw [ht] at hP
            have hD := hD1.weaken (fun k q _ h => hFc q.1 h)
            clear hz1 hk1 hFc hD1 hK1 hvm
            generalize H1 = H at hP hS ⊢
            have rg_r_43 := i_rng r_43
            have hP : va_P (dC, dI) vwCl (mW ad kc 5 x1 x2 x3 x4 x5 x6 x7 x8 x9 x10 x11 x12 x13 x14 x15 x16 x17 x18 x19 x20 x21 f0 f1 f2 f3 f4 f5 f6 f7 f8 f9 f10 f11 f12 f13 f14 f15 f16 f17 f18 f19 f20 f21 fL fN fP fM fO) H := hP
            have hD : va_D A (mW ad kc 5 x1 x2 x3 x4 x5 x6 x7 x8 x9 x10 x11 x12 x13 x14 x15 x16 x17 x18 x19 x20 x21 f0 f1 f2 f3 f4 f5 f6 f7 f8 f9 f10 f11 f12 f13 f14 f15 f16 f17 f18 f19 f20 f21 fL fN fP fM fO) := hD
            have lit_43 : (5 : Int32).toInt = 5 := by decide
            exact W.iret hx hb hr (fun t ht hW => ⟨⟨_, _, rfl, rfl, 5, x1, f0, q0, by rw [ht]; exact hP, va_K.moved hW.alike hK, hD⟩, hS.F ht⟩) hS.2.2 dX10_cut_54
      · have tk_7 := c_eq (a := r_6.toInt) (b := 0) rfl (by decide) k_7
        refine lv_aload_n hx hb dX10_cut_23 rfl (lv_at hl 0 rfl) ?_
        refine lv_iconst (v := 2) hx hb dX10_cut_24 (by decide) ?_
        have lit_44 : (2 : Int32).toInt = 2 := by decide
        have hFc := m_free hD hS hA
        refine va_calli (va_runV (As := [.int 2]) (rest := []) ⟨hx, hb, hml, hown, hts⟩ (m_refuse l dC dI ad kc x0 x1 x2 x3 x4 x5 x6 x7 x8 x9 x10 x11 x12 x13 x14 x15 x16 x17 x18 x19 x20 x21 f0 f1 f2 f3 f4 f5 f6 f7 f8 f9 f10 f11 f12 f13 f14 f15 f16 f17 f18 f19 f20 f21 fL fN fP fM fO H.size 2 ) (cwV 1 hts mg_X10_cutm_X10_refuse_204 rfl rfl rfl (by decide +kernel) ⟨Nat.le_of_ble_eq_true rfl, Nat.le_of_ble_eq_true rfl⟩) ⟨fun a U g mk q => by obtain ⟨q0, q1, qP, qK, qD⟩ := q; exact ⟨q0, q1, qP, va_K.moved (u := U) (U := U.calling g mk a) (Vm.Alike.refl U.vm) qK, qD⟩, va_recv hK hP (ci := 10) (q0 := 0) rfl rfl, fun U hU hW => ⟨rfl, by rw [hU], by rw [hU]; exact hP, va_K.moved hW.alike hK, hD.weaken (fun _ _ _ _ => trivial)⟩⟩ rfl rfl hl.1 rfl (lv_room (Nat.le_of_ble_eq_true rfl)) dX10_cut_25 ⟨Nat.le_of_ble_eq_true rfl, Nat.le_of_ble_eq_true rfl⟩) hS (fun q _ h => hFc q h) hFc (fun r_46 u t H1 locs ht hvm hw hB hz1 hk1 hS => ?_)
        subst hw
        obtain ⟨hr_46_0, hP, hK1, hD1⟩ := hB
        rw [ht] at hP
        have hD := hD1.weaken (fun k q _ h => hFc q.1 h)
        clear hz1 hk1 hFc hD1 hK1 hvm
        generalize H1 = H at hP hS ⊢
        have rg_r_46 := i_rng r_46
        have hP : va_P (dC, dI) vwCl (mW ad kc 2 x1 x2 x3 x4 x5 x6 x7 x8 x9 x10 x11 x12 x13 x14 x15 x16 x17 x18 x19 x20 x21 f0 f1 f2 f3 f4 f5 f6 f7 f8 f9 f10 f11 f12 f13 f14 f15 f16 f17 f18 f19 f20 f21 fL fN fP fM fO) H := hP
        have hD : va_D A (mW ad kc 2 x1 x2 x3 x4 x5 x6 x7 x8 x9 x10 x11 x12 x13 x14 x15 x16 x17 x18 x19 x20 x21 f0 f1 f2 f3 f4 f5 f6 f7 f8 f9 f10 f11 f12 f13 f14 f15 f16 f17 f18 f19 f20 f21 fL fN fP fM fO) := hD
        have lit_46 : (2 : Int32).toInt = 2 := by decide
        exact W.iret hx hb hr (fun t ht hW => ⟨⟨_, _, rfl, rfl, 2, x1, f0, q0, by rw [ht]; exact hP, va_K.moved hW.alike hK, hD⟩, hS.F ht⟩) hS.2.2 dX10_cut_28
    · have tk_5 := c_nge (a := i3.toInt) (b := 1) rfl (by decide) k_5
      refine lv_aload_n hx hb dX10_cut_9 rfl (lv_at hl 0 rfl) ?_
      refine lv_iconst (v := 1) hx hb dX10_cut_10 (by decide) ?_
      have lit_47 : (1 : Int32).toInt = 1 := by decide
      have hFc := m_free hD hS hA
      refine va_calli (va_runV (As := [.int 1]) (rest := []) ⟨hx, hb, hml, hown, hts⟩ (m_refuse l dC dI ad kc x0 x1 x2 x3 x4 x5 x6 x7 x8 x9 x10 x11 x12 x13 x14 x15 x16 x17 x18 x19 x20 x21 f0 f1 f2 f3 f4 f5 f6 f7 f8 f9 f10 f11 f12 f13 f14 f15 f16 f17 f18 f19 f20 f21 fL fN fP fM fO H.size 1 ) (cwV 1 hts mg_X10_cutm_X10_refuse_204 rfl rfl rfl (by decide +kernel) ⟨Nat.le_of_ble_eq_true rfl, Nat.le_of_ble_eq_true rfl⟩) ⟨fun a U g mk q => by obtain ⟨q0, q1, qP, qK, qD⟩ := q; exact ⟨q0, q1, qP, va_K.moved (u := U) (U := U.calling g mk a) (Vm.Alike.refl U.vm) qK, qD⟩, va_recv hK hP (ci := 10) (q0 := 0) rfl rfl, fun U hU hW => ⟨rfl, by rw [hU], by rw [hU]; exact hP, va_K.moved hW.alike hK, hD.weaken (fun _ _ _ _ => trivial)⟩⟩ rfl rfl hl.1 rfl (lv_room (Nat.le_of_ble_eq_true rfl)) dX10_cut_11 ⟨Nat.le_of_ble_eq_true rfl, Nat.le_of_ble_eq_true rfl⟩) hS (fun q _ h => hFc q h) hFc (fun r_49 u t H1 locs ht hvm hw hB hz1 hk1 hS => ?_)
      subst hw
      obtain ⟨hr_49_0, hP, hK1, hD1⟩ := hB
      rw [ht] at hP
      have hD := hD1.weaken (fun k q _ h => hFc q.1 h)
      clear hz1 hk1 hFc hD1 hK1 hvm
      generalize H1 = H at hP hS ⊢
      have rg_r_49 := i_rng r_49
      have hP : va_P (dC, dI) vwCl (mW ad kc 1 x1 x2 x3 x4 x5 x6 x7 x8 x9 x10 x11 x12 x13 x14 x15 x16 x17 x18 x19 x20 x21 f0 f1 f2 f3 f4 f5 f6 f7 f8 f9 f10 f11 f12 f13 f14 f15 f16 f17 f18 f19 f20 f21 fL fN fP fM fO) H := hP
      have hD : va_D A (mW ad kc 1 x1 x2 x3 x4 x5 x6 x7 x8 x9 x10 x11 x12 x13 x14 x15 x16 x17 x18 x19 x20 x21 f0 f1 f2 f3 f4 f5 f6 f7 f8 f9 f10 f11 f12 f13 f14 f15 f16 f17 f18 f19 f20 f21 fL fN fP fM fO) := hD
      have lit_49 : (1 : Int32).toInt = 1 := by decide
      exact W.iret hx hb hr (fun t ht hW => ⟨⟨_, _, rfl, rfl, 1, x1, f0, q0, by rw [ht]; exact hP, va_K.moved hW.alike hK, hD⟩, hS.F ht⟩) hS.2.2 dX10_cut_14

theorem i_rng (x : Int32) : -2147483648 ≤ x.toInt ∧ x.toInt < 2147483648 := ⟨Int32.le_toInt x, Int32.toInt_lt x⟩
theorem i_len {y : Int32} {n : Nat} (e : y = Int32.ofNat n) (h : n < 2147483648) : y.toInt = (n : Int) := by rw [e]; exact nI_toInt h
theorem i_add {x z y : Int32} {a b : Int} (ha : x.toInt = a) (hb : z.toInt = b) (e : y = x + z) (h1 : -2147483648 ≤ a + b) (h2 : a + b < 2147483648) : y.toInt = a + b := by
  subst ha; subst hb; rw [e]; exact Jvm.Kit.i32_add h1 h2
theorem i_sub {x z y : Int32} {a b : Int} (ha : x.toInt = a) (hb : z.toInt = b) (e : y = x - z) (h1 : -2147483648 ≤ a - b) (h2 : a - b < 2147483648) : y.toInt = a - b := by
  subst ha; subst hb; rw [e]; exact Jvm.Kit.i32_sub h1 h2
theorem i_mul {x z y : Int32} {a b : Int} (ha : x.toInt = a) (hb : z.toInt = b) (e : y = x * z) (h1 : -2147483648 ≤ a * b) (h2 : a * b < 2147483648) : y.toInt = a * b := by
  subst ha; subst hb; rw [e]; exact Jvm.Kit.i32_mul h1 h2
theorem c_lt {x y : Int32} {a b : Int} (ha : x.toInt = a) (hb : y.toInt = b) (h : x < y) : a < b := by
  rw [← ha, ← hb]; exact Int32.lt_iff_toInt_lt.mp h
theorem c_nlt {x y : Int32} {a b : Int} (ha : x.toInt = a) (hb : y.toInt = b) (h : ¬ x < y) : b ≤ a := by
  rw [Int32.lt_iff_toInt_lt, ha, hb] at h; omega
theorem c_ge {x y : Int32} {a b : Int} (ha : x.toInt = a) (hb : y.toInt = b) (h : y ≤ x) : b ≤ a := by
  rw [← ha, ← hb]; exact Int32.le_iff_toInt_le.mp h
theorem c_nge {x y : Int32} {a b : Int} (ha : x.toInt = a) (hb : y.toInt = b) (h : ¬ y ≤ x) : a < b := by
  rw [Int32.le_iff_toInt_le, ha, hb] at h; omega
theorem c_gt {x y : Int32} {a b : Int} (ha : x.toInt = a) (hb : y.toInt = b) (h : y < x) : b < a := c_lt hb ha h
theorem c_ngt {x y : Int32} {a b : Int} (ha : x.toInt = a) (hb : y.toInt = b) (h : ¬ y < x) : a ≤ b := c_nlt hb ha h
theorem c_le {x y : Int32} {a b : Int} (ha : x.toInt = a) (hb : y.toInt = b) (h : x ≤ y) : a ≤ b := c_ge hb ha h
theorem c_nle {x y : Int32} {a b : Int} (ha : x.toInt = a) (hb : y.toInt = b) (h : ¬ x ≤ y) : b < a := c_nge hb ha h
theorem c_eq {x y : Int32} {a b : Int} (ha : x.toInt = a) (hb : y.toInt = b) (h : x = y) : a = b := by
  rw [← ha, ← hb, h]
theorem c_ne {x y : Int32} {a b : Int} (ha : x.toInt = a) (hb : y.toInt = b) (h : ¬ x = y) : a ≠ b := by
  intro q; apply h; apply Int32.toInt_inj.mp; rw [ha, hb, q]
theorem z_nar {v : Int32} (h : v = 0 ∨ v = 1) : narrow .boolean (.int v) = .int v := by
  rcases h with rfl | rfl <;> rfl
theorem z_fit {v : Int32} (h : v = 0 ∨ v = 1) : fits .boolean (.int v) = true := by
  rcases h with rfl | rfl <;> rfl
theorem vp_of {i : Int32} {a : Int} {n : Nat} (ha : i.toInt = a) (h1 : 0 ≤ a) (h2 : a < n) : vp_in i n := by
  obtain ⟨j, hj, e⟩ := nI_of (x := i) (by rw [Int32.lt_iff_toInt_lt, Int32.toInt_zero, ha]; omega)
  subst e
  rw [nI_toInt hj] at ha
  unfold vp_in
  rintro (h | h)
  · exact nI_pos hj h
  · rw [nI_clamp hj] at h; omega
theorem q_at {D : va_G} {cl : List vw_C} {W9 : va_W} {A : Nat → Prop} {H0 H : Heap} {locs : List Loc} (hQ : va_P D cl W9 H0) (hA : ∀ q ∈ W9, ¬ A q.1) (hS : va_S A H0 H locs) : va_P D cl W9 H := hQ.kept (fun k x hx => hS.2.1 x.1 ((hQ k x hx).lt) (hA x (List.mem_of_getElem? hx)))
theorem p_sub {D : va_G} {cl : List vw_C} {ws ws' : va_W} {H : Heap} (h : va_P D cl ws H) (hm : ∀ q ∈ ws', q ∈ ws) : va_P D cl ws' H := fun k q hq => by
  obtain ⟨j, hj⟩ := List.getElem?_of_mem (hm q (List.mem_of_getElem? hq))
  exact h j q hj
theorem k_sub {D : va_G} {cl : List vw_C} {tys tys' : List (ClassId × FieldType)} {U : State} (h : va_K D cl tys U) (hm : ∀ q ∈ tys', q ∈ tys) : va_K D cl tys' U := ⟨h.1, fun k q hq => by
  obtain ⟨j, hj⟩ := List.getElem?_of_mem (hm q (List.mem_of_getElem? hq))
  exact h.2 j q hj⟩
theorem vp_nat {i : Int32} {a : Int} {n : Nat} (ha : i.toInt = a) (h1 : 0 ≤ a) (h2 : a < n) : i.toNatClampNeg < n := by
  obtain ⟨j, hj, e⟩ := nI_of (x := i) (by rw [Int32.lt_iff_toInt_lt, Int32.toInt_zero, ha]; omega)
  subst e
  rw [nI_toInt hj] at ha
  rw [nI_clamp hj]; omega
theorem i_and {x z y : Int32} {b : Int} (hb : z.toInt = b) (h0 : 0 ≤ b) (e : y = x &&& z) : 0 ≤ y.toInt ∧ y.toInt ≤ b := by
  obtain ⟨j, hj, e9⟩ := nI_of (x := z) (by rw [Int32.lt_iff_toInt_lt, Int32.toInt_zero, hb]; omega)
  subst e9
  rw [nI_toInt hj] at hb
  have hz : (nI j).toBitVec.toNat = j := by
    show (BitVec.ofNat 32 j).toNat = j
    rw [BitVec.toNat_ofNat]; exact Nat.mod_eq_of_lt (by omega)
  have h1 : y.toBitVec.toNat ≤ j := by
    rw [e, Int32.toBitVec_and, BitVec.toNat_and, hz]; exact Nat.and_le_right
  have h2 : y.toInt = (y.toBitVec.toNat : Int) := BitVec.toInt_eq_toNat_of_lt (by omega)
  omega
theorem i_div {x z y : Int32} {a b : Int} (ha : x.toInt = a) (hb : z.toInt = b) (h0 : 0 ≤ a) (h1 : 0 < b) (e : y = x / z) : y.toInt = a / b := by
  rw [e, Jvm.Kit.i32_div (by rw [ha]; omega), ha, hb, Int.tdiv_eq_ediv_of_nonneg h0]
theorem i_ush {x z y : Int32} {a : Int} {k : Nat} (ha : x.toInt = a) (hn : (z.toUInt32 &&& Int32.toUInt32 31).toNat = k) (hk : k < 32) (h0 : 0 ≤ a) (e : y = (x.toUInt32 >>> (z.toUInt32 &&& Int32.toUInt32 31)).toInt32) : y.toInt = a / 2 ^ k := by
  rw [e, Jvm.Kit.i32_iushr (k := k) (by rw [Int32.le_iff_toInt_le, Int32.toInt_zero, ha]; exact h0) hn hk, ha]
theorem i_nn {x : Int32} {a : Int} (ha : x.toInt = a) (h : 0 ≤ a) : ¬ x < 0 := by
  rw [Int32.lt_iff_toInt_lt, Int32.toInt_zero, ha]; omega
theorem cp_le {x y : Int32} {a b : Int} {n : Nat} (ha : x.toInt = a) (hb : y.toInt = b) (h1 : 0 ≤ a) (h2 : 0 ≤ b) (h3 : a + b ≤ n) : x.toNatClampNeg + y.toNatClampNeg ≤ n := by
  obtain ⟨j, hj, e⟩ := nI_of (i_nn ha h1)
  obtain ⟨k, hk, e2⟩ := nI_of (i_nn hb h2)
  subst e; subst e2
  rw [nI_toInt hj] at ha
  rw [nI_toInt hk] at hb
  rw [nI_clamp hj, nI_clamp hk]; omega
theorem upd_bd {f : Nat → Int32} {k : Nat} {v : Int32} {lo hi a : Int} (hf : ∀ i, lo ≤ (f i).toInt ∧ (f i).toInt ≤ hi) (ha : v.toInt = a) (h1 : lo ≤ a) (h2 : a ≤ hi) : ∀ i, lo ≤ (upd f k v i).toInt ∧ (upd f k v i).toInt ≤ hi := by
  intro i
  simp only [upd]
  split
  · rw [ha]; exact ⟨h1, h2⟩
  · exact hf i
theorem b_ior {x z y : Int32} (h1 : x = 0 ∨ x = 1) (h2 : z = 0 ∨ z = 1) (e : y = x ||| z) : y = 0 ∨ y = 1 := by
  rcases h1 with rfl | rfl <;> rcases h2 with rfl | rfl <;> subst e <;> decide
theorem b_iand {x z y : Int32} (h1 : x = 0 ∨ x = 1) (h2 : z = 0 ∨ z = 1) (e : y = x &&& z) : y = 0 ∨ y = 1 := by
  rcases h1 with rfl | rfl <;> rcases h2 with rfl | rfl <;> subst e <;> decide
theorem i_half {x y : Int32} {a : Int} (ha : x.toInt = a) (h0 : 0 ≤ a) (e : y = (x.toUInt32 >>> ((1 : Int32).toUInt32 &&& Int32.toUInt32 31)).toInt32) : y.toInt = a / 2 := by
  rw [e, Jvm.Kit.i32_iushr (k := 1) (by rw [Int32.le_iff_toInt_le, Int32.toInt_zero, ha]; exact h0) (by decide) (by decide), ha]; rfl
theorem i_max {x z y : Int32} {a b : Int} (ha : x.toInt = a) (hb : z.toInt = b) (e : y = if x < z then z else x) : a ≤ y.toInt ∧ b ≤ y.toInt ∧ (y.toInt = a ∨ y.toInt = b) := by
  subst e
  by_cases h : x < z
  · rw [if_pos h]; have := c_lt ha hb h; omega
  · rw [if_neg h]; have := c_nlt ha hb h; omega
theorem i_min {x z y : Int32} {a b : Int} (ha : x.toInt = a) (hb : z.toInt = b) (e : y = if z < x then z else x) : y.toInt ≤ a ∧ y.toInt ≤ b ∧ (y.toInt = a ∨ y.toInt = b) := by
  subst e
  by_cases h : z < x
  · rw [if_pos h]; have := c_lt hb ha h; omega
  · rw [if_neg h]; have := c_nlt hb ha h; omega

/-! what a gauge says between its readings -/
theorem q_cmp0 {x : Int64} : (0 ≤ lg_cmp x 0) ↔ 0 ≤ x.toInt := by
  have z : (0 : Int64).toInt = 0 := rfl
  unfold lg_cmp
  by_cases h : x > 0
  · rw [if_pos h]
    have h2 : (0 : Int64).toInt < x.toInt := Int64.lt_iff_toInt_lt.mp h
    exact ⟨fun _ => by omega, fun _ => by decide⟩
  · rw [if_neg h]
    have h2 : ¬ (0 : Int64).toInt < x.toInt := fun y => h (Int64.lt_iff_toInt_lt.mpr y)
    by_cases e : x = 0
    · rw [if_pos e, e]
      exact ⟨fun _ => by decide, fun _ => by decide⟩
    · rw [if_neg e]
      have h3 : ¬ x.toInt = 0 := fun y => e (Int64.toInt_inj.mp (y.trans z.symm))
      exact ⟨fun y => absurd y (by decide), fun y => by omega⟩
theorem q_cmpe {x y : Int64} : lg_cmp x y = 0 ↔ x = y := by
  unfold lg_cmp
  by_cases h : x > y
  · rw [if_pos h]
    refine ⟨fun z => absurd z (by decide), fun z => ?_⟩
    have h2 : y.toInt < x.toInt := Int64.lt_iff_toInt_lt.mp h
    rw [z] at h2
    omega
  · rw [if_neg h]
    by_cases e : x = y
    · rw [if_pos e]; exact ⟨fun _ => e, fun _ => rfl⟩
    · rw [if_neg e]; exact ⟨fun z => absurd z (by decide), fun z => absurd z e⟩
theorem q_xor {a b : Int64} (b0 : 0 ≤ b.toInt) : 0 ≤ (a ^^^ b).toInt ↔ 0 ≤ a.toInt := by
  have h : (a ^^^ b).toBitVec.msb = (a.toBitVec.msb ^^ b.toBitVec.msb) := by rw [Int64.toBitVec_xor, BitVec.msb_xor]
  rw [BitVec.msb_eq_toInt, BitVec.msb_eq_toInt, BitVec.msb_eq_toInt, Int64.toInt_toBitVec, Int64.toInt_toBitVec, Int64.toInt_toBitVec, show decide (b.toInt < 0) = false from decide_eq_false (by omega), Bool.xor_false, decide_eq_decide] at h
  omega
theorem q_dv {a b : Int64} (a0 : -1000000000000 ≤ a.toInt) (a1 : a.toInt ≤ 1000000000000) (b0 : 0 < b.toInt) (b1 : b.toInt ≤ 2147483648) : (a / b).toInt = a.toInt.tdiv b.toInt ∧ (a / b * b).toInt = a.toInt - a.toInt.tmod b.toInt ∧ (a - a / b * b).toInt = a.toInt.tmod b.toInt ∧ (-b.toInt < a.toInt.tmod b.toInt ∧ a.toInt.tmod b.toInt < b.toInt) ∧ (0 ≤ a.toInt → 0 ≤ a.toInt.tmod b.toInt) ∧ (a.toInt < 0 → a.toInt.tmod b.toInt ≤ 0) := by
  have e1 : (a / b).toInt = a.toInt.tdiv b.toInt := Int64.toInt_div_of_ne_right a b (fun z => by rw [z] at b0; exact absurd b0 (by decide))
  have m := Int.tmod_add_tdiv_mul a.toInt b.toInt
  have l1 := Int.tmod_lt_of_pos a.toInt b0
  have l2 := Int.lt_tmod_of_pos a.toInt b0
  have e2 : (a / b * b).toInt = a.toInt - a.toInt.tmod b.toInt := by
    rw [Int64.toInt_mul, e1, show a.toInt.tdiv b.toInt * b.toInt = a.toInt - a.toInt.tmod b.toInt by omega]
    exact Int.bmod_eq_of_le (by omega) (by omega)
  refine ⟨e1, e2, ?_, ⟨l2, l1⟩, fun h => Int.tmod_nonneg _ h, fun h => ?_⟩
  · rw [Int64.toInt_sub, e2, show a.toInt - (a.toInt - a.toInt.tmod b.toInt) = a.toInt.tmod b.toInt by omega]
    exact Int.bmod_eq_of_le (by omega) (by omega)
  · have := Int.tmod_nonneg b.toInt (show 0 ≤ -a.toInt by omega)
    rw [Int.neg_tmod] at this
    omega
/-- rounded down -/
def qfl (a b : Int64) : Int64 := if 0 ≤ lg_cmp (a - a / b * b) 0 then a / b else a / b - 1
theorem i_floorDiv {P : Int64 → Prop} {st : zTs} {a b : Int64} (a0 : -1000000000000 ≤ a.toInt) (a1 : a.toInt ≤ 1000000000000) (b0 : 0 < b.toInt) (b1 : b.toInt ≤ 2147483648) (h : P (qfl a b)) : w_J9_floorDiv_f86c9 st a b P := by
  obtain ⟨e1, e2, e3, ⟨l1, l2⟩, s1, s2⟩ := q_dv a0 a1 b0 b1
  unfold qfl at h
  refine ⟨fun z => by rw [z] at b0; exact absurd b0 (by decide), fun x hx => ?_⟩
  subst hx
  refine ⟨fun c => ?_, fun c => ⟨fun c2 => ?_, fun c2 => ?_⟩⟩
  · have c' := (q_xor (a := a) (b := b) (by omega)).mp (q_cmp0.mp c)
    rw [if_pos (q_cmp0.mpr (by rw [e3]; exact s1 c'))] at h
    exact h
  · have c3 := q_cmpe.mp c2
    rw [if_pos (q_cmp0.mpr (by rw [c3, Int64.sub_self]; decide))] at h
    exact h
  · have c3 : ¬ a / b * b = a := fun z => c2 (q_cmpe.mpr z)
    have c' : ¬ 0 ≤ a.toInt := fun z => c (q_cmp0.mpr ((q_xor (a := a) (b := b) (by omega)).mpr z))
    have c4 : ¬ a.toInt.tmod b.toInt = 0 := fun z => c3 (Int64.toInt_inj.mp (by rw [e2, z]; omega))
    have := s2 (by omega)
    rw [if_neg (fun z => by have := q_cmp0.mp z; rw [e3] at this; omega)] at h
    exact h
theorem im_floor {P : Int64 → Prop} {st : zTs} {a b : Int64} (b0 : 0 < b.toInt) (h : P (qfl a b)) : w_X12_floor st a b P := by
  have bz : ¬ b = 0 := fun z => by rw [z] at b0; exact absurd b0 (by decide)
  unfold qfl at h
  refine ⟨bz, fun x hx => ⟨bz, fun c => ?_, fun c => ?_⟩⟩
  · subst hx
    rw [if_pos c] at h
    exact h
  · subst hx
    rw [if_neg c] at h
    exact h
/-- a good gauge: n readings of the days D and the values V -/
def QG (n : Nat) (D V : Nat → Int32) : Prop := n ≤ 40 ∧ (∀ j, j + 1 < n → D j < D (j + 1)) ∧ ∀ j, j < n → 0 ≤ D j ∧ D j ≤ 1000000 ∧ -10000 ≤ V j ∧ V j ≤ 10000
theorem QG_of {s : zTs} {i : Nat} (h : GG s) (hi : i < zgN s 23) : zgF s 23 i 2 = Int32.ofNat (zgF s 23 i 2).toNatClampNeg ∧ zgA s 159 0 i = zgF s 23 i 2 ∧ QG (zgF s 23 i 2).toNatClampNeg (zgA s 64 i) (zgA s 65 i) ∧ ∀ j, j < 40 → zgA s 160 0 (40 * i + j) = zgA s 64 i j ∧ zgA s 161 0 (40 * i + j) = zgA s 65 i j := by
  obtain ⟨-, h1, -⟩ := h
  obtain ⟨⟨a1, a2, a3⟩, a4, a5⟩ := h1 i hi
  have e := q_t0 a2
  have n40 : (zgF s 23 i 2).toNatClampNeg ≤ 40 := by
    rw [Int32.le_iff_toInt_le, show (40 : Int32).toInt = 40 from rfl] at a3
    omega
  refine ⟨q_of_toInt e, a1, ⟨n40, fun j hj => a5 j (by omega) (by omega), fun j hj => ?_⟩, fun j hj => ?_⟩
  · obtain ⟨z1, z2, z3, z4, z5, z6⟩ := a4 j (by omega)
    exact ⟨z3, z4, z5, z6⟩
  · obtain ⟨z1, z2, -⟩ := a4 j hj
    exact ⟨z1, z2⟩
theorem QG_mono {n : Nat} {D V : Nat → Int32} (h : QG n D V) : ∀ k, k < n → ∀ j, j ≤ k → D j ≤ D k := by
  intro k
  induction k with
  | zero => intro _ j hj; rw [show j = 0 by omega]; exact Int32.le_refl _
  | succ k ih =>
    intro hk j hj
    by_cases e : j = k + 1
    · rw [e]; exact Int32.le_refl _
    · exact Int32.le_trans (ih (by omega) j (by omega)) (Int32.le_of_lt (h.2.1 k hk))
/-- a day that is covered -/
def qco (n : Nat) (D : Nat → Int32) (d : Int32) : Prop := 0 < n ∧ D 0 ≤ d ∧ d ≤ D (n - 1)
/-- the last reading up to a day -/
def qlk (n : Nat) (D : Nat → Int32) (d : Int32) : Nat → Nat → Nat
  | 0, j => j
  | m + 1, j => if j + 1 < n ∧ D (j + 1) ≤ d then qlk n D d m (j + 1) else j
theorem qlk_ok0 {n : Nat} {D : Nat → Int32} {d : Int32} : ∀ m j, j < n → D j ≤ d → n ≤ m + j + 1 → qlk n D d m j < n ∧ D (qlk n D d m j) ≤ d ∧ (qlk n D d m j + 1 = n ∨ (qlk n D d m j + 1 < n ∧ d < D (qlk n D d m j + 1))) := by
  intro m
  induction m with
  | zero => intro j h0 h1 h2; exact ⟨h0, h1, .inl (by show j + 1 = n; omega)⟩
  | succ m ih =>
    intro j h0 h1 h2
    rw [qlk]
    by_cases c : j + 1 < n ∧ D (j + 1) ≤ d
    · rw [if_pos c]; exact ih (j + 1) c.1 c.2 (by omega)
    · rw [if_neg c]
      refine ⟨h0, h1, ?_⟩
      by_cases e : j + 1 = n
      · exact .inl e
      · exact .inr ⟨by omega, Int32.not_le.mp (fun z => c ⟨by omega, z⟩)⟩
theorem qlk_ok {n : Nat} {D V : Nat → Int32} {d : Int32} (h : QG n D V) (hc : qco n D d) : qlk n D d 40 0 < n ∧ D (qlk n D d 40 0) ≤ d ∧ ((qlk n D d 40 0 + 1 = n ∧ D (qlk n D d 40 0) = d) ∨ (qlk n D d 40 0 + 1 < n ∧ d < D (qlk n D d 40 0 + 1))) := by
  obtain ⟨h1, h2, h3⟩ := qlk_ok0 (n := n) (D := D) (d := d) 40 0 hc.1 hc.2.1 (by have := h.1; omega)
  refine ⟨h1, h2, ?_⟩
  rcases h3 with h3 | h3
  · refine .inl ⟨h3, ?_⟩
    have := hc.2.2
    rw [show n - 1 = qlk n D d 40 0 by omega] at this
    exact Int32.le_antisymm h2 this
  · exact .inr h3
/-- the value there -/
def qvl (D V : Nat → Int32) (k : Nat) (d : Int32) : Int32 := if D k = d then V k else V k + (qfl ((V (k + 1) - V k).toInt64 * (d - D k).toInt64) ((D (k + 1) - D k).toInt64)).toInt32
def qva (n : Nat) (D V : Nat → Int32) (d : Int32) : Int32 := qvl D V (qlk n D d 40 0) d
theorem q_os {n : Nat} (h : n < 2147483647) : Int32.ofNat n + 1 = Int32.ofNat (n + 1) := q_of_toInt (q_ofs h)
theorem q_nlt {a b : Nat} (ha : a < 2147483648) (hb : b < 2147483648) : Int32.ofNat a < Int32.ofNat b ↔ a < b := by
  rw [Int32.lt_iff_toInt_lt, q_of ha, q_of hb]; omega
theorem q_nle {a b : Nat} (ha : a < 2147483648) (hb : b < 2147483648) : Int32.ofNat a ≤ Int32.ofNat b ↔ a ≤ b := by
  rw [Int32.le_iff_toInt_le, q_of ha, q_of hb]; omega
theorem q_nv {a n : Nat} (ha : a < n) (hb : n < 2147483648) : vp_in (Int32.ofNat a) n := q_vpi (by rw [q_of (by omega)]; omega) (by rw [q_of (by omega)]; omega)
/-- a difference of days, and of values, as a long -/
theorem q_sd {x y : Int32} (hx : 0 ≤ x) (hx1 : x ≤ 1000000) (hy : 0 ≤ y) (hy1 : y ≤ 1000000) : (x - y).toInt = x.toInt - y.toInt ∧ (x - y).toInt64.toInt = x.toInt - y.toInt ∧ 0 ≤ x.toInt ∧ x.toInt ≤ 1000000 ∧ 0 ≤ y.toInt ∧ y.toInt ≤ 1000000 := by
  rw [Int32.le_iff_toInt_le] at hx hx1 hy hy1
  have z : (0 : Int32).toInt = 0 := rfl
  have z1 : (1000000 : Int32).toInt = 1000000 := rfl
  have e : (x - y).toInt = x.toInt - y.toInt := q_sub (by omega) (by omega)
  exact ⟨e, by rw [Int32.toInt_toInt64, e], by omega, by omega, by omega, by omega⟩
theorem q_sv {x y : Int32} (hx : -10000 ≤ x) (hx1 : x ≤ 10000) (hy : -10000 ≤ y) (hy1 : y ≤ 10000) : (x - y).toInt64.toInt = x.toInt - y.toInt ∧ -10000 ≤ x.toInt ∧ x.toInt ≤ 10000 ∧ -10000 ≤ y.toInt ∧ y.toInt ≤ 10000 := by
  rw [Int32.le_iff_toInt_le] at hx hx1 hy hy1
  have z : (-10000 : Int32).toInt = -10000 := rfl
  have z1 : (10000 : Int32).toInt = 10000 := rfl
  have e : (x - y).toInt = x.toInt - y.toInt := q_sub (by omega) (by omega)
  exact ⟨by rw [Int32.toInt_toInt64, e], by omega, by omega, by omega, by omega⟩
theorem q_prod {x y : Int} {A B : Int} (a0 : -A ≤ x) (a1 : x ≤ A) (b0 : 0 ≤ y) (b1 : y ≤ B) (hA : 0 ≤ A) : -(A * B) ≤ x * y ∧ x * y ≤ A * B := by
  have h1 : x * y ≤ A * y := Int.mul_le_mul_of_nonneg_right a1 b0
  have h2 : A * y ≤ A * B := Int.mul_le_mul_of_nonneg_left b1 hA
  have h3 : -A * y ≤ x * y := Int.mul_le_mul_of_nonneg_right a0 b0
  rw [Int.neg_mul] at h3
  omega
/-- what stands between two readings -/
theorem qva_num {D V : Nat → Int32} {k : Nat} {d : Int32} (h0 : 0 ≤ D k ∧ D k ≤ 1000000 ∧ -10000 ≤ V k ∧ V k ≤ 10000) (h1 : 0 ≤ D (k + 1) ∧ D (k + 1) ≤ 1000000 ∧ -10000 ≤ V (k + 1) ∧ V (k + 1) ≤ 10000) (e0 : D k ≤ d) (e1 : d < D (k + 1)) :
    -1000000000000 ≤ ((V (k + 1) - V k).toInt64 * (d - D k).toInt64).toInt ∧ ((V (k + 1) - V k).toInt64 * (d - D k).toInt64).toInt ≤ 1000000000000 ∧ 0 < (D (k + 1) - D k).toInt64.toInt ∧ (D (k + 1) - D k).toInt64.toInt ≤ 2147483648 ∧ ¬ D (k + 1) - D k = 0 ∧ -30000 ≤ (qfl ((V (k + 1) - V k).toInt64 * (d - D k).toInt64) ((D (k + 1) - D k).toInt64)).toInt ∧ (qfl ((V (k + 1) - V k).toInt64 * (d - D k).toInt64) ((D (k + 1) - D k).toInt64)).toInt ≤ 30000 := by
  obtain ⟨p1, p2, p3, p4⟩ := h0
  obtain ⟨r1, r2, r3, r4⟩ := h1
  obtain ⟨f1, f2, f3, f4, f5, f6⟩ := q_sd r1 r2 p1 p2
  obtain ⟨g1, g2, g3, g4, g5, g6⟩ := q_sd (x := d) (y := D k) (by lia) (by lia) p1 p2
  obtain ⟨v1, v2, v3, v4, v5⟩ := q_sv r3 r4 p3 p4
  rw [Int32.le_iff_toInt_le] at e0
  rw [Int32.lt_iff_toInt_lt] at e1
  have pr := q_prod (x := (V (k + 1)).toInt - (V k).toInt) (y := d.toInt - (D k).toInt) (A := 20000) (B := 1000000) (by omega) (by omega) (by omega) (by omega) (by omega)
  have em : ((V (k + 1) - V k).toInt64 * (d - D k).toInt64).toInt = ((V (k + 1)).toInt - (V k).toInt) * (d.toInt - (D k).toInt) := by
    rw [Int64.toInt_mul, v1, g2]
    exact Int.bmod_eq_of_le (by omega) (by omega)
  have pq := q_prod (x := (V (k + 1)).toInt - (V k).toInt) (y := d.toInt - (D k).toInt) (A := 20000) (B := (D (k + 1)).toInt - (D k).toInt) (by omega) (by omega) (by omega) (by omega) (by omega)
  have a0 : -1000000000000 ≤ ((V (k + 1) - V k).toInt64 * (d - D k).toInt64).toInt := by rw [em]; omega
  have a1 : ((V (k + 1) - V k).toInt64 * (d - D k).toInt64).toInt ≤ 1000000000000 := by rw [em]; omega
  have b0 : 0 < (D (k + 1) - D k).toInt64.toInt := by rw [f2]; omega
  have b1 : (D (k + 1) - D k).toInt64.toInt ≤ 2147483648 := by rw [f2]; omega
  obtain ⟨q1, q2, q3, ⟨q4, q5⟩, q6, q7⟩ := q_dv a0 a1 b0 b1
  have ez : ¬ D (k + 1) - D k = 0 := by
    rw [q_eq, f1, show (0 : Int32).toInt = 0 from rfl]; omega
  have hq : -20001 ≤ ((V (k + 1) - V k).toInt64 * (d - D k).toInt64 / (D (k + 1) - D k).toInt64).toInt ∧ ((V (k + 1) - V k).toInt64 * (d - D k).toInt64 / (D (k + 1) - D k).toInt64).toInt ≤ 20001 := by
    have m := Int.tmod_add_tdiv_mul ((V (k + 1) - V k).toInt64 * (d - D k).toInt64).toInt (D (k + 1) - D k).toInt64.toInt
    rw [← q1] at m
    rw [em, f2] at *
    generalize ((V (k + 1) - V k).toInt64 * (d - D k).toInt64 / (D (k + 1) - D k).toInt64).toInt = q at *
    have s0 : 0 < (D (k + 1)).toInt - (D k).toInt := b0
    generalize (D (k + 1)).toInt - (D k).toInt = s at *
    constructor
    · refine Classical.byContradiction (fun c => ?_)
      have : q * s ≤ -20002 * s := Int.mul_le_mul_of_nonneg_right (by omega) (by omega)
      omega
    · refine Classical.byContradiction (fun c => ?_)
      have : 20002 * s ≤ q * s := Int.mul_le_mul_of_nonneg_right (by omega) (by omega)
      omega
  refine ⟨a0, a1, b0, b1, ez, ?_⟩
  unfold qfl
  split
  · exact ⟨by omega, by omega⟩
  · have : ((V (k + 1) - V k).toInt64 * (d - D k).toInt64 / (D (k + 1) - D k).toInt64 - 1).toInt = ((V (k + 1) - V k).toInt64 * (d - D k).toInt64 / (D (k + 1) - D k).toInt64).toInt - 1 := by
      rw [Int64.toInt_sub, show (1 : Int64).toInt = 1 from rfl]
      exact Int.bmod_eq_of_le (by omega) (by omega)
    rw [this]
    exact ⟨by omega, by omega⟩
theorem qva_hi {n : Nat} {D V : Nat → Int32} {d : Int32} (h : QG n D V) (hc : qco n D d) : -50000 ≤ (qva n D V d).toInt ∧ (qva n D V d).toInt ≤ 50000 := by
  obtain ⟨h1, h2, h3⟩ := qlk_ok h hc
  unfold qva
  generalize qlk n D d 40 0 = k at *
  obtain ⟨p1, p2, p3, p4⟩ := h.2.2 k h1
  have v1 : -10000 ≤ (V k).toInt := by rw [Int32.le_iff_toInt_le] at p3; exact p3
  have v2 : (V k).toInt ≤ 10000 := by rw [Int32.le_iff_toInt_le] at p4; exact p4
  unfold qvl
  by_cases e : D k = d
  · rw [if_pos e]; omega
  · rw [if_neg e]
    rcases h3 with ⟨-, h3⟩ | ⟨h3, h4⟩
    · exact absurd h3 e
    · obtain ⟨-, -, -, -, -, q1, q2⟩ := qva_num (V := V) (h.2.2 k h1) (h.2.2 (k + 1) h3) h2 h4
      generalize (qfl ((V (k + 1) - V k).toInt64 * (d - D k).toInt64) ((D (k + 1) - D k).toInt64)) = q at *
      have e1 : q.toInt32.toInt = q.toInt := by rw [Int64.toInt_toInt32]; exact Int.bmod_eq_of_le (by omega) (by omega)
      rw [q_add (by omega) (by omega), e1]
      omega
theorem qva_nv {n : Nat} {D V : Nat → Int32} {d : Int32} (h : QG n D V) (hc : qco n D d) : ¬ qva n D V d = -2000000000 := by
  intro e
  have := qva_hi h hc
  rw [e, show (-2000000000 : Int32).toInt = -2000000000 from rfl] at this
  omega
theorem i_covers {P : Int32 → Prop} {st : zTs} {i n : Nat} {d : Int32} (hF : zgF st 23 i 2 = Int32.ofNat n) (hn : n ≤ 40) (h1 : qco n (zgA st 64 i) d → P 1) (h0 : ¬ qco n (zgA st 64 i) d → P 0) : w_X2_covers st i d P := by
  unfold w_X2_covers
  rw [hF]
  have z0 : Int32.ofNat n ≤ 0 ↔ n ≤ 0 := q_nle (b := 0) (by omega) (by decide)
  refine ⟨fun c => h0 (fun z => by have := z0.mp c; have := z.1; omega), fun c => ⟨q_vpi (by decide) (by decide), fun c2 => h0 (fun z => absurd z.2.1 (Int32.not_le.mpr c2)), fun c2 => ?_⟩⟩
  have hp : 0 < n := by
    have : ¬ n ≤ 0 := fun z => c (z0.mpr z)
    omega
  have e : Int32.ofNat n - 1 = Int32.ofNat (n - 1) := by
    refine q_of_toInt ?_
    rw [q_sub (by rw [q_of (by omega), show (1 : Int32).toInt = 1 from rfl]; omega) (by rw [q_of (by omega), show (1 : Int32).toInt = 1 from rfl]; omega), q_of (by omega), show (1 : Int32).toInt = 1 from rfl]
    omega
  rw [e, q_on (by omega)]
  exact ⟨q_vpi (by rw [q_of (by omega)]; omega) (by rw [q_of (by omega)]; omega), fun c3 => h0 (fun z => absurd z.2.2 (Int32.not_le.mpr c3)), fun c3 => h1 ⟨hp, Int32.not_lt.mp c2, Int32.not_lt.mp c3⟩⟩
theorem qfl_0 {x b : Int64} (b0 : 0 < b.toInt) (b1 : b.toInt ≤ 2147483648) : qfl (x * (0 : Int32).toInt64) b = 0 := by
  have e : x * (0 : Int32).toInt64 = 0 := by
    rw [← Int64.toInt_inj, Int64.toInt_mul, Int32.toInt_toInt64, show (0 : Int32).toInt = 0 from rfl, Int.mul_zero]
    rfl
  rw [e]
  obtain ⟨e1, e2, e3, -⟩ := q_dv (a := 0) (b := b) (by decide) (by decide) b0 b1
  have z : (0 : Int64).toInt = 0 := rfl
  rw [z, Int.zero_tmod] at e3
  rw [z, Int.zero_tdiv] at e1
  unfold qfl
  rw [if_pos (q_cmp0.mpr (by rw [e3]; omega))]
  exact Int64.toInt_inj.mp e1
theorem i_v30 {P : Int32 → Prop} {st : zTs} {i n k : Nat} {d : Int32} (hF : zgF st 23 i 2 = Int32.ofNat n) (h : QG n (zgA st 64 i) (zgA st 65 i)) (hk : k < n) (h1 : zgA st 64 i k ≤ d) (h2 : (k + 1 = n ∧ zgA st 64 i k = d) ∨ (k + 1 < n ∧ d < zgA st 64 i (k + 1))) (hp : P (qvl (zgA st 64 i) (zgA st 65 i) k d)) : w_X2_valueOn_30 P st i d (Int32.ofNat k) := by
  have n40 := h.1
  unfold w_X2_valueOn_30
  rw [hF, q_os (by omega), q_on (by omega), q_on (by omega)]
  have v0 : vp_in (Int32.ofNat k) 40 := q_vpi (by rw [q_of (by omega)]; omega) (by rw [q_of (by omega)]; omega)
  rcases h2 with ⟨h2, h3⟩ | ⟨h2, h3⟩
  · refine ⟨fun c => ?_, fun _ => ⟨v0, ?_⟩⟩
    · rw [q_nlt (by omega) (by omega)] at c
      omega
    · unfold qvl at hp
      rw [if_pos h3] at hp
      exact hp
  · have v1 : vp_in (Int32.ofNat (k + 1)) 40 := q_vpi (by rw [q_of (by omega)]; omega) (by rw [q_of (by omega)]; omega)
    obtain ⟨a0, a1, b0, b1, ez, -⟩ := qva_num (V := zgA st 65 i) (h.2.2 k hk) (h.2.2 (k + 1) h2) h1 h3
    refine ⟨fun _ => ⟨v1, v0, fun x hx => ⟨v1, v0, fun y hy => ⟨v0, v0, ?_⟩⟩⟩, fun c => absurd ((q_nlt (by omega) (by omega)).mpr h2) c⟩
    subst hx
    subst hy
    refine ⟨fun z => absurd z ez, fun _ => i_floorDiv a0 a1 b0 b1 ?_⟩
    unfold qvl at hp
    by_cases e : zgA st 64 i k = d
    · rw [if_pos e] at hp
      rw [← e, Int32.sub_self, qfl_0 b0 b1, show (0 : Int64).toInt32 = 0 from rfl, Int32.add_zero]
      exact hp
    · rw [if_neg e] at hp
      exact hp
theorem l_valueOn {P : Int32 → Prop} {st : zTs} {i n k : Nat} {d : Int32} (hF : zgF st 23 i 2 = Int32.ofNat n) (h : QG n (zgA st 64 i) (zgA st 65 i)) (hk : k < n) (h1 : zgA st 64 i k ≤ d) (h2 : (k + 1 = n ∧ zgA st 64 i k = d) ∨ (k + 1 < n ∧ d < zgA st 64 i (k + 1))) (hp : P (qvl (zgA st 64 i) (zgA st 65 i) k d)) : ∀ (m j l : Nat), j ≤ k + 1 → ((j = 0 ∧ l = 0) ∨ j = l + 1) → k + 1 - j < m → w_X2_valueOn_4 P st m i d (Int32.ofNat l) (Int32.ofNat j) := by
  have n40 := h.1
  intro m
  induction m with
  | zero => intro j l hj hl hm; omega
  | succ m ih =>
    intro j l hj hl hm
    rw [w_X2_valueOn_4, hF, q_on (by omega)]
    by_cases e : j ≤ k
    · refine ⟨fun c => ?_, fun _ => ⟨q_vpi (by rw [q_of (by omega)]; omega) (by rw [q_of (by omega)]; omega), fun c => ?_, fun _ x hx => ?_⟩⟩
      · rw [q_nle (by omega) (by omega)] at c
        omega
      · exact absurd (Int32.le_trans (QG_mono h k hk j e) h1) (Int32.not_le.mpr c)
      · subst hx
        rw [q_os (by omega)]
        exact ih (j + 1) j (by omega) (.inr rfl) (by omega)
    · have l9 : l = k := by omega
      have j9 : j = k + 1 := by omega
      subst l9
      subst j9
      refine ⟨fun _ => i_v30 hF h hk h1 h2 hp, fun c => ?_⟩
      rw [q_nle (by omega) (by omega)] at c
      have h2' : l + 1 < n ∧ d < zgA st 64 i (l + 1) := h2.resolve_left (fun z => c (by omega))
      exact ⟨q_vpi (by rw [q_of (by omega)]; omega) (by rw [q_of (by omega)]; omega), fun _ => i_v30 hF h hk h1 h2 hp, fun c2 => absurd h2'.2 c2⟩
theorem i_valueOn {P : Int32 → Prop} {st : zTs} {i n : Nat} {d : Int32} (hF : zgF st 23 i 2 = Int32.ofNat n) (h : QG n (zgA st 64 i) (zgA st 65 i)) (hc : qco n (zgA st 64 i) d) (hp : P (qva n (zgA st 64 i) (zgA st 65 i) d)) : w_X2_valueOn st i d P := by
  obtain ⟨h1, h2, h3⟩ := qlk_ok h hc
  have n40 := h.1
  exact l_valueOn hF h h1 h2 h3 hp zfu 0 0 (by omega) (.inl ⟨rfl, rfl⟩) (by unfold zfu; omega)
theorem lm_atDay {P : Int32 → Prop} {st : zTs} {a d : Int32} {n : Nat} {D V : Nat → Int32} (c1 : ¬ a < 0) (ha : a.toNatClampNeg < 10) (hF : zgA st 159 0 a.toNatClampNeg = Int32.ofNat n) (h : QG n D V) (hD : ∀ j, j < 40 → zgA st 160 0 (40 * a.toNatClampNeg + j) = D j ∧ zgA st 161 0 (40 * a.toNatClampNeg + j) = V j) (y : qco n D d → P (qva n D V d)) (u : ¬ qco n D d → P (-2000000000)) : ∀ (m j : Nat), (qco n D d → j ≤ qlk n D d 40 0) → j ≤ n → n - j < m → w_X12_atDay_2 P st m a d (Int32.ofNat j) := by
  have n40 := h.1
  intro m
  induction m with
  | zero => intro j h0 h1 h2; omega
  | succ m ih =>
    intro j h0 h1 h2
    have vg : vp_in a 10 := q_i30 c1 ha
    rw [w_X12_atDay_2, hF]
    refine ⟨vg, fun c => ?_, fun c x hx => ?_⟩
    · rw [q_nle (by omega) (by omega)] at c
      refine u (fun z => ?_)
      have := h0 z
      have := (qlk_ok h z).1
      omega
    · rw [q_nle (by omega) (by omega)] at c
      obtain ⟨e1, v1⟩ := q_pl (m := 40) (a := a) (b := Int32.ofNat j) (M := 40) (N := 400) rfl c1 (by rw [Int32.lt_iff_toInt_lt, q_of (by omega), show (0 : Int32).toInt = 0 from rfl]; omega) (by rw [q_on (by omega)]; omega) (by omega)
      rw [q_on (by omega)] at e1
      obtain ⟨t1, t2⟩ := hD j (by omega)
      subst hx
      rw [e1, t1, t2]
      have next : (qco n D d → ¬ qlk n D d 40 0 = j) → ∀ x : Int32, x = Int32.ofNat j + 1 → w_X12_atDay_2 P st m a d x := by
        intro nx x hx
        subst hx
        rw [q_os (by omega)]
        exact ih (j + 1) (fun z => by have := h0 z; have := nx z; omega) (by omega) (by omega)
      refine ⟨v1, fun c2 => ⟨v1, ?_⟩, fun c2 => ⟨vg, fun c3 => ?_, fun c3 => ⟨v1, fun c4 => ?_, fun c4 => ?_⟩⟩⟩
      · -- a reading of that very day
        have hc : qco n D d := by
          refine ⟨by omega, ?_, ?_⟩
          · rw [← c2]; exact QG_mono h j (by omega) 0 (by omega)
          · rw [← c2]; exact QG_mono h (n - 1) (by omega) j (by omega)
        obtain ⟨q1, q2, q3⟩ := qlk_ok h hc
        have q4 := h0 hc
        have hk : qlk n D d 40 0 = j := by
          refine Classical.byContradiction (fun z => ?_)
          have l1 : D (j + 1) ≤ D (qlk n D d 40 0) := QG_mono h _ q1 (j + 1) (by omega)
          have l2 := h.2.1 j (by omega)
          exact absurd (Int32.le_trans l1 (Int32.le_trans q2 (by rw [c2]; exact Int32.le_refl _))) (Int32.not_le.mpr l2)
        have := y hc
        unfold qva qvl at this
        rw [hk, if_pos c2] at this
        exact this
      · refine next (fun hc z => ?_)
        rw [q_os (by omega)] at c3
        have c5 : j + 1 = n := by
          have := congrArg Int32.toInt c3
          rw [q_of (by omega), q_of (by omega)] at this
          omega
        obtain ⟨q1, q2, q3⟩ := qlk_ok h hc
        rw [z] at q3
        rcases q3 with q3 | q3
        · exact c2 q3.2
        · omega
      · refine next (fun hc z => ?_)
        obtain ⟨q1, q2, q3⟩ := qlk_ok h hc
        rw [z] at q2
        exact absurd q2 (Int32.not_le.mpr c4)
      · have c5 : j + 1 < n := by
          refine Classical.byContradiction (fun z => c3 ?_)
          rw [q_os (by omega), show j + 1 = n by omega]
        obtain ⟨e2, v2⟩ := q_pl (m := 40) (a := a) (b := Int32.ofNat (j + 1)) (M := 40) (N := 400) rfl c1 (by rw [Int32.lt_iff_toInt_lt, q_of (by omega), show (0 : Int32).toInt = 0 from rfl]; omega) (by rw [q_on (by omega)]; omega) (by omega)
        rw [q_on (by omega)] at e2
        rw [show 40 * a + Int32.ofNat j + 1 = 40 * a + Int32.ofNat (j + 1) by rw [Int32.add_assoc, q_os (by omega)]]
        obtain ⟨t3, t4⟩ := hD (j + 1) (by omega)
        rw [e2, t3, t4]
        refine ⟨v2, fun c6 => ?_, fun c6 => ?_⟩
        · have hc : qco n D d := ⟨by omega, Int32.le_trans (QG_mono h j (by omega) 0 (by omega)) (Int32.not_lt.mp c4), Int32.le_trans (Int32.le_of_lt c6) (QG_mono h (n - 1) (by omega) (j + 1) (by omega))⟩
          obtain ⟨q1, q2, q3⟩ := qlk_ok h hc
          have q4 := h0 hc
          have hk : qlk n D d 40 0 = j := by
            refine Classical.byContradiction (fun z => ?_)
            have l1 : D (j + 1) ≤ D (qlk n D d 40 0) := QG_mono h _ q1 (j + 1) (by omega)
            exact absurd (Int32.le_trans l1 q2) (Int32.not_le.mpr c6)
          have hy := y hc
          unfold qva qvl at hy
          rw [hk, if_neg c2] at hy
          obtain ⟨a0, a1, b0, b1, ez, -⟩ := qva_num (V := V) (h.2.2 j (by omega)) (h.2.2 (j + 1) c5) (Int32.not_lt.mp c4) c6
          exact ⟨v1, v2, v1, v1, v2, v1, im_floor b0 hy⟩
        · refine next (fun hc z => ?_)
          obtain ⟨q1, q2, q3⟩ := qlk_ok h hc
          rw [z] at q3
          rcases q3 with q3 | q3
          · omega
          · exact c6 q3.2
theorem im_atDay {P : Int32 → Prop} {st : zTs} {a d : Int32} {n : Nat} {D V : Nat → Int32} (c1 : ¬ a < 0) (ha : a.toNatClampNeg < 10) (hF : zgA st 159 0 a.toNatClampNeg = Int32.ofNat n) (h : QG n D V) (hD : ∀ j, j < 40 → zgA st 160 0 (40 * a.toNatClampNeg + j) = D j ∧ zgA st 161 0 (40 * a.toNatClampNeg + j) = V j) (y : qco n D d → P (qva n D V d)) (u : ¬ qco n D d → P (-2000000000)) : w_X12_atDay st a d P := by
  have n40 := h.1
  exact lm_atDay c1 ha hF h hD y u zfu 0 (fun _ => by omega) (by omega) (by unfold zfu; omega)
theorem i_gaugeAt {X : Nat → Prop} {P : Nat → Prop} {st : zTs} {a : Int32} (h : qR st) (hX : (a < 0 ∨ ¬ a < zgF st 33 0 2) → X 0) (hY : ¬ a < 0 → a < zgF st 33 0 2 → a.toNatClampNeg < zgN st 23 → P a.toNatClampNeg) : w_X11_gaugeAt st a X P := by
  obtain ⟨hD, hO, hT, hP, hW, hC, hR, hK, hS, hB, hH, hG⟩ := h
  unfold w_X11_gaugeAt w_X11_gaugeAt_15 w_Jx4a65c_size_8abf5_r33
  refine ⟨fun c => hX (.inl c), fun c1 => ⟨fun c2 => ?_, fun c => hX (.inr c)⟩⟩
  obtain ⟨hk, -⟩ := q_idx hG.1.1 c1 c2
  exact i_get33 hG.1.1 (Int32.not_lt.mp c1) c2 (hY c1 c2 hk)
theorem b_at {st : zTs} {a b : Int32} (h : qR st) : w_X11_at st a b (fun k => k = 0 ∧ w_X12_at st a b (zOK 1 0)) (fun r => w_X12_at st a b (zOK 0 r)) := by
  have h0 := h
  obtain ⟨hD, hO, hT, hP, hW, hC, hR, hK, hS, hB, hH, hG⟩ := h
  obtain ⟨⟨w1, w2, w3, w4, w5⟩, -⟩ := id hG
  unfold w_X11_at
  refine i_gaugeAt h0 (fun c => ⟨rfl, ?_⟩) (fun c1 c2 hk => ?_)
  · intro u hu
    subst hu
    have B : w_X12_at_19 (zOK 1 0) (zuF st 100 0 0 0) a b 1 := i_bad1 ⟨fun e => absurd e (by decide), fun _ => zOK_t (qR_th h0) (by decide)⟩
    have e : zgF (zuF st 100 0 0 0) 100 0 76 = zgF st 33 0 2 := w2
    unfold w_X12_isGauge
    rw [e]
    exact ⟨fun _ => ⟨fun _ => B, fun z => absurd rfl z⟩, fun c3 => ⟨fun _ => ⟨fun _ => B, fun z => absurd rfl z⟩, fun c4 => absurd (Int32.not_le.mp c4) (c.resolve_left c3)⟩⟩
  · obtain ⟨q1, q2, q3, q4⟩ := QG_of hG hk
    have e : zgF (zuF st 100 0 0 0) 100 0 76 = zgF st 33 0 2 := w2
    have M : ∀ P : Int32 → zTs → Prop, w_X12_atDay (zuF st 100 0 0 0) a b (fun r => P r (zuF st 100 0 0 0)) → w_X12_at st a b P := by
      intro P B u hu
      subst hu
      unfold w_X12_isGauge
      rw [e]
      exact ⟨fun c => absurd c c1, fun _ => ⟨fun c => absurd c2 (Int32.not_lt.mpr c), fun _ => ⟨fun z => absurd z (by decide), fun _ => i_bad0 ⟨fun _ => B, fun z => absurd rfl z⟩⟩⟩⟩
    have hD : ∀ j, j < 40 → zgA (zuF st 100 0 0 0) 160 0 (40 * a.toNatClampNeg + j) = zgA st 64 a.toNatClampNeg j ∧ zgA (zuF st 100 0 0 0) 161 0 (40 * a.toNatClampNeg + j) = zgA st 65 a.toNatClampNeg j := fun j hj => by
      simp only [q_NuF, q_FuF, q_PuF, q_OuF, q_AuF, q_RuF, q_LuF, q_JuF, q_NuP, q_FuP, q_PuP, q_OuP, q_AuP, q_RuP, q_LuP, q_JuP, q_NuO, q_FuO, q_PuO, q_OuO, q_AuO, q_RuO, q_LuO, q_JuO, q_NuA, q_FuA, q_PuA, q_OuA, q_AuA, q_RuA, q_LuA, q_JuA, q_NuR, q_FuR, q_PuR, q_OuR, q_AuR, q_RuR, q_LuR, q_JuR, q_NuJ, q_FuJ, q_PuJ, q_OuJ, q_AuJ, q_RuJ, q_LuJ, q_JuJ, q_NuL, q_FuL, q_PuL, q_OuL, q_AuL, q_RuL, q_LuL, q_JuL, q_NuB, q_FuB, q_PuB, q_OuB, q_AuB, q_RuB, q_LuB, q_JuB, q_NuW, q_FuW, q_PuW, q_OuW, q_AuW, q_RuW, q_LuW, q_JuW, q_NuV, q_FuV, q_PuV, q_OuV, q_AuV, q_RuV, q_LuV, q_JuV, q_NuU, q_FuU, q_PuU, q_OuU, q_AuU, q_RuU, q_LuU, q_JuU, q_NuX, q_FuX, q_PuX, q_OuX, q_AuX, q_RuX, q_LuX, q_JuX, q_NuR4, q_FuR4, q_PuR4, q_OuR4, q_AuR4, q_RuR4, q_LuR4, q_JuR4, Nat.reduceEqDiff, reduceIte, and_true, true_and, and_false, false_and, and_self, if_true, if_false, not_true_eq_false, not_false_eq_true]
      exact q4 j hj
    have hF : zgA (zuF st 100 0 0 0) 159 0 a.toNatClampNeg = Int32.ofNat (zgF st 23 a.toNatClampNeg 2).toNatClampNeg := by
      simp only [q_NuF, q_FuF, q_PuF, q_OuF, q_AuF, q_RuF, q_LuF, q_JuF, q_NuP, q_FuP, q_PuP, q_OuP, q_AuP, q_RuP, q_LuP, q_JuP, q_NuO, q_FuO, q_PuO, q_OuO, q_AuO, q_RuO, q_LuO, q_JuO, q_NuA, q_FuA, q_PuA, q_OuA, q_AuA, q_RuA, q_LuA, q_JuA, q_NuR, q_FuR, q_PuR, q_OuR, q_AuR, q_RuR, q_LuR, q_JuR, q_NuJ, q_FuJ, q_PuJ, q_OuJ, q_AuJ, q_RuJ, q_LuJ, q_JuJ, q_NuL, q_FuL, q_PuL, q_OuL, q_AuL, q_RuL, q_LuL, q_JuL, q_NuB, q_FuB, q_PuB, q_OuB, q_AuB, q_RuB, q_LuB, q_JuB, q_NuW, q_FuW, q_PuW, q_OuW, q_AuW, q_RuW, q_LuW, q_JuW, q_NuV, q_FuV, q_PuV, q_OuV, q_AuV, q_RuV, q_LuV, q_JuV, q_NuU, q_FuU, q_PuU, q_OuU, q_AuU, q_RuU, q_LuU, q_JuU, q_NuX, q_FuX, q_PuX, q_OuX, q_AuX, q_RuX, q_LuX, q_JuX, q_NuR4, q_FuR4, q_PuR4, q_OuR4, q_AuR4, q_RuR4, q_LuR4, q_JuR4, Nat.reduceEqDiff, reduceIte, and_true, true_and, and_false, false_and, and_self, if_true, if_false, not_true_eq_false, not_false_eq_true]
      rw [q2]
      exact q1
    refine i_covers q1 q3.1 (fun c => ⟨fun z => absurd z (by decide), fun _ => i_valueOn q1 q3 c ?_⟩) (fun c => ⟨fun _ => ?_, fun z => absurd rfl z⟩)
    · exact M _ (im_atDay c1 (by omega) hF q3 hD (fun _ => zOK_0 h0 rfl) (fun z => absurd c z))
    · exact M _ (im_atDay c1 (by omega) hF q3 hD (fun z => absurd z c) (fun _ => zOK_0 h0 rfl))

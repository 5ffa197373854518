/-! conditions -/
def qb (x : Int64) (i : Nat) : Bool := x.toBitVec.getLsbD i
theorem qb_1 : ∀ i, i < 64 → qb 1 i = decide (i = 0) := by decide
theorem qb_m2 : ∀ i, i < 64 → qb (-2) i = decide (¬ i = 0) := by decide
theorem qb_0 : ∀ i, i < 64 → qb 0 i = false := by decide
theorem qb_xor {a b : Int64} {i : Nat} : qb (a ^^^ b) i = (qb a i ^^ qb b i) := by
  unfold qb
  rw [Int64.toBitVec_xor, BitVec.getLsbD_xor]
theorem qb_and {a b : Int64} {i : Nat} : qb (a &&& b) i = (qb a i && qb b i) := by
  unfold qb
  rw [Int64.toBitVec_and, BitVec.getLsbD_and]
theorem qb_or {a b : Int64} {i : Nat} : qb (a ||| b) i = (qb a i || qb b i) := by
  unfold qb
  rw [Int64.toBitVec_or, BitVec.getLsbD_or]
theorem qb_sm : (((1 : Int32).toInt64 &&& 63).toBitVec.smod 64) = 1#64 := by decide
theorem qb_sr {x : Int64} {i : Nat} (h : qb x 63 = false) (hi : i < 64) : qb (x >>> ((1 : Int32).toInt64 &&& 63)) i = if i + 1 < 64 then qb x (i + 1) else false := by
  unfold qb at h ⊢
  rw [Int64.toBitVec_shiftRight, qb_sm, BitVec.sshiftRight_eq', BitVec.getLsbD_sshiftRight, show (1#64 : BitVec 64).toNat = 1 from rfl]
  have hm : x.toBitVec.msb = false := by rw [BitVec.msb_eq_getLsbD_last]; exact h
  rw [hm, show decide (64 ≤ i) = false from decide_eq_false (by omega), Bool.not_false, Bool.true_and, Nat.add_comm 1 i]
theorem qb_sl {x : Int64} {i : Nat} (hi : i < 64) : qb (x <<< ((1 : Int32).toInt64 &&& 63)) i = (!decide (i < 1) && qb x (i - 1)) := by
  unfold qb
  rw [Int64.toBitVec_shiftLeft, qb_sm, BitVec.getLsbD_shiftLeft', show (1#64 : BitVec 64).toNat = 1 from rfl, show decide (i < 64) = true from decide_eq_true hi, Bool.true_and]
theorem qb_ext {x y : Int64} (h : ∀ i, i < 64 → qb x i = qb y i) : x = y := Int64.toBitVec_inj.mp (BitVec.eq_of_getLsbD_eq h)
/-- the number x is the stack l -/
def QS (x : Int64) (l : List Bool) : Prop := ∀ i, i < 64 → qb x i = l.getD i false
theorem qgd : ∀ (l : List Bool) (i : Nat), l.length ≤ i → l.getD i false = false := by
  intro l
  induction l with
  | nil => intro i _; rfl
  | cons b r ih =>
    intro i h
    cases i with
    | zero => exact absurd h (by show ¬ r.length + 1 ≤ 0; omega)
    | succ i => exact ih i (by have h : r.length + 1 ≤ i + 1 := h; omega)
theorem qgc {b : Bool} {r : List Bool} {i : Nat} : (b :: r).getD (i + 1) false = r.getD i false := rfl
theorem qg0 {b : Bool} {r : List Bool} : (b :: r).getD 0 false = b := rfl
def qnt : List Bool → List Bool
  | b :: r => (!b) :: r
  | [] => []
def qan : List Bool → List Bool
  | b :: a :: r => (a && b) :: r
  | [b] => [b]
  | [] => []
def qro : List Bool → List Bool
  | b :: a :: r => (a || b) :: r
  | [b] => [b]
  | [] => []
theorem QS_not {x : Int64} {b : Bool} {r : List Bool} (h : QS x (b :: r)) : QS (x ^^^ 1) (qnt (b :: r)) := by
  intro i hi
  rw [qb_xor, h i hi, qb_1 i hi]
  cases i with
  | zero => show (b ^^ true) = !b; cases b <;> rfl
  | succ i => rw [show decide (i + 1 = 0) = false from decide_eq_false (by omega), Bool.xor_false]; rfl
theorem QS_and {x : Int64} {b a : Bool} {r : List Bool} (h : QS x (b :: a :: r)) (hl : r.length ≤ 60) : QS ((x >>> ((1 : Int32).toInt64 &&& 63)) &&& ((x &&& 1) ||| (-2))) (qan (b :: a :: r)) := by
  have h63 : qb x 63 = false := by rw [h 63 (by decide)]; exact qgd _ _ (by show r.length + 1 + 1 ≤ 63; omega)
  intro i hi
  rw [qb_and, qb_or, qb_and, qb_sr h63 hi, qb_1 i hi, qb_m2 i hi, h i hi]
  cases i with
  | zero =>
    rw [if_pos (by decide), h 1 (by decide)]
    show (a && ((b && true) || false)) = (a && b)
    cases a <;> cases b <;> rfl
  | succ i =>
    rw [show decide (¬ i + 1 = 0) = true from decide_eq_true (by omega), Bool.or_true, Bool.and_true]
    show _ = r.getD i false
    by_cases c : i + 1 + 1 < 64
    · rw [if_pos c, h _ c]; rfl
    · rw [if_neg c, qgd r i (by omega)]
theorem QS_or {x : Int64} {b a : Bool} {r : List Bool} (h : QS x (b :: a :: r)) (hl : r.length ≤ 60) : QS ((x >>> ((1 : Int32).toInt64 &&& 63)) ||| (x &&& 1)) (qro (b :: a :: r)) := by
  have h63 : qb x 63 = false := by rw [h 63 (by decide)]; exact qgd _ _ (by show r.length + 1 + 1 ≤ 63; omega)
  intro i hi
  rw [qb_or, qb_and, qb_sr h63 hi, qb_1 i hi, h i hi]
  cases i with
  | zero =>
    rw [if_pos (by decide), h 1 (by decide)]
    show (a || (b && true)) = (a || b)
    cases a <;> cases b <;> rfl
  | succ i =>
    rw [show decide (i + 1 = 0) = false from decide_eq_false (by omega), Bool.and_false, Bool.or_false]
    show _ = r.getD i false
    by_cases c : i + 1 + 1 < 64
    · rw [if_pos c, h _ c]; rfl
    · rw [if_neg c, qgd r i (by omega)]
theorem QS_push {x : Int64} {b : Bool} {l : List Bool} {v : Int32} (h : QS x l) (hv : v = if b then 1 else 0) : QS ((x <<< ((1 : Int32).toInt64 &&& 63)) ||| v.toInt64) (b :: l) := by
  intro i hi
  have hvb : qb v.toInt64 i = (decide (i = 0) && b) := by
    cases b
    · rw [hv]
      show qb (0 : Int32).toInt64 i = _
      rw [show (0 : Int32).toInt64 = 0 from rfl, qb_0 i hi, Bool.and_false]
    · rw [hv]
      show qb (1 : Int32).toInt64 i = _
      rw [show (1 : Int32).toInt64 = 1 from rfl, qb_1 i hi, Bool.and_true]
  rw [qb_or, qb_sl hi, hvb]
  cases i with
  | zero => show ((false && _) || (true && b)) = b; cases b <;> rfl
  | succ i =>
    rw [show decide (i + 1 < 1) = false from decide_eq_false (by omega), show decide (i + 1 = 0) = false from decide_eq_false (by omega), Nat.add_sub_cancel, h i (by omega), Bool.not_false, Bool.true_and, Bool.false_and, Bool.or_false]
    rfl
/-- one comparison, as the class reads it -/
def qcp (s d c h : Int32) : Bool := if (s / 10000 - s / 10000 / 2 * 2) = 0 then decide (¬ (s - s / 10000 * 10000) ≤ (if s / 10000 / 2 = 0 then d else if s / 10000 / 2 = 1 then c else h)) else decide (¬ (if s / 10000 / 2 = 0 then d else if s / 10000 / 2 = 1 then c else h) ≤ (s - s / 10000 * 10000))
/-- the stack after j steps -/
def qst (t : Nat → Int32) (d c h : Int32) : Nat → List Bool
  | 0 => []
  | j + 1 => if t j = -1 then qnt (qst t d c h j) else if t j = -2 then qan (qst t d c h j) else if t j = -3 then qro (qst t d c h j) else qcp (t j) d c h :: qst t d c h j
theorem i_compares {P : Int32 → Prop} {st : zTs} {s d c h : Int32} (p : P (if qcp s d c h then 1 else 0)) : w_X5_compares st s d c h P := by
  have key : ∀ x : Int32, P (if (if (s / 10000 - s / 10000 / 2 * 2) = 0 then decide (¬ (s - s / 10000 * 10000) ≤ x) else decide (¬ x ≤ (s - s / 10000 * 10000))) then 1 else 0) → w_X5_compares_38 P st (s / 10000) (s - s / 10000 * 10000) x := by
    intro x p
    refine ⟨fun z => ?_, fun z => ?_⟩
    · rw [if_pos z] at p
      refine ⟨fun y => ?_, fun y => ?_⟩
      · rw [decide_eq_false (fun q => q y), if_neg (by decide)] at p; exact p
      · rw [decide_eq_true y, if_pos rfl] at p; exact p
    · rw [if_neg z] at p
      refine ⟨fun y => ?_, fun y => ?_⟩
      · rw [decide_eq_false (fun q => q y), if_neg (by decide)] at p; exact p
      · rw [decide_eq_true y, if_pos rfl] at p; exact p
  unfold qcp at p
  intro x hx y hy
  subst hx
  subst hy
  refine ⟨fun z => ?_, fun z => ⟨fun z2 => ?_, fun z2 => ?_⟩⟩
  · rw [if_pos z] at p; exact key _ p
  · rw [if_neg z, if_pos z2] at p; exact key _ p
  · rw [if_neg z, if_neg z2] at p; exact key _ p
/-- the steps of a condition, with their depths -/
def QD (n : Nat) (t : Nat → Int32) (dp : Nat → Nat) : Prop := dp 0 = 0 ∧ dp n = 1 ∧ ∀ j, j < n → dp j ≤ 19 ∧ ((t j = -1 ∧ 1 ≤ dp j ∧ dp (j + 1) = dp j) ∨ (t j = -2 ∧ 2 ≤ dp j ∧ dp (j + 1) + 1 = dp j) ∨ (t j = -3 ∧ 2 ≤ dp j ∧ dp (j + 1) + 1 = dp j) ∨ (¬ t j = -1 ∧ ¬ t j = -2 ∧ ¬ t j = -3 ∧ dp (j + 1) = dp j + 1))
theorem q_l1 {l : List Bool} (h : 1 ≤ l.length) : ∃ b r, l = b :: r := by
  cases l with
  | nil => exact absurd h (by decide)
  | cons b r => exact ⟨b, r, rfl⟩
theorem q_l2 {l : List Bool} (h : 2 ≤ l.length) : ∃ b a r, l = b :: a :: r := by
  obtain ⟨b, r, e⟩ := q_l1 (show 1 ≤ l.length by omega)
  rw [e] at h
  obtain ⟨a, r', e'⟩ := q_l1 (l := r) (by have h : 2 ≤ r.length + 1 := h; omega)
  exact ⟨b, a, r', by rw [e, e']⟩
theorem QD_len {n : Nat} {t : Nat → Int32} {dp : Nat → Nat} {d c h : Int32} (hq : QD n t dp) : ∀ j, j ≤ n → (qst t d c h j).length = dp j := by
  intro j
  induction j with
  | zero => intro _; exact hq.1.symm
  | succ j ih =>
    intro hj
    have e := ih (by omega)
    obtain ⟨h1, h2⟩ := hq.2.2 j (by omega)
    rw [qst]
    rcases h2 with ⟨x1, x2, x3⟩ | ⟨x1, x2, x3⟩ | ⟨x1, x2, x3⟩ | ⟨x1, x2, x3, x4⟩
    · rw [if_pos x1]
      obtain ⟨b, r, el⟩ := q_l1 (l := qst t d c h j) (by omega)
      rw [el] at e ⊢
      exact e.trans x3.symm
    · rw [if_neg (by rw [x1]; decide), if_pos x1]
      obtain ⟨b, a, r, el⟩ := q_l2 (l := qst t d c h j) (by omega)
      rw [el] at e ⊢
      have e : r.length + 1 + 1 = dp j := e
      show r.length + 1 = _
      omega
    · rw [if_neg (by rw [x1]; decide), if_neg (by rw [x1]; decide), if_pos x1]
      obtain ⟨b, a, r, el⟩ := q_l2 (l := qst t d c h j) (by omega)
      rw [el] at e ⊢
      have e : r.length + 1 + 1 = dp j := e
      show r.length + 1 = _
      omega
    · rw [if_neg x1, if_neg x2, if_neg x3]
      show (qst t d c h j).length + 1 = _
      omega
theorem q_and1 {x : Int64} : lg_cmp (x &&& 1) 1 = 0 ↔ qb x 0 = true := by
  rw [q_cmpe]
  constructor
  · intro e
    have := congrArg (fun y => qb y 0) e
    have this : qb (x &&& 1) 0 = qb 1 0 := this
    rw [qb_and, qb_1 0 (by decide)] at this
    simpa using this
  · intro e
    refine qb_ext (fun i hi => ?_)
    rw [qb_and, qb_1 i hi]
    cases i with
    | zero => rw [e]; rfl
    | succ i => rw [show decide (i + 1 = 0) = false from decide_eq_false (by omega), Bool.and_false]
theorem l_needs {P : Int32 → Prop} {st : zTs} {y n : Nat} {d c h : Int32} {dp : Nat → Nat} (hL : zgL st 69 y = n) (hn : n ≤ 400) (hq : QD n (zgA st 69 y) dp) (fin : P (if (qst (zgA st 69 y) d c h n).getD 0 false then 1 else 0)) : ∀ (m j : Nat) (x : Int64), j ≤ n → n - j < m → QS x (qst (zgA st 69 y) d c h j) → w_X5_needsNotice_22 P st m d c h y x (Int32.ofNat j) := by
  intro m
  induction m with
  | zero => intro j x h0 h1; omega
  | succ m ih =>
    intro j x h0 h1 hx
    rw [w_X5_needsNotice_22, hL, q_on (by omega)]
    refine ⟨fun z => ?_, fun z => ?_⟩
    · rw [q_nle (by omega) (by omega)] at z
      have e : j = n := by omega
      subst e
      have h9 := hx 0 (by decide)
      rw [← h9] at fin
      refine ⟨fun y => ?_, fun y => ?_⟩
      · rw [if_pos (q_and1.mp y)] at fin; exact fin
      · rw [if_neg (fun w => y (q_and1.mpr w))] at fin; exact fin
    · rw [q_nle (by omega) (by omega)] at z
      have len := QD_len (d := d) (c := c) (h := h) hq j (by omega)
      obtain ⟨h19, h2⟩ := hq.2.2 j (by omega)
      have vj : vp_in (Int32.ofNat j) n := q_nv (by omega) (by omega)
      have nx : ∀ x', QS x' (qst (zgA st 69 y) d c h (j + 1)) → w_X5_needsNotice_130 P st (w_X5_needsNotice_22 P st m) d c h y x' (Int32.ofNat j) := by
        intro x' hx' u hu
        subst hu
        rw [q_os (by omega)]
        exact ih (j + 1) x' (by omega) (by omega) hx'
      refine fun x34 e34 => ⟨vj, fun t1 x49 e49 => ?_, fun t1 => ⟨vj, fun t2 x75 e75 => ?_, fun t2 => ⟨vj, fun t3 x97 e97 => ?_, fun t3 => ⟨vj, ?_⟩⟩⟩⟩
      · subst e49
        refine nx _ ?_
        rw [qst, if_pos t1]
        obtain ⟨b, r, el⟩ := q_l1 (l := qst (zgA st 69 y) d c h j) (by
          rcases h2 with x | x | x | x
          · omega
          · omega
          · omega
          · exact absurd t1 x.1)
        rw [el] at hx ⊢
        exact QS_not hx
      · subst e75
        subst e34
        refine nx _ ?_
        rw [qst, if_neg t1, if_pos t2]
        obtain ⟨b, a, r, el⟩ := q_l2 (l := qst (zgA st 69 y) d c h j) (by
          rcases h2 with x | x | x | x
          · exact absurd x.1 t1
          · omega
          · omega
          · exact absurd t2 x.2.1)
        rw [el] at hx len ⊢
        have len : r.length + 1 + 1 = dp j := len
        exact QS_and hx (by omega)
      · subst e97
        subst e34
        refine nx _ ?_
        rw [qst, if_neg t1, if_neg t2, if_pos t3]
        obtain ⟨b, a, r, el⟩ := q_l2 (l := qst (zgA st 69 y) d c h j) (by
          rcases h2 with x | x | x | x
          · exact absurd x.1 t1
          · exact absurd x.1 t2
          · omega
          · exact absurd t3 x.2.2.1)
        rw [el] at hx len ⊢
        have len : r.length + 1 + 1 = dp j := len
        exact QS_or hx (by omega)
      · refine i_compares ?_
        have e : qst (zgA st 69 y) d c h (j + 1) = qcp (zgA st 69 y j) d c h :: qst (zgA st 69 y) d c h j := by rw [qst, if_neg t1, if_neg t2, if_neg t3]
        cases hb : qcp (zgA st 69 y j) d c h with
        | true =>
          refine ⟨fun z => absurd z (by decide), fun _ u hu => ?_⟩
          subst hu
          refine nx _ ?_
          rw [e, hb]
          exact QS_push hx rfl
        | false =>
          refine ⟨fun _ u hu => ?_, fun z => absurd rfl z⟩
          subst hu
          refine nx _ ?_
          rw [e, hb]
          exact QS_push hx rfl
/-- what a comparison says -/
theorem q_nd {a b : Nat} (ha : a < 2147483648) (hb : b < 2147483648) (h0 : 0 < b) : Int32.ofNat a / Int32.ofNat b = Int32.ofNat (a / b) := by
  refine q_of_toInt ?_
  rw [q_div (by rw [q_of ha]; omega) (by rw [q_of hb]; omega), q_of ha, q_of hb]
  exact (Int.natCast_ediv a b).symm
theorem q_nmod {a b : Nat} (ha : a < 2147483648) (hb : b < 2147483648) (h0 : 0 < b) : Int32.ofNat a - Int32.ofNat a / Int32.ofNat b * Int32.ofNat b = Int32.ofNat (a % b) := by
  have l1 : a / b * b ≤ a := Nat.div_mul_le_self a b
  have l2 : a / b ≤ a := Nat.div_le_self a b
  have e1 : Int32.ofNat (a / b) * Int32.ofNat b = Int32.ofNat (a / b * b) := by
    refine q_of_toInt ?_
    have e : (Int32.ofNat (a / b)).toInt * (Int32.ofNat b).toInt = ((a / b * b : Nat) : Int) := by rw [q_of (by omega), q_of hb]; simp
    rw [q_mul (by rw [e]; omega) (by rw [e]; omega), e]
  rw [q_nd ha hb h0, e1]
  refine q_of_toInt ?_
  have m := Nat.div_add_mod a b
  rw [Nat.mul_comm] at m
  rw [q_sub (by rw [q_of ha, q_of (by omega)]; omega) (by rw [q_of ha, q_of (by omega)]; omega), q_of ha, q_of (by omega)]
  omega
theorem q_cmp {m b v : Nat} {d c h : Int32} (hm : m < 3) (hb : b < 2) (hv : v ≤ 9999) : qcp (Int32.ofNat ((2 * m + b) * 10000 + v)) d c h = if b = 0 then decide (¬ Int32.ofNat v ≤ (if m = 0 then d else if m = 1 then c else h)) else decide (¬ (if m = 0 then d else if m = 1 then c else h) ≤ Int32.ofNat v) := by
  have e1 : Int32.ofNat ((2 * m + b) * 10000 + v) / 10000 = Int32.ofNat (2 * m + b) := by
    have := q_nd (a := (2 * m + b) * 10000 + v) (b := 10000) (by omega) (by decide) (by decide)
    rw [show ((2 * m + b) * 10000 + v) / 10000 = 2 * m + b by omega] at this
    exact this
  have e2 : Int32.ofNat ((2 * m + b) * 10000 + v) - Int32.ofNat ((2 * m + b) * 10000 + v) / 10000 * 10000 = Int32.ofNat v := by
    have := q_nmod (a := (2 * m + b) * 10000 + v) (b := 10000) (by omega) (by decide) (by decide)
    rw [show ((2 * m + b) * 10000 + v) % 10000 = v by omega] at this
    exact this
  have e3 : Int32.ofNat (2 * m + b) / 2 = Int32.ofNat m := by
    have := q_nd (a := 2 * m + b) (b := 2) (by omega) (by decide) (by decide)
    rw [show (2 * m + b) / 2 = m by omega] at this
    exact this
  have e4 : Int32.ofNat (2 * m + b) - Int32.ofNat (2 * m + b) / 2 * 2 = Int32.ofNat b := by
    have := q_nmod (a := 2 * m + b) (b := 2) (by omega) (by decide) (by decide)
    rw [show (2 * m + b) % 2 = b by omega] at this
    exact this
  unfold qcp
  rw [e2, e1, e4, e3]
  have hb' : b = 0 ∨ b = 1 := by omega
  have hm' : m = 0 ∨ m = 1 ∨ m = 2 := by omega
  rcases hb' with rfl | rfl <;> rcases hm' with rfl | rfl | rfl <;> rfl

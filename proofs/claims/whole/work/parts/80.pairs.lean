/-! the tables of the model, the pairs -/
theorem l_fill {P : zTs → Prop} {s : zTs} {a1 a2 n m : Nat} {near : Int32} {C : Nat → Int32} (hn : zgF s 22 a1 3 = Int32.ofNat n) (hm : zgF s 22 a2 3 = Int32.ofNat m) (n20 : n ≤ 20) (m20 : m ≤ 20)
    (fin : ∀ A B, QT (qds2 (zgA s 62 a1) (zgA s 62 a2) n m) near n m 0 0 A B → P (qj s A B C)) : ∀ (f k : Nat) (A B : Nat → Int32), k ≤ n + 1 → k < f → QT (qds2 (zgA s 62 a1) (zgA s 62 a2) n m) near n m k 0 A B → w_X3_fillFromTheEnd_6 P f (qj s A B C) a1 a2 near (qdn k) := by
  intro f
  induction f with
  | zero => intro k A B h0 h1; omega
  | succ f ih =>
    intro k A B h0 h1 hq
    rw [w_X3_fillFromTheEnd_6]
    cases k with
    | zero =>
      rw [qdn_0]
      exact ⟨fun _ => fin A B hq, fun z => absurd (by decide) z⟩
    | succ i =>
      rw [qdn_s (by omega)]
      refine ⟨fun z => absurd z (q_n0 (by omega)), fun _ => ?_⟩
      unfold w_X7_cracks
      rw [qj_F, hm, ← qdn_s (k := m) (by omega)]
      exact l_fill1 (P := P) (K6 := w_X3_fillFromTheEnd_6 P f) (C := C) (i := i) hn hm n20 m20 (by omega) (fun A' B' hq' => ih i A' B' (by omega) (by omega) hq') zfu (m + 1) A B (Nat.le_refl _) (by unfold zfu; omega) (QT_row hq)
theorem im_far {P : Int32 → Prop} {st : zTs} {a b : Int32} {i j : Nat} (a0 : ¬ a < 0) (a9 : a.toNatClampNeg < 10) (b0 : ¬ b < 0) (b9 : b.toNatClampNeg < 10) (hi : i < 20) (hj : j < 20) (h : P (qab (zgA st 154 0 (20 * a.toNatClampNeg + i) - zgA st 154 0 (20 * b.toNatClampNeg + j)))) : w_X12_far st a (Int32.ofNat i) b (Int32.ofNat j) P := by
  obtain ⟨e1, v1⟩ := q_pl (m := 20) (a := a) (b := Int32.ofNat i) (M := 20) (N := 200) rfl a0 (q_n0 (by omega)) (by rw [q_on (by omega)]; omega) (by omega)
  obtain ⟨e2, v2⟩ := q_pl (m := 20) (a := b) (b := Int32.ofNat j) (M := 20) (N := 200) rfl b0 (q_n0 (by omega)) (by rw [q_on (by omega)]; omega) (by omega)
  rw [q_on (by omega)] at e1 e2
  unfold qab at h
  unfold w_X12_far
  rw [e1, e2]
  refine ⟨v1, v2, fun x hx => ?_⟩
  subst hx
  refine ⟨fun c => ?_, fun c => ?_⟩
  · rw [if_pos c] at h; exact h
  · rw [if_neg c] at h; exact h
theorem lm_fill1 {P : zTs → Prop} {K : zTs → Int32 → Int32 → Int32 → Int32 → Int32 → Prop} {s : zTs} {a b near : Int32} {n m i : Nat} {pa pb C : Nat → Int32} (a0 : ¬ a < 0) (a9 : a.toNatClampNeg < 10) (b0 : ¬ b < 0) (b9 : b.toNatClampNeg < 10) (hpa : ∀ j, j < 20 → zgA s 154 0 (20 * a.toNatClampNeg + j) = pa j) (hpb : ∀ j, j < 20 → zgA s 154 0 (20 * b.toNatClampNeg + j) = pb j) (hnr : zgA s 103 0 12 = near) (n20 : n ≤ 20) (m20 : m ≤ 20) (hi : i ≤ n)
    (fin : ∀ A B, QT (qds2 pa pb n m) near n m i 0 A B → K (qjm s A B C) a b (Int32.ofNat n) (Int32.ofNat m) (Int32.ofNat i + -1)) : ∀ (f k : Nat) (A B : Nat → Int32), k ≤ m + 1 → k < f → QT (qds2 pa pb n m) near n m i k A B → w_X12_joins_27 P K f (qjm s A B C) a b (Int32.ofNat n) (Int32.ofNat m) (Int32.ofNat i) (qdn k) := by
  intro f
  induction f with
  | zero => intro k A B h0 h1; omega
  | succ f ih =>
    intro k A B h0 h1 hq
    rw [w_X12_joins_27]
    cases k with
    | zero =>
      rw [qdn_0]
      refine ⟨fun _ x hx => ?_, fun z => absurd (by decide) z⟩
      subst hx
      exact fin A B hq
    | succ j =>
      rw [qdn_s (by omega)]
      obtain ⟨vx, ex⟩ := q_c21 (i := i) (j := j) (by omega) (by omega)
      have v12 : vp_in 12 15 := q_vpi (by decide) (by decide)
      have z12 : (12 : Int32).toNatClampNeg = 12 := rfl
      refine ⟨fun z => absurd z (q_n0 (by omega)), fun _ => ⟨vx, fun u1 g1 => ⟨vx, fun u2 g2 => ?_⟩⟩⟩
      rw [ex, qjm_a] at g1
      subst g1
      rw [ex, qjm_b] at g2
      subst g2
      have nx : ∀ A' B', A' = qst1 A (21 * i + j) (qtb (qds2 pa pb n m) near (n - i) (m - j)).1 → B' = qst1 B (21 * i + j) (qtb (qds2 pa pb n m) near (n - i) (m - j)).2 → w_X12_joins_211 P K (w_X12_joins_27 P K f) (qjm s A' B' C) a b (Int32.ofNat n) (Int32.ofNat m) (Int32.ofNat i) (Int32.ofNat j) := by
        intro A' B' e1 e2 x hx
        subst e1
        subst e2
        subst hx
        exact ih j _ _ (by omega) (by omega) (QT_step m20 (by omega) hq)
      refine ⟨fun z => ?_, fun z => ⟨fun z2 => ?_, fun z2 => ?_⟩⟩
      · have e : i = n := by
          have := congrArg Int32.toInt z
          rw [q_of (by omega), q_of (by omega)] at this
          omega
        subst e
        refine nx _ _ ?_ ?_ <;> rw [Nat.sub_self] <;> rfl
      · have e : j = m := by
          have := congrArg Int32.toInt z2
          rw [q_of (by omega), q_of (by omega)] at this
          omega
        subst e
        refine nx _ _ ?_ ?_ <;> rw [Nat.sub_self, qtb_0]
      · have hi' : i < n := by
          refine Classical.byContradiction (fun y => z ?_)
          rw [show i = n by omega]
        have hj' : j < m := by
          refine Classical.byContradiction (fun y => z2 ?_)
          rw [show j = m by omega]
        have tt := qtb_at (pa := pa) (pb := pb) (near := near) hi' hj'
        obtain ⟨p1, p2⟩ := hq (i + 1) j (by omega) (by omega) (by omega)
        obtain ⟨p3, p4⟩ := hq i (j + 1) (by omega) (by omega) (by omega)
        obtain ⟨p5, p6⟩ := hq (i + 1) (j + 1) (by omega) (by omega) (by omega)
        have inv := qtb_in (D := qds2 pa pb n m) (near := near) (n - (i + 1)) (by omega) (m - j)
        obtain ⟨u0, u1⟩ := qup_0 inv.1 inv.2.2
        obtain ⟨w1, d1⟩ := q_c21 (i := i + 1) (j := j) (by omega) (by omega)
        obtain ⟨w2, d2⟩ := q_c21 (i := i) (j := j + 1) (by omega) (by omega)
        obtain ⟨w3, d3⟩ := q_c21 (i := i + 1) (j := j + 1) (by omega) (by omega)
        rw [← q_os (by omega)] at w1 d1 w3 d3
        rw [← q_os (n := j) (by omega)] at w2 d2 w3 d3
        refine ⟨vx, fun u3 g3 => ?_⟩
        rw [ex, qjm_a, qst1_2] at g3
        subst g3
        refine ⟨w1, w1, ?_⟩
        rw [d1, qjm_6, qjm_7, qst1_ne (by omega), qst1_ne (by omega), p1, p2]
        refine im_takes vx ex ?_
        rw [qst1_at, qst1_at, qst1_2, qst1_2]
        have u1' : qup (-1, 0) ((qtb (qds2 pa pb n m) near (n - (i + 1)) (m - j)).1, (qtb (qds2 pa pb n m) near (n - (i + 1)) (m - j)).2) = qtb (qds2 pa pb n m) near (n - (i + 1)) (m - j) := u1
        rw [u1']
        refine ⟨w2, w2, ?_⟩
        rw [d2, qjm_6, qjm_7, qst1_ne (by omega), qst1_ne (by omega), p3, p4]
        refine im_takes vx ex ?_
        rw [qst1_at, qst1_at, qst1_2, qst1_2]
        refine im_far a0 a9 b0 b9 (by omega) (by omega) ?_
        rw [u0] at tt
        rw [qjm_A (k := 154) (by decide) (by decide) (by decide), qjm_A (k := 154) (by decide) (by decide) (by decide), hpa i (by omega), hpb j (by omega)]
        refine ⟨v12, fun c => ?_, fun c => ?_⟩
        · rw [z12, qjm_A (k := 103) (by decide) (by decide) (by decide), hnr] at c
          rw [if_pos c] at tt
          exact nx _ _ (by rw [tt]) (by rw [tt])
        · rw [z12, qjm_A (k := 103) (by decide) (by decide) (by decide), hnr] at c
          rw [if_neg c] at tt
          refine ⟨w3, w3, ?_⟩
          rw [d3, qjm_6, qjm_7, qst1_ne (by omega), qst1_ne (by omega), p5, p6]
          refine im_takes vx ex ?_
          rw [qst1_at, qst1_at, qst1_2, qst1_2]
          exact nx _ _ (by rw [tt]) (by rw [tt])
theorem lm_fill {P : zTs → Prop} {s : zTs} {a b near : Int32} {n m : Nat} {pa pb C : Nat → Int32} (a0 : ¬ a < 0) (a9 : a.toNatClampNeg < 10) (b0 : ¬ b < 0) (b9 : b.toNatClampNeg < 10) (hpa : ∀ j, j < 20 → zgA s 154 0 (20 * a.toNatClampNeg + j) = pa j) (hpb : ∀ j, j < 20 → zgA s 154 0 (20 * b.toNatClampNeg + j) = pb j) (hnr : zgA s 103 0 12 = near) (n20 : n ≤ 20) (m20 : m ≤ 20)
    (fin : ∀ A B, QT (qds2 pa pb n m) near n m 0 0 A B → w_X12_joins_229 P zfu (qjm s A B C) a b (Int32.ofNat n) (Int32.ofNat m) 0 0) : ∀ (f k : Nat) (A B : Nat → Int32), k ≤ n + 1 → k < f → QT (qds2 pa pb n m) near n m k 0 A B → w_X12_joins_18 P f (qjm s A B C) a b (Int32.ofNat n) (Int32.ofNat m) (qdn k) := by
  intro f
  induction f with
  | zero => intro k A B h0 h1; omega
  | succ f ih =>
    intro k A B h0 h1 hq
    rw [w_X12_joins_18]
    cases k with
    | zero =>
      rw [qdn_0]
      exact ⟨fun _ => fin A B hq, fun z => absurd (by decide) z⟩
    | succ i =>
      rw [qdn_s (by omega)]
      refine ⟨fun z => absurd z (q_n0 (by omega)), fun _ => ?_⟩
      have := lm_fill1 (P := P) (K := w_X12_joins_18 P f) (C := C) (i := i) a0 a9 b0 b9 hpa hpb hnr n20 m20 (by omega) (fun A' B' hq' => ih i A' B' (by omega) (by omega) hq') zfu (m + 1) A B (Nat.le_refl _) (by unfold zfu; omega) (QT_row hq)
      rw [qdn_s (by omega)] at this
      exact this
/-- the first that fits -/
def qfn (c : Nat → Bool) : Nat → Nat → Option Nat
  | 0, _ => none
  | r + 1, j => if c j then some j else qfn c r (j + 1)
theorem qfn_in {c : Nat → Bool} : ∀ r j j', qfn c r j = some j' → j ≤ j' ∧ j' < j + r := by
  intro r
  induction r with
  | zero => intro j j' h; cases h
  | succ r ih =>
    intro j j' h
    rw [qfn] at h
    split at h
    · cases h; omega
    · have := ih (j + 1) j' h; omega
/-- whether the crack i, with next as it is, takes j -/
def qtk (D : Nat → Nat → Int32) (near : Int32) (dst : Nat → Nat → Int32) (n m i nx j : Nat) : Bool := if near < dst i j then false else decide ((qtb D near (n - (i + 1)) (m - (j + 1))).1 + 1 = (qtb D near (n - i) (m - nx)).1) && decide ((qtb D near (n - (i + 1)) (m - (j + 1))).2 + dst i j = (qtb D near (n - i) (m - nx)).2)
def qnx (D : Nat → Nat → Int32) (near : Int32) (dst : Nat → Nat → Int32) (n m : Nat) : Nat → Nat
  | 0 => 0
  | i + 1 => match qfn (qtk D near dst n m i (qnx D near dst n m i)) (m - qnx D near dst n m i) (qnx D near dst n m i) with
    | some j => j + 1
    | none => qnx D near dst n m i
def qpv (D : Nat → Nat → Int32) (near : Int32) (dst : Nat → Nat → Int32) (n m i : Nat) : Int32 := match qfn (qtk D near dst n m i (qnx D near dst n m i)) (m - qnx D near dst n m i) (qnx D near dst n m i) with
    | some j => Int32.ofNat j
    | none => -1
theorem qnx_le {D : Nat → Nat → Int32} {near : Int32} {dst : Nat → Nat → Int32} {n m : Nat} : ∀ i, qnx D near dst n m i ≤ m := by
  intro i
  induction i with
  | zero => exact Nat.zero_le _
  | succ i ih =>
    rw [qnx]
    split
    · rename_i j h
      have := qfn_in _ _ _ h
      omega
    · exact ih
theorem l_pick1 {P : zTs → Prop} {K6 : zTs → Nat → Nat → Int32 → Int32 → Int32 → Prop} {s : zTs} {a1 a2 n m i nx : Nat} {near : Int32} {A B C : Nat → Int32} (hm : zgF s 22 a2 3 = Int32.ofNat m) (n20 : n ≤ 20) (m20 : m ≤ 20) (hi : i < n) (hnx : nx ≤ m) (hC : C i = -1) (hq : QT (qds2 (zgA s 62 a1) (zgA s 62 a2) n m) near n m 0 0 A B)
    (no : qfn (qtk (qds2 (zgA s 62 a1) (zgA s 62 a2) n m) near (fun i j => qab (zgA s 62 a1 i - zgA s 62 a2 j)) n m i nx) (m - nx) nx = none → K6 (qj s A B C) a1 a2 near (Int32.ofNat nx) (Int32.ofNat i + 1))
    (yes : ∀ j', qfn (qtk (qds2 (zgA s 62 a1) (zgA s 62 a2) n m) near (fun i j => qab (zgA s 62 a1 i - zgA s 62 a2 j)) n m i nx) (m - nx) nx = some j' → K6 (qj s A B (qst1 C i (Int32.ofNat j'))) a1 a2 near (Int32.ofNat j' + 1) (Int32.ofNat i + 1)) : ∀ (f j : Nat), nx ≤ j → j ≤ m → m + 1 - j < f → qfn (qtk (qds2 (zgA s 62 a1) (zgA s 62 a2) n m) near (fun i j => qab (zgA s 62 a1 i - zgA s 62 a2 j)) n m i nx) (m - nx) nx = qfn (qtk (qds2 (zgA s 62 a1) (zgA s 62 a2) n m) near (fun i j => qab (zgA s 62 a1 i - zgA s 62 a2 j)) n m i nx) (m - j) j → w_X3_choosePairs_37 P K6 f (qj s A B C) a1 a2 near (Int32.ofNat nx) (Int32.ofNat i) (Int32.ofNat (21 * i + nx)) (Int32.ofNat j) := by
  intro f
  induction f with
  | zero => intro j h0 h1 h2; omega
  | succ f ih =>
    intro j h0 h1 h2 he
    have vi : vp_in (Int32.ofNat i) 20 := q_nv (by omega) (by omega)
    rw [w_X3_choosePairs_37]
    unfold w_X7_cracks
    rw [qj_F, hm]
    refine ⟨fun c x hx => ?_, fun c => ⟨vi, fun c2 => ?_, fun c2 => ?_⟩⟩
    · rw [q_nle (by omega) (by omega)] at c
      subst hx
      rw [show m - j = 0 by omega] at he
      exact no he
    · rw [q_nle (by omega) (by omega)] at c
      have vj : vp_in (Int32.ofNat j) 20 := q_nv (by omega) (by omega)
      refine ⟨vi, vj, ?_⟩
      rw [q_on (n := i) (by omega), q_on (n := j) (by omega), qj_A (k := 62) (by decide) (by decide) (by decide), qj_A (k := 62) (by decide) (by decide) (by decide)]
      have rs : m - j = (m - (j + 1)) + 1 := by omega
      rw [rs, qfn] at he
      obtain ⟨p1, p2⟩ := hq (i + 1) (j + 1) (by omega) (by omega) (by omega)
      obtain ⟨p3, p4⟩ := hq i nx (by omega) (by omega) (by omega)
      have next : qtk (qds2 (zgA s 62 a1) (zgA s 62 a2) n m) near (fun i j => qab (zgA s 62 a1 i - zgA s 62 a2 j)) n m i nx j = false → w_X3_choosePairs_149 P K6 (w_X3_choosePairs_37 P K6 f) (qj s A B C) a1 a2 near (Int32.ofNat nx) (Int32.ofNat i) (Int32.ofNat (21 * i + nx)) (Int32.ofNat j) := by
        intro hf x hx
        subst hx
        rw [q_os (by omega)]
        rw [hf, if_neg (by decide)] at he
        exact ih (j + 1) (by omega) (by omega) (by omega) he
      have go : ∀ r : Int32, r = qab (zgA s 62 a1 i - zgA s 62 a2 j) → ∀ x87 : Int32, x87 = ((21 * (Int32.ofNat i + 1)) + Int32.ofNat j) + 1 → ((near < r → w_X3_choosePairs_149 P K6 (w_X3_choosePairs_37 P K6 f) (qj s A B C) a1 a2 near (Int32.ofNat nx) (Int32.ofNat i) (Int32.ofNat (21 * i + nx)) (Int32.ofNat j)) ∧ (¬ near < r → vp_in x87 441 ∧ (vp_in (Int32.ofNat (21 * i + nx)) 441 ∧ ((((zgA (qj s A B C) 51 0 (x87 : Int32).toNatClampNeg) + 1) = (zgA (qj s A B C) 51 0 (Int32.ofNat (21 * i + nx) : Int32).toNatClampNeg) → vp_in x87 441 ∧ (vp_in (Int32.ofNat (21 * i + nx)) 441 ∧ ((((zgA (qj s A B C) 52 0 (x87 : Int32).toNatClampNeg) + r) = (zgA (qj s A B C) 52 0 (Int32.ofNat (21 * i + nx) : Int32).toNatClampNeg) → vp_in (Int32.ofNat i) 20 ∧ (∀ s142 : zTs, s142 = zuA (qj s A B C) 53 0 i (Int32.ofNat j) → (∀ x147 : Int32, x147 = Int32.ofNat j + 1 → (w_X3_choosePairs_149 P K6 (w_X3_choosePairs_37 P K6 f) s142 a1 a2 near x147 (Int32.ofNat i) (Int32.ofNat (21 * i + nx)) (Int32.ofNat j))))) ∧ (¬ ((zgA (qj s A B C) 52 0 (x87 : Int32).toNatClampNeg) + r) = (zgA (qj s A B C) 52 0 (Int32.ofNat (21 * i + nx) : Int32).toNatClampNeg) → w_X3_choosePairs_149 P K6 (w_X3_choosePairs_37 P K6 f) (qj s A B C) a1 a2 near (Int32.ofNat nx) (Int32.ofNat i) (Int32.ofNat (21 * i + nx)) (Int32.ofNat j))))) ∧ (¬ ((zgA (qj s A B C) 51 0 (x87 : Int32).toNatClampNeg) + 1) = (zgA (qj s A B C) 51 0 (Int32.ofNat (21 * i + nx) : Int32).toNatClampNeg) → w_X3_choosePairs_149 P K6 (w_X3_choosePairs_37 P K6 f) (qj s A B C) a1 a2 near (Int32.ofNat nx) (Int32.ofNat i) (Int32.ofNat (21 * i + nx)) (Int32.ofNat j)))))) := by
        intro r hr x hx
        rw [q_os (by omega), q_c21e (by omega) (by omega), q_os (by omega), show 21 * (i + 1) + j + 1 = 21 * (i + 1) + (j + 1) by omega] at hx
        subst hx
        have v1 : vp_in (Int32.ofNat (21 * (i + 1) + (j + 1))) 441 := q_nv (by omega) (by omega)
        have v2 : vp_in (Int32.ofNat (21 * i + nx)) 441 := q_nv (by omega) (by omega)
        rw [q_on (by omega), q_on (by omega), qj_51, qj_51, qj_52, qj_52, p1, p2, p3, p4]
        refine ⟨fun z => next ?_, fun z => ⟨v1, v2, fun z2 => ⟨v1, v2, fun z3 => ⟨vi, fun u hu y hy w hw => ?_⟩, fun z3 => next ?_⟩, fun z2 => next ?_⟩⟩
        · subst hr; unfold qtk; dsimp only; rw [if_pos z]
        · subst hu
          subst hy
          subst hw
          rw [qj_c]
          have yes' : qtk (qds2 (zgA s 62 a1) (zgA s 62 a2) n m) near (fun i j => qab (zgA s 62 a1 i - zgA s 62 a2 j)) n m i nx j = true := by
            subst hr
            unfold qtk
            dsimp only
            rw [if_neg z, decide_eq_true z2, decide_eq_true z3]
            rfl
          rw [yes', if_pos rfl] at he
          have fin := yes j he
          obtain ⟨f', rfl⟩ : ∃ f', f = f' + 1 := ⟨f - 1, by omega⟩
          rw [w_X3_choosePairs_37]
          unfold w_X7_cracks
          rw [q_on (by omega), qj_53, qst1_at]
          refine ⟨fun _ x hx => by subst hx; exact fin, fun _ => ⟨vi, fun z => ?_, fun _ x hx => by subst hx; exact fin⟩⟩
          exfalso
          have := congrArg Int32.toInt z
          rw [q_of (by omega), show (-1 : Int32).toInt = -1 from rfl] at this
          omega
        · subst hr; unfold qtk; dsimp only; rw [if_neg z, decide_eq_false z3, Bool.and_false]
        · subst hr; unfold qtk; dsimp only; rw [if_neg z, decide_eq_false z2, Bool.false_and]
      refine ⟨fun c => go _ ?_, fun c => go _ ?_⟩
      · unfold qab; rw [if_pos c]
      · unfold qab; rw [if_neg c]
    · exfalso
      rw [q_on (by omega), qj_53] at c2
      exact c2 hC
theorem l_pick {P : zTs → Prop} {s : zTs} {a1 a2 n m : Nat} {near : Int32} {A B : Nat → Int32} (hn : zgF s 22 a1 3 = Int32.ofNat n) (hm : zgF s 22 a2 3 = Int32.ofNat m) (n20 : n ≤ 20) (m20 : m ≤ 20) (hq : QT (qds2 (zgA s 62 a1) (zgA s 62 a2) n m) near n m 0 0 A B)
    (fin : ∀ C, (∀ i, i < n → C i = qpv (qds2 (zgA s 62 a1) (zgA s 62 a2) n m) near (fun i j => qab (zgA s 62 a1 i - zgA s 62 a2 j)) n m i) → P (qj s A B C)) : ∀ (f i : Nat) (C : Nat → Int32), i ≤ n → n - i < f → (∀ i', i' < i → C i' = qpv (qds2 (zgA s 62 a1) (zgA s 62 a2) n m) near (fun i j => qab (zgA s 62 a1 i - zgA s 62 a2 j)) n m i') → w_X3_choosePairs_6 P f (qj s A B C) a1 a2 near (Int32.ofNat (qnx (qds2 (zgA s 62 a1) (zgA s 62 a2) n m) near (fun i j => qab (zgA s 62 a1 i - zgA s 62 a2 j)) n m i)) (Int32.ofNat i) := by
  intro f
  induction f with
  | zero => intro i C h0 h1; omega
  | succ f ih =>
    intro i C h0 h1 hC
    rw [w_X3_choosePairs_6]
    unfold w_X7_cracks
    rw [qj_F, hn]
    have nle := qnx_le (D := qds2 (zgA s 62 a1) (zgA s 62 a2) n m) (near := near) (dst := fun i j => qab (zgA s 62 a1 i - zgA s 62 a2 j)) (n := n) (m := m) i
    refine ⟨fun c => ?_, fun c => ⟨q_nv (by rw [q_nle (by omega) (by omega)] at c; omega) (by omega), fun u hu x hx => ?_⟩⟩
    · rw [q_nle (by omega) (by omega)] at c
      exact fin C (fun i' hi' => hC i' (by omega))
    · rw [q_nle (by omega) (by omega)] at c
      rw [q_on (by omega), qj_c] at hu
      subst hu
      rw [q_c21e (by omega) (by omega)] at hx
      subst hx
      refine l_pick1 hm n20 m20 (by omega) nle qst1_at hq (fun e => ?_) (fun j' e => ?_) zfu _ (Nat.le_refl _) nle (by unfold zfu; omega) rfl
      · rw [q_os (by omega)]
        have h3 : qnx (qds2 (zgA s 62 a1) (zgA s 62 a2) n m) near (fun i j => qab (zgA s 62 a1 i - zgA s 62 a2 j)) n m (i + 1) = qnx (qds2 (zgA s 62 a1) (zgA s 62 a2) n m) near (fun i j => qab (zgA s 62 a1 i - zgA s 62 a2 j)) n m i := by rw [qnx, e]
        rw [← h3]
        refine ih (i + 1) _ (by omega) (by omega) (fun i' hi' => ?_)
        by_cases q : i' = i
        · rw [q, qst1_at]; unfold qpv; rw [e]
        · rw [qst1_ne q]; exact hC i' (by omega)
      · have jl := qfn_in _ _ _ e
        rw [q_os (by omega), q_os (by omega), qst1_2]
        have h3 : qnx (qds2 (zgA s 62 a1) (zgA s 62 a2) n m) near (fun i j => qab (zgA s 62 a1 i - zgA s 62 a2 j)) n m (i + 1) = j' + 1 := by rw [qnx, e]
        rw [← h3]
        refine ih (i + 1) _ (by omega) (by omega) (fun i' hi' => ?_)
        by_cases q : i' = i
        · rw [q, qst1_at]; unfold qpv; rw [e]
        · rw [qst1_ne q]; exact hC i' (by omega)

/-! cells: one cell, and the highest ones off -/
theorem zuA_fuse {s : zTs} {k i j : Nat} {f : Nat → Int32} {x : Int32} : zuA (zuB s k i f) k i j x = zuB s k i (fun j' => if j' = j then x else f j') := by
  have e : zp2 (zgA (zuB s k i f)) k i (zp1 (zgA (zuB s k i f) k i) j x) = zp2 (zgA s) k i (fun j' => if j' = j then x else f j') := by
    funext k' i' j'
    show (zp2 (zp2 (zgA s) k i f) k i (zp1 (zp2 (zgA s) k i f k i) j x)) k' i' j' = _
    rw [zp2_at]
    unfold zp2 zp1
    by_cases h : k' = k ∧ i' = i
    · rw [if_pos h, if_pos h]
    · rw [if_neg h, if_neg h, if_neg h]
  show (_, _, _, _, zp2 (zgA (zuB s k i f)) k i (zp1 (zgA (zuB s k i f) k i) j x), _) = (_, _, _, _, zp2 (zgA s) k i (fun j' => if j' = j then x else f j'), _)
  rw [e]
  rfl
theorem zuA_self {s : zTs} {k i : Nat} : zuB s k i (zgA s k i) = s := by
  have e : zp2 (zgA s) k i (zgA s k i) = zgA s := by
    funext k' i'
    unfold zp2
    by_cases h : k' = k ∧ i' = i
    · rw [if_pos h, h.1, h.2]
    · rw [if_neg h]
  show (_, _, _, _, zp2 (zgA s) k i (zgA s k i), _) = _
  rw [e]
  rfl
theorem zuA_comm {s : zTs} {k i j k' i' : Nat} {f : Nat → Int32} {x : Int32} (h : ¬ k = k') : zuA (zuB s k' i' f) k i j x = zuB (zuA s k i j x) k' i' f := by
  have e : zp2 (zgA (zuB s k' i' f)) k i (zp1 (zgA (zuB s k' i' f) k i) j x) = zp2 (zp2 (zgA s) k i (zp1 (zgA s k i) j x)) k' i' f := by
    funext a b c
    show (zp2 (zp2 (zgA s) k' i' f) k i (zp1 (zp2 (zgA s) k' i' f k i) j x)) a b c = _
    rw [zp2_ne (fun z => h z.1)]
    unfold zp2 zp1
    by_cases h1 : a = k ∧ b = i
    · have h2 : ¬ (a = k' ∧ b = i') := fun z => h (h1.1.symm.trans z.1)
      rw [if_pos h1, if_neg h2, if_pos h1]
    · by_cases h2 : a = k' ∧ b = i'
      · rw [if_neg h1, if_pos h2, if_pos h2]
      · rw [if_neg h1, if_neg h2, if_neg h2, if_neg h1]
  show (_, _, _, _, zp2 (zgA (zuB s k' i' f)) k i (zp1 (zgA (zuB s k' i' f) k i) j x), _) = (_, _, _, _, zp2 (zp2 (zgA s) k i (zp1 (zgA s k i) j x)) k' i' f, _)
  rw [e]
  rfl
theorem q_n0 {n : Nat} (h : n < 2147483648) : ¬ Int32.ofNat n < 0 := by
  rw [Int32.lt_iff_toInt_lt, q_of h, show (0 : Int32).toInt = 0 from rfl]; omega
theorem q_ix12 {a : Int32} (ha : ¬ a < 0) (hi : a.toNatClampNeg < 6) {g : Nat} (hg : g < 12) : vp_in (12 * a + Int32.ofNat g) 72 ∧ (12 * a + Int32.ofNat g).toNatClampNeg = 12 * a.toNatClampNeg + g := by
  obtain ⟨e, v⟩ := q_pl (m := 12) (a := a) (b := Int32.ofNat g) (M := 12) (N := 72) rfl ha (q_n0 (by omega)) (by rw [q_on (by omega)]; omega) (by omega)
  rw [q_on (by omega)] at e
  exact ⟨v, e⟩
theorem q_ix20 {a : Int32} (ha : ¬ a < 0) (hi : a.toNatClampNeg < 6) {g k : Nat} (hg : g < 12) (hk : k < 20) : vp_in (20 * (12 * a + Int32.ofNat g) + Int32.ofNat k) 1440 ∧ (20 * (12 * a + Int32.ofNat g) + Int32.ofNat k).toNatClampNeg = 240 * a.toNatClampNeg + (20 * g + k) := by
  obtain ⟨v1, e1⟩ := q_ix12 ha hi hg
  have p : ¬ (12 * a + Int32.ofNat g) < 0 := fun z => v1 (.inl z)
  obtain ⟨e, v⟩ := q_pl (m := 20) (a := 12 * a + Int32.ofNat g) (b := Int32.ofNat k) (M := 20) (N := 1440) rfl p (q_n0 (by omega)) (by rw [q_on (by omega), e1]; omega) (by omega)
  rw [q_on (by omega), e1] at e
  exact ⟨v, by omega⟩
theorem q_ixc {g k : Nat} (hg : g < 12) (hk : k < 20) : vp_in (Int32.ofNat g * 20 + Int32.ofNat k) 240 ∧ (Int32.ofNat g * 20 + Int32.ofNat k).toNatClampNeg = 20 * g + k := by
  obtain ⟨e, v⟩ := q_pl (m := 20) (a := Int32.ofNat g) (b := Int32.ofNat k) (M := 20) (N := 240) rfl (q_n0 (by omega)) (q_n0 (by omega)) (by rw [q_on (by omega), q_on (by omega)]; omega) (by omega)
  rw [q_on (by omega), q_on (by omega)] at e
  rw [Int32.mul_comm]
  exact ⟨v, e⟩
theorem q_nat {x : Int32} (h : ¬ x < 0) : x = Int32.ofNat x.toNatClampNeg := q_of_toInt (q_t0 (Int32.not_lt.mp h))
/-- a wall's cells, class and model -/
theorem GC_at {s : zTs} {i : Nat} (h : GC s) (hi : i < zgN s 20) : (∀ g, g < 12 → zgA s 144 0 (12 * i + g) = zgA s 56 i g ∧ zgA s 56 i g = Int32.ofNat (zgA s 56 i g).toNatClampNeg ∧ (zgA s 56 i g).toNatClampNeg ≤ 20) ∧ (∀ c, c < 240 → zgA s 145 0 (240 * i + c) = zgA s 57 i c ∧ zgA s 147 0 (240 * i + c) = zgA s 58 i c ∧ zgA s 146 0 (240 * i + c) = zgA s 59 i c ∧ zgA s 148 0 (240 * i + c) = zgA s 60 i c ∧ 0 ≤ zgA s 58 i c ∧ zgA s 58 i c ≤ zgF s 10 0 15 ∧ 0 ≤ zgA s 59 i c ∧ zgA s 59 i c ≤ 100000) ∧ ∀ g k : Nat, g < 12 → k < (zgA s 56 i g).toNatClampNeg → ((zgA s 57 i (20 * g + k) = 0 ∧ (zgA s 60 i (20 * g + k) = 1 ∨ zgA s 60 i (20 * g + k) = 3)) ∨ (zgA s 57 i (20 * g + k) = 1 ∧ (zgA s 60 i (20 * g + k) = 2 ∨ zgA s 60 i (20 * g + k) = 3))) := by
  obtain ⟨h1, h2, h3⟩ := h.1 i hi
  have hn : ∀ g, g < 12 → zgA s 56 i g = Int32.ofNat (zgA s 56 i g).toNatClampNeg ∧ (zgA s 56 i g).toNatClampNeg ≤ 20 := by
    intro g hg
    obtain ⟨e1, e2, e3⟩ := h1 g hg
    have e4 := q_t0 e2
    rw [Int32.le_iff_toInt_le, show (20 : Int32).toInt = 20 from rfl] at e3
    exact ⟨q_of_toInt e4, by omega⟩
  refine ⟨fun g hg => ⟨(h1 g hg).1, hn g hg⟩, h2, fun g k hg hk => ?_⟩
  obtain ⟨n1, n2⟩ := hn g hg
  exact h3 g k hg (by omega) (by rw [n1, q_of (by omega)]; omega)
/-- what a cell is worth -/
def qcl (fade today D C : Int32) : Int32 := (C * (if 0 < 100 - fade * ((today - D) / 365) then 100 - fade * ((today - D) / 365) else 0)) / 100
theorem qcl_x {fade today D : Int32} (f0 : 0 ≤ fade) (f1 : fade ≤ 100) (D0 : 0 ≤ D) (D1 : D ≤ today) (t1 : today ≤ 1000000) : 100 - fade * ((today - D) / 365) ≤ 100 := by
  have s1 : (365 : Int32).toInt = 365 := rfl
  have s2 : (100 : Int32).toInt = 100 := rfl
  have s3 : (1000000 : Int32).toInt = 1000000 := rfl
  rw [Int32.le_iff_toInt_le] at f0 f1 D0 D1 t1
  rw [show (0 : Int32).toInt = 0 from rfl] at f0 D0
  have e1 : (today - D).toInt = today.toInt - D.toInt := q_sub (by omega) (by omega)
  have e2 : ((today - D) / 365).toInt = (today.toInt - D.toInt) / 365 := by rw [q_div (by omega) (by rw [s1]; decide), e1, s1]
  have pr := q_prod (x := fade.toInt) (y := (today.toInt - D.toInt) / 365) (A := 100) (B := 1000000) (by omega) (by omega) (by omega) (by omega) (by omega)
  have pz : 0 ≤ fade.toInt * ((today.toInt - D.toInt) / 365) := Int.mul_nonneg f0 (by omega)
  have e3 : (fade * ((today - D) / 365)).toInt = fade.toInt * ((today.toInt - D.toInt) / 365) := by rw [q_mul (by rw [e2]; omega) (by rw [e2]; omega), e2]
  rw [Int32.le_iff_toInt_le, q_sub (by rw [e3, s2]; omega) (by rw [e3, s2]; omega), e3, s2]
  omega
theorem i_valueOf {P : Int32 → Prop} {st : zTs} {i g k : Nat} {x y : Int32} (hg : g < 12) (hk : k < 20) (h : P (qcl y x (zgA st 58 i (20 * g + k)) (zgA st 59 i (20 * g + k)))) : w_X8_valueOf st i (Int32.ofNat g) (Int32.ofNat k) x y P := by
  obtain ⟨v, e⟩ := q_ixc hg hk
  unfold qcl at h
  intro z hz
  subst hz
  rw [e]
  refine ⟨v, fun u hu => ⟨v, ?_⟩⟩
  subst hu
  refine ⟨fun c => ?_, fun c => ?_⟩
  · rw [if_pos c] at h; exact h
  · rw [if_neg c] at h; exact h
theorem im_valueOf {P : Int32 → Prop} {t : zTs} {x fade today : Int32} {c : Nat} (hx : vp_in x 1440) (ec : x.toNatClampNeg = c) (e1 : zgA t 103 0 10 = fade) (e2 : zgF t 100 0 3 = today) (f0 : 0 ≤ fade) (f1 : fade ≤ 100) (D0 : 0 ≤ zgA t 147 0 c) (D1 : zgA t 147 0 c ≤ today) (t1 : today ≤ 1000000) (C0 : 0 ≤ zgA t 146 0 c) (C1 : zgA t 146 0 c ≤ 100000) (h : P (qcl fade today (zgA t 147 0 c) (zgA t 146 0 c))) : w_X12_valueOf t x P := by
  have v : vp_in 10 15 := q_vpi (by decide) (by decide)
  have e1 : zgA t 103 0 (10 : Int32).toNatClampNeg = fade := e1
  unfold qcl at h
  refine ⟨v, hx, fun y hy => ?_⟩
  rw [ec, e1, e2] at hy
  rw [ec]
  subst hy
  refine ⟨fun z => ⟨hx, ?_⟩, fun z => ?_⟩
  · rw [if_pos z] at h
    rw [(q_spend C0 (by lia) (Int32.le_of_lt z) (qcl_x f0 f1 D0 D1 t1)).1]
    exact h
  · rw [if_neg z, Int32.mul_zero] at h
    exact h
theorem i_wallAt {X : Nat → Prop} {P : Nat → Prop} {st : zTs} {a : Int32} (h : qR st) (hX : (a < 0 ∨ ¬ a < zgF st 30 0 2) → X 0) (hY : ¬ a < 0 → a < zgF st 30 0 2 → a.toNatClampNeg < zgN st 20 → a.toNatClampNeg < 6 → P a.toNatClampNeg) : w_X11_wallAt st a X P := by
  obtain ⟨hD, hO, hT, hP, hW, hC, hR, hK, hS, hB, hH, hG⟩ := h
  unfold w_X11_wallAt w_X11_wallAt_15 w_Jx4a65c_size_8abf5_r30
  refine ⟨fun c => hX (.inl c), fun c1 => ⟨fun c2 => ?_, fun c => hX (.inr c)⟩⟩
  obtain ⟨hk, -⟩ := q_idx hW.1 c1 c2
  exact i_get30 hW.1 (Int32.not_lt.mp c1) c2 (hY c1 c2 hk (by have := hW.2.2.1; omega))
theorem im_wallN {P : Int32 → Prop} {s t : zTs} {a : Int32} (m : qmc s t) (hW : GW s) (c : a < 0 ∨ ¬ a < zgF s 30 0 2) (h : P 0) : w_X12_isWall t a P := by
  have e : zgF t 100 0 2 = zgF s 30 0 2 := (m.2 2 (by decide)).trans hW.2.1
  unfold w_X12_isWall
  rw [e]
  exact ⟨fun _ => h, fun c3 => ⟨fun _ => h, fun c4 => absurd (Int32.not_le.mp c4) (c.resolve_left c3)⟩⟩
theorem im_wallY {P : Int32 → Prop} {s t : zTs} {a : Int32} (m : qmc s t) (hW : GW s) (c1 : ¬ a < 0) (c2 : a < zgF s 30 0 2) (h : P 1) : w_X12_isWall t a P := by
  have e : zgF t 100 0 2 = zgF s 30 0 2 := (m.2 2 (by decide)).trans hW.2.1
  unfold w_X12_isWall
  rw [e]
  exact ⟨fun c => absurd c c1, fun _ => ⟨fun c => absurd c2 (Int32.not_lt.mpr c), fun _ => h⟩⟩
/-- a span of segments -/
def qsp (f t : Int32) : Prop := ¬ f < 0 ∧ ¬ t < f ∧ ¬ 12 ≤ t
theorem im_span {P : Int32 → Prop} {st : zTs} {f t : Int32} (h1 : qsp f t → P 1) (h0 : ¬ qsp f t → P 0) : w_X12_isSpan st f t P := ⟨fun c => h0 (fun z => z.1 c), fun c1 => ⟨fun c => h0 (fun z => z.2.1 c), fun c2 => ⟨fun c => h0 (fun z => z.2.2 c), fun c3 => h1 ⟨c1, c2, c3⟩⟩⟩⟩
theorem i_segs {X : Nat → Prop} {P : Prop} {s : zTs} {f t : Int32} (h0 : ¬ qsp f t → X 1) (h1 : qsp f t → P) : w_X11_checkSegments s f t X P := by
  refine i_range (fun c => h0 (fun z => ?_)) (fun c1 c2 => i_range (fun c => h0 (fun z => ?_)) (fun c3 c4 => h1 ⟨c1, c3, by lia⟩))
  · obtain ⟨z1, z2, z3⟩ := z; lia
  · obtain ⟨z1, z2, z3⟩ := z; lia
theorem b_cell {st : zTs} {a b c d : Int32} (h : qR st) : w_X11_cell st a b c d (fun k => (k = 0 ∧ w_X12_cell st a b c d (zOK 1 0)) ∨ (k = 1 ∧ w_X12_cell st a b c d (zOK 2 0))) (fun r => w_X12_cell st a b c d (zOK 0 r)) := by
  have h0 := h
  obtain ⟨hD, hO, hT, hP, hW, hC, hR, hK, hS, hB, hH, hG⟩ := h
  have mm : qmc st (zuF st 100 0 0 0) := (by repeat (first | exact qmc_rf | apply qmc_F0 | (refine qmc_F ?_ (by decide)) | (refine qmc_A ?_ (by decide)) | apply qmc_O | apply qmc_R | apply qmc_W | (refine qmc_V ?_ (by decide)) | apply qmc_U))
  unfold w_X11_cell
  refine i_wallAt h0 (fun z => .inl ⟨rfl, ?_⟩) (fun a1 a2 hk h6 => ?_)
  · intro u hu
    subst hu
    have B : w_X12_cell_19 (zOK 1 0) (zuF st 100 0 0 0) a b c d 1 := i_bad1 ⟨fun e => absurd e (by decide), fun _ => zOK_t (qR_th h0) (by decide)⟩
    exact im_wallN mm hW z ⟨fun _ => B, fun z => absurd rfl z⟩
  have M : ∀ P : Int32 → zTs → Prop, w_X12_cell_51 P (zuF st 100 0 0 0) a b c d 0 ∨ ¬ (qsp b b ∧ ¬ d < 0 ∧ d ≤ 2) → w_X12_cell_51 P (zuF st 100 0 0 0) a b c d 1 ∨ (qsp b b ∧ ¬ d < 0 ∧ d ≤ 2) → w_X12_cell st a b c d P := by
    intro P B0 B1 u hu
    subst hu
    refine im_wallY mm hW a1 a2 ⟨fun z => absurd z (by decide), fun _ => i_bad0 ⟨fun _ => ?_, fun z => absurd rfl z⟩⟩
    exact im_span (fun q => ⟨fun z => absurd z (by decide), fun _ => ⟨fun y => B1.resolve_right (fun z => z.2.1 y), fun y1 => ⟨fun y => B0.resolve_right (fun z => z ⟨q, y1, y⟩), fun y => B1.resolve_right (fun z => y z.2.2)⟩⟩⟩) (fun q => ⟨fun _ => B1.resolve_right (fun z => q z.1), fun z => absurd rfl z⟩)
  have bad : ¬ (qsp b b ∧ ¬ d < 0 ∧ d ≤ 2) → w_X12_cell st a b c d (zOK 2 0) := fun q => M _ (.inr q) (.inl (i_bad1 ⟨fun e => absurd e (by decide), fun _ => zOK_t (qR_th h0) (by decide)⟩))
  refine i_range (fun z => .inr ⟨rfl, bad (fun q => ?_)⟩) (fun b1 b2 => ?_)
  · obtain ⟨⟨q1, q2, q3⟩, -⟩ := q; lia
  refine i_range (fun z => .inr ⟨rfl, bad (fun q => ?_)⟩) (fun d1 d2 => ?_)
  · obtain ⟨-, q1, q2⟩ := q; lia
  have ok : qsp b b ∧ ¬ d < 0 ∧ d ≤ 2 := ⟨⟨b1, by lia, by lia⟩, d1, Int32.not_lt.mp d2⟩
  have G : ∀ P : Int32 → zTs → Prop, w_X12_cell_51 P (zuF st 100 0 0 0) a b c d 0 → w_X12_cell st a b c d P := fun P B => M P (.inl B) (.inr ok)
  obtain ⟨k1, k2, k3⟩ := GC_at hC hk
  obtain ⟨t1, t2, t3⟩ := id hD
  obtain ⟨-, -, -, -, ⟨-, ⟨-, -, r10, -⟩, -, r20, r21, -⟩, -⟩ := id hR
  have r10 : zgA st 103 0 10 = zgF st 24 (zgP st 10 0 16) 9 := r10
  have r20 : 0 ≤ zgF st 24 (zgP st 10 0 16) 9 := r20
  have r21 : zgF st 24 (zgP st 10 0 16) 9 ≤ 100 := r21
  have eb := q_nat b1
  have hg : b.toNatClampNeg < 12 := q_tlt (b := 12) (Int32.not_lt.mp b1) (by lia) rfl
  generalize hgg : b.toNatClampNeg = g at *
  subst eb
  obtain ⟨n1, n2, n3⟩ := k1 g hg
  obtain ⟨v12, e12⟩ := q_ix12 a1 h6 hg
  have vg : vp_in (Int32.ofNat g) 12 := q_nv hg (by omega)
  have E : zgA (zuF st 100 0 0 0) 144 0 (12 * a + Int32.ofNat g).toNatClampNeg = zgA st 56 a.toNatClampNeg g := by
    rw [e12]
    exact n1
  unfold w_X8_hasCell
  refine ⟨fun z => absurd z b1, fun _ => ⟨fun z => absurd z (by lia), fun _ => ⟨fun c1 => ⟨fun _ => ?_, fun z => absurd rfl z⟩, fun c1 => ⟨vg, fun c2 => ⟨fun _ => ?_, fun z => absurd rfl z⟩, fun c2 => ⟨fun z => absurd z (by decide), fun _ => ?_⟩⟩⟩⟩⟩
  · exact G _ (i_bad0 ⟨fun _ => ⟨fun _ => zOK_0 h0 rfl, fun z => absurd c1 z⟩, fun z => absurd rfl z⟩)
  · rw [hgg] at c2
    refine G _ (i_bad0 ⟨fun _ => ⟨fun z => absurd z c1, fun _ => ⟨v12, fun z => ?_, fun _ => zOK_0 h0 rfl⟩⟩, fun z => absurd rfl z⟩)
    rw [E] at z
    exact absurd c2 (Int32.not_le.mpr z)
  · rw [hgg] at c2
    have c3 : c < zgA st 56 a.toNatClampNeg g := Int32.not_le.mp c2
    have ec := q_nat c1
    have hkk : c.toNatClampNeg < 20 := by
      have e9 := q_t0 (Int32.not_lt.mp c1)
      rw [n2, Int32.lt_iff_toInt_lt, q_of (by omega)] at c3
      omega
    obtain ⟨v20, e20⟩ := q_ix20 a1 h6 hg hkk
    obtain ⟨vc, xc⟩ := q_ixc hg hkk
    obtain ⟨m1, m2, m3, m4, m5, m6, m7, m8⟩ := k2 (20 * g + c.toNatClampNeg) (by omega)
    have G2 : ∀ P : Int32 → zTs → Prop, ((d = 0 → P (zgA st 57 a.toNatClampNeg (20 * g + c.toNatClampNeg)) (zuF st 100 0 0 0)) ∧ (d = 1 → P (qcl (zgF st 24 (zgP st 10 0 16) 9) (zgF st 10 0 15) (zgA st 58 a.toNatClampNeg (20 * g + c.toNatClampNeg)) (zgA st 59 a.toNatClampNeg (20 * g + c.toNatClampNeg))) (zuF st 100 0 0 0)) ∧ (¬ d = 0 → ¬ d = 1 → P (zgA st 60 a.toNatClampNeg (20 * g + c.toNatClampNeg)) (zuF st 100 0 0 0))) → w_X12_cell st a (Int32.ofNat g) c d P := by
      intro P ⟨p1, p2, p3⟩
      refine G _ (i_bad0 ⟨fun _ => ⟨fun z => absurd z c1, fun _ => ⟨v12, fun _ x hx => ?_, fun z => ?_⟩⟩, fun z => absurd rfl z⟩)
      · have hx : x = 20 * (12 * a + Int32.ofNat g) + Int32.ofNat c.toNatClampNeg := by rw [← ec]; exact hx
        rw [← hx] at v20 e20
        rw [e20]
        refine ⟨fun d0 => ⟨v20, ?_⟩, fun d0 => ⟨fun d9 => ?_, fun d9 => ⟨v20, ?_⟩⟩⟩
        · rw [mm.1 145 (by decide), m1]; exact p1 d0
        · refine im_valueOf v20 e20 r10 t1 r20 r21 (by rw [mm.1 147 (by decide), m2]; exact m5) (by rw [mm.1 147 (by decide), m2]; exact m6) t3 (by rw [mm.1 146 (by decide), m3]; exact m7) (by rw [mm.1 146 (by decide), m3]; exact m8) ?_
          rw [mm.1 147 (by decide), mm.1 146 (by decide), m2, m3]
          exact p2 d9
        · rw [mm.1 148 (by decide), m4]; exact p3 d0 d9
      · rw [E] at z
        exact absurd c3 z
    refine ⟨fun d0 => ?_, fun d0 => ?_, fun d0 => ?_⟩
    · rw [ec]
      refine ⟨vc, ?_⟩
      rw [xc]
      refine ec ▸ G2 _ ⟨fun _ => zOK_0 h0 rfl, fun y => absurd (d0.symm.trans y) (by decide), fun y => absurd d0 y⟩
    · have := G2 (zOK 0 (qcl (zgF st 24 (zgP st 10 0 16) 9) (zgF st 10 0 15) (zgA st 58 a.toNatClampNeg (20 * g + c.toNatClampNeg)) (zgA st 59 a.toNatClampNeg (20 * g + c.toNatClampNeg)))) ⟨fun y => absurd (d0.symm.trans y) (by decide), fun _ => zOK_0 h0 rfl, fun _ y => absurd d0 y⟩
      have W : w_X8_valueOf st a.toNatClampNeg (Int32.ofNat g) (Int32.ofNat c.toNatClampNeg) (zgF st 10 0 15) (zgF st 24 (zgP st 10 0 16) 9) (fun r83 => w_X12_cell st a (Int32.ofNat g) c d (zOK 0 r83)) := i_valueOf hg hkk this
      rw [← ec] at W
      exact W
    · have := G2 (zOK 0 (zgA st 60 a.toNatClampNeg (20 * g + c.toNatClampNeg))) ⟨fun y => absurd y d0.1, fun y => absurd y d0.2, fun _ _ => zOK_0 h0 rfl⟩
      have W : w_X8_usersOf st a.toNatClampNeg (Int32.ofNat g) (Int32.ofNat c.toNatClampNeg) (fun r91 => w_X12_cell st a (Int32.ofNat g) c d (zOK 0 r91)) := by
        refine ⟨vc, ?_⟩
        rw [xc]
        exact this
      rw [← ec] at W
      exact W

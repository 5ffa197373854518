/-! joined -/
def qgw (C wa wb : Nat → Int32) (tol : Int32) : Nat → Int32
  | 0 => 0
  | i + 1 => if C i = -1 then qgw C wa wb tol i else if wb (C i).toNatClampNeg - wa i ≤ tol then qgw C wa wb tol i else qgw C wa wb tol i + 1
theorem l_grown {P : Int32 → Prop} {st : zTs} {a1 a2 n m : Nat} {tol : Int32} {C : Nat → Int32} (hn : zgF st 12 0 3 = Int32.ofNat n) (n20 : n ≤ 20) (m20 : m ≤ 20) (h53 : ∀ i, zgA st 53 0 i = C i) (hC : ∀ i, i < n → C i = -1 ∨ ∃ j, j < m ∧ C i = Int32.ofNat j)
    (fin : P (qgw C (zgA st 63 a1) (zgA st 63 a2) tol n)) : ∀ (f i : Nat), i ≤ n → n - i < f → w_X3_grownByMoreThan_6 P st f tol a1 a2 (qgw C (zgA st 63 a1) (zgA st 63 a2) tol i) (Int32.ofNat i) := by
  intro f
  induction f with
  | zero => intro i h0 h1; omega
  | succ f ih =>
    intro i h0 h1
    rw [w_X3_grownByMoreThan_6, hn, h53]
    refine ⟨fun c => ?_, fun c => ?_⟩
    · rw [q_nle (by omega) (by omega)] at c
      rw [show i = n by omega]
      exact fin
    · rw [q_nle (by omega) (by omega)] at c
      have vi : vp_in (Int32.ofNat i) 20 := q_nv (by omega) (by omega)
      refine ⟨vi, fun x hx => ?_⟩
      rw [q_on (by omega)] at hx
      subst hx
      have nx := ih (i + 1) (by omega) (by omega)
      rw [qgw] at nx
      refine ⟨fun z => ?_, fun z => ?_⟩
      · intro u hu
        subst hu
        rw [if_pos z] at nx
        rw [q_os (by omega)]
        exact nx
      · obtain ⟨j, hj, ej⟩ := (hC i (by omega)).resolve_left z
        rw [if_neg z] at nx
        have vj : vp_in (C i) 20 := by rw [ej]; exact q_nv (by omega) (by omega)
        refine ⟨vj, vi, ?_⟩
        rw [q_on (n := i) (by omega)]
        refine ⟨fun y => ?_, fun y => ?_⟩
        · intro u hu
          subst hu
          rw [if_pos y] at nx
          rw [q_os (by omega)]
          exact nx
        · intro v hv u hu
          subst hv
          subst hu
          rw [if_neg y] at nx
          rw [q_os (by omega)]
          exact nx
theorem im_trueOf {P : Int32 → Prop} {t : zTs} {a : Int32} {j : Nat} (a0 : ¬ a < 0) (a9 : a.toNatClampNeg < 10) (hj : j < 20) (v5 : vp_in (zgA t 152 0 a.toNatClampNeg) 5) (h : P (zgA t 155 0 (20 * a.toNatClampNeg + j) - zgA t 151 0 (zgA t 152 0 a.toNatClampNeg).toNatClampNeg)) : w_X12_trueOf t a (Int32.ofNat j) P := by
  obtain ⟨e1, v1⟩ := q_pl (m := 20) (a := a) (b := Int32.ofNat j) (M := 20) (N := 200) rfl a0 (q_n0 (by omega)) (by rw [q_on (by omega)]; omega) (by omega)
  rw [q_on (by omega)] at e1
  unfold w_X12_trueOf
  rw [e1]
  exact ⟨v1, q_i30 a0 a9, v5, h⟩
theorem lm_grown {P : Int32 → zTs → Prop} {st : zTs} {a b c pr tol : Int32} {n m : Nat} {C wa wb : Nat → Int32} (a0 : ¬ a < 0) (a9 : a.toNatClampNeg < 10) (b0 : ¬ b < 0) (b9 : b.toNatClampNeg < 10) (hn : zgA st 153 0 a.toNatClampNeg = Int32.ofNat n) (hm : zgA st 153 0 b.toNatClampNeg = Int32.ofNat m) (n20 : n ≤ 20) (m20 : m ≤ 20) (ht : zgA st 103 0 11 = tol) (h158 : ∀ i, i < n → zgA st 158 0 i = C i) (hC : ∀ i, i < n → C i = -1 ∨ ∃ j, j < m ∧ C i = Int32.ofNat j)
    (va : vp_in (zgA st 152 0 a.toNatClampNeg) 5) (vb : vp_in (zgA st 152 0 b.toNatClampNeg) 5) (hwa : ∀ j, j < n → wa j = zgA st 155 0 (20 * a.toNatClampNeg + j) - zgA st 151 0 (zgA st 152 0 a.toNatClampNeg).toNatClampNeg) (hwb : ∀ j, j < m → wb j = zgA st 155 0 (20 * b.toNatClampNeg + j) - zgA st 151 0 (zgA st 152 0 b.toNatClampNeg).toNatClampNeg)
    (fin : (c = 0 → P (pr - qgw C wa wb tol n) st) ∧ (c = 1 → P (qgw C wa wb tol n) st) ∧ (c = 2 → P (Int32.ofNat m - pr) st) ∧ (c = 3 → P (Int32.ofNat n - pr) st) ∧ (¬ c = 0 ∧ ¬ c = 1 ∧ ¬ c = 2 ∧ ¬ c = 3 → P (zgA st 157 0 0) st)) : ∀ (f i : Nat), i ≤ n → n - i < f → w_X12_joined_78 P f st a b c (qgw C wa wb tol i) pr (Int32.ofNat i) := by
  intro f
  induction f with
  | zero => intro i h0 h1; omega
  | succ f ih =>
    intro i h0 h1
    rw [w_X12_joined_78, hn, hm, show (0 : Int32).toNatClampNeg = 0 from rfl, show (11 : Int32).toNatClampNeg = 11 from rfl, ht]
    refine ⟨q_i30 a0 a9, fun w => ?_, fun w => ?_⟩
    · rw [q_nle (by omega) (by omega)] at w
      rw [show i = n by omega]
      obtain ⟨f1, f2, f3, f4, f5⟩ := fin
      exact ⟨f1, f2, fun z => ⟨q_i30 b0 b9, f3 z⟩, fun z => ⟨q_i30 a0 a9, f4 z⟩, fun z => ⟨q_vpi (by decide) (by decide), f5 z⟩⟩
    · rw [q_nle (by omega) (by omega)] at w
      have vi : vp_in (Int32.ofNat i) 20 := q_nv (by omega) (by omega)
      have nx := ih (i + 1) (by omega) (by omega)
      rw [qgw] at nx
      have next : ∀ g, g = qgw C wa wb tol i → w_X12_joined_78 P f st a b c g pr (Int32.ofNat (i + 1)) → w_X12_joined_135 P (w_X12_joined_78 P f) st a b c pr (Int32.ofNat i) g := by
        intro g hg hh x hx y hy
        subst hx
        subst hy
        rw [q_os (by omega), show g + 0 = g from Int32.add_zero g]
        exact hh
      rw [q_on (n := i) (by omega), h158 i (by omega)]
      refine ⟨vi, fun z => ?_, fun z => ?_⟩
      · have y : C i = -1 := by
          rcases hC i (by omega) with y | ⟨j, hj, y⟩
          · exact y
          · rw [y] at z; exact absurd z (q_n0 (by omega))
        rw [if_pos y] at nx
        exact next _ rfl nx
      · obtain ⟨j, hj, ej⟩ := (hC i (by omega)).resolve_left (fun y => z (by rw [y]; decide))
        rw [if_neg (fun y => z (by rw [y]; decide)), ej, q_on (n := j) (by omega)] at nx
        rw [ej]
        refine ⟨vi, im_trueOf b0 b9 (by omega) vb (im_trueOf a0 a9 (by omega) va ⟨q_vpi (by decide) (by decide), ?_⟩)⟩
        rw [← hwa i (by omega), ← hwb j hj]
        refine ⟨fun y => ?_, fun y => ?_⟩
        · rw [if_pos y] at nx
          exact next _ rfl nx
        · rw [if_neg y] at nx
          intro x hx u hu
          subst hx
          subst hu
          rw [q_os (by omega)]
          exact nx
theorem qgw_eq {C D wa wb : Nat → Int32} {tol : Int32} {n : Nat} (h : ∀ i, i < n → D i = C i) : qgw D wa wb tol n = qgw C wa wb tol n := by
  induction n with
  | zero => rfl
  | succ k ih => rw [qgw, qgw, h k (by omega), ih (fun i hi => h i (by omega))]
theorem b_joined {st : zTs} {a b c : Int32} (h : qR st) : w_X11_joined st a b c (fun k s => (k = 0 ∧ w_X12_joined s a b c (zOK 1 0)) ∨ (k = 1 ∧ w_X12_joined s a b c (zOK 2 0))) (fun r s => w_X12_joined s a b c (zOK 0 r)) := by
  have h0 := h
  obtain ⟨hD, hO, hT, hP, hW, hC, hR, hK, hS, hB, hH, hG⟩ := h
  have mm : qmc st (zuF st 100 0 0 0) := (by repeat (first | exact qmc_rf | apply qmc_F0 | (refine qmc_F ?_ (by decide)) | (refine qmc_A ?_ (by decide)) | apply qmc_O | apply qmc_R | apply qmc_W | (refine qmc_V ?_ (by decide)) | apply qmc_U))
  have bad : ((a < 0 ∨ ¬ a < zgF st 32 0 2) ∨ (b < 0 ∨ ¬ b < zgF st 32 0 2)) → w_X12_joined st a b c (zOK 1 0) := by
    intro hn u hu
    subst hu
    have B : w_X12_joined_27 (zOK 1 0) (zuF st 100 0 0 0) a b c 1 := i_bad1 ⟨fun e => absurd e (by decide), fun _ => zOK_t (qR_th h0) (by decide)⟩
    by_cases ca : a < 0 ∨ ¬ a < zgF st 32 0 2
    · exact im_survN mm hH ca ⟨fun _ => B, fun z => absurd rfl z⟩
    · have ca' : ¬ a < 0 ∧ a < zgF st 32 0 2 := ⟨fun z => ca (.inl z), Classical.not_not.mp (fun z => ca (.inr z))⟩
      exact im_survY mm hH ca'.1 ca'.2 ⟨fun z => absurd z (by decide), fun _ => im_survN mm hH (hn.resolve_left ca) ⟨fun _ => B, fun z => absurd rfl z⟩⟩
  unfold w_X11_joined
  refine i_surveyAt h0 (fun z => .inl ⟨rfl, bad (.inl z)⟩) (fun a1 a2 ka a9 => ?_)
  refine i_surveyAt h0 (fun z => .inl ⟨rfl, bad (.inr z)⟩) (fun b1 b2 kb b9 => ?_)
  refine i_range (fun z => .inr ⟨rfl, ?_⟩) (fun c1 c2 => ?_)
  · intro u hu
    subst hu
    have B : w_X12_joined_49 (zOK 2 0) (zuF st 100 0 0 0) a b c 1 := i_bad1 ⟨fun e => absurd e (by decide), fun _ => zOK_t (qR_th h0) (by decide)⟩
    refine im_survY mm hH a1 a2 ⟨fun z => absurd z (by decide), fun _ => im_survY mm hH b1 b2 ⟨fun z => absurd z (by decide), fun _ => i_bad0 ⟨fun _ => ⟨fun _ => B, fun c3 => ⟨fun c4 => ?_, fun _ => B⟩⟩, fun z => absurd rfl z⟩⟩⟩
    exact absurd (z.resolve_left c3) (Int32.not_lt.mpr c4)
  obtain ⟨x1, x2, x3, x4, x5, x6⟩ := GH_at hH ka
  obtain ⟨y1, y2, y3, y4, y5, y6⟩ := GH_at hH kb
  obtain ⟨-, -, -, -, rr, -⟩ := id hR
  have r12 : zgA st 103 0 12 = zgF st 24 (zgP st 10 0 16) 11 := rr.2.1.2.2.2.2.1
  have r11 : zgA st 103 0 11 = zgF st 24 (zgP st 10 0 16) 10 := rr.2.1.2.2.2.1
  refine i_join x1 y1 x2 y2 (fun A B C hq hC => ?_)
  have hC' : ∀ i, i < (zgF st 22 a.toNatClampNeg 3).toNatClampNeg → C i = -1 ∨ ∃ j, j < (zgF st 22 b.toNatClampNeg 3).toNatClampNeg ∧ C i = Int32.ofNat j := fun i hi => by rw [hC i hi]; exact qpv_in
  have q0 := hq 0 0 (Nat.zero_le _) (Nat.zero_le _) (.inr ⟨rfl, Nat.zero_le _⟩)
  have m1 : qmc st (qj (zuF st 12 0 3 (Int32.ofNat (zgF st 22 a.toNatClampNeg 3).toNatClampNeg)) A B C) := qmc_B (qmc_B (qmc_B (qmc_F qmc_rf (by decide)) (by decide)) (by decide)) (by decide)
  have m0 := qmc_F0 (x := 0) m1
  have fin : ∀ (r r' : Int32) (A' B' C' : Nat → Int32), r' = r → zOK 0 r r' (qjm (zuF (qj (zuF st 12 0 3 (Int32.ofNat (zgF st 22 a.toNatClampNeg 3).toNatClampNeg)) A B C) 100 0 0 0) A' B' C') := by
    intro r r' A' B' C' e
    subst e
    unfold qjm qj
    refine ⟨by show qth _ = _; simp (disch := decide) only [qth_uF, qth_uF100, qth_uP, qth_uO, qth_uA, qth_uB, qth_uR, qth_uL, qth_uW, qth_uV, qth_uU, qth_uX, qth_set], fun _ => by first | rfl | lia, ?_⟩; simp (disch := decide) only [qR, GD_uF, GD_uF10, GD_uF100, GD_uP, GD_uO, GD_uA, GD_uB, GD_uR, GD_uJ, GD_uL, GD_uW, GD_uV, GD_uU, GD_uX, GD_uR4, GO_uF, GO_uF10, GO_uF100, GO_uP, GO_uO, GO_uA, GO_uB, GO_uR, GO_uJ, GO_uL, GO_uW, GO_uV, GO_uU, GO_uX, GO_uR4, GT_uF, GT_uF10, GT_uF100, GT_uP, GT_uO, GT_uA, GT_uB, GT_uR, GT_uJ, GT_uL, GT_uW, GT_uV, GT_uU, GT_uX, GT_uR4, GP_uF, GP_uF13, GP_uF100, GP_uP, GP_uO, GP_uA, GP_uB, GP_uR, GP_uJ, GP_uL, GP_uW, GP_uV, GP_uU, GP_uX, GP_uR4, GW_uF, GW_uF100, GW_uP, GW_uO, GW_uA, GW_uB, GW_uR, GW_uJ, GW_uL, GW_uW, GW_uV, GW_uU, GW_uX, GW_uR4, GC_uF, GC_uF10, GC_uP, GC_uO, GC_uA, GC_uB, GC_uR, GC_uJ, GC_uL, GC_uW, GC_uV, GC_uU, GC_uX, GC_uR4, GR_uF, GR_uF100, GR_uP, GR_uO, GR_uA, GR_uB, GR_uR, GR_uJ, GR_uL, GR_uW, GR_uV, GR_uU, GR_uX, GK_uF, GK_uF10, GK_uF100, GK_uP, GK_uO, GK_uA, GK_uB, GK_uR, GK_uJ, GK_uL, GK_uW, GK_uV, GK_uU, GK_uX, GK_uR4, GS_uF, GS_uF10, GS_uF100, GS_uP, GS_uO, GS_uA, GS_uB, GS_uR, GS_uJ, GS_uL, GS_uW, GS_uV, GS_uU, GS_uX, GS_uR4, GB_uF, GB_uF100, GB_uP, GB_uO, GB_uA, GB_uB, GB_uR, GB_uJ, GB_uL, GB_uW, GB_uV, GB_uU, GB_uX, GB_uR4, GH_uF, GH_uF10, GH_uF100, GH_uP, GH_uO, GH_uA, GH_uB, GH_uR, GH_uJ, GH_uL, GH_uW, GH_uV, GH_uU, GH_uX, GH_uR4, GG_uF, GG_uF100, GG_uP, GG_uO, GG_uA, GG_uB, GG_uR, GG_uJ, GG_uL, GG_uW, GG_uV, GG_uU, GG_uX, GG_uR4]; refine ⟨?_, ?_, ?_, ?_, ?_, ?_, ?_, ?_, ?_, ?_, ?_, ?_⟩ <;> try with_reducible assumption
  have M : ∀ P : Int32 → zTs → Prop, (∀ (A' B' C' : Nat → Int32) (t : zTs), t = qjm (zuF (qj (zuF st 12 0 3 (Int32.ofNat (zgF st 22 a.toNatClampNeg 3).toNatClampNeg)) A B C) 100 0 0 0) A' B' C' → A' 0 = A 0 → B' 0 = B 0 → (c = 0 → P (A 0 - qgw C (zgA st 63 a.toNatClampNeg) (zgA st 63 b.toNatClampNeg) (zgF st 24 (zgP st 10 0 16) 10) (zgF st 22 a.toNatClampNeg 3).toNatClampNeg) t) ∧ (c = 1 → P (qgw C (zgA st 63 a.toNatClampNeg) (zgA st 63 b.toNatClampNeg) (zgF st 24 (zgP st 10 0 16) 10) (zgF st 22 a.toNatClampNeg 3).toNatClampNeg) t) ∧ (c = 2 → P (Int32.ofNat (zgF st 22 b.toNatClampNeg 3).toNatClampNeg - A 0) t) ∧ (c = 3 → P (Int32.ofNat (zgF st 22 a.toNatClampNeg 3).toNatClampNeg - A 0) t) ∧ (¬ c = 0 ∧ ¬ c = 1 ∧ ¬ c = 2 ∧ ¬ c = 3 → P (B 0) t)) → w_X12_joined (qj (zuF st 12 0 3 (Int32.ofNat (zgF st 22 a.toNatClampNeg 3).toNatClampNeg)) A B C) a b c P := by
    intro P k u hu
    subst hu
    refine im_survY m0 hH a1 a2 ⟨fun z => absurd z (by decide), fun _ => im_survY m0 hH b1 b2 ⟨fun z => absurd z (by decide), fun _ => i_bad0 ⟨fun _ => ⟨fun z => absurd z c1, fun _ => ⟨fun _ => ?_, fun z => absurd (Int32.not_lt.mp c2) z⟩⟩, fun z => absurd rfl z⟩⟩⟩
    refine i_bad0 ⟨fun _ => ?_, fun z => absurd rfl z⟩
    refine im_joins (near := zgF st 24 (zgP st 10 0 16) 11) (pa := zgA st 62 a.toNatClampNeg) (pb := zgA st 62 b.toNatClampNeg) a1 a9 b1 b9 (fun j hj => (m0.1 154 (by decide) _ _).trans (x4 j hj)) (fun j hj => (m0.1 154 (by decide) _ _).trans (y4 j hj)) ((m0.1 103 (by decide) _ _).trans r12) ((m0.1 153 (by decide) _ _).trans (x3.trans x1)) ((m0.1 153 (by decide) _ _).trans (y3.trans y1)) x2 y2 (fun A' B' C' hq' hC2 => ?_)
    have q0' := hq' 0 0 (Nat.zero_le _) (Nat.zero_le _) (.inr ⟨rfl, Nat.zero_le _⟩)
    have eA : A' 0 = A 0 := q0'.1.trans q0.1.symm
    have eB : B' 0 = B 0 := q0'.2.trans q0.2.symm
    have g : ∀ k, k ∈ [151, 152, 153, 155, 103] → ∀ i j, zgA (qjm (zuF (qj (zuF st 12 0 3 (Int32.ofNat (zgF st 22 a.toNatClampNeg 3).toNatClampNeg)) A B C) 100 0 0 0) A' B' C') k i j = zgA st k i j := by
      intro k hk i j
      have : k = 151 ∨ k = 152 ∨ k = 153 ∨ k = 155 ∨ k = 103 := by simpa using hk
      rcases this with e | e | e | e | e <;> subst e <;> rw [qjm_A (by decide) (by decide) (by decide)] <;> exact m0.1 _ (by decide) _ _
    refine ⟨q_vpi (by decide) (by decide), fun x hx => ?_⟩
    rw [show (0 : Int32).toNatClampNeg = 0 from rfl, qjm_6, eA] at hx
    subst hx
    have K := k A' B' C' _ rfl eA eB
    refine lm_grown (C := C) (wa := zgA st 63 a.toNatClampNeg) (wb := zgA st 63 b.toNatClampNeg) (n := (zgF st 22 a.toNatClampNeg 3).toNatClampNeg) (m := (zgF st 22 b.toNatClampNeg 3).toNatClampNeg) (tol := zgF st 24 (zgP st 10 0 16) 10) a1 a9 b1 b9 ?_ ?_ x2 y2 ?_ ?_ hC' ?_ ?_ ?_ ?_ ?_ zfu 0 (Nat.zero_le _) (by unfold zfu; omega)
    · rw [g 153 (by decide)]; exact x3.trans x1
    · rw [g 153 (by decide)]; exact y3.trans y1
    · rw [g 103 (by decide)]; exact r11
    · intro i hi
      rw [qjm_8]
      exact (hC2 i hi).trans (hC i hi).symm
    · rw [g 152 (by decide)]; exact x6
    · rw [g 152 (by decide)]; exact y6
    · intro j hj
      rw [g 152 (by decide), g 155 (by decide), g 151 (by decide)]
      exact x5 j hj
    · intro j hj
      rw [g 152 (by decide), g 155 (by decide), g 151 (by decide)]
      exact y5 j hj
    · rw [qjm_7, eB]
      exact K
  have e12 : zgF (qj (zuF st 12 0 3 (Int32.ofNat (zgF st 22 a.toNatClampNeg 3).toNatClampNeg)) A B C) 12 0 3 = Int32.ofNat (zgF st 22 a.toNatClampNeg 3).toNatClampNeg := by
    rw [qj_F]
    simp only [q_NuF, q_FuF, q_PuF, q_OuF, q_AuF, q_RuF, q_LuF, q_JuF, q_NuP, q_FuP, q_PuP, q_OuP, q_AuP, q_RuP, q_LuP, q_JuP, q_NuO, q_FuO, q_PuO, q_OuO, q_AuO, q_RuO, q_LuO, q_JuO, q_NuA, q_FuA, q_PuA, q_OuA, q_AuA, q_RuA, q_LuA, q_JuA, q_NuR, q_FuR, q_PuR, q_OuR, q_AuR, q_RuR, q_LuR, q_JuR, q_NuJ, q_FuJ, q_PuJ, q_OuJ, q_AuJ, q_RuJ, q_LuJ, q_JuJ, q_NuL, q_FuL, q_PuL, q_OuL, q_AuL, q_RuL, q_LuL, q_JuL, q_NuB, q_FuB, q_PuB, q_OuB, q_AuB, q_RuB, q_LuB, q_JuB, q_NuW, q_FuW, q_PuW, q_OuW, q_AuW, q_RuW, q_LuW, q_JuW, q_NuV, q_FuV, q_PuV, q_OuV, q_AuV, q_RuV, q_LuV, q_JuV, q_NuU, q_FuU, q_PuU, q_OuU, q_AuU, q_RuU, q_LuU, q_JuU, q_NuX, q_FuX, q_PuX, q_OuX, q_AuX, q_RuX, q_LuX, q_JuX, q_NuR4, q_FuR4, q_PuR4, q_OuR4, q_AuR4, q_RuR4, q_LuR4, q_JuR4, Nat.reduceEqDiff, reduceIte, and_true, true_and, and_false, false_and, and_self, if_true, if_false, not_true_eq_false, not_false_eq_true]
  have e63 : ∀ z, zgA (qj (zuF st 12 0 3 (Int32.ofNat (zgF st 22 a.toNatClampNeg 3).toNatClampNeg)) A B C) 63 z = zgA st 63 z := by
    intro z
    funext i
    rw [qj_A (k := 63) (by decide) (by decide) (by decide)]
    simp only [q_NuF, q_FuF, q_PuF, q_OuF, q_AuF, q_RuF, q_LuF, q_JuF, q_NuP, q_FuP, q_PuP, q_OuP, q_AuP, q_RuP, q_LuP, q_JuP, q_NuO, q_FuO, q_PuO, q_OuO, q_AuO, q_RuO, q_LuO, q_JuO, q_NuA, q_FuA, q_PuA, q_OuA, q_AuA, q_RuA, q_LuA, q_JuA, q_NuR, q_FuR, q_PuR, q_OuR, q_AuR, q_RuR, q_LuR, q_JuR, q_NuJ, q_FuJ, q_PuJ, q_OuJ, q_AuJ, q_RuJ, q_LuJ, q_JuJ, q_NuL, q_FuL, q_PuL, q_OuL, q_AuL, q_RuL, q_LuL, q_JuL, q_NuB, q_FuB, q_PuB, q_OuB, q_AuB, q_RuB, q_LuB, q_JuB, q_NuW, q_FuW, q_PuW, q_OuW, q_AuW, q_RuW, q_LuW, q_JuW, q_NuV, q_FuV, q_PuV, q_OuV, q_AuV, q_RuV, q_LuV, q_JuV, q_NuU, q_FuU, q_PuU, q_OuU, q_AuU, q_RuU, q_LuU, q_JuU, q_NuX, q_FuX, q_PuX, q_OuX, q_AuX, q_RuX, q_LuX, q_JuX, q_NuR4, q_FuR4, q_PuR4, q_OuR4, q_AuR4, q_RuR4, q_LuR4, q_JuR4]
  have e24 : zgF (qj (zuF st 12 0 3 (Int32.ofNat (zgF st 22 a.toNatClampNeg 3).toNatClampNeg)) A B C) 24 (zgP (qj (zuF st 12 0 3 (Int32.ofNat (zgF st 22 a.toNatClampNeg 3).toNatClampNeg)) A B C) 10 0 16) 10 = zgF st 24 (zgP st 10 0 16) 10 := by
    unfold qj
    simp only [q_NuF, q_FuF, q_PuF, q_OuF, q_AuF, q_RuF, q_LuF, q_JuF, q_NuP, q_FuP, q_PuP, q_OuP, q_AuP, q_RuP, q_LuP, q_JuP, q_NuO, q_FuO, q_PuO, q_OuO, q_AuO, q_RuO, q_LuO, q_JuO, q_NuA, q_FuA, q_PuA, q_OuA, q_AuA, q_RuA, q_LuA, q_JuA, q_NuR, q_FuR, q_PuR, q_OuR, q_AuR, q_RuR, q_LuR, q_JuR, q_NuJ, q_FuJ, q_PuJ, q_OuJ, q_AuJ, q_RuJ, q_LuJ, q_JuJ, q_NuL, q_FuL, q_PuL, q_OuL, q_AuL, q_RuL, q_LuL, q_JuL, q_NuB, q_FuB, q_PuB, q_OuB, q_AuB, q_RuB, q_LuB, q_JuB, q_NuW, q_FuW, q_PuW, q_OuW, q_AuW, q_RuW, q_LuW, q_JuW, q_NuV, q_FuV, q_PuV, q_OuV, q_AuV, q_RuV, q_LuV, q_JuV, q_NuU, q_FuU, q_PuU, q_OuU, q_AuU, q_RuU, q_LuU, q_JuU, q_NuX, q_FuX, q_PuX, q_OuX, q_AuX, q_RuX, q_LuX, q_JuX, q_NuR4, q_FuR4, q_PuR4, q_OuR4, q_AuR4, q_RuR4, q_LuR4, q_JuR4, Nat.reduceEqDiff, reduceIte, and_true, true_and, and_false, false_and, and_self, if_true, if_false, not_true_eq_false, not_false_eq_true]
  have e22 : ∀ z, zgF (qj (zuF st 12 0 3 (Int32.ofNat (zgF st 22 a.toNatClampNeg 3).toNatClampNeg)) A B C) 22 z 3 = zgF st 22 z 3 := by
    intro z
    rw [qj_F]
    simp only [q_NuF, q_FuF, q_PuF, q_OuF, q_AuF, q_RuF, q_LuF, q_JuF, q_NuP, q_FuP, q_PuP, q_OuP, q_AuP, q_RuP, q_LuP, q_JuP, q_NuO, q_FuO, q_PuO, q_OuO, q_AuO, q_RuO, q_LuO, q_JuO, q_NuA, q_FuA, q_PuA, q_OuA, q_AuA, q_RuA, q_LuA, q_JuA, q_NuR, q_FuR, q_PuR, q_OuR, q_AuR, q_RuR, q_LuR, q_JuR, q_NuJ, q_FuJ, q_PuJ, q_OuJ, q_AuJ, q_RuJ, q_LuJ, q_JuJ, q_NuL, q_FuL, q_PuL, q_OuL, q_AuL, q_RuL, q_LuL, q_JuL, q_NuB, q_FuB, q_PuB, q_OuB, q_AuB, q_RuB, q_LuB, q_JuB, q_NuW, q_FuW, q_PuW, q_OuW, q_AuW, q_RuW, q_LuW, q_JuW, q_NuV, q_FuV, q_PuV, q_OuV, q_AuV, q_RuV, q_LuV, q_JuV, q_NuU, q_FuU, q_PuU, q_OuU, q_AuU, q_RuU, q_LuU, q_JuU, q_NuX, q_FuX, q_PuX, q_OuX, q_AuX, q_RuX, q_LuX, q_JuX, q_NuR4, q_FuR4, q_PuR4, q_OuR4, q_AuR4, q_RuR4, q_LuR4, q_JuR4, Nat.reduceEqDiff, reduceIte, and_true, true_and, and_false, false_and, and_self, if_true, if_false, not_true_eq_false, not_false_eq_true]
  unfold w_X3_grownByMoreThan
  rw [e24]
  refine l_grown (C := C) (n := (zgF st 22 a.toNatClampNeg 3).toNatClampNeg) (m := (zgF st 22 b.toNatClampNeg 3).toNatClampNeg) e12 x2 y2 (fun i => qj_53) hC' ?_ zfu 0 (Nat.zero_le _) (by unfold zfu; omega)
  rw [e63, e63]
  unfold w_X7_cracks w_X3_pairs w_X3_apart
  rw [e22, e22, qj_51, qj_52, show (0 : Int32).toNatClampNeg = 0 from rfl]
  have v0 : vp_in 0 441 := q_vpi (by decide) (by decide)
  refine ⟨fun z => ⟨v0, ?_⟩, fun z => ?_, fun z => ⟨v0, ?_⟩, fun z => ⟨v0, ?_⟩, fun z => ⟨v0, ?_⟩⟩
  · refine M _ (fun A' B' C' t ht eA eB => ?_)
    subst ht
    exact ⟨fun w => fin _ _ _ _ _ rfl, fun w => absurd (z.symm.trans w) (by decide), fun w => absurd (z.symm.trans w) (by decide), fun w => absurd (z.symm.trans w) (by decide), fun w => absurd z w.1⟩
  · refine M _ (fun A' B' C' t ht eA eB => ?_)
    subst ht
    exact ⟨fun w => absurd (z.symm.trans w) (by decide), fun w => fin _ _ _ _ _ rfl, fun w => absurd (z.symm.trans w) (by decide), fun w => absurd (z.symm.trans w) (by decide), fun w => absurd z w.2.1⟩
  · refine M _ (fun A' B' C' t ht eA eB => ?_)
    subst ht
    exact ⟨fun w => absurd (z.symm.trans w) (by decide), fun w => absurd (z.symm.trans w) (by decide), fun w => fin _ _ _ _ _ (by rw [← y1]), fun w => absurd (z.symm.trans w) (by decide), fun w => absurd z w.2.2.1⟩
  · refine M _ (fun A' B' C' t ht eA eB => ?_)
    subst ht
    exact ⟨fun w => absurd (z.symm.trans w) (by decide), fun w => absurd (z.symm.trans w) (by decide), fun w => absurd (z.symm.trans w) (by decide), fun w => fin _ _ _ _ _ (by rw [← x1]), fun w => absurd z w.2.2.2⟩
  · refine M _ (fun A' B' C' t ht eA eB => ?_)
    subst ht
    exact ⟨fun w => absurd w z.1, fun w => absurd w z.2.1, fun w => absurd w z.2.2.1, fun w => absurd w z.2.2.2, fun w => fin _ _ _ _ _ rfl⟩

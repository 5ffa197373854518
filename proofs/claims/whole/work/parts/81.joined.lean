/-! pairs of the model; pair, joined -/
theorem lm_pick1 {P : zTs → Prop} {K : zTs → Int32 → Int32 → Int32 → Int32 → Int32 → Int32 → Prop} {s : zTs} {a b near : Int32} {n m i nx : Nat} {pa pb A B C : Nat → Int32} (a0 : ¬ a < 0) (a9 : a.toNatClampNeg < 10) (b0 : ¬ b < 0) (b9 : b.toNatClampNeg < 10) (hpa : ∀ j, j < 20 → zgA s 154 0 (20 * a.toNatClampNeg + j) = pa j) (hpb : ∀ j, j < 20 → zgA s 154 0 (20 * b.toNatClampNeg + j) = pb j) (hnr : zgA s 103 0 12 = near) (n20 : n ≤ 20) (m20 : m ≤ 20) (hi : i < n) (hnx : nx ≤ m) (hC : C i = -1) (hq : QT (qds2 pa pb n m) near n m 0 0 A B)
    (no : qfn (qtk (qds2 pa pb n m) near (fun i j => qab (pa i - pb j)) n m i nx) (m - nx) nx = none → K (qjm s A B C) a b (Int32.ofNat n) (Int32.ofNat m) (Int32.ofNat nx) (Int32.ofNat i + 1))
    (yes : ∀ j', qfn (qtk (qds2 pa pb n m) near (fun i j => qab (pa i - pb j)) n m i nx) (m - nx) nx = some j' → K (qjm s A B (qst1 C i (Int32.ofNat j'))) a b (Int32.ofNat n) (Int32.ofNat m) (Int32.ofNat j' + 1) (Int32.ofNat i + 1)) : ∀ (f j : Nat), nx ≤ j → j ≤ m → m + 1 - j < f → qfn (qtk (qds2 pa pb n m) near (fun i j => qab (pa i - pb j)) n m i nx) (m - nx) nx = qfn (qtk (qds2 pa pb n m) near (fun i j => qab (pa i - pb j)) n m i nx) (m - j) j → w_X12_joins_256 P K f (qjm s A B C) a b (Int32.ofNat n) (Int32.ofNat m) (Int32.ofNat nx) (Int32.ofNat i) (Int32.ofNat (21 * i + nx)) (Int32.ofNat j) := by
  intro f
  induction f with
  | zero => intro j h0 h1 h2; omega
  | succ f ih =>
    intro j h0 h1 h2 he
    have vi : vp_in (Int32.ofNat i) 20 := q_nv (by omega) (by omega)
    have v12 : vp_in 12 15 := q_vpi (by decide) (by decide)
    have e12 : zgA (qjm s A B C) 103 0 (12 : Int32).toNatClampNeg = near := by rw [show (12 : Int32).toNatClampNeg = 12 from rfl, qjm_A (k := 103) (by decide) (by decide) (by decide)]; exact hnr
    rw [w_X12_joins_256]
    refine ⟨fun c => ?_, fun c => ⟨vi, fun c2 => ?_, fun c2 => ?_⟩⟩
    · rw [q_nle (by omega) (by omega)] at c
      rw [show m - j = 0 by omega] at he
      unfold w_X12_joins_364
      rw [q_on (n := i) (by omega), qjm_8, hC]
      exact ⟨vi, fun _ x hx => by subst hx; exact no he, fun z => absurd (by decide) z⟩
    · exfalso
      rw [q_on (n := i) (by omega), qjm_8, hC] at c2
      exact absurd c2 (by decide)
    · rw [q_nle (by omega) (by omega)] at c
      have rs : m - j = (m - (j + 1)) + 1 := by omega
      rw [rs, qfn] at he
      obtain ⟨p1, p2⟩ := hq (i + 1) (j + 1) (by omega) (by omega) (by omega)
      obtain ⟨p3, p4⟩ := hq i nx (by omega) (by omega) (by omega)
      have next : qtk (qds2 pa pb n m) near (fun i j => qab (pa i - pb j)) n m i nx j = false → w_X12_joins_358 P K (w_X12_joins_256 P K f) (qjm s A B C) a b (Int32.ofNat n) (Int32.ofNat m) (Int32.ofNat nx) (Int32.ofNat i) (Int32.ofNat (21 * i + nx)) (Int32.ofNat j) := by
        intro hf x hx
        subst hx
        rw [q_os (by omega)]
        rw [hf, if_neg (by decide)] at he
        exact ih (j + 1) (by omega) (by omega) (by omega) he
      refine im_far a0 a9 b0 b9 (by omega) (by omega) ?_
      rw [qjm_A (k := 154) (by decide) (by decide) (by decide), qjm_A (k := 154) (by decide) (by decide) (by decide), hpa i (by omega), hpb j (by omega)]
      have v1 : vp_in (Int32.ofNat (21 * (i + 1) + (j + 1))) 441 := q_nv (by omega) (by omega)
      have v2 : vp_in (Int32.ofNat (21 * i + nx)) 441 := q_nv (by omega) (by omega)
      unfold w_X12_cellOf
      rw [q_os (n := i) (by omega), q_os (n := j) (by omega), q_c21e (by omega) (by omega)]
      dsimp only
      rw [e12, q_on (n := 21 * (i + 1) + (j + 1)) (by omega), q_on (n := 21 * i + nx) (by omega), q_on (n := i) (by omega), qjm_6, qjm_6, qjm_7, qjm_7, p1, p2, p3, p4]
      refine ⟨v12, fun z => next ?_, fun z => ⟨v1, v2, fun z2 => ⟨v1, v2, fun z3 => ⟨vi, fun u hu w hw => ?_⟩, fun z3 => next ?_⟩, fun z2 => next ?_⟩⟩
      · unfold qtk; dsimp only; rw [if_pos z]
      · subst hu
        subst hw
        rw [qjm_c, q_os (by omega)]
        have yes' : qtk (qds2 pa pb n m) near (fun i j => qab (pa i - pb j)) n m i nx j = true := by
          unfold qtk
          dsimp only
          rw [if_neg z, decide_eq_true z2, decide_eq_true z3]
          rfl
        rw [yes', if_pos rfl] at he
        have fin := yes j he
        obtain ⟨f', rfl⟩ : ∃ f', f = f' + 1 := ⟨f - 1, by omega⟩
        have st : w_X12_joins_364 P K (qjm s A B (qst1 C i (Int32.ofNat j))) a b (Int32.ofNat n) (Int32.ofNat m) (Int32.ofNat nx) (Int32.ofNat i) := by
          unfold w_X12_joins_364
          rw [q_on (n := i) (by omega), qjm_8, qst1_at]
          exact ⟨vi, fun q => absurd q (q_n0 (by omega)), fun _ => ⟨vi, fun x hx y hy => by subst hx; subst hy; exact fin⟩⟩
        rw [w_X12_joins_256]
        refine ⟨fun _ => st, fun _ => ⟨vi, fun _ => st, fun q => ?_⟩⟩
        exfalso
        rw [q_on (n := i) (by omega), qjm_8, qst1_at] at q
        exact q (Int32.not_lt.mp (q_n0 (by omega)))
      · unfold qtk; dsimp only; rw [if_neg z, decide_eq_false z3, Bool.and_false]
      · unfold qtk; dsimp only; rw [if_neg z, decide_eq_false z2, Bool.false_and]
theorem lm_pick {P : zTs → Prop} {s : zTs} {a b near : Int32} {n m : Nat} {pa pb A B : Nat → Int32} (a0 : ¬ a < 0) (a9 : a.toNatClampNeg < 10) (b0 : ¬ b < 0) (b9 : b.toNatClampNeg < 10) (hpa : ∀ j, j < 20 → zgA s 154 0 (20 * a.toNatClampNeg + j) = pa j) (hpb : ∀ j, j < 20 → zgA s 154 0 (20 * b.toNatClampNeg + j) = pb j) (hnr : zgA s 103 0 12 = near) (n20 : n ≤ 20) (m20 : m ≤ 20) (hq : QT (qds2 pa pb n m) near n m 0 0 A B)
    (fin : ∀ C, (∀ i, i < n → C i = qpv (qds2 pa pb n m) near (fun i j => qab (pa i - pb j)) n m i) → P (qjm s A B C)) : ∀ (f i : Nat) (C : Nat → Int32), i ≤ n → n - i < f → (∀ i', i' < i → C i' = qpv (qds2 pa pb n m) near (fun i j => qab (pa i - pb j)) n m i') → w_X12_joins_229 P f (qjm s A B C) a b (Int32.ofNat n) (Int32.ofNat m) (Int32.ofNat (qnx (qds2 pa pb n m) near (fun i j => qab (pa i - pb j)) n m i)) (Int32.ofNat i) := by
  intro f
  induction f with
  | zero => intro i C h0 h1; omega
  | succ f ih =>
    intro i C h0 h1 hC
    rw [w_X12_joins_229]
    have nle := qnx_le (D := qds2 pa pb n m) (near := near) (dst := fun i j => qab (pa i - pb j)) (n := n) (m := m) i
    refine ⟨fun c => ?_, fun c => ⟨q_nv (by rw [q_nle (by omega) (by omega)] at c; omega) (by omega), fun u hu => ?_⟩⟩
    · rw [q_nle (by omega) (by omega)] at c
      exact fin C (fun i' hi' => hC i' (by omega))
    · rw [q_nle (by omega) (by omega)] at c
      rw [q_on (by omega), qjm_c] at hu
      subst hu
      unfold w_X12_cellOf
      rw [q_c21e (by omega) (by omega)]
      refine lm_pick1 a0 a9 b0 b9 hpa hpb hnr n20 m20 (by omega) nle qst1_at hq (fun e => ?_) (fun j' e => ?_) zfu _ (Nat.le_refl _) nle (by unfold zfu; omega) rfl
      · rw [q_os (by omega)]
        have h3 : qnx (qds2 pa pb n m) near (fun i j => qab (pa i - pb j)) n m (i + 1) = qnx (qds2 pa pb n m) near (fun i j => qab (pa i - pb j)) n m i := by rw [qnx, e]
        rw [← h3]
        refine ih (i + 1) _ (by omega) (by omega) (fun i' hi' => ?_)
        by_cases q : i' = i
        · rw [q, qst1_at]; unfold qpv; rw [e]
        · rw [qst1_ne q]; exact hC i' (by omega)
      · have jl := qfn_in _ _ _ e
        rw [q_os (by omega), q_os (by omega), qst1_2]
        have h3 : qnx (qds2 pa pb n m) near (fun i j => qab (pa i - pb j)) n m (i + 1) = j' + 1 := by rw [qnx, e]
        rw [← h3]
        refine ih (i + 1) _ (by omega) (by omega) (fun i' hi' => ?_)
        by_cases q : i' = i
        · rw [q, qst1_at]; unfold qpv; rw [e]
        · rw [qst1_ne q]; exact hC i' (by omega)
theorem qpv_in {D : Nat → Nat → Int32} {near : Int32} {dst : Nat → Nat → Int32} {n m i : Nat} : qpv D near dst n m i = -1 ∨ ∃ j, j < m ∧ qpv D near dst n m i = Int32.ofNat j := by
  unfold qpv
  split
  · rename_i j h
    have h1 := qfn_in _ _ _ h
    have h2 := qnx_le (D := D) (near := near) (dst := dst) (n := n) (m := m) i
    exact .inr ⟨j, by omega, rfl⟩
  · exact .inl rfl
theorem qj_self {s : zTs} : qj s (zgA s 51 0) (zgA s 52 0) (zgA s 53 0) = s := by
  unfold qj
  rw [zuA_self, zuA_self, zuA_self]
theorem qjm_self {s : zTs} : qjm s (zgA s 156 0) (zgA s 157 0) (zgA s 158 0) = s := by
  unfold qjm
  rw [zuA_self, zuA_self, zuA_self]
theorem QT_end {D : Nat → Nat → Int32} {near : Int32} {n m : Nat} {A B : Nat → Int32} : QT D near n m (n + 1) 0 A B := fun i' j' h1 h2 h3 => by omega
theorem i_join {P : zTs → Prop} {st : zTs} {a1 a2 n m : Nat} {near : Int32} (hn : zgF st 22 a1 3 = Int32.ofNat n) (hm : zgF st 22 a2 3 = Int32.ofNat m) (n20 : n ≤ 20) (m20 : m ≤ 20)
    (fin : ∀ A B C, QT (qds2 (zgA st 62 a1) (zgA st 62 a2) n m) near n m 0 0 A B → (∀ i, i < n → C i = qpv (qds2 (zgA st 62 a1) (zgA st 62 a2) n m) near (fun i j => qab (zgA st 62 a1 i - zgA st 62 a2 j)) n m i) → P (qj (zuF st 12 0 3 (Int32.ofNat n)) A B C)) : w_X3_join st a1 a2 near P := by
  unfold w_X3_join w_X7_cracks
  rw [hn]
  intro s5 h5
  have eA : zgA s5 = zgA st := by subst h5; exact q_AuF ..
  have n5 : zgF s5 22 a1 3 = Int32.ofNat n := by subst h5; simp only [q_NuF, q_FuF, q_PuF, q_OuF, q_AuF, q_RuF, q_LuF, q_JuF, q_NuP, q_FuP, q_PuP, q_OuP, q_AuP, q_RuP, q_LuP, q_JuP, q_NuO, q_FuO, q_PuO, q_OuO, q_AuO, q_RuO, q_LuO, q_JuO, q_NuA, q_FuA, q_PuA, q_OuA, q_AuA, q_RuA, q_LuA, q_JuA, q_NuR, q_FuR, q_PuR, q_OuR, q_AuR, q_RuR, q_LuR, q_JuR, q_NuJ, q_FuJ, q_PuJ, q_OuJ, q_AuJ, q_RuJ, q_LuJ, q_JuJ, q_NuL, q_FuL, q_PuL, q_OuL, q_AuL, q_RuL, q_LuL, q_JuL, q_NuB, q_FuB, q_PuB, q_OuB, q_AuB, q_RuB, q_LuB, q_JuB, q_NuW, q_FuW, q_PuW, q_OuW, q_AuW, q_RuW, q_LuW, q_JuW, q_NuV, q_FuV, q_PuV, q_OuV, q_AuV, q_RuV, q_LuV, q_JuV, q_NuU, q_FuU, q_PuU, q_OuU, q_AuU, q_RuU, q_LuU, q_JuU, q_NuX, q_FuX, q_PuX, q_OuX, q_AuX, q_RuX, q_LuX, q_JuX, q_NuR4, q_FuR4, q_PuR4, q_OuR4, q_AuR4, q_RuR4, q_LuR4, q_JuR4, Nat.reduceEqDiff, reduceIte, and_true, true_and, and_false, false_and, and_self, if_true, if_false, not_true_eq_false, not_false_eq_true]; exact hn
  have m5 : zgF s5 22 a2 3 = Int32.ofNat m := by subst h5; simp only [q_NuF, q_FuF, q_PuF, q_OuF, q_AuF, q_RuF, q_LuF, q_JuF, q_NuP, q_FuP, q_PuP, q_OuP, q_AuP, q_RuP, q_LuP, q_JuP, q_NuO, q_FuO, q_PuO, q_OuO, q_AuO, q_RuO, q_LuO, q_JuO, q_NuA, q_FuA, q_PuA, q_OuA, q_AuA, q_RuA, q_LuA, q_JuA, q_NuR, q_FuR, q_PuR, q_OuR, q_AuR, q_RuR, q_LuR, q_JuR, q_NuJ, q_FuJ, q_PuJ, q_OuJ, q_AuJ, q_RuJ, q_LuJ, q_JuJ, q_NuL, q_FuL, q_PuL, q_OuL, q_AuL, q_RuL, q_LuL, q_JuL, q_NuB, q_FuB, q_PuB, q_OuB, q_AuB, q_RuB, q_LuB, q_JuB, q_NuW, q_FuW, q_PuW, q_OuW, q_AuW, q_RuW, q_LuW, q_JuW, q_NuV, q_FuV, q_PuV, q_OuV, q_AuV, q_RuV, q_LuV, q_JuV, q_NuU, q_FuU, q_PuU, q_OuU, q_AuU, q_RuU, q_LuU, q_JuU, q_NuX, q_FuX, q_PuX, q_OuX, q_AuX, q_RuX, q_LuX, q_JuX, q_NuR4, q_FuR4, q_PuR4, q_OuR4, q_AuR4, q_RuR4, q_LuR4, q_JuR4, Nat.reduceEqDiff, reduceIte, and_true, true_and, and_false, false_and, and_self, if_true, if_false, not_true_eq_false, not_false_eq_true]; exact hm
  rw [← h5] at fin
  rw [← eA] at fin
  unfold w_X3_fillFromTheEnd w_X7_cracks
  rw [n5, ← qdn_s (k := n) (by omega)]
  have W := l_fill (P := fun s12 => w_X3_choosePairs s12 a1 a2 near P) (near := near) (C := zgA s5 53 0) n5 m5 n20 m20 (fun A B hq => ?_) zfu (n + 1) (zgA s5 51 0) (zgA s5 52 0) (Nat.le_refl _) (by unfold zfu; omega) QT_end
  · rw [qj_self] at W
    exact W
  · exact l_pick (P := P) n5 m5 n20 m20 hq (fun C hC => fin A B C hq hC) zfu 0 (zgA s5 53 0) (Nat.zero_le _) (by unfold zfu; omega) (fun i' hi' => by omega)
theorem im_joins {P : zTs → Prop} {s : zTs} {a b near : Int32} {n m : Nat} {pa pb : Nat → Int32} (a0 : ¬ a < 0) (a9 : a.toNatClampNeg < 10) (b0 : ¬ b < 0) (b9 : b.toNatClampNeg < 10) (hpa : ∀ j, j < 20 → zgA s 154 0 (20 * a.toNatClampNeg + j) = pa j) (hpb : ∀ j, j < 20 → zgA s 154 0 (20 * b.toNatClampNeg + j) = pb j) (hnr : zgA s 103 0 12 = near) (hn : zgA s 153 0 a.toNatClampNeg = Int32.ofNat n) (hm : zgA s 153 0 b.toNatClampNeg = Int32.ofNat m) (n20 : n ≤ 20) (m20 : m ≤ 20)
    (fin : ∀ A B C, QT (qds2 pa pb n m) near n m 0 0 A B → (∀ i, i < n → C i = qpv (qds2 pa pb n m) near (fun i j => qab (pa i - pb j)) n m i) → P (qjm s A B C)) : w_X12_joins s a b P := by
  refine ⟨q_i30 a0 a9, fun x hx => ⟨q_i30 b0 b9, fun y hy => ?_⟩⟩
  rw [hn] at hx
  rw [hm] at hy
  subst hx
  subst hy
  have W := lm_fill (P := P) (C := zgA s 158 0) a0 a9 b0 b9 hpa hpb hnr n20 m20 (fun A B hq => lm_pick (P := P) a0 a9 b0 b9 hpa hpb hnr n20 m20 hq (fun C hC => fin A B C hq hC) zfu 0 (zgA s 158 0) (Nat.zero_le _) (by unfold zfu; omega) (fun i' hi' => by omega)) zfu (n + 1) (zgA s 156 0) (zgA s 157 0) (Nat.le_refl _) (by unfold zfu; omega) QT_end
  rw [qjm_self, qdn_s (by omega)] at W
  exact W
theorem i_surveyAt {X : Nat → Prop} {P : Nat → Prop} {st : zTs} {a : Int32} (h : qR st) (hX : (a < 0 ∨ ¬ a < zgF st 32 0 2) → X 0) (hY : ¬ a < 0 → a < zgF st 32 0 2 → a.toNatClampNeg < zgN st 22 → a.toNatClampNeg < 10 → P a.toNatClampNeg) : w_X11_surveyAt st a X P := by
  obtain ⟨hD, hO, hT, hP, hW, hC, hR, hK, hS, hB, hH, hG⟩ := h
  unfold w_X11_surveyAt w_X11_surveyAt_15 w_Jx4a65c_size_8abf5_r32
  refine ⟨fun c => hX (.inl c), fun c1 => ⟨fun c2 => ?_, fun c => hX (.inr c)⟩⟩
  obtain ⟨hk, -⟩ := q_idx hH.2.1.1 c1 c2
  exact i_get32 hH.2.1.1 (Int32.not_lt.mp c1) c2 (hY c1 c2 hk (by have := hH.2.1.2.2.1; omega))
theorem im_survN {P : Int32 → Prop} {s t : zTs} {a : Int32} (m : qmc s t) (hH : GH s) (c : a < 0 ∨ ¬ a < zgF s 32 0 2) (h : P 0) : w_X12_isSurvey t a P := by
  have e : zgF t 100 0 67 = zgF s 32 0 2 := (m.2 67 (by decide)).trans hH.2.1.2.1
  unfold w_X12_isSurvey
  rw [e]
  exact ⟨fun _ => h, fun c3 => ⟨fun _ => h, fun c4 => absurd (Int32.not_le.mp c4) (c.resolve_left c3)⟩⟩
theorem im_survY {P : Int32 → Prop} {s t : zTs} {a : Int32} (m : qmc s t) (hH : GH s) (c1 : ¬ a < 0) (c2 : a < zgF s 32 0 2) (h : P 1) : w_X12_isSurvey t a P := by
  have e : zgF t 100 0 67 = zgF s 32 0 2 := (m.2 67 (by decide)).trans hH.2.1.2.1
  unfold w_X12_isSurvey
  rw [e]
  exact ⟨fun c => absurd c c1, fun _ => ⟨fun c => absurd c2 (Int32.not_lt.mpr c), fun _ => h⟩⟩
/-- a survey, class and model -/
theorem GH_at {s : zTs} {a : Nat} (h : GH s) (hk : a < zgN s 22) : zgF s 22 a 3 = Int32.ofNat (zgF s 22 a 3).toNatClampNeg ∧ (zgF s 22 a 3).toNatClampNeg ≤ 20 ∧ zgA s 153 0 a = zgF s 22 a 3 ∧ (∀ j, j < 20 → zgA s 154 0 (20 * a + j) = zgA s 62 a j) ∧ (∀ j, j < (zgF s 22 a 3).toNatClampNeg → zgA s 63 a j = zgA s 155 0 (20 * a + j) - zgA s 151 0 (zgA s 152 0 a).toNatClampNeg) ∧ vp_in (zgA s 152 0 a) 5 := by
  obtain ⟨⟨h0, h1, h2, -⟩, -, h4, -⟩ := h
  obtain ⟨⟨a1, a2, a3⟩, ⟨a4, a5, a6⟩, a7⟩ := h4 a hk
  have e := q_t0 a5
  have n20 : (zgF s 22 a 3).toNatClampNeg ≤ 20 := by
    rw [Int32.le_iff_toInt_le, show (20 : Int32).toInt = 20 from rfl] at a6
    omega
  refine ⟨q_of_toInt e, n20, a4, fun j hj => (a7 j hj).1, fun j hj => ?_, q_vpi (by simp only [q_ti]; lia) (by simp only [q_ti]; lia)⟩
  rw [a3]
  exact (a7 j (by omega)).2.2.2 (by omega)
theorem b_pair {st : zTs} {a b c : Int32} (h : qR st) : w_X11_pair st a b c (fun k s => k = 0 ∧ w_X12_pair s a b c (zOK 1 0)) (fun r s => w_X12_pair s a b c (zOK 0 r)) := by
  have h0 := h
  obtain ⟨hD, hO, hT, hP, hW, hC, hR, hK, hS, hB, hH, hG⟩ := h
  have mm : qmc st (zuF st 100 0 0 0) := (by repeat (first | exact qmc_rf | apply qmc_F0 | (refine qmc_F ?_ (by decide)) | (refine qmc_A ?_ (by decide)) | apply qmc_O | apply qmc_R | apply qmc_W | (refine qmc_V ?_ (by decide)) | apply qmc_U))
  have bad : ((a < 0 ∨ ¬ a < zgF st 32 0 2) ∨ (b < 0 ∨ ¬ b < zgF st 32 0 2)) → w_X12_pair st a b c (zOK 1 0) := by
    intro hn u hu
    subst hu
    have B : w_X12_pair_27 (zOK 1 0) (zuF st 100 0 0 0) a b c 1 := i_bad1 ⟨fun e => absurd e (by decide), fun _ => zOK_t (qR_th h0) (by decide)⟩
    by_cases ca : a < 0 ∨ ¬ a < zgF st 32 0 2
    · exact im_survN mm hH ca ⟨fun _ => B, fun z => absurd rfl z⟩
    · have ca' : ¬ a < 0 ∧ a < zgF st 32 0 2 := ⟨fun z => ca (.inl z), Classical.not_not.mp (fun z => ca (.inr z))⟩
      exact im_survY mm hH ca'.1 ca'.2 ⟨fun z => absurd z (by decide), fun _ => im_survN mm hH (hn.resolve_left ca) ⟨fun _ => B, fun z => absurd rfl z⟩⟩
  unfold w_X11_pair
  refine i_surveyAt h0 (fun z => ⟨rfl, bad (.inl z)⟩) (fun a1 a2 ka a9 => ?_)
  refine i_surveyAt h0 (fun z => ⟨rfl, bad (.inr z)⟩) (fun b1 b2 kb b9 => ?_)
  obtain ⟨x1, x2, x3, x4, x5, x6⟩ := GH_at hH ka
  obtain ⟨y1, y2, y3, y4, y5, y6⟩ := GH_at hH kb
  obtain ⟨-, -, -, -, rr, -⟩ := id hR
  have r12 : zgA st 103 0 12 = zgF st 24 (zgP st 10 0 16) 11 := rr.2.1.2.2.2.2.1
  refine i_join x1 y1 x2 y2 (fun A B C hq hC => ?_)
  have m1 : qmc st (qj (zuF st 12 0 3 (Int32.ofNat (zgF st 22 a.toNatClampNeg 3).toNatClampNeg)) A B C) := qmc_B (qmc_B (qmc_B (qmc_F qmc_rf (by decide)) (by decide)) (by decide)) (by decide)
  have m0 := qmc_F0 (x := 0) m1
  have M : ∀ P : Int32 → zTs → Prop, (∀ A' B' C', (∀ i, i < (zgF st 22 a.toNatClampNeg 3).toNatClampNeg → C' i = C i) → ((c < 0 → P (-1) (qjm (zuF (qj (zuF st 12 0 3 (Int32.ofNat (zgF st 22 a.toNatClampNeg 3).toNatClampNeg)) A B C) 100 0 0 0) A' B' C')) ∧ (¬ c < 0 → (zgF st 22 a.toNatClampNeg 3 ≤ c → P (-1) (qjm (zuF (qj (zuF st 12 0 3 (Int32.ofNat (zgF st 22 a.toNatClampNeg 3).toNatClampNeg)) A B C) 100 0 0 0) A' B' C')) ∧ (¬ zgF st 22 a.toNatClampNeg 3 ≤ c → vp_in c 20 ∧ P (C' c.toNatClampNeg) (qjm (zuF (qj (zuF st 12 0 3 (Int32.ofNat (zgF st 22 a.toNatClampNeg 3).toNatClampNeg)) A B C) 100 0 0 0) A' B' C'))))) → w_X12_pair (qj (zuF st 12 0 3 (Int32.ofNat (zgF st 22 a.toNatClampNeg 3).toNatClampNeg)) A B C) a b c P := by
    intro P k u hu
    subst hu
    refine im_survY m0 hH a1 a2 ⟨fun z => absurd z (by decide), fun _ => im_survY m0 hH b1 b2 ⟨fun z => absurd z (by decide), fun _ => i_bad0 ⟨fun _ => ?_, fun z => absurd rfl z⟩⟩⟩
    refine im_joins (near := zgF st 24 (zgP st 10 0 16) 11) (pa := zgA st 62 a.toNatClampNeg) (pb := zgA st 62 b.toNatClampNeg) a1 a9 b1 b9 (fun j hj => (m0.1 154 (by decide) _ _).trans (x4 j hj)) (fun j hj => (m0.1 154 (by decide) _ _).trans (y4 j hj)) ((m0.1 103 (by decide) _ _).trans r12) ((m0.1 153 (by decide) _ _).trans (x3.trans x1)) ((m0.1 153 (by decide) _ _).trans (y3.trans y1)) x2 y2 (fun A' B' C' hq' hC' => ?_)
    have e153 : zgA (qjm (zuF (qj (zuF st 12 0 3 (Int32.ofNat (zgF st 22 a.toNatClampNeg 3).toNatClampNeg)) A B C) 100 0 0 0) A' B' C') 153 0 a.toNatClampNeg = zgF st 22 a.toNatClampNeg 3 := by
      rw [qjm_A (k := 153) (by decide) (by decide) (by decide)]
      exact (m0.1 153 (by decide) _ _).trans x3
    obtain ⟨k1, k2⟩ := k A' B' C' (fun i hi => (hC' i hi).trans (hC i hi).symm)
    rw [e153, qjm_8]
    exact ⟨k1, fun z => ⟨q_i30 a1 a9, (k2 z).1, (k2 z).2⟩⟩
  have fin : ∀ (r : Int32) (A' B' C' : Nat → Int32), zOK 0 r r (qjm (zuF (qj (zuF st 12 0 3 (Int32.ofNat (zgF st 22 a.toNatClampNeg 3).toNatClampNeg)) A B C) 100 0 0 0) A' B' C') := by
    intro r A' B' C'
    unfold qjm qj
    refine ⟨by show qth _ = _; simp (disch := decide) only [qth_uF, qth_uF100, qth_uP, qth_uO, qth_uA, qth_uB, qth_uR, qth_uL, qth_uW, qth_uV, qth_uU, qth_uX, qth_set], fun _ => by first | rfl | lia, ?_⟩; simp (disch := decide) only [qR, GD_uF, GD_uF10, GD_uF100, GD_uP, GD_uO, GD_uA, GD_uB, GD_uR, GD_uJ, GD_uL, GD_uW, GD_uV, GD_uU, GD_uX, GD_uR4, GO_uF, GO_uF10, GO_uF100, GO_uP, GO_uO, GO_uA, GO_uB, GO_uR, GO_uJ, GO_uL, GO_uW, GO_uV, GO_uU, GO_uX, GO_uR4, GT_uF, GT_uF10, GT_uF100, GT_uP, GT_uO, GT_uA, GT_uB, GT_uR, GT_uJ, GT_uL, GT_uW, GT_uV, GT_uU, GT_uX, GT_uR4, GP_uF, GP_uF13, GP_uF100, GP_uP, GP_uO, GP_uA, GP_uB, GP_uR, GP_uJ, GP_uL, GP_uW, GP_uV, GP_uU, GP_uX, GP_uR4, GW_uF, GW_uF100, GW_uP, GW_uO, GW_uA, GW_uB, GW_uR, GW_uJ, GW_uL, GW_uW, GW_uV, GW_uU, GW_uX, GW_uR4, GC_uF, GC_uF10, GC_uP, GC_uO, GC_uA, GC_uB, GC_uR, GC_uJ, GC_uL, GC_uW, GC_uV, GC_uU, GC_uX, GC_uR4, GR_uF, GR_uF100, GR_uP, GR_uO, GR_uA, GR_uB, GR_uR, GR_uJ, GR_uL, GR_uW, GR_uV, GR_uU, GR_uX, GK_uF, GK_uF10, GK_uF100, GK_uP, GK_uO, GK_uA, GK_uB, GK_uR, GK_uJ, GK_uL, GK_uW, GK_uV, GK_uU, GK_uX, GK_uR4, GS_uF, GS_uF10, GS_uF100, GS_uP, GS_uO, GS_uA, GS_uB, GS_uR, GS_uJ, GS_uL, GS_uW, GS_uV, GS_uU, GS_uX, GS_uR4, GB_uF, GB_uF100, GB_uP, GB_uO, GB_uA, GB_uB, GB_uR, GB_uJ, GB_uL, GB_uW, GB_uV, GB_uU, GB_uX, GB_uR4, GH_uF, GH_uF10, GH_uF100, GH_uP, GH_uO, GH_uA, GH_uB, GH_uR, GH_uJ, GH_uL, GH_uW, GH_uV, GH_uU, GH_uX, GH_uR4, GG_uF, GG_uF100, GG_uP, GG_uO, GG_uA, GG_uB, GG_uR, GG_uJ, GG_uL, GG_uW, GG_uV, GG_uU, GG_uX, GG_uR4]; refine ⟨?_, ?_, ?_, ?_, ?_, ?_, ?_, ?_, ?_, ?_, ?_, ?_⟩ <;> try with_reducible assumption
  have e12 : zgF (qj (zuF st 12 0 3 (Int32.ofNat (zgF st 22 a.toNatClampNeg 3).toNatClampNeg)) A B C) 12 0 3 = zgF st 22 a.toNatClampNeg 3 := by
    rw [qj_F]
    simp only [q_NuF, q_FuF, q_PuF, q_OuF, q_AuF, q_RuF, q_LuF, q_JuF, q_NuP, q_FuP, q_PuP, q_OuP, q_AuP, q_RuP, q_LuP, q_JuP, q_NuO, q_FuO, q_PuO, q_OuO, q_AuO, q_RuO, q_LuO, q_JuO, q_NuA, q_FuA, q_PuA, q_OuA, q_AuA, q_RuA, q_LuA, q_JuA, q_NuR, q_FuR, q_PuR, q_OuR, q_AuR, q_RuR, q_LuR, q_JuR, q_NuJ, q_FuJ, q_PuJ, q_OuJ, q_AuJ, q_RuJ, q_LuJ, q_JuJ, q_NuL, q_FuL, q_PuL, q_OuL, q_AuL, q_RuL, q_LuL, q_JuL, q_NuB, q_FuB, q_PuB, q_OuB, q_AuB, q_RuB, q_LuB, q_JuB, q_NuW, q_FuW, q_PuW, q_OuW, q_AuW, q_RuW, q_LuW, q_JuW, q_NuV, q_FuV, q_PuV, q_OuV, q_AuV, q_RuV, q_LuV, q_JuV, q_NuU, q_FuU, q_PuU, q_OuU, q_AuU, q_RuU, q_LuU, q_JuU, q_NuX, q_FuX, q_PuX, q_OuX, q_AuX, q_RuX, q_LuX, q_JuX, q_NuR4, q_FuR4, q_PuR4, q_OuR4, q_AuR4, q_RuR4, q_LuR4, q_JuR4, Nat.reduceEqDiff, reduceIte, and_true, true_and, and_false, false_and, and_self, if_true, if_false, not_true_eq_false, not_false_eq_true]
    exact x1.symm
  unfold w_X3_partnerOf
  rw [e12]
  refine ⟨fun z => ?_, fun z => ⟨fun z2 => ?_, fun z2 => ?_⟩⟩
  · exact M _ (fun A' B' C' _ => ⟨fun _ => fin _ _ _ _, fun w => absurd z w⟩)
  · exact M _ (fun A' B' C' _ => ⟨fun w => absurd w z, fun _ => ⟨fun _ => fin _ _ _ _, fun w => absurd z2 w⟩⟩)
  · have hc : c.toNatClampNeg < (zgF st 22 a.toNatClampNeg 3).toNatClampNeg := by
      have e := q_t0 (Int32.not_lt.mp z)
      have z3 := Int32.not_le.mp z2
      rw [x1, Int32.lt_iff_toInt_lt, q_of (by omega)] at z3
      omega
    have vc : vp_in c 20 := q_i30 z (by omega)
    rw [qj_53]
    refine ⟨vc, M _ (fun A' B' C' hc' => ⟨fun w => absurd w z, fun _ => ⟨fun w => absurd w z2, fun _ => ⟨vc, ?_⟩⟩⟩)⟩
    rw [hc' _ hc]
    exact fin _ _ _ _

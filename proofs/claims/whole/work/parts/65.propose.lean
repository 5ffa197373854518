/-! what surveyors propose -/
theorem q_dm {d : Int32} (h : 0 ≤ d) : (d / 100).toInt = d.toInt / 100 ∧ (d - d / 100 * 100).toInt = d.toInt - d.toInt / 100 * 100 ∧ (d / 100 + 1).toInt = d.toInt / 100 + 1 := by
  have h0 := q_t0 h
  have s7 : (100 : Int32).toInt = 100 := rfl
  have s1 : (1 : Int32).toInt = 1 := rfl
  have hx := Int32.toInt_lt d
  have e1 : (d / 100).toInt = d.toInt / 100 := by rw [q_div (by omega) (by rw [s7]; decide), s7]
  have e2 : (d / 100 * 100).toInt = d.toInt / 100 * 100 := by rw [q_mul (by rw [e1, s7]; omega) (by rw [e1, s7]; omega), e1, s7]
  refine ⟨e1, ?_, ?_⟩
  · rw [q_sub (by rw [e2]; omega) (by rw [e2]; omega), e2]
  · rw [q_add (by rw [e1, s1]; omega) (by rw [e1, s1]; omega), e1, s1]
/-- the words of a proposal are in their ranges -/
def qpo (b c d e today : Int32) : Prop := ¬ b < 0 ∧ ¬ 2 < b ∧ ¬ c < today ∧ ¬ d < 0 ∧ ¬ (d - d / 100 * 100) ≤ (d / 100) ∧ ¬ 24 < (d - d / 100 * 100) ∧ ¬ e < 0 ∧ e ≤ 100
theorem qpo_d {b c d e today : Int32} (h : qpo b c d e today) : d ≤ 2324 := by
  obtain ⟨-, -, -, h4, h5, h6, -⟩ := h
  have d0 := Int32.not_lt.mp h4
  obtain ⟨e1, e2, e3⟩ := q_dm d0
  rw [Int32.le_iff_toInt_le, e1, e2] at h5
  rw [Int32.lt_iff_toInt_lt, e2, show (24 : Int32).toInt = 24 from rfl] at h6
  rw [Int32.le_iff_toInt_le, show (2324 : Int32).toInt = 2324 from rfl]
  omega
theorem im_propose {P : Int32 → zTs → Prop} {t : zTs} {a b c d e today : Int32} (hd : zgF t 100 0 3 = today) (y : qpo b c d e today → w_X12_propose_60 P t a b c d e 0) (n : ¬ qpo b c d e today → w_X12_propose_60 P t a b c d e 1) : w_X12_propose t a b c d e P := by
  unfold w_X12_propose w_X12_isWhich
  rw [hd]
  exact ⟨fun h => ⟨fun _ => n (fun z => z.1 h), fun z => absurd rfl z⟩, fun h1 => ⟨fun h => ⟨fun _ => n (fun z => z.2.1 h), fun z => absurd rfl z⟩, fun h2 => ⟨fun z => absurd z (by decide), fun _ => ⟨fun h => n (fun z => z.2.2.1 h), fun h3 => ⟨fun h => n (fun z => z.2.2.2.1 h), fun h4 => ⟨fun h => n (fun z => z.2.2.2.2.1 h), fun h5 => ⟨fun h => n (fun z => z.2.2.2.2.2.1 h), fun h6 => ⟨fun h => n (fun z => z.2.2.2.2.2.2.1 h), fun h7 => ⟨fun h => y ⟨h1, h2, h3, h4, h5, h6, h7, h⟩, fun h => n (fun z => h z.2.2.2.2.2.2.2)⟩⟩⟩⟩⟩⟩⟩⟩⟩
theorem q_o3 {w : Nat} (hw : w < 4) : (Int32.ofNat w).toNatClampNeg = w ∧ ¬ Int32.ofNat w < 0 ∧ (3 ≤ Int32.ofNat w ↔ 3 ≤ w) ∧ Int32.ofNat w + 1 = Int32.ofNat (w + 1) := by
  have : w = 0 ∨ w = 1 ∨ w = 2 ∨ w = 3 := by omega
  rcases this with rfl | rfl | rfl | rfl <;> decide
theorem l_alike {P : Int32 → Prop} {st : zTs} {k n : Nat} {b : Int32} {A : Nat → Prop} (hA : ∀ w, w < 3 → (A w ↔ (¬ Int32.ofNat w = b ∧ ∃ y, zgR st 67 k w = some y ∧ zgF st 25 y 0 = zgF st 25 n 0 ∧ zgF st 25 y 1 = zgF st 25 n 1 ∧ zgF st 25 y 2 = zgF st 25 n 2))) : ∀ (m w : Nat), w ≤ 3 → 3 - w < m → ((∃ v, w ≤ v ∧ v < 3 ∧ A v) → P 1) → ((∀ v, w ≤ v → v < 3 → ¬ A v) → P 0) → w_X10_hasAlike_2 P st m k b n (Int32.ofNat w) := by
  intro m
  induction m with
  | zero => intro w h0 h1; omega
  | succ m ih =>
    intro w h0 h1 y0 n0
    obtain ⟨q1, q2, q3, q4⟩ := q_o3 (w := w) (by omega)
    rw [w_X10_hasAlike_2]
    refine ⟨fun c => n0 (fun v h2 h3 => by have := q3.mp c; omega), fun c => ?_⟩
    have hw : w < 3 := by
      have : ¬ 3 ≤ w := fun z => c (q3.mpr z)
      omega
    rw [q1]
    refine ⟨q_i30 q2 (by rw [q1]; exact hw), fun q hq => ?_⟩
    have next : ¬ A w → w_X10_hasAlike_2 P st m k b n (Int32.ofNat w + 1) := by
      intro na
      rw [q4]
      refine ih (w + 1) (by omega) (by omega) (fun ⟨v, h2, h3, h4⟩ => y0 ⟨v, by omega, h3, h4⟩) (fun z => n0 (fun v h2 h3 => ?_))
      by_cases e : v = w
      · rw [e]; exact na
      · exact z v (by omega) h3
    refine ⟨fun e u hu => by subst hu; exact next (fun z => ((hA w hw).mp z).1 e), fun e => ⟨fun e1 u hu => ?_, fun y e1 => ?_⟩⟩
    · subst hu
      refine next (fun z => ?_)
      obtain ⟨-, y, h2, -⟩ := (hA w hw).mp z
      rw [← hq, e1] at h2
      cases h2
    · rw [hq] at e1
      have other : ¬ (zgF st 25 y 0 = zgF st 25 n 0 ∧ zgF st 25 y 1 = zgF st 25 n 1 ∧ zgF st 25 y 2 = zgF st 25 n 2) → ¬ A w := by
        intro z z2
        obtain ⟨-, y', h2, h3⟩ := (hA w hw).mp z2
        rw [e1] at h2
        cases h2
        exact z h3
      refine ⟨fun f0 => ⟨fun f1 => ⟨fun f2 => ⟨fun z => absurd z (by decide), fun _ => y0 ⟨w, by omega, hw, (hA w hw).mpr ⟨e, y, e1, f0, f1, f2⟩⟩⟩, fun f2 => ⟨fun _ u hu => by subst hu; exact next (other (fun z => f2 z.2.2)), fun z => absurd rfl z⟩⟩, fun f1 => ⟨fun _ u hu => by subst hu; exact next (other (fun z => f1 z.2.1)), fun z => absurd rfl z⟩⟩, fun f0 => ⟨fun _ u hu => by subst hu; exact next (other (fun z => f0 z.1)), fun z => absurd rfl z⟩⟩
theorem i_awardAs {P : zTs → Prop} {st : zTs} {k n : Nat} {d : Int32} (h : P (zuF (zuF (zuF (zuO (zuR (zuR (zuR st 67 k 0 none) 67 k 1 none) 67 k 2 none) 21 k 10 (some n)) 21 k 11 d) 21 k 4 3) 21 k 7 (zgF st 25 n 0))) : w_X10_awardAs st k n d P := by
  show w_X10_awardAs_2 P (99996 + 1 + 1 + 1 + 1) st k n d 0
  rw [w_X10_awardAs_2]
  refine ⟨fun c => absurd c (by decide), fun _ => ⟨q_vpi (by decide) (by decide), fun u hu x hx => ?_⟩⟩
  subst hu
  subst hx
  rw [show (0 : Int32) + 1 = 1 from rfl, w_X10_awardAs_2]
  refine ⟨fun c => absurd c (by decide), fun _ => ⟨q_vpi (by decide) (by decide), fun u hu x hx => ?_⟩⟩
  subst hu
  subst hx
  rw [show (1 : Int32) + 1 = 2 from rfl, w_X10_awardAs_2]
  refine ⟨fun c => absurd c (by decide), fun _ => ⟨q_vpi (by decide) (by decide), fun u hu x hx => ?_⟩⟩
  subst hu
  subst hx
  rw [show (2 : Int32) + 1 = 3 from rfl, w_X10_awardAs_2]
  refine ⟨fun _ => ?_, fun c => absurd (by decide) c⟩
  intro u1 h1 u2 h2 u3 h3 u4 h4
  subst h1
  subst h2
  subst h3
  subst h4
  have e : zgF (zuF (zuF (zuO (zuR (zuR (zuR st 67 k (0 : Int32).toNatClampNeg none) 67 k (1 : Int32).toNatClampNeg none) 67 k (2 : Int32).toNatClampNeg none) 21 k 10 (some n)) 21 k 11 d) 21 k 4 3) 25 n 0 = zgF st 25 n 0 := by simp only [q_NuF, q_FuF, q_PuF, q_OuF, q_AuF, q_RuF, q_LuF, q_JuF, q_NuP, q_FuP, q_PuP, q_OuP, q_AuP, q_RuP, q_LuP, q_JuP, q_NuO, q_FuO, q_PuO, q_OuO, q_AuO, q_RuO, q_LuO, q_JuO, q_NuA, q_FuA, q_PuA, q_OuA, q_AuA, q_RuA, q_LuA, q_JuA, q_NuR, q_FuR, q_PuR, q_OuR, q_AuR, q_RuR, q_LuR, q_JuR, q_NuJ, q_FuJ, q_PuJ, q_OuJ, q_AuJ, q_RuJ, q_LuJ, q_JuJ, q_NuL, q_FuL, q_PuL, q_OuL, q_AuL, q_RuL, q_LuL, q_JuL, q_NuB, q_FuB, q_PuB, q_OuB, q_AuB, q_RuB, q_LuB, q_JuB, q_NuW, q_FuW, q_PuW, q_OuW, q_AuW, q_RuW, q_LuW, q_JuW, q_NuV, q_FuV, q_PuV, q_OuV, q_AuV, q_RuV, q_LuV, q_JuV, q_NuU, q_FuU, q_PuU, q_OuU, q_AuU, q_RuU, q_LuU, q_JuU, q_NuX, q_FuX, q_PuX, q_OuX, q_AuX, q_RuX, q_LuX, q_JuX, q_NuR4, q_FuR4, q_PuR4, q_OuR4, q_AuR4, q_RuR4, q_LuR4, q_JuR4, Nat.reduceEqDiff, reduceIte, and_true, true_and, and_false, false_and, and_self, if_true, if_false, not_true_eq_false, not_false_eq_true]
  rw [e]
  exact h
theorem im_271 {P : Int32 → zTs → Prop} {t : zTs} {a : Int32} (c1 : ¬ a < 0) (hn : a.toNatClampNeg < 30) (h : P 1 (zuA (zuA (zuA t 132 0 (3 * a.toNatClampNeg + 0) (-1)) 132 0 (3 * a.toNatClampNeg + 1) (-1)) 132 0 (3 * a.toNatClampNeg + 2) (-1))) : w_X12_propose_271 P zfu t a 0 := by
  obtain ⟨v0, e0⟩ := q_90 (b := 0) c1 hn (by decide) (by decide)
  obtain ⟨v1, e1⟩ := q_90 (b := 1) c1 hn (by decide) (by decide)
  obtain ⟨v2, e2⟩ := q_90 (b := 2) c1 hn (by decide) (by decide)
  show w_X12_propose_271 P (99996 + 1 + 1 + 1 + 1) t a 0
  rw [w_X12_propose_271, e0]
  refine ⟨fun c => absurd c (by decide), fun _ => ⟨v0, fun u hu x hx => ?_⟩⟩
  subst hu
  subst hx
  rw [show (0 : Int32) + 1 = 1 from rfl, w_X12_propose_271, e1]
  refine ⟨fun c => absurd c (by decide), fun _ => ⟨v1, fun u hu x hx => ?_⟩⟩
  subst hu
  subst hx
  rw [show (1 : Int32) + 1 = 2 from rfl, w_X12_propose_271, e2]
  refine ⟨fun c => absurd c (by decide), fun _ => ⟨v2, fun u hu x hx => ?_⟩⟩
  subst hu
  subst hx
  rw [show (2 : Int32) + 1 = 3 from rfl, w_X12_propose_271]
  exact ⟨fun _ => h, fun c => absurd (by decide) c⟩
theorem lm_alike {P : Int32 → zTs → Prop} {st : zTs} {a b c d e : Int32} (c1 : ¬ a < 0) (hn : a.toNatClampNeg < 30) {A : Nat → Prop} (hA : ∀ w, w < 3 → (A w ↔ (¬ Int32.ofNat w = b ∧ zgA st 132 0 (3 * a.toNatClampNeg + w) = c ∧ zgA st 133 0 (3 * a.toNatClampNeg + w) = d ∧ zgA st 134 0 (3 * a.toNatClampNeg + w) = e)))
    (y0 : P 1 (zuA (zuA (zuA (zuA (zuA (zuA (zuA (zuA st 120 0 a.toNatClampNeg 1) 121 0 a.toNatClampNeg (zgF st 100 0 3)) 122 0 a.toNatClampNeg c) 123 0 a.toNatClampNeg d) 124 0 a.toNatClampNeg e) 132 0 (3 * a.toNatClampNeg + 0) (-1)) 132 0 (3 * a.toNatClampNeg + 1) (-1)) 132 0 (3 * a.toNatClampNeg + 2) (-1)) ∨ ¬ ∃ v, v < 3 ∧ A v) : ∀ (m w : Nat) (x : Int32), w ≤ 3 → 3 - w < m → ((x = 0 ∧ ∀ v, v < w → ¬ A v) ∨ (x = 1 ∧ ∃ v, v < 3 ∧ A v)) → ((∀ v, v < 3 → ¬ A v) → P 0 st) → w_X12_propose_148 P m st a b c d e x (Int32.ofNat w) := by
  intro m
  induction m with
  | zero => intro w x h0 h1; omega
  | succ m ih =>
    intro w x h0 h1 hx n0
    obtain ⟨q1, q2, q3, q4⟩ := q_o3 (w := w) (by omega)
    have hv : vp_in a 30 := q_i30 c1 hn
    rw [w_X12_propose_148]
    refine ⟨fun z => ?_, fun z => ?_⟩
    · have w3 : w = 3 := by have := q3.mp z; omega
      subst w3
      rcases hx with ⟨x0, ha⟩ | ⟨x1, ha⟩
      · exact ⟨fun _ => n0 ha, fun y => absurd x0 y⟩
      · refine ⟨fun y => absurd (x1.symm.trans y) (by decide), fun _ => ?_⟩
        have y0 := y0.resolve_right (fun y => y ha)
        rw [v_nar1]
        refine ⟨hv, fun u1 h1 => ⟨hv, fun u2 h2 => ⟨hv, fun u3 h3 => ⟨hv, fun u4 h4 => ⟨hv, fun u5 h5 => im_271 c1 hn ?_⟩⟩⟩⟩⟩
        subst h1
        subst h2
        subst h3
        subst h4
        subst h5
        exact y0
    · have hw : w < 3 := by
        have : ¬ 3 ≤ w := fun y => z (q3.mpr y)
        omega
      obtain ⟨v9, e9⟩ := q_90 (b := Int32.ofNat w) c1 hn q2 (by rw [q1]; exact hw)
      rw [q1] at e9
      have next0 : x = 0 → ¬ A w → (∀ v, v < w → ¬ A v) → w_X12_propose_148 P m st a b c d e 0 (Int32.ofNat w + 1) := by
        intro x0 na ha
        rw [q4]
        refine ih (w + 1) 0 (by omega) (by omega) (.inl ⟨rfl, fun v hv => ?_⟩) n0
        by_cases ev : v = w
        · rw [ev]; exact na
        · exact ha v (by omega)
      have next1 : (∃ v, v < 3 ∧ A v) → w_X12_propose_148 P m st a b c d e 1 (Int32.ofNat w + 1) := by
        intro ha
        rw [q4]
        exact ih (w + 1) 1 (by omega) (by omega) (.inr ⟨rfl, ha⟩) n0
      refine fun y hy => ?_
      subst hy
      rw [e9]
      rcases hx with ⟨x0, ha⟩ | ⟨x1, ha⟩
      · refine ⟨fun _ => ⟨fun f u hu => by subst hu; exact next0 x0 (fun y => ((hA w hw).mp y).1 f) ha, fun f => ⟨v9, fun g1 => ⟨v9, fun g2 => ⟨v9, fun g3 u hu => by subst hu; exact next1 ⟨w, hw, (hA w hw).mpr ⟨f, g1, g2, g3⟩⟩, fun g3 u hu => by subst hu; exact next0 x0 (fun y => g3 ((hA w hw).mp y).2.2.2) ha⟩, fun g2 u hu => by subst hu; exact next0 x0 (fun y => g2 ((hA w hw).mp y).2.2.1) ha⟩, fun g1 u hu => by subst hu; exact next0 x0 (fun y => g1 ((hA w hw).mp y).2.1) ha⟩⟩, fun y => absurd x0 y⟩
      · exact ⟨fun y => absurd (x1.symm.trans y) (by decide), fun _ u hu => by subst hu; exact next1 ha⟩
/-- with one more proposal all stands as before -/
theorem qR_prop {s : zTs} {c d e : Int32} (h : qR s) : qR (zuF (zuF (zuF (zuW s 25) 25 (zgN s 25) 0 c) 25 (zgN s 25) 1 d) 25 (zgN s 25) 2 e) := by
  obtain ⟨hD, hO, hT, hP, hW, hC, hR, hK, hS, hB, hH, hG⟩ := h
  have hK2 : GK (zuF (zuF (zuF (zuW s 25) 25 (zgN s 25) 0 c) 25 (zgN s 25) 1 d) 25 (zgN s 25) 2 e) := by
    obtain ⟨x1, x2, x3⟩ := GK_iff.mp hK
    refine GK_iff.mpr ⟨?_, fun k hk => ?_, fun k h1 h2 => ?_⟩
    · simp (disch := decide) only [GKh_uF, GKh_uF100, GKh_uP, GKh_uO, GKh_uA, GKh_uB, GKh_uR, GKh_uL, GKh_uW, GKh_uV, GKh_uU, GKh_uX]; exact x1
    · have hk : k < zgN s 21 := by simpa only [q_NuF, q_FuF, q_PuF, q_OuF, q_AuF, q_RuF, q_LuF, q_JuF, q_NuP, q_FuP, q_PuP, q_OuP, q_AuP, q_RuP, q_LuP, q_JuP, q_NuO, q_FuO, q_PuO, q_OuO, q_AuO, q_RuO, q_LuO, q_JuO, q_NuA, q_FuA, q_PuA, q_OuA, q_AuA, q_RuA, q_LuA, q_JuA, q_NuR, q_FuR, q_PuR, q_OuR, q_AuR, q_RuR, q_LuR, q_JuR, q_NuJ, q_FuJ, q_PuJ, q_OuJ, q_AuJ, q_RuJ, q_LuJ, q_JuJ, q_NuL, q_FuL, q_PuL, q_OuL, q_AuL, q_RuL, q_LuL, q_JuL, q_NuB, q_FuB, q_PuB, q_OuB, q_AuB, q_RuB, q_LuB, q_JuB, q_NuW, q_FuW, q_PuW, q_OuW, q_AuW, q_RuW, q_LuW, q_JuW, q_NuV, q_FuV, q_PuV, q_OuV, q_AuV, q_RuV, q_LuV, q_JuV, q_NuU, q_FuU, q_PuU, q_OuU, q_AuU, q_RuU, q_LuU, q_JuU, q_NuX, q_FuX, q_PuX, q_OuX, q_AuX, q_RuX, q_LuX, q_JuX, q_NuR4, q_FuR4, q_PuR4, q_OuR4, q_AuR4, q_RuR4, q_LuR4, q_JuR4, Nat.reduceEqDiff, reduceIte, and_true, true_and, and_false, false_and, and_self, if_true, if_false, not_true_eq_false, not_false_eq_true] using hk
      obtain ⟨g1, g2, g3, g4, g5⟩ := x2 k hk
      refine ⟨by simpa only [GKr, q_NuF, q_FuF, q_PuF, q_OuF, q_AuF, q_RuF, q_LuF, q_JuF, q_NuP, q_FuP, q_PuP, q_OuP, q_AuP, q_RuP, q_LuP, q_JuP, q_NuO, q_FuO, q_PuO, q_OuO, q_AuO, q_RuO, q_LuO, q_JuO, q_NuA, q_FuA, q_PuA, q_OuA, q_AuA, q_RuA, q_LuA, q_JuA, q_NuR, q_FuR, q_PuR, q_OuR, q_AuR, q_RuR, q_LuR, q_JuR, q_NuJ, q_FuJ, q_PuJ, q_OuJ, q_AuJ, q_RuJ, q_LuJ, q_JuJ, q_NuL, q_FuL, q_PuL, q_OuL, q_AuL, q_RuL, q_LuL, q_JuL, q_NuB, q_FuB, q_PuB, q_OuB, q_AuB, q_RuB, q_LuB, q_JuB, q_NuW, q_FuW, q_PuW, q_OuW, q_AuW, q_RuW, q_LuW, q_JuW, q_NuV, q_FuV, q_PuV, q_OuV, q_AuV, q_RuV, q_LuV, q_JuV, q_NuU, q_FuU, q_PuU, q_OuU, q_AuU, q_RuU, q_LuU, q_JuU, q_NuX, q_FuX, q_PuX, q_OuX, q_AuX, q_RuX, q_LuX, q_JuX, q_NuR4, q_FuR4, q_PuR4, q_OuR4, q_AuR4, q_RuR4, q_LuR4, q_JuR4, Nat.reduceEqDiff, reduceIte, and_true, true_and, and_false, false_and, and_self, if_true, if_false, not_true_eq_false, not_false_eq_true] using g1, by simpa only [GKa, q_NuF, q_FuF, q_PuF, q_OuF, q_AuF, q_RuF, q_LuF, q_JuF, q_NuP, q_FuP, q_PuP, q_OuP, q_AuP, q_RuP, q_LuP, q_JuP, q_NuO, q_FuO, q_PuO, q_OuO, q_AuO, q_RuO, q_LuO, q_JuO, q_NuA, q_FuA, q_PuA, q_OuA, q_AuA, q_RuA, q_LuA, q_JuA, q_NuR, q_FuR, q_PuR, q_OuR, q_AuR, q_RuR, q_LuR, q_JuR, q_NuJ, q_FuJ, q_PuJ, q_OuJ, q_AuJ, q_RuJ, q_LuJ, q_JuJ, q_NuL, q_FuL, q_PuL, q_OuL, q_AuL, q_RuL, q_LuL, q_JuL, q_NuB, q_FuB, q_PuB, q_OuB, q_AuB, q_RuB, q_LuB, q_JuB, q_NuW, q_FuW, q_PuW, q_OuW, q_AuW, q_RuW, q_LuW, q_JuW, q_NuV, q_FuV, q_PuV, q_OuV, q_AuV, q_RuV, q_LuV, q_JuV, q_NuU, q_FuU, q_PuU, q_OuU, q_AuU, q_RuU, q_LuU, q_JuU, q_NuX, q_FuX, q_PuX, q_OuX, q_AuX, q_RuX, q_LuX, q_JuX, q_NuR4, q_FuR4, q_PuR4, q_OuR4, q_AuR4, q_RuR4, q_LuR4, q_JuR4, Nat.reduceEqDiff, reduceIte, and_true, true_and, and_false, false_and, and_self, if_true, if_false, not_true_eq_false, not_false_eq_true] using g2, fun w hw => ?_, ?_, by simpa only [GKs, qla, q_NuF, q_FuF, q_PuF, q_OuF, q_AuF, q_RuF, q_LuF, q_JuF, q_NuP, q_FuP, q_PuP, q_OuP, q_AuP, q_RuP, q_LuP, q_JuP, q_NuO, q_FuO, q_PuO, q_OuO, q_AuO, q_RuO, q_LuO, q_JuO, q_NuA, q_FuA, q_PuA, q_OuA, q_AuA, q_RuA, q_LuA, q_JuA, q_NuR, q_FuR, q_PuR, q_OuR, q_AuR, q_RuR, q_LuR, q_JuR, q_NuJ, q_FuJ, q_PuJ, q_OuJ, q_AuJ, q_RuJ, q_LuJ, q_JuJ, q_NuL, q_FuL, q_PuL, q_OuL, q_AuL, q_RuL, q_LuL, q_JuL, q_NuB, q_FuB, q_PuB, q_OuB, q_AuB, q_RuB, q_LuB, q_JuB, q_NuW, q_FuW, q_PuW, q_OuW, q_AuW, q_RuW, q_LuW, q_JuW, q_NuV, q_FuV, q_PuV, q_OuV, q_AuV, q_RuV, q_LuV, q_JuV, q_NuU, q_FuU, q_PuU, q_OuU, q_AuU, q_RuU, q_LuU, q_JuU, q_NuX, q_FuX, q_PuX, q_OuX, q_AuX, q_RuX, q_LuX, q_JuX, q_NuR4, q_FuR4, q_PuR4, q_OuR4, q_AuR4, q_RuR4, q_LuR4, q_JuR4, Nat.reduceEqDiff, reduceIte, and_true, true_and, and_false, false_and, and_self, if_true, if_false, not_true_eq_false, not_false_eq_true] using g5⟩
      · obtain ⟨y1, y2, y3, y4⟩ := g3 w hw
        simp only [q_NuF, q_FuF, q_PuF, q_OuF, q_AuF, q_RuF, q_LuF, q_JuF, q_NuP, q_FuP, q_PuP, q_OuP, q_AuP, q_RuP, q_LuP, q_JuP, q_NuO, q_FuO, q_PuO, q_OuO, q_AuO, q_RuO, q_LuO, q_JuO, q_NuA, q_FuA, q_PuA, q_OuA, q_AuA, q_RuA, q_LuA, q_JuA, q_NuR, q_FuR, q_PuR, q_OuR, q_AuR, q_RuR, q_LuR, q_JuR, q_NuJ, q_FuJ, q_PuJ, q_OuJ, q_AuJ, q_RuJ, q_LuJ, q_JuJ, q_NuL, q_FuL, q_PuL, q_OuL, q_AuL, q_RuL, q_LuL, q_JuL, q_NuB, q_FuB, q_PuB, q_OuB, q_AuB, q_RuB, q_LuB, q_JuB, q_NuW, q_FuW, q_PuW, q_OuW, q_AuW, q_RuW, q_LuW, q_JuW, q_NuV, q_FuV, q_PuV, q_OuV, q_AuV, q_RuV, q_LuV, q_JuV, q_NuU, q_FuU, q_PuU, q_OuU, q_AuU, q_RuU, q_LuU, q_JuU, q_NuX, q_FuX, q_PuX, q_OuX, q_AuX, q_RuX, q_LuX, q_JuX, q_NuR4, q_FuR4, q_PuR4, q_OuR4, q_AuR4, q_RuR4, q_LuR4, q_JuR4, Nat.reduceEqDiff, reduceIte, and_true, true_and, and_false, false_and, and_self, if_true, if_false, not_true_eq_false, not_false_eq_true]
        refine ⟨y1, y2, y3, ?_⟩
        rcases y4 with y4 | ⟨q, q1, q2, q3, q4, q5, q6⟩
        · exact .inl y4
        · refine .inr ⟨q, q1, by omega, ?_⟩
          simp only [show ¬ q = zgN s 25 by omega, Nat.reduceEqDiff, reduceIte, and_true, true_and, and_false, false_and, and_self, if_true, if_false, not_true_eq_false, not_false_eq_true]
          exact ⟨q3, q4, q5, q6⟩
      · simp only [GKv, q_NuF, q_FuF, q_PuF, q_OuF, q_AuF, q_RuF, q_LuF, q_JuF, q_NuP, q_FuP, q_PuP, q_OuP, q_AuP, q_RuP, q_LuP, q_JuP, q_NuO, q_FuO, q_PuO, q_OuO, q_AuO, q_RuO, q_LuO, q_JuO, q_NuA, q_FuA, q_PuA, q_OuA, q_AuA, q_RuA, q_LuA, q_JuA, q_NuR, q_FuR, q_PuR, q_OuR, q_AuR, q_RuR, q_LuR, q_JuR, q_NuJ, q_FuJ, q_PuJ, q_OuJ, q_AuJ, q_RuJ, q_LuJ, q_JuJ, q_NuL, q_FuL, q_PuL, q_OuL, q_AuL, q_RuL, q_LuL, q_JuL, q_NuB, q_FuB, q_PuB, q_OuB, q_AuB, q_RuB, q_LuB, q_JuB, q_NuW, q_FuW, q_PuW, q_OuW, q_AuW, q_RuW, q_LuW, q_JuW, q_NuV, q_FuV, q_PuV, q_OuV, q_AuV, q_RuV, q_LuV, q_JuV, q_NuU, q_FuU, q_PuU, q_OuU, q_AuU, q_RuU, q_LuU, q_JuU, q_NuX, q_FuX, q_PuX, q_OuX, q_AuX, q_RuX, q_LuX, q_JuX, q_NuR4, q_FuR4, q_PuR4, q_OuR4, q_AuR4, q_RuR4, q_LuR4, q_JuR4, Nat.reduceEqDiff, reduceIte, and_true, true_and, and_false, false_and, and_self, if_true, if_false, not_true_eq_false, not_false_eq_true]
        rcases g4 with y4 | ⟨q, q1, q2, q3, q4⟩
        · exact .inl y4
        · refine .inr ⟨q, q1, by omega, ?_⟩
          simp only [show ¬ q = zgN s 25 by omega, Nat.reduceEqDiff, reduceIte, and_true, true_and, and_false, false_and, and_self, if_true, if_false, not_true_eq_false, not_false_eq_true]
          exact ⟨q3, q4⟩
    · have h1 : zgN s 21 ≤ k := by simpa only [q_NuF, q_FuF, q_PuF, q_OuF, q_AuF, q_RuF, q_LuF, q_JuF, q_NuP, q_FuP, q_PuP, q_OuP, q_AuP, q_RuP, q_LuP, q_JuP, q_NuO, q_FuO, q_PuO, q_OuO, q_AuO, q_RuO, q_LuO, q_JuO, q_NuA, q_FuA, q_PuA, q_OuA, q_AuA, q_RuA, q_LuA, q_JuA, q_NuR, q_FuR, q_PuR, q_OuR, q_AuR, q_RuR, q_LuR, q_JuR, q_NuJ, q_FuJ, q_PuJ, q_OuJ, q_AuJ, q_RuJ, q_LuJ, q_JuJ, q_NuL, q_FuL, q_PuL, q_OuL, q_AuL, q_RuL, q_LuL, q_JuL, q_NuB, q_FuB, q_PuB, q_OuB, q_AuB, q_RuB, q_LuB, q_JuB, q_NuW, q_FuW, q_PuW, q_OuW, q_AuW, q_RuW, q_LuW, q_JuW, q_NuV, q_FuV, q_PuV, q_OuV, q_AuV, q_RuV, q_LuV, q_JuV, q_NuU, q_FuU, q_PuU, q_OuU, q_AuU, q_RuU, q_LuU, q_JuU, q_NuX, q_FuX, q_PuX, q_OuX, q_AuX, q_RuX, q_LuX, q_JuX, q_NuR4, q_FuR4, q_PuR4, q_OuR4, q_AuR4, q_RuR4, q_LuR4, q_JuR4, Nat.reduceEqDiff, reduceIte, and_true, true_and, and_false, false_and, and_self, if_true, if_false, not_true_eq_false, not_false_eq_true] using h1
      simp (disch := decide) only [GKz_uF, GKz_uP, GKz_uO, GKz_uA, GKz_uB, GKz_uR, GKz_uL, GKz_uW, GKz_uV, GKz_uU, GKz_uX]
      exact x3 k h1 h2
  simp (disch := decide) only [qR, GD_uF, GD_uF10, GD_uF100, GD_uP, GD_uO, GD_uA, GD_uB, GD_uR, GD_uJ, GD_uL, GD_uW, GD_uV, GD_uU, GD_uX, GD_uR4, GO_uF, GO_uF10, GO_uF100, GO_uP, GO_uO, GO_uA, GO_uB, GO_uR, GO_uJ, GO_uL, GO_uW, GO_uV, GO_uU, GO_uX, GO_uR4, GT_uF, GT_uF10, GT_uF100, GT_uP, GT_uO, GT_uA, GT_uB, GT_uR, GT_uJ, GT_uL, GT_uW, GT_uV, GT_uU, GT_uX, GT_uR4, GP_uF, GP_uF13, GP_uF100, GP_uP, GP_uO, GP_uA, GP_uB, GP_uR, GP_uJ, GP_uL, GP_uW, GP_uV, GP_uU, GP_uX, GP_uR4, GW_uF, GW_uF100, GW_uP, GW_uO, GW_uA, GW_uB, GW_uR, GW_uJ, GW_uL, GW_uW, GW_uV, GW_uU, GW_uX, GW_uR4, GC_uF, GC_uF10, GC_uP, GC_uO, GC_uA, GC_uB, GC_uR, GC_uJ, GC_uL, GC_uW, GC_uV, GC_uU, GC_uX, GC_uR4, GR_uF, GR_uF100, GR_uP, GR_uO, GR_uA, GR_uB, GR_uR, GR_uJ, GR_uL, GR_uW, GR_uV, GR_uU, GR_uX, GK_uF, GK_uF10, GK_uF100, GK_uP, GK_uO, GK_uA, GK_uB, GK_uR, GK_uJ, GK_uL, GK_uW, GK_uV, GK_uU, GK_uX, GK_uR4, GS_uF, GS_uF10, GS_uF100, GS_uP, GS_uO, GS_uA, GS_uB, GS_uR, GS_uJ, GS_uL, GS_uW, GS_uV, GS_uU, GS_uX, GS_uR4, GB_uF, GB_uF100, GB_uP, GB_uO, GB_uA, GB_uB, GB_uR, GB_uJ, GB_uL, GB_uW, GB_uV, GB_uU, GB_uX, GB_uR4, GH_uF, GH_uF10, GH_uF100, GH_uP, GH_uO, GH_uA, GH_uB, GH_uR, GH_uJ, GH_uL, GH_uW, GH_uV, GH_uU, GH_uX, GH_uR4, GG_uF, GG_uF100, GG_uP, GG_uO, GG_uA, GG_uB, GG_uR, GG_uJ, GG_uL, GG_uW, GG_uV, GG_uU, GG_uX, GG_uR4]
  exact ⟨hD, hO, hT, hP, hW, hC, hR, hK2, hS, hB, hH, hG⟩
theorem GKp_new {s : zTs} {k n : Nat} {b c d e : Int32} (hb : b.toNatClampNeg < 3) (hc : 0 ≤ c) (hn : n < zgN s 25) (n0 : zgF s 25 n 0 = c) (n1 : zgF s 25 n 1 = d) (n2 : zgF s 25 n 2 = e) (hK : GK s) (hk : k < zgN s 21) : GK (zuA (zuA (zuA (zuF (zuR s 67 k b.toNatClampNeg (some n)) 100 0 0 0) 132 0 (3 * k + b.toNatClampNeg) c) 133 0 (3 * k + b.toNatClampNeg) d) 134 0 (3 * k + b.toNatClampNeg) e) := by
  refine GK_up hK hk (by simp only [q_NuF, q_FuF, q_PuF, q_OuF, q_AuF, q_RuF, q_LuF, q_JuF, q_NuP, q_FuP, q_PuP, q_OuP, q_AuP, q_RuP, q_LuP, q_JuP, q_NuO, q_FuO, q_PuO, q_OuO, q_AuO, q_RuO, q_LuO, q_JuO, q_NuA, q_FuA, q_PuA, q_OuA, q_AuA, q_RuA, q_LuA, q_JuA, q_NuR, q_FuR, q_PuR, q_OuR, q_AuR, q_RuR, q_LuR, q_JuR, q_NuJ, q_FuJ, q_PuJ, q_OuJ, q_AuJ, q_RuJ, q_LuJ, q_JuJ, q_NuL, q_FuL, q_PuL, q_OuL, q_AuL, q_RuL, q_LuL, q_JuL, q_NuB, q_FuB, q_PuB, q_OuB, q_AuB, q_RuB, q_LuB, q_JuB, q_NuW, q_FuW, q_PuW, q_OuW, q_AuW, q_RuW, q_LuW, q_JuW, q_NuV, q_FuV, q_PuV, q_OuV, q_AuV, q_RuV, q_LuV, q_JuV, q_NuU, q_FuU, q_PuU, q_OuU, q_AuU, q_RuU, q_LuU, q_JuU, q_NuX, q_FuX, q_PuX, q_OuX, q_AuX, q_RuX, q_LuX, q_JuX, q_NuR4, q_FuR4, q_PuR4, q_OuR4, q_AuR4, q_RuR4, q_LuR4, q_JuR4, Nat.reduceEqDiff, reduceIte, and_true, true_and, and_false, false_and, and_self, if_true, if_false, not_true_eq_false, not_false_eq_true]) (by simp (disch := decide) only [GKh_uF, GKh_uF100, GKh_uP, GKh_uO, GKh_uA, GKh_uB, GKh_uR, GKh_uL, GKh_uW, GKh_uV, GKh_uU, GKh_uX]) (fun w hw => by simp (disch := first | decide | assumption) only [GK5_uF, GK5_uF10, GK5_uP, GK5_uO, GK5_uA, GK5_uB, GK5_uR, GK5_uL, GK5_uW, GK5_uV, GK5_uU, GK5_uX, GK5_oR67, GK5_oA3]) (fun w hw => by simp (disch := first | decide | assumption) only [GKz_uF, GKz_uP, GKz_uO, GKz_uA, GKz_uB, GKz_uR, GKz_uL, GKz_uW, GKz_uV, GKz_uU, GKz_uX]) ?_
  obtain ⟨g1, g2, g3, g4, g5⟩ := (GK_iff.mp hK).2.1 _ hk
  refine ⟨by simpa only [GKr, q_NuF, q_FuF, q_PuF, q_OuF, q_AuF, q_RuF, q_LuF, q_JuF, q_NuP, q_FuP, q_PuP, q_OuP, q_AuP, q_RuP, q_LuP, q_JuP, q_NuO, q_FuO, q_PuO, q_OuO, q_AuO, q_RuO, q_LuO, q_JuO, q_NuA, q_FuA, q_PuA, q_OuA, q_AuA, q_RuA, q_LuA, q_JuA, q_NuR, q_FuR, q_PuR, q_OuR, q_AuR, q_RuR, q_LuR, q_JuR, q_NuJ, q_FuJ, q_PuJ, q_OuJ, q_AuJ, q_RuJ, q_LuJ, q_JuJ, q_NuL, q_FuL, q_PuL, q_OuL, q_AuL, q_RuL, q_LuL, q_JuL, q_NuB, q_FuB, q_PuB, q_OuB, q_AuB, q_RuB, q_LuB, q_JuB, q_NuW, q_FuW, q_PuW, q_OuW, q_AuW, q_RuW, q_LuW, q_JuW, q_NuV, q_FuV, q_PuV, q_OuV, q_AuV, q_RuV, q_LuV, q_JuV, q_NuU, q_FuU, q_PuU, q_OuU, q_AuU, q_RuU, q_LuU, q_JuU, q_NuX, q_FuX, q_PuX, q_OuX, q_AuX, q_RuX, q_LuX, q_JuX, q_NuR4, q_FuR4, q_PuR4, q_OuR4, q_AuR4, q_RuR4, q_LuR4, q_JuR4, Nat.reduceEqDiff, reduceIte, and_true, true_and, and_false, false_and, and_self, if_true, if_false, not_true_eq_false, not_false_eq_true] using g1, by simpa only [GKa, q_NuF, q_FuF, q_PuF, q_OuF, q_AuF, q_RuF, q_LuF, q_JuF, q_NuP, q_FuP, q_PuP, q_OuP, q_AuP, q_RuP, q_LuP, q_JuP, q_NuO, q_FuO, q_PuO, q_OuO, q_AuO, q_RuO, q_LuO, q_JuO, q_NuA, q_FuA, q_PuA, q_OuA, q_AuA, q_RuA, q_LuA, q_JuA, q_NuR, q_FuR, q_PuR, q_OuR, q_AuR, q_RuR, q_LuR, q_JuR, q_NuJ, q_FuJ, q_PuJ, q_OuJ, q_AuJ, q_RuJ, q_LuJ, q_JuJ, q_NuL, q_FuL, q_PuL, q_OuL, q_AuL, q_RuL, q_LuL, q_JuL, q_NuB, q_FuB, q_PuB, q_OuB, q_AuB, q_RuB, q_LuB, q_JuB, q_NuW, q_FuW, q_PuW, q_OuW, q_AuW, q_RuW, q_LuW, q_JuW, q_NuV, q_FuV, q_PuV, q_OuV, q_AuV, q_RuV, q_LuV, q_JuV, q_NuU, q_FuU, q_PuU, q_OuU, q_AuU, q_RuU, q_LuU, q_JuU, q_NuX, q_FuX, q_PuX, q_OuX, q_AuX, q_RuX, q_LuX, q_JuX, q_NuR4, q_FuR4, q_PuR4, q_OuR4, q_AuR4, q_RuR4, q_LuR4, q_JuR4, Nat.reduceEqDiff, reduceIte, and_true, true_and, and_false, false_and, and_self, if_true, if_false, not_true_eq_false, not_false_eq_true] using g2, ?_, by simpa only [GKv, q_NuF, q_FuF, q_PuF, q_OuF, q_AuF, q_RuF, q_LuF, q_JuF, q_NuP, q_FuP, q_PuP, q_OuP, q_AuP, q_RuP, q_LuP, q_JuP, q_NuO, q_FuO, q_PuO, q_OuO, q_AuO, q_RuO, q_LuO, q_JuO, q_NuA, q_FuA, q_PuA, q_OuA, q_AuA, q_RuA, q_LuA, q_JuA, q_NuR, q_FuR, q_PuR, q_OuR, q_AuR, q_RuR, q_LuR, q_JuR, q_NuJ, q_FuJ, q_PuJ, q_OuJ, q_AuJ, q_RuJ, q_LuJ, q_JuJ, q_NuL, q_FuL, q_PuL, q_OuL, q_AuL, q_RuL, q_LuL, q_JuL, q_NuB, q_FuB, q_PuB, q_OuB, q_AuB, q_RuB, q_LuB, q_JuB, q_NuW, q_FuW, q_PuW, q_OuW, q_AuW, q_RuW, q_LuW, q_JuW, q_NuV, q_FuV, q_PuV, q_OuV, q_AuV, q_RuV, q_LuV, q_JuV, q_NuU, q_FuU, q_PuU, q_OuU, q_AuU, q_RuU, q_LuU, q_JuU, q_NuX, q_FuX, q_PuX, q_OuX, q_AuX, q_RuX, q_LuX, q_JuX, q_NuR4, q_FuR4, q_PuR4, q_OuR4, q_AuR4, q_RuR4, q_LuR4, q_JuR4, Nat.reduceEqDiff, reduceIte, and_true, true_and, and_false, false_and, and_self, if_true, if_false, not_true_eq_false, not_false_eq_true] using g4, by simpa only [GKs, qla, q_NuF, q_FuF, q_PuF, q_OuF, q_AuF, q_RuF, q_LuF, q_JuF, q_NuP, q_FuP, q_PuP, q_OuP, q_AuP, q_RuP, q_LuP, q_JuP, q_NuO, q_FuO, q_PuO, q_OuO, q_AuO, q_RuO, q_LuO, q_JuO, q_NuA, q_FuA, q_PuA, q_OuA, q_AuA, q_RuA, q_LuA, q_JuA, q_NuR, q_FuR, q_PuR, q_OuR, q_AuR, q_RuR, q_LuR, q_JuR, q_NuJ, q_FuJ, q_PuJ, q_OuJ, q_AuJ, q_RuJ, q_LuJ, q_JuJ, q_NuL, q_FuL, q_PuL, q_OuL, q_AuL, q_RuL, q_LuL, q_JuL, q_NuB, q_FuB, q_PuB, q_OuB, q_AuB, q_RuB, q_LuB, q_JuB, q_NuW, q_FuW, q_PuW, q_OuW, q_AuW, q_RuW, q_LuW, q_JuW, q_NuV, q_FuV, q_PuV, q_OuV, q_AuV, q_RuV, q_LuV, q_JuV, q_NuU, q_FuU, q_PuU, q_OuU, q_AuU, q_RuU, q_LuU, q_JuU, q_NuX, q_FuX, q_PuX, q_OuX, q_AuX, q_RuX, q_LuX, q_JuX, q_NuR4, q_FuR4, q_PuR4, q_OuR4, q_AuR4, q_RuR4, q_LuR4, q_JuR4, Nat.reduceEqDiff, reduceIte, and_true, true_and, and_false, false_and, and_self, if_true, if_false, not_true_eq_false, not_false_eq_true] using g5⟩
  intro w hw
  obtain ⟨y1, y2, y3, y4⟩ := g3 w hw
  simp only [q_NuF, q_FuF, q_PuF, q_OuF, q_AuF, q_RuF, q_LuF, q_JuF, q_NuP, q_FuP, q_PuP, q_OuP, q_AuP, q_RuP, q_LuP, q_JuP, q_NuO, q_FuO, q_PuO, q_OuO, q_AuO, q_RuO, q_LuO, q_JuO, q_NuA, q_FuA, q_PuA, q_OuA, q_AuA, q_RuA, q_LuA, q_JuA, q_NuR, q_FuR, q_PuR, q_OuR, q_AuR, q_RuR, q_LuR, q_JuR, q_NuJ, q_FuJ, q_PuJ, q_OuJ, q_AuJ, q_RuJ, q_LuJ, q_JuJ, q_NuL, q_FuL, q_PuL, q_OuL, q_AuL, q_RuL, q_LuL, q_JuL, q_NuB, q_FuB, q_PuB, q_OuB, q_AuB, q_RuB, q_LuB, q_JuB, q_NuW, q_FuW, q_PuW, q_OuW, q_AuW, q_RuW, q_LuW, q_JuW, q_NuV, q_FuV, q_PuV, q_OuV, q_AuV, q_RuV, q_LuV, q_JuV, q_NuU, q_FuU, q_PuU, q_OuU, q_AuU, q_RuU, q_LuU, q_JuU, q_NuX, q_FuX, q_PuX, q_OuX, q_AuX, q_RuX, q_LuX, q_JuX, q_NuR4, q_FuR4, q_PuR4, q_OuR4, q_AuR4, q_RuR4, q_LuR4, q_JuR4, Nat.reduceEqDiff, reduceIte, and_true, true_and, and_false, false_and, and_self, if_true, if_false, not_true_eq_false, not_false_eq_true, Nat.add_left_cancel_iff]
  by_cases ew : w = b.toNatClampNeg
  · simp only [ew, Nat.reduceEqDiff, reduceIte, and_true, true_and, and_false, false_and, and_self, if_true, if_false, not_true_eq_false, not_false_eq_true]
    exact ⟨by rw [← ew]; exact y1, by rw [← ew]; exact y2, by rw [← ew]; exact y3, .inr ⟨n, rfl, hn, hc, n0, n1, n2⟩⟩
  · simp only [ew, Nat.reduceEqDiff, reduceIte, and_true, true_and, and_false, false_and, and_self, if_true, if_false, not_true_eq_false, not_false_eq_true]
    exact ⟨y1, y2, y3, y4⟩
theorem GK_award {s : zTs} {k n m : Nat} {c d e : Int32} (hm : m < 3) (hD : GD s) (hn : n < zgN s 25) (n0 : zgF s 25 n 0 = c) (n1 : zgF s 25 n 1 = d) (n2 : zgF s 25 n 2 = e) (r1 : 0 ≤ d) (r2 : d ≤ 2324) (r3 : 0 ≤ e) (r4 : e ≤ 100) (hK : GK s) (hk : k < zgN s 21) (c4 : zgF s 21 k 4 = 4) : GK (zuA (zuA (zuA (zuA (zuA (zuA (zuA (zuA (zuA (zuA (zuA (zuF (zuF (zuF (zuF (zuO (zuR (zuR (zuR s 67 k 0 none) 67 k 1 none) 67 k 2 none) 21 k 10 (some n)) 21 k 11 (zgF s 10 0 15)) 21 k 4 3) 21 k 7 c) 100 0 0 0) 132 0 (3 * k + m) c) 133 0 (3 * k + m) d) 134 0 (3 * k + m) e) 120 0 k 1) 121 0 k (zgF s 10 0 15)) 122 0 k c) 123 0 k d) 124 0 k e) 132 0 (3 * k + 0) (-1)) 132 0 (3 * k + 1) (-1)) 132 0 (3 * k + 2) (-1)) := by
  refine GK_up hK hk (by simp only [q_NuF, q_FuF, q_PuF, q_OuF, q_AuF, q_RuF, q_LuF, q_JuF, q_NuP, q_FuP, q_PuP, q_OuP, q_AuP, q_RuP, q_LuP, q_JuP, q_NuO, q_FuO, q_PuO, q_OuO, q_AuO, q_RuO, q_LuO, q_JuO, q_NuA, q_FuA, q_PuA, q_OuA, q_AuA, q_RuA, q_LuA, q_JuA, q_NuR, q_FuR, q_PuR, q_OuR, q_AuR, q_RuR, q_LuR, q_JuR, q_NuJ, q_FuJ, q_PuJ, q_OuJ, q_AuJ, q_RuJ, q_LuJ, q_JuJ, q_NuL, q_FuL, q_PuL, q_OuL, q_AuL, q_RuL, q_LuL, q_JuL, q_NuB, q_FuB, q_PuB, q_OuB, q_AuB, q_RuB, q_LuB, q_JuB, q_NuW, q_FuW, q_PuW, q_OuW, q_AuW, q_RuW, q_LuW, q_JuW, q_NuV, q_FuV, q_PuV, q_OuV, q_AuV, q_RuV, q_LuV, q_JuV, q_NuU, q_FuU, q_PuU, q_OuU, q_AuU, q_RuU, q_LuU, q_JuU, q_NuX, q_FuX, q_PuX, q_OuX, q_AuX, q_RuX, q_LuX, q_JuX, q_NuR4, q_FuR4, q_PuR4, q_OuR4, q_AuR4, q_RuR4, q_LuR4, q_JuR4, Nat.reduceEqDiff, reduceIte, and_true, true_and, and_false, false_and, and_self, if_true, if_false, not_true_eq_false, not_false_eq_true]) (by simp (disch := decide) only [GKh_uF, GKh_uF100, GKh_uP, GKh_uO, GKh_uA, GKh_uB, GKh_uR, GKh_uL, GKh_uW, GKh_uV, GKh_uU, GKh_uX]) (fun w hw => by simp (disch := first | decide | assumption) only [GK5_uF, GK5_uF10, GK5_uP, GK5_uO, GK5_uA, GK5_uB, GK5_uR, GK5_uL, GK5_uW, GK5_uV, GK5_uU, GK5_uX, GK5_oF, GK5_oO, GK5_oA, GK5_oR67, GK5_oA3]) (fun w hw => by simp (disch := first | decide | assumption) only [GKz_uF, GKz_uP, GKz_uO, GKz_uA, GKz_uB, GKz_uR, GKz_uL, GKz_uW, GKz_uV, GKz_uU, GKz_uX, GKz_oA]) ?_
  obtain ⟨g1, g2, g3, g4, g5⟩ := (GK_iff.mp hK).2.1 _ hk
  obtain ⟨d1, d2, d3⟩ := hD
  obtain ⟨b1, b2, b3, b4, b5, b6, b7, -⟩ := id g5
  obtain ⟨u1, u2, u3, u4, u5, u6, u7, u8, -⟩ := GKs_disp g5 c4
  refine ⟨by simpa only [GKr, q_NuF, q_FuF, q_PuF, q_OuF, q_AuF, q_RuF, q_LuF, q_JuF, q_NuP, q_FuP, q_PuP, q_OuP, q_AuP, q_RuP, q_LuP, q_JuP, q_NuO, q_FuO, q_PuO, q_OuO, q_AuO, q_RuO, q_LuO, q_JuO, q_NuA, q_FuA, q_PuA, q_OuA, q_AuA, q_RuA, q_LuA, q_JuA, q_NuR, q_FuR, q_PuR, q_OuR, q_AuR, q_RuR, q_LuR, q_JuR, q_NuJ, q_FuJ, q_PuJ, q_OuJ, q_AuJ, q_RuJ, q_LuJ, q_JuJ, q_NuL, q_FuL, q_PuL, q_OuL, q_AuL, q_RuL, q_LuL, q_JuL, q_NuB, q_FuB, q_PuB, q_OuB, q_AuB, q_RuB, q_LuB, q_JuB, q_NuW, q_FuW, q_PuW, q_OuW, q_AuW, q_RuW, q_LuW, q_JuW, q_NuV, q_FuV, q_PuV, q_OuV, q_AuV, q_RuV, q_LuV, q_JuV, q_NuU, q_FuU, q_PuU, q_OuU, q_AuU, q_RuU, q_LuU, q_JuU, q_NuX, q_FuX, q_PuX, q_OuX, q_AuX, q_RuX, q_LuX, q_JuX, q_NuR4, q_FuR4, q_PuR4, q_OuR4, q_AuR4, q_RuR4, q_LuR4, q_JuR4, Nat.reduceEqDiff, reduceIte, and_true, true_and, and_false, false_and, and_self, if_true, if_false, not_true_eq_false, not_false_eq_true] using g1, by simpa only [GKa, q_NuF, q_FuF, q_PuF, q_OuF, q_AuF, q_RuF, q_LuF, q_JuF, q_NuP, q_FuP, q_PuP, q_OuP, q_AuP, q_RuP, q_LuP, q_JuP, q_NuO, q_FuO, q_PuO, q_OuO, q_AuO, q_RuO, q_LuO, q_JuO, q_NuA, q_FuA, q_PuA, q_OuA, q_AuA, q_RuA, q_LuA, q_JuA, q_NuR, q_FuR, q_PuR, q_OuR, q_AuR, q_RuR, q_LuR, q_JuR, q_NuJ, q_FuJ, q_PuJ, q_OuJ, q_AuJ, q_RuJ, q_LuJ, q_JuJ, q_NuL, q_FuL, q_PuL, q_OuL, q_AuL, q_RuL, q_LuL, q_JuL, q_NuB, q_FuB, q_PuB, q_OuB, q_AuB, q_RuB, q_LuB, q_JuB, q_NuW, q_FuW, q_PuW, q_OuW, q_AuW, q_RuW, q_LuW, q_JuW, q_NuV, q_FuV, q_PuV, q_OuV, q_AuV, q_RuV, q_LuV, q_JuV, q_NuU, q_FuU, q_PuU, q_OuU, q_AuU, q_RuU, q_LuU, q_JuU, q_NuX, q_FuX, q_PuX, q_OuX, q_AuX, q_RuX, q_LuX, q_JuX, q_NuR4, q_FuR4, q_PuR4, q_OuR4, q_AuR4, q_RuR4, q_LuR4, q_JuR4, Nat.reduceEqDiff, reduceIte, and_true, true_and, and_false, false_and, and_self, if_true, if_false, not_true_eq_false, not_false_eq_true] using g2, ?_, ?_, ?_⟩
  · intro w hw
    obtain ⟨y1, y2, y3, -⟩ := g3 w hw
    simp only [q_NuF, q_FuF, q_PuF, q_OuF, q_AuF, q_RuF, q_LuF, q_JuF, q_NuP, q_FuP, q_PuP, q_OuP, q_AuP, q_RuP, q_LuP, q_JuP, q_NuO, q_FuO, q_PuO, q_OuO, q_AuO, q_RuO, q_LuO, q_JuO, q_NuA, q_FuA, q_PuA, q_OuA, q_AuA, q_RuA, q_LuA, q_JuA, q_NuR, q_FuR, q_PuR, q_OuR, q_AuR, q_RuR, q_LuR, q_JuR, q_NuJ, q_FuJ, q_PuJ, q_OuJ, q_AuJ, q_RuJ, q_LuJ, q_JuJ, q_NuL, q_FuL, q_PuL, q_OuL, q_AuL, q_RuL, q_LuL, q_JuL, q_NuB, q_FuB, q_PuB, q_OuB, q_AuB, q_RuB, q_LuB, q_JuB, q_NuW, q_FuW, q_PuW, q_OuW, q_AuW, q_RuW, q_LuW, q_JuW, q_NuV, q_FuV, q_PuV, q_OuV, q_AuV, q_RuV, q_LuV, q_JuV, q_NuU, q_FuU, q_PuU, q_OuU, q_AuU, q_RuU, q_LuU, q_JuU, q_NuX, q_FuX, q_PuX, q_OuX, q_AuX, q_RuX, q_LuX, q_JuX, q_NuR4, q_FuR4, q_PuR4, q_OuR4, q_AuR4, q_RuR4, q_LuR4, q_JuR4, Nat.reduceEqDiff, reduceIte, and_true, true_and, and_false, false_and, and_self, if_true, if_false, not_true_eq_false, not_false_eq_true, Nat.add_left_cancel_iff]
    refine ⟨y1, y2, y3, .inl ?_⟩
    have : w = 0 ∨ w = 1 ∨ w = 2 := by omega
    rcases this with rfl | rfl | rfl <;> simp only [Nat.reduceEqDiff, reduceIte, and_true, true_and, and_false, false_and, and_self, if_true, if_false, not_true_eq_false, not_false_eq_true]
  · simp only [GKv, q_NuF, q_FuF, q_PuF, q_OuF, q_AuF, q_RuF, q_LuF, q_JuF, q_NuP, q_FuP, q_PuP, q_OuP, q_AuP, q_RuP, q_LuP, q_JuP, q_NuO, q_FuO, q_PuO, q_OuO, q_AuO, q_RuO, q_LuO, q_JuO, q_NuA, q_FuA, q_PuA, q_OuA, q_AuA, q_RuA, q_LuA, q_JuA, q_NuR, q_FuR, q_PuR, q_OuR, q_AuR, q_RuR, q_LuR, q_JuR, q_NuJ, q_FuJ, q_PuJ, q_OuJ, q_AuJ, q_RuJ, q_LuJ, q_JuJ, q_NuL, q_FuL, q_PuL, q_OuL, q_AuL, q_RuL, q_LuL, q_JuL, q_NuB, q_FuB, q_PuB, q_OuB, q_AuB, q_RuB, q_LuB, q_JuB, q_NuW, q_FuW, q_PuW, q_OuW, q_AuW, q_RuW, q_LuW, q_JuW, q_NuV, q_FuV, q_PuV, q_OuV, q_AuV, q_RuV, q_LuV, q_JuV, q_NuU, q_FuU, q_PuU, q_OuU, q_AuU, q_RuU, q_LuU, q_JuU, q_NuX, q_FuX, q_PuX, q_OuX, q_AuX, q_RuX, q_LuX, q_JuX, q_NuR4, q_FuR4, q_PuR4, q_OuR4, q_AuR4, q_RuR4, q_LuR4, q_JuR4, Nat.reduceEqDiff, reduceIte, and_true, true_and, and_false, false_and, and_self, if_true, if_false, not_true_eq_false, not_false_eq_true]
    exact .inr ⟨n, rfl, hn, n0, n1, by rw [n1]; exact r1, by rw [n1]; exact r2, n2, by rw [n2]; exact r3, by rw [n2]; exact r4, d2, Int32.le_refl _⟩
  · exact ⟨(by (try simp only [qla, q_NuF, q_FuF, q_PuF, q_OuF, q_AuF, q_RuF, q_LuF, q_JuF, q_NuP, q_FuP, q_PuP, q_OuP, q_AuP, q_RuP, q_LuP, q_JuP, q_NuO, q_FuO, q_PuO, q_OuO, q_AuO, q_RuO, q_LuO, q_JuO, q_NuA, q_FuA, q_PuA, q_OuA, q_AuA, q_RuA, q_LuA, q_JuA, q_NuR, q_FuR, q_PuR, q_OuR, q_AuR, q_RuR, q_LuR, q_JuR, q_NuJ, q_FuJ, q_PuJ, q_OuJ, q_AuJ, q_RuJ, q_LuJ, q_JuJ, q_NuL, q_FuL, q_PuL, q_OuL, q_AuL, q_RuL, q_LuL, q_JuL, q_NuB, q_FuB, q_PuB, q_OuB, q_AuB, q_RuB, q_LuB, q_JuB, q_NuW, q_FuW, q_PuW, q_OuW, q_AuW, q_RuW, q_LuW, q_JuW, q_NuV, q_FuV, q_PuV, q_OuV, q_AuV, q_RuV, q_LuV, q_JuV, q_NuU, q_FuU, q_PuU, q_OuU, q_AuU, q_RuU, q_LuU, q_JuU, q_NuX, q_FuX, q_PuX, q_OuX, q_AuX, q_RuX, q_LuX, q_JuX, q_NuR4, q_FuR4, q_PuR4, q_OuR4, q_AuR4, q_RuR4, q_LuR4, q_JuR4, Nat.reduceEqDiff, reduceIte, and_true, true_and, and_false, false_and, and_self, if_true, if_false, not_true_eq_false, not_false_eq_true]) <;> first | assumption | lia), (by (try simp only [qla, q_NuF, q_FuF, q_PuF, q_OuF, q_AuF, q_RuF, q_LuF, q_JuF, q_NuP, q_FuP, q_PuP, q_OuP, q_AuP, q_RuP, q_LuP, q_JuP, q_NuO, q_FuO, q_PuO, q_OuO, q_AuO, q_RuO, q_LuO, q_JuO, q_NuA, q_FuA, q_PuA, q_OuA, q_AuA, q_RuA, q_LuA, q_JuA, q_NuR, q_FuR, q_PuR, q_OuR, q_AuR, q_RuR, q_LuR, q_JuR, q_NuJ, q_FuJ, q_PuJ, q_OuJ, q_AuJ, q_RuJ, q_LuJ, q_JuJ, q_NuL, q_FuL, q_PuL, q_OuL, q_AuL, q_RuL, q_LuL, q_JuL, q_NuB, q_FuB, q_PuB, q_OuB, q_AuB, q_RuB, q_LuB, q_JuB, q_NuW, q_FuW, q_PuW, q_OuW, q_AuW, q_RuW, q_LuW, q_JuW, q_NuV, q_FuV, q_PuV, q_OuV, q_AuV, q_RuV, q_LuV, q_JuV, q_NuU, q_FuU, q_PuU, q_OuU, q_AuU, q_RuU, q_LuU, q_JuU, q_NuX, q_FuX, q_PuX, q_OuX, q_AuX, q_RuX, q_LuX, q_JuX, q_NuR4, q_FuR4, q_PuR4, q_OuR4, q_AuR4, q_RuR4, q_LuR4, q_JuR4, Nat.reduceEqDiff, reduceIte, and_true, true_and, and_false, false_and, and_self, if_true, if_false, not_true_eq_false, not_false_eq_true]) <;> first | assumption | lia), (by (try simp only [qla, q_NuF, q_FuF, q_PuF, q_OuF, q_AuF, q_RuF, q_LuF, q_JuF, q_NuP, q_FuP, q_PuP, q_OuP, q_AuP, q_RuP, q_LuP, q_JuP, q_NuO, q_FuO, q_PuO, q_OuO, q_AuO, q_RuO, q_LuO, q_JuO, q_NuA, q_FuA, q_PuA, q_OuA, q_AuA, q_RuA, q_LuA, q_JuA, q_NuR, q_FuR, q_PuR, q_OuR, q_AuR, q_RuR, q_LuR, q_JuR, q_NuJ, q_FuJ, q_PuJ, q_OuJ, q_AuJ, q_RuJ, q_LuJ, q_JuJ, q_NuL, q_FuL, q_PuL, q_OuL, q_AuL, q_RuL, q_LuL, q_JuL, q_NuB, q_FuB, q_PuB, q_OuB, q_AuB, q_RuB, q_LuB, q_JuB, q_NuW, q_FuW, q_PuW, q_OuW, q_AuW, q_RuW, q_LuW, q_JuW, q_NuV, q_FuV, q_PuV, q_OuV, q_AuV, q_RuV, q_LuV, q_JuV, q_NuU, q_FuU, q_PuU, q_OuU, q_AuU, q_RuU, q_LuU, q_JuU, q_NuX, q_FuX, q_PuX, q_OuX, q_AuX, q_RuX, q_LuX, q_JuX, q_NuR4, q_FuR4, q_PuR4, q_OuR4, q_AuR4, q_RuR4, q_LuR4, q_JuR4, Nat.reduceEqDiff, reduceIte, and_true, true_and, and_false, false_and, and_self, if_true, if_false, not_true_eq_false, not_false_eq_true]) <;> first | assumption | lia), (by (try simp only [qla, q_NuF, q_FuF, q_PuF, q_OuF, q_AuF, q_RuF, q_LuF, q_JuF, q_NuP, q_FuP, q_PuP, q_OuP, q_AuP, q_RuP, q_LuP, q_JuP, q_NuO, q_FuO, q_PuO, q_OuO, q_AuO, q_RuO, q_LuO, q_JuO, q_NuA, q_FuA, q_PuA, q_OuA, q_AuA, q_RuA, q_LuA, q_JuA, q_NuR, q_FuR, q_PuR, q_OuR, q_AuR, q_RuR, q_LuR, q_JuR, q_NuJ, q_FuJ, q_PuJ, q_OuJ, q_AuJ, q_RuJ, q_LuJ, q_JuJ, q_NuL, q_FuL, q_PuL, q_OuL, q_AuL, q_RuL, q_LuL, q_JuL, q_NuB, q_FuB, q_PuB, q_OuB, q_AuB, q_RuB, q_LuB, q_JuB, q_NuW, q_FuW, q_PuW, q_OuW, q_AuW, q_RuW, q_LuW, q_JuW, q_NuV, q_FuV, q_PuV, q_OuV, q_AuV, q_RuV, q_LuV, q_JuV, q_NuU, q_FuU, q_PuU, q_OuU, q_AuU, q_RuU, q_LuU, q_JuU, q_NuX, q_FuX, q_PuX, q_OuX, q_AuX, q_RuX, q_LuX, q_JuX, q_NuR4, q_FuR4, q_PuR4, q_OuR4, q_AuR4, q_RuR4, q_LuR4, q_JuR4, Nat.reduceEqDiff, reduceIte, and_true, true_and, and_false, false_and, and_self, if_true, if_false, not_true_eq_false, not_false_eq_true]) <;> first | assumption | lia), (by (try simp only [qla, q_NuF, q_FuF, q_PuF, q_OuF, q_AuF, q_RuF, q_LuF, q_JuF, q_NuP, q_FuP, q_PuP, q_OuP, q_AuP, q_RuP, q_LuP, q_JuP, q_NuO, q_FuO, q_PuO, q_OuO, q_AuO, q_RuO, q_LuO, q_JuO, q_NuA, q_FuA, q_PuA, q_OuA, q_AuA, q_RuA, q_LuA, q_JuA, q_NuR, q_FuR, q_PuR, q_OuR, q_AuR, q_RuR, q_LuR, q_JuR, q_NuJ, q_FuJ, q_PuJ, q_OuJ, q_AuJ, q_RuJ, q_LuJ, q_JuJ, q_NuL, q_FuL, q_PuL, q_OuL, q_AuL, q_RuL, q_LuL, q_JuL, q_NuB, q_FuB, q_PuB, q_OuB, q_AuB, q_RuB, q_LuB, q_JuB, q_NuW, q_FuW, q_PuW, q_OuW, q_AuW, q_RuW, q_LuW, q_JuW, q_NuV, q_FuV, q_PuV, q_OuV, q_AuV, q_RuV, q_LuV, q_JuV, q_NuU, q_FuU, q_PuU, q_OuU, q_AuU, q_RuU, q_LuU, q_JuU, q_NuX, q_FuX, q_PuX, q_OuX, q_AuX, q_RuX, q_LuX, q_JuX, q_NuR4, q_FuR4, q_PuR4, q_OuR4, q_AuR4, q_RuR4, q_LuR4, q_JuR4, Nat.reduceEqDiff, reduceIte, and_true, true_and, and_false, false_and, and_self, if_true, if_false, not_true_eq_false, not_false_eq_true]) <;> first | assumption | lia), (by (try simp only [qla, q_NuF, q_FuF, q_PuF, q_OuF, q_AuF, q_RuF, q_LuF, q_JuF, q_NuP, q_FuP, q_PuP, q_OuP, q_AuP, q_RuP, q_LuP, q_JuP, q_NuO, q_FuO, q_PuO, q_OuO, q_AuO, q_RuO, q_LuO, q_JuO, q_NuA, q_FuA, q_PuA, q_OuA, q_AuA, q_RuA, q_LuA, q_JuA, q_NuR, q_FuR, q_PuR, q_OuR, q_AuR, q_RuR, q_LuR, q_JuR, q_NuJ, q_FuJ, q_PuJ, q_OuJ, q_AuJ, q_RuJ, q_LuJ, q_JuJ, q_NuL, q_FuL, q_PuL, q_OuL, q_AuL, q_RuL, q_LuL, q_JuL, q_NuB, q_FuB, q_PuB, q_OuB, q_AuB, q_RuB, q_LuB, q_JuB, q_NuW, q_FuW, q_PuW, q_OuW, q_AuW, q_RuW, q_LuW, q_JuW, q_NuV, q_FuV, q_PuV, q_OuV, q_AuV, q_RuV, q_LuV, q_JuV, q_NuU, q_FuU, q_PuU, q_OuU, q_AuU, q_RuU, q_LuU, q_JuU, q_NuX, q_FuX, q_PuX, q_OuX, q_AuX, q_RuX, q_LuX, q_JuX, q_NuR4, q_FuR4, q_PuR4, q_OuR4, q_AuR4, q_RuR4, q_LuR4, q_JuR4, Nat.reduceEqDiff, reduceIte, and_true, true_and, and_false, false_and, and_self, if_true, if_false, not_true_eq_false, not_false_eq_true]) <;> first | assumption | lia), (by (try simp only [qla, q_NuF, q_FuF, q_PuF, q_OuF, q_AuF, q_RuF, q_LuF, q_JuF, q_NuP, q_FuP, q_PuP, q_OuP, q_AuP, q_RuP, q_LuP, q_JuP, q_NuO, q_FuO, q_PuO, q_OuO, q_AuO, q_RuO, q_LuO, q_JuO, q_NuA, q_FuA, q_PuA, q_OuA, q_AuA, q_RuA, q_LuA, q_JuA, q_NuR, q_FuR, q_PuR, q_OuR, q_AuR, q_RuR, q_LuR, q_JuR, q_NuJ, q_FuJ, q_PuJ, q_OuJ, q_AuJ, q_RuJ, q_LuJ, q_JuJ, q_NuL, q_FuL, q_PuL, q_OuL, q_AuL, q_RuL, q_LuL, q_JuL, q_NuB, q_FuB, q_PuB, q_OuB, q_AuB, q_RuB, q_LuB, q_JuB, q_NuW, q_FuW, q_PuW, q_OuW, q_AuW, q_RuW, q_LuW, q_JuW, q_NuV, q_FuV, q_PuV, q_OuV, q_AuV, q_RuV, q_LuV, q_JuV, q_NuU, q_FuU, q_PuU, q_OuU, q_AuU, q_RuU, q_LuU, q_JuU, q_NuX, q_FuX, q_PuX, q_OuX, q_AuX, q_RuX, q_LuX, q_JuX, q_NuR4, q_FuR4, q_PuR4, q_OuR4, q_AuR4, q_RuR4, q_LuR4, q_JuR4, Nat.reduceEqDiff, reduceIte, and_true, true_and, and_false, false_and, and_self, if_true, if_false, not_true_eq_false, not_false_eq_true]) <;> first | assumption | lia), .inr (.inr (.inr ⟨(by (try simp only [qla, q_NuF, q_FuF, q_PuF, q_OuF, q_AuF, q_RuF, q_LuF, q_JuF, q_NuP, q_FuP, q_PuP, q_OuP, q_AuP, q_RuP, q_LuP, q_JuP, q_NuO, q_FuO, q_PuO, q_OuO, q_AuO, q_RuO, q_LuO, q_JuO, q_NuA, q_FuA, q_PuA, q_OuA, q_AuA, q_RuA, q_LuA, q_JuA, q_NuR, q_FuR, q_PuR, q_OuR, q_AuR, q_RuR, q_LuR, q_JuR, q_NuJ, q_FuJ, q_PuJ, q_OuJ, q_AuJ, q_RuJ, q_LuJ, q_JuJ, q_NuL, q_FuL, q_PuL, q_OuL, q_AuL, q_RuL, q_LuL, q_JuL, q_NuB, q_FuB, q_PuB, q_OuB, q_AuB, q_RuB, q_LuB, q_JuB, q_NuW, q_FuW, q_PuW, q_OuW, q_AuW, q_RuW, q_LuW, q_JuW, q_NuV, q_FuV, q_PuV, q_OuV, q_AuV, q_RuV, q_LuV, q_JuV, q_NuU, q_FuU, q_PuU, q_OuU, q_AuU, q_RuU, q_LuU, q_JuU, q_NuX, q_FuX, q_PuX, q_OuX, q_AuX, q_RuX, q_LuX, q_JuX, q_NuR4, q_FuR4, q_PuR4, q_OuR4, q_AuR4, q_RuR4, q_LuR4, q_JuR4, Nat.reduceEqDiff, reduceIte, and_true, true_and, and_false, false_and, and_self, if_true, if_false, not_true_eq_false, not_false_eq_true]) <;> first | assumption | lia), (by (try simp only [qla, q_NuF, q_FuF, q_PuF, q_OuF, q_AuF, q_RuF, q_LuF, q_JuF, q_NuP, q_FuP, q_PuP, q_OuP, q_AuP, q_RuP, q_LuP, q_JuP, q_NuO, q_FuO, q_PuO, q_OuO, q_AuO, q_RuO, q_LuO, q_JuO, q_NuA, q_FuA, q_PuA, q_OuA, q_AuA, q_RuA, q_LuA, q_JuA, q_NuR, q_FuR, q_PuR, q_OuR, q_AuR, q_RuR, q_LuR, q_JuR, q_NuJ, q_FuJ, q_PuJ, q_OuJ, q_AuJ, q_RuJ, q_LuJ, q_JuJ, q_NuL, q_FuL, q_PuL, q_OuL, q_AuL, q_RuL, q_LuL, q_JuL, q_NuB, q_FuB, q_PuB, q_OuB, q_AuB, q_RuB, q_LuB, q_JuB, q_NuW, q_FuW, q_PuW, q_OuW, q_AuW, q_RuW, q_LuW, q_JuW, q_NuV, q_FuV, q_PuV, q_OuV, q_AuV, q_RuV, q_LuV, q_JuV, q_NuU, q_FuU, q_PuU, q_OuU, q_AuU, q_RuU, q_LuU, q_JuU, q_NuX, q_FuX, q_PuX, q_OuX, q_AuX, q_RuX, q_LuX, q_JuX, q_NuR4, q_FuR4, q_PuR4, q_OuR4, q_AuR4, q_RuR4, q_LuR4, q_JuR4, Nat.reduceEqDiff, reduceIte, and_true, true_and, and_false, false_and, and_self, if_true, if_false, not_true_eq_false, not_false_eq_true]) <;> first | assumption | lia), (by (try simp only [qla, q_NuF, q_FuF, q_PuF, q_OuF, q_AuF, q_RuF, q_LuF, q_JuF, q_NuP, q_FuP, q_PuP, q_OuP, q_AuP, q_RuP, q_LuP, q_JuP, q_NuO, q_FuO, q_PuO, q_OuO, q_AuO, q_RuO, q_LuO, q_JuO, q_NuA, q_FuA, q_PuA, q_OuA, q_AuA, q_RuA, q_LuA, q_JuA, q_NuR, q_FuR, q_PuR, q_OuR, q_AuR, q_RuR, q_LuR, q_JuR, q_NuJ, q_FuJ, q_PuJ, q_OuJ, q_AuJ, q_RuJ, q_LuJ, q_JuJ, q_NuL, q_FuL, q_PuL, q_OuL, q_AuL, q_RuL, q_LuL, q_JuL, q_NuB, q_FuB, q_PuB, q_OuB, q_AuB, q_RuB, q_LuB, q_JuB, q_NuW, q_FuW, q_PuW, q_OuW, q_AuW, q_RuW, q_LuW, q_JuW, q_NuV, q_FuV, q_PuV, q_OuV, q_AuV, q_RuV, q_LuV, q_JuV, q_NuU, q_FuU, q_PuU, q_OuU, q_AuU, q_RuU, q_LuU, q_JuU, q_NuX, q_FuX, q_PuX, q_OuX, q_AuX, q_RuX, q_LuX, q_JuX, q_NuR4, q_FuR4, q_PuR4, q_OuR4, q_AuR4, q_RuR4, q_LuR4, q_JuR4, Nat.reduceEqDiff, reduceIte, and_true, true_and, and_false, false_and, and_self, if_true, if_false, not_true_eq_false, not_false_eq_true]) <;> first | assumption | lia), (by (try simp only [qla, q_NuF, q_FuF, q_PuF, q_OuF, q_AuF, q_RuF, q_LuF, q_JuF, q_NuP, q_FuP, q_PuP, q_OuP, q_AuP, q_RuP, q_LuP, q_JuP, q_NuO, q_FuO, q_PuO, q_OuO, q_AuO, q_RuO, q_LuO, q_JuO, q_NuA, q_FuA, q_PuA, q_OuA, q_AuA, q_RuA, q_LuA, q_JuA, q_NuR, q_FuR, q_PuR, q_OuR, q_AuR, q_RuR, q_LuR, q_JuR, q_NuJ, q_FuJ, q_PuJ, q_OuJ, q_AuJ, q_RuJ, q_LuJ, q_JuJ, q_NuL, q_FuL, q_PuL, q_OuL, q_AuL, q_RuL, q_LuL, q_JuL, q_NuB, q_FuB, q_PuB, q_OuB, q_AuB, q_RuB, q_LuB, q_JuB, q_NuW, q_FuW, q_PuW, q_OuW, q_AuW, q_RuW, q_LuW, q_JuW, q_NuV, q_FuV, q_PuV, q_OuV, q_AuV, q_RuV, q_LuV, q_JuV, q_NuU, q_FuU, q_PuU, q_OuU, q_AuU, q_RuU, q_LuU, q_JuU, q_NuX, q_FuX, q_PuX, q_OuX, q_AuX, q_RuX, q_LuX, q_JuX, q_NuR4, q_FuR4, q_PuR4, q_OuR4, q_AuR4, q_RuR4, q_LuR4, q_JuR4, Nat.reduceEqDiff, reduceIte, and_true, true_and, and_false, false_and, and_self, if_true, if_false, not_true_eq_false, not_false_eq_true]) <;> first | assumption | lia), .inr (.inl ⟨(by (try simp only [qla, q_NuF, q_FuF, q_PuF, q_OuF, q_AuF, q_RuF, q_LuF, q_JuF, q_NuP, q_FuP, q_PuP, q_OuP, q_AuP, q_RuP, q_LuP, q_JuP, q_NuO, q_FuO, q_PuO, q_OuO, q_AuO, q_RuO, q_LuO, q_JuO, q_NuA, q_FuA, q_PuA, q_OuA, q_AuA, q_RuA, q_LuA, q_JuA, q_NuR, q_FuR, q_PuR, q_OuR, q_AuR, q_RuR, q_LuR, q_JuR, q_NuJ, q_FuJ, q_PuJ, q_OuJ, q_AuJ, q_RuJ, q_LuJ, q_JuJ, q_NuL, q_FuL, q_PuL, q_OuL, q_AuL, q_RuL, q_LuL, q_JuL, q_NuB, q_FuB, q_PuB, q_OuB, q_AuB, q_RuB, q_LuB, q_JuB, q_NuW, q_FuW, q_PuW, q_OuW, q_AuW, q_RuW, q_LuW, q_JuW, q_NuV, q_FuV, q_PuV, q_OuV, q_AuV, q_RuV, q_LuV, q_JuV, q_NuU, q_FuU, q_PuU, q_OuU, q_AuU, q_RuU, q_LuU, q_JuU, q_NuX, q_FuX, q_PuX, q_OuX, q_AuX, q_RuX, q_LuX, q_JuX, q_NuR4, q_FuR4, q_PuR4, q_OuR4, q_AuR4, q_RuR4, q_LuR4, q_JuR4, Nat.reduceEqDiff, reduceIte, and_true, true_and, and_false, false_and, and_self, if_true, if_false, not_true_eq_false, not_false_eq_true]) <;> first | assumption | lia), (by (try simp only [qla, q_NuF, q_FuF, q_PuF, q_OuF, q_AuF, q_RuF, q_LuF, q_JuF, q_NuP, q_FuP, q_PuP, q_OuP, q_AuP, q_RuP, q_LuP, q_JuP, q_NuO, q_FuO, q_PuO, q_OuO, q_AuO, q_RuO, q_LuO, q_JuO, q_NuA, q_FuA, q_PuA, q_OuA, q_AuA, q_RuA, q_LuA, q_JuA, q_NuR, q_FuR, q_PuR, q_OuR, q_AuR, q_RuR, q_LuR, q_JuR, q_NuJ, q_FuJ, q_PuJ, q_OuJ, q_AuJ, q_RuJ, q_LuJ, q_JuJ, q_NuL, q_FuL, q_PuL, q_OuL, q_AuL, q_RuL, q_LuL, q_JuL, q_NuB, q_FuB, q_PuB, q_OuB, q_AuB, q_RuB, q_LuB, q_JuB, q_NuW, q_FuW, q_PuW, q_OuW, q_AuW, q_RuW, q_LuW, q_JuW, q_NuV, q_FuV, q_PuV, q_OuV, q_AuV, q_RuV, q_LuV, q_JuV, q_NuU, q_FuU, q_PuU, q_OuU, q_AuU, q_RuU, q_LuU, q_JuU, q_NuX, q_FuX, q_PuX, q_OuX, q_AuX, q_RuX, q_LuX, q_JuX, q_NuR4, q_FuR4, q_PuR4, q_OuR4, q_AuR4, q_RuR4, q_LuR4, q_JuR4, Nat.reduceEqDiff, reduceIte, and_true, true_and, and_false, false_and, and_self, if_true, if_false, not_true_eq_false, not_false_eq_true]) <;> first | assumption | lia), (by (try simp only [qla, q_NuF, q_FuF, q_PuF, q_OuF, q_AuF, q_RuF, q_LuF, q_JuF, q_NuP, q_FuP, q_PuP, q_OuP, q_AuP, q_RuP, q_LuP, q_JuP, q_NuO, q_FuO, q_PuO, q_OuO, q_AuO, q_RuO, q_LuO, q_JuO, q_NuA, q_FuA, q_PuA, q_OuA, q_AuA, q_RuA, q_LuA, q_JuA, q_NuR, q_FuR, q_PuR, q_OuR, q_AuR, q_RuR, q_LuR, q_JuR, q_NuJ, q_FuJ, q_PuJ, q_OuJ, q_AuJ, q_RuJ, q_LuJ, q_JuJ, q_NuL, q_FuL, q_PuL, q_OuL, q_AuL, q_RuL, q_LuL, q_JuL, q_NuB, q_FuB, q_PuB, q_OuB, q_AuB, q_RuB, q_LuB, q_JuB, q_NuW, q_FuW, q_PuW, q_OuW, q_AuW, q_RuW, q_LuW, q_JuW, q_NuV, q_FuV, q_PuV, q_OuV, q_AuV, q_RuV, q_LuV, q_JuV, q_NuU, q_FuU, q_PuU, q_OuU, q_AuU, q_RuU, q_LuU, q_JuU, q_NuX, q_FuX, q_PuX, q_OuX, q_AuX, q_RuX, q_LuX, q_JuX, q_NuR4, q_FuR4, q_PuR4, q_OuR4, q_AuR4, q_RuR4, q_LuR4, q_JuR4, Nat.reduceEqDiff, reduceIte, and_true, true_and, and_false, false_and, and_self, if_true, if_false, not_true_eq_false, not_false_eq_true]) <;> first | assumption | lia)⟩)⟩))⟩
theorem b_propose {st : zTs} {a b c d e : Int32} (h : qR st) : w_X11_propose st a b c d e (fun k s => (k = 0 ∧ w_X12_propose s a b c d e (zOK 1 0)) ∨ (k = 1 ∧ w_X12_propose s a b c d e (zOK 2 0))) (fun r s => w_X12_propose s a b c d e (zOK 0 r)) := by
  unfold w_X11_propose
  refine i_workAt h (fun z => .inl ⟨rfl, ?_⟩) (fun s hs c1 c2 hk hh => ?_)
  · have N : ∀ x : Int32, w_X12_propose_60 (zOK 1 0) st a b c d e x := fun x => im_isWorkN qmc_rf h z ⟨fun _ => zOK_t h (by decide), fun y => absurd rfl y⟩
    exact im_propose rfl (fun _ => N 0) (fun _ => N 1)
  · have hs' := hs; obtain ⟨hD, hO, hT, hP, hW, hC, hR, hK, hS, hB, hH, hG⟩ := hs'
    have g := (GK_iff.mp hK).2.1 _ hk
    obtain ⟨g1, g2, g3, g4, g5⟩ := id g
    have hn : a.toNatClampNeg < 30 := by have := hK.2.2.1; omega
    have hv : vp_in a 30 := q_i30 c1 hn
    obtain ⟨d1, d2, d3⟩ := id hD
    have bad : ¬ qpo b c d e (zgF s 10 0 15) → w_X12_propose s a b c d e (zOK 2 0) := fun nz => im_propose d1 (fun z => absurd z nz) (fun _ => im_isWorkY qmc_rf hs c1 c2 ⟨fun z => absurd z (by decide), fun _ => i_bad1 ⟨fun z => absurd z (by decide), fun _ => zOK_t (qR_th hs) (by decide)⟩⟩)
    refine i_range (fun z => .inr ⟨rfl, bad (fun q => z.elim q.1 q.2.1)⟩) (fun k1 k2 => ⟨fun k3 => ?_, fun z => .inr ⟨rfl, bad (fun q => z (Int32.not_lt.mp q.2.2.1))⟩⟩)
    refine i_range (fun z => .inr ⟨rfl, bad (fun q => z.elim q.2.2.2.1 (fun y => absurd (qpo_d q) (Int32.not_le.mpr y)))⟩) (fun k4 k5 => ?_)
    obtain ⟨m1, m2, m3⟩ := q_dm (Int32.not_lt.mp k4)
    refine i_range (fun z => .inr ⟨rfl, bad (fun q => z.elim (fun y => q.2.2.2.2.1 ?_) q.2.2.2.2.2.1)⟩) (fun k6 k7 => ?_)
    · rw [Int32.lt_iff_toInt_lt, m2, m3] at y
      rw [Int32.le_iff_toInt_le, m1, m2]
      omega
    refine i_range (fun z => .inr ⟨rfl, bad (fun q => z.elim q.2.2.2.2.2.2.1 (fun y => absurd q.2.2.2.2.2.2.2 (Int32.not_le.mpr y)))⟩) (fun k8 k9 => ?_)
    have ok : qpo b c d e (zgF s 10 0 15) := by
      refine ⟨k1, k2, Int32.not_lt.mpr k3, k4, fun z => k6 ?_, k7, k8, Int32.not_lt.mp k9⟩
      rw [Int32.le_iff_toInt_le, m1, m2] at z
      rw [Int32.lt_iff_toInt_lt, m2, m3]
      omega
    have nb : b.toNatClampNeg < 3 := q_tlt (b := 3) (Int32.not_lt.mp k1) (by lia) rfl
    have v3 : vp_in b 3 := q_i30 k1 nb
    obtain ⟨v9, e9⟩ := q_90 c1 hn k1 nb
    have M : ∀ (t : zTs) (P : Int32 → zTs → Prop), qmc s t → w_X12_bad (zuF t 100 0 0 0) 0 2 (fun (r74 : Int32) (s74 : zTs) => ((r74 = 0 → w_X12_stateOf s74 a (fun (r84 : Int32) => ((r84 = 4 → vp_in ((3 * a) + b) 90 ∧ ((0 ≤ (zgA s74 131 0 ((3 * a) + b : Int32).toNatClampNeg) → ∀ x114 : Int32, x114 = (3 * a) + b → (vp_in x114 90 ∧ (∀ s123 : zTs, s123 = zuA s74 132 0 (x114 : Int32).toNatClampNeg c → (vp_in x114 90 ∧ (∀ s132 : zTs, s132 = zuA s123 133 0 (x114 : Int32).toNatClampNeg d → (vp_in x114 90 ∧ (∀ s141 : zTs, s141 = zuA s132 134 0 (x114 : Int32).toNatClampNeg e → (w_X12_propose_148 P zfu s141 a b c d e (0) (0))))))))) ∧ (¬ 0 ≤ (zgA s74 131 0 ((3 * a) + b : Int32).toNatClampNeg) → P (-2) s74))) ∧ (¬ r84 = 4 → P (-1) s74)))) ∧ (¬ r74 = 0 → P 0 s74))) → w_X12_propose t a b c d e P := fun t P m B => im_propose ((m.2 3 (by decide)).trans d1) (fun _ => im_isWorkY m hs c1 c2 ⟨fun z => absurd z (by decide), fun _ => B⟩) (fun z => absurd ok z)
    refine ⟨fun c4 => ⟨v3, fun y1 => ?_, fun y1 => ?_⟩, fun c4 => ?_⟩
    · refine M _ _ qmc_rf (i_bad0 ⟨fun _ => im_stateOf (s := s) (by repeat (first | exact qmc_rf | apply qmc_F0 | (refine qmc_F ?_ (by decide)) | (refine qmc_A ?_ (by decide)) | apply qmc_O | apply qmc_R | apply qmc_W | (refine qmc_V ?_ (by decide)) | apply qmc_U)) hv hD g hh ⟨fun _ => ⟨v9, fun z => ?_, fun _ => zOK_0 hs rfl⟩, fun z => absurd c4 z⟩, fun z => absurd rfl z⟩)
      exfalso
      have z2 : 0 ≤ zgA s 131 0 (3 * a + b).toNatClampNeg := z
      rw [e9, ← (g3 _ nb).1, show zgA s 61 a.toNatClampNeg b.toNatClampNeg = -1 from y1] at z2
      exact absurd z2 (by decide)
    · intro n hn0 u hu
      subst hu
      simp only [w_X4_init, forall_eq]
      rw [hn0]
      have hs2 := qR_prop (c := c) (d := d) (e := e) hs
      have mm : qmc s (zuF (zuF (zuF (zuW s 25) 25 (zgN s 25) 0 c) 25 (zgN s 25) 1 d) 25 (zgN s 25) 2 e) := by
        refine qmc_F (qmc_F (qmc_F ⟨fun _ _ _ _ => rfl, fun j hj => ?_⟩ (by decide)) (by decide)) (by decide)
        simp only [q_NuF, q_FuF, q_PuF, q_OuF, q_AuF, q_RuF, q_LuF, q_JuF, q_NuP, q_FuP, q_PuP, q_OuP, q_AuP, q_RuP, q_LuP, q_JuP, q_NuO, q_FuO, q_PuO, q_OuO, q_AuO, q_RuO, q_LuO, q_JuO, q_NuA, q_FuA, q_PuA, q_OuA, q_AuA, q_RuA, q_LuA, q_JuA, q_NuR, q_FuR, q_PuR, q_OuR, q_AuR, q_RuR, q_LuR, q_JuR, q_NuJ, q_FuJ, q_PuJ, q_OuJ, q_AuJ, q_RuJ, q_LuJ, q_JuJ, q_NuL, q_FuL, q_PuL, q_OuL, q_AuL, q_RuL, q_LuL, q_JuL, q_NuB, q_FuB, q_PuB, q_OuB, q_AuB, q_RuB, q_LuB, q_JuB, q_NuW, q_FuW, q_PuW, q_OuW, q_AuW, q_RuW, q_LuW, q_JuW, q_NuV, q_FuV, q_PuV, q_OuV, q_AuV, q_RuV, q_LuV, q_JuV, q_NuU, q_FuU, q_PuU, q_OuU, q_AuU, q_RuU, q_LuU, q_JuU, q_NuX, q_FuX, q_PuX, q_OuX, q_AuX, q_RuX, q_LuX, q_JuX, q_NuR4, q_FuR4, q_PuR4, q_OuR4, q_AuR4, q_RuR4, q_LuR4, q_JuR4, Nat.reduceEqDiff, reduceIte, and_true, true_and, and_false, false_and, and_self, if_true, if_false, not_true_eq_false, not_false_eq_true]
      have x21 : ∀ i j, zgF (zuF (zuF (zuF (zuW s 25) 25 (zgN s 25) 0 c) 25 (zgN s 25) 1 d) 25 (zgN s 25) 2 e) 21 i j = zgF s 21 i j := fun i j => by simp only [q_NuF, q_FuF, q_PuF, q_OuF, q_AuF, q_RuF, q_LuF, q_JuF, q_NuP, q_FuP, q_PuP, q_OuP, q_AuP, q_RuP, q_LuP, q_JuP, q_NuO, q_FuO, q_PuO, q_OuO, q_AuO, q_RuO, q_LuO, q_JuO, q_NuA, q_FuA, q_PuA, q_OuA, q_AuA, q_RuA, q_LuA, q_JuA, q_NuR, q_FuR, q_PuR, q_OuR, q_AuR, q_RuR, q_LuR, q_JuR, q_NuJ, q_FuJ, q_PuJ, q_OuJ, q_AuJ, q_RuJ, q_LuJ, q_JuJ, q_NuL, q_FuL, q_PuL, q_OuL, q_AuL, q_RuL, q_LuL, q_JuL, q_NuB, q_FuB, q_PuB, q_OuB, q_AuB, q_RuB, q_LuB, q_JuB, q_NuW, q_FuW, q_PuW, q_OuW, q_AuW, q_RuW, q_LuW, q_JuW, q_NuV, q_FuV, q_PuV, q_OuV, q_AuV, q_RuV, q_LuV, q_JuV, q_NuU, q_FuU, q_PuU, q_OuU, q_AuU, q_RuU, q_LuU, q_JuU, q_NuX, q_FuX, q_PuX, q_OuX, q_AuX, q_RuX, q_LuX, q_JuX, q_NuR4, q_FuR4, q_PuR4, q_OuR4, q_AuR4, q_RuR4, q_LuR4, q_JuR4, Nat.reduceEqDiff, reduceIte, and_true, true_and, and_false, false_and, and_self, if_true, if_false, not_true_eq_false, not_false_eq_true]
      have x10 : zgF (zuF (zuF (zuF (zuW s 25) 25 (zgN s 25) 0 c) 25 (zgN s 25) 1 d) 25 (zgN s 25) 2 e) 10 0 15 = zgF s 10 0 15 := by simp only [q_NuF, q_FuF, q_PuF, q_OuF, q_AuF, q_RuF, q_LuF, q_JuF, q_NuP, q_FuP, q_PuP, q_OuP, q_AuP, q_RuP, q_LuP, q_JuP, q_NuO, q_FuO, q_PuO, q_OuO, q_AuO, q_RuO, q_LuO, q_JuO, q_NuA, q_FuA, q_PuA, q_OuA, q_AuA, q_RuA, q_LuA, q_JuA, q_NuR, q_FuR, q_PuR, q_OuR, q_AuR, q_RuR, q_LuR, q_JuR, q_NuJ, q_FuJ, q_PuJ, q_OuJ, q_AuJ, q_RuJ, q_LuJ, q_JuJ, q_NuL, q_FuL, q_PuL, q_OuL, q_AuL, q_RuL, q_LuL, q_JuL, q_NuB, q_FuB, q_PuB, q_OuB, q_AuB, q_RuB, q_LuB, q_JuB, q_NuW, q_FuW, q_PuW, q_OuW, q_AuW, q_RuW, q_LuW, q_JuW, q_NuV, q_FuV, q_PuV, q_OuV, q_AuV, q_RuV, q_LuV, q_JuV, q_NuU, q_FuU, q_PuU, q_OuU, q_AuU, q_RuU, q_LuU, q_JuU, q_NuX, q_FuX, q_PuX, q_OuX, q_AuX, q_RuX, q_LuX, q_JuX, q_NuR4, q_FuR4, q_PuR4, q_OuR4, q_AuR4, q_RuR4, q_LuR4, q_JuR4, Nat.reduceEqDiff, reduceIte, and_true, true_and, and_false, false_and, and_self, if_true, if_false, not_true_eq_false, not_false_eq_true]
      have xN : zgN (zuF (zuF (zuF (zuW s 25) 25 (zgN s 25) 0 c) 25 (zgN s 25) 1 d) 25 (zgN s 25) 2 e) 21 = zgN s 21 := by simp only [q_NuF, q_FuF, q_PuF, q_OuF, q_AuF, q_RuF, q_LuF, q_JuF, q_NuP, q_FuP, q_PuP, q_OuP, q_AuP, q_RuP, q_LuP, q_JuP, q_NuO, q_FuO, q_PuO, q_OuO, q_AuO, q_RuO, q_LuO, q_JuO, q_NuA, q_FuA, q_PuA, q_OuA, q_AuA, q_RuA, q_LuA, q_JuA, q_NuR, q_FuR, q_PuR, q_OuR, q_AuR, q_RuR, q_LuR, q_JuR, q_NuJ, q_FuJ, q_PuJ, q_OuJ, q_AuJ, q_RuJ, q_LuJ, q_JuJ, q_NuL, q_FuL, q_PuL, q_OuL, q_AuL, q_RuL, q_LuL, q_JuL, q_NuB, q_FuB, q_PuB, q_OuB, q_AuB, q_RuB, q_LuB, q_JuB, q_NuW, q_FuW, q_PuW, q_OuW, q_AuW, q_RuW, q_LuW, q_JuW, q_NuV, q_FuV, q_PuV, q_OuV, q_AuV, q_RuV, q_LuV, q_JuV, q_NuU, q_FuU, q_PuU, q_OuU, q_AuU, q_RuU, q_LuU, q_JuU, q_NuX, q_FuX, q_PuX, q_OuX, q_AuX, q_RuX, q_LuX, q_JuX, q_NuR4, q_FuR4, q_PuR4, q_OuR4, q_AuR4, q_RuR4, q_LuR4, q_JuR4, Nat.reduceEqDiff, reduceIte, and_true, true_and, and_false, false_and, and_self, if_true, if_false, not_true_eq_false, not_false_eq_true]
      have xn : zgN s 25 < zgN (zuF (zuF (zuF (zuW s 25) 25 (zgN s 25) 0 c) 25 (zgN s 25) 1 d) 25 (zgN s 25) 2 e) 25 := by simp only [q_NuF, q_FuF, q_PuF, q_OuF, q_AuF, q_RuF, q_LuF, q_JuF, q_NuP, q_FuP, q_PuP, q_OuP, q_AuP, q_RuP, q_LuP, q_JuP, q_NuO, q_FuO, q_PuO, q_OuO, q_AuO, q_RuO, q_LuO, q_JuO, q_NuA, q_FuA, q_PuA, q_OuA, q_AuA, q_RuA, q_LuA, q_JuA, q_NuR, q_FuR, q_PuR, q_OuR, q_AuR, q_RuR, q_LuR, q_JuR, q_NuJ, q_FuJ, q_PuJ, q_OuJ, q_AuJ, q_RuJ, q_LuJ, q_JuJ, q_NuL, q_FuL, q_PuL, q_OuL, q_AuL, q_RuL, q_LuL, q_JuL, q_NuB, q_FuB, q_PuB, q_OuB, q_AuB, q_RuB, q_LuB, q_JuB, q_NuW, q_FuW, q_PuW, q_OuW, q_AuW, q_RuW, q_LuW, q_JuW, q_NuV, q_FuV, q_PuV, q_OuV, q_AuV, q_RuV, q_LuV, q_JuV, q_NuU, q_FuU, q_PuU, q_OuU, q_AuU, q_RuU, q_LuU, q_JuU, q_NuX, q_FuX, q_PuX, q_OuX, q_AuX, q_RuX, q_LuX, q_JuX, q_NuR4, q_FuR4, q_PuR4, q_OuR4, q_AuR4, q_RuR4, q_LuR4, q_JuR4, Nat.reduceEqDiff, reduceIte, and_true, true_and, and_false, false_and, and_self, if_true, if_false, not_true_eq_false, not_false_eq_true]; omega
      have y0 : zgF (zuF (zuF (zuF (zuW s 25) 25 (zgN s 25) 0 c) 25 (zgN s 25) 1 d) 25 (zgN s 25) 2 e) 25 (zgN s 25) 0 = c := by simp only [q_NuF, q_FuF, q_PuF, q_OuF, q_AuF, q_RuF, q_LuF, q_JuF, q_NuP, q_FuP, q_PuP, q_OuP, q_AuP, q_RuP, q_LuP, q_JuP, q_NuO, q_FuO, q_PuO, q_OuO, q_AuO, q_RuO, q_LuO, q_JuO, q_NuA, q_FuA, q_PuA, q_OuA, q_AuA, q_RuA, q_LuA, q_JuA, q_NuR, q_FuR, q_PuR, q_OuR, q_AuR, q_RuR, q_LuR, q_JuR, q_NuJ, q_FuJ, q_PuJ, q_OuJ, q_AuJ, q_RuJ, q_LuJ, q_JuJ, q_NuL, q_FuL, q_PuL, q_OuL, q_AuL, q_RuL, q_LuL, q_JuL, q_NuB, q_FuB, q_PuB, q_OuB, q_AuB, q_RuB, q_LuB, q_JuB, q_NuW, q_FuW, q_PuW, q_OuW, q_AuW, q_RuW, q_LuW, q_JuW, q_NuV, q_FuV, q_PuV, q_OuV, q_AuV, q_RuV, q_LuV, q_JuV, q_NuU, q_FuU, q_PuU, q_OuU, q_AuU, q_RuU, q_LuU, q_JuU, q_NuX, q_FuX, q_PuX, q_OuX, q_AuX, q_RuX, q_LuX, q_JuX, q_NuR4, q_FuR4, q_PuR4, q_OuR4, q_AuR4, q_RuR4, q_LuR4, q_JuR4, Nat.reduceEqDiff, reduceIte, and_true, true_and, and_false, false_and, and_self, if_true, if_false, not_true_eq_false, not_false_eq_true]
      have yA : zgF (zuF (zuF (zuF (zuW s 25) 25 (zgN s 25) 0 c) 25 (zgN s 25) 1 d) 25 (zgN s 25) 2 e) 25 (zgN s 25) 1 = d := by simp only [q_NuF, q_FuF, q_PuF, q_OuF, q_AuF, q_RuF, q_LuF, q_JuF, q_NuP, q_FuP, q_PuP, q_OuP, q_AuP, q_RuP, q_LuP, q_JuP, q_NuO, q_FuO, q_PuO, q_OuO, q_AuO, q_RuO, q_LuO, q_JuO, q_NuA, q_FuA, q_PuA, q_OuA, q_AuA, q_RuA, q_LuA, q_JuA, q_NuR, q_FuR, q_PuR, q_OuR, q_AuR, q_RuR, q_LuR, q_JuR, q_NuJ, q_FuJ, q_PuJ, q_OuJ, q_AuJ, q_RuJ, q_LuJ, q_JuJ, q_NuL, q_FuL, q_PuL, q_OuL, q_AuL, q_RuL, q_LuL, q_JuL, q_NuB, q_FuB, q_PuB, q_OuB, q_AuB, q_RuB, q_LuB, q_JuB, q_NuW, q_FuW, q_PuW, q_OuW, q_AuW, q_RuW, q_LuW, q_JuW, q_NuV, q_FuV, q_PuV, q_OuV, q_AuV, q_RuV, q_LuV, q_JuV, q_NuU, q_FuU, q_PuU, q_OuU, q_AuU, q_RuU, q_LuU, q_JuU, q_NuX, q_FuX, q_PuX, q_OuX, q_AuX, q_RuX, q_LuX, q_JuX, q_NuR4, q_FuR4, q_PuR4, q_OuR4, q_AuR4, q_RuR4, q_LuR4, q_JuR4, Nat.reduceEqDiff, reduceIte, and_true, true_and, and_false, false_and, and_self, if_true, if_false, not_true_eq_false, not_false_eq_true]
      have y2 : zgF (zuF (zuF (zuF (zuW s 25) 25 (zgN s 25) 0 c) 25 (zgN s 25) 1 d) 25 (zgN s 25) 2 e) 25 (zgN s 25) 2 = e := by simp only [q_NuF, q_FuF, q_PuF, q_OuF, q_AuF, q_RuF, q_LuF, q_JuF, q_NuP, q_FuP, q_PuP, q_OuP, q_AuP, q_RuP, q_LuP, q_JuP, q_NuO, q_FuO, q_PuO, q_OuO, q_AuO, q_RuO, q_LuO, q_JuO, q_NuA, q_FuA, q_PuA, q_OuA, q_AuA, q_RuA, q_LuA, q_JuA, q_NuR, q_FuR, q_PuR, q_OuR, q_AuR, q_RuR, q_LuR, q_JuR, q_NuJ, q_FuJ, q_PuJ, q_OuJ, q_AuJ, q_RuJ, q_LuJ, q_JuJ, q_NuL, q_FuL, q_PuL, q_OuL, q_AuL, q_RuL, q_LuL, q_JuL, q_NuB, q_FuB, q_PuB, q_OuB, q_AuB, q_RuB, q_LuB, q_JuB, q_NuW, q_FuW, q_PuW, q_OuW, q_AuW, q_RuW, q_LuW, q_JuW, q_NuV, q_FuV, q_PuV, q_OuV, q_AuV, q_RuV, q_LuV, q_JuV, q_NuU, q_FuU, q_PuU, q_OuU, q_AuU, q_RuU, q_LuU, q_JuU, q_NuX, q_FuX, q_PuX, q_OuX, q_AuX, q_RuX, q_LuX, q_JuX, q_NuR4, q_FuR4, q_PuR4, q_OuR4, q_AuR4, q_RuR4, q_LuR4, q_JuR4, Nat.reduceEqDiff, reduceIte, and_true, true_and, and_false, false_and, and_self, if_true, if_false, not_true_eq_false, not_false_eq_true]
      generalize (zuF (zuF (zuF (zuW s 25) 25 (zgN s 25) 0 c) 25 (zgN s 25) 1 d) 25 (zgN s 25) 2 e) = t at *
      generalize zgN s 25 = n at *
      obtain ⟨tD, tO, tT, tP, tW, tC, tR, tK, tS, tB, tH, tG⟩ := id hs2
      have tk : a.toNatClampNeg < zgN t 21 := by rw [xN]; exact hk
      obtain ⟨f1, f2, f3, f4, f5⟩ := (GK_iff.mp tK).2.1 _ tk
      have t4 : zgF t 21 a.toNatClampNeg 4 = 4 := (x21 _ _).trans c4
      have c0 : 0 ≤ c := Int32.le_trans d2 k3
      have q1 := (g3 _ nb).1
      have q2 := (g3 _ nb).2.1
      have mt : ∀ cc, 100 ≤ cc → ∀ i j, zgA s cc i j = zgA t cc i j := fun cc h1 i j => (mm.1 cc h1 i j).symm
      -- what is alike, for class and model
      let A : Nat → Prop := fun w => ¬ Int32.ofNat w = b ∧ zgA t 132 0 (3 * a.toNatClampNeg + w) = c ∧ zgA t 133 0 (3 * a.toNatClampNeg + w) = d ∧ zgA t 134 0 (3 * a.toNatClampNeg + w) = e
      have hA : ∀ w, w < 3 → (A w ↔ (¬ Int32.ofNat w = b ∧ ∃ y, zgR t 67 a.toNatClampNeg w = some y ∧ zgF t 25 y 0 = zgF t 25 n 0 ∧ zgF t 25 y 1 = zgF t 25 n 1 ∧ zgF t 25 y 2 = zgF t 25 n 2)) := by
        intro w hw
        obtain ⟨-, -, -, y4⟩ := f3 w hw
        rw [y0, yA, y2]
        rcases y4 with ⟨z1, z2⟩ | ⟨q, z1, z2, z3, z4, z5, z6⟩
        · constructor
          · rintro ⟨-, h1, -⟩
            rw [z2] at h1
            rw [← h1] at c0
            exact absurd c0 (by decide)
          · rintro ⟨-, y, h1, -⟩
            rw [z1] at h1
            cases h1
        · constructor
          · rintro ⟨h0, h1, h2, h3⟩
            exact ⟨h0, q, z1, z4.trans h1, z5.trans h2, z6.trans h3⟩
          · rintro ⟨h0, y, h1, h2, h3, h4⟩
            rw [z1] at h1
            cases h1
            exact ⟨h0, z4.symm.trans h2, z5.symm.trans h3, z6.symm.trans h4⟩
      have ne : ∀ w, w < 3 → ¬ Int32.ofNat w = b → ¬ w = b.toNatClampNeg := by
        intro w hw h1 h2
        refine h1 ?_
        rw [h2]
        exact (q_of_toInt (q_t0 (Int32.not_lt.mp k1))).symm
      -- the model's side, whatever the class did
      have Z : ∀ (u : zTs) (P : Int32 → zTs → Prop), qmc s u → (P 1 (zuA (zuA (zuA (zuA (zuA (zuA (zuA (zuA (zuA (zuA (zuA (zuF u 100 0 0 0) 132 0 (3 * a.toNatClampNeg + b.toNatClampNeg) c) 133 0 (3 * a.toNatClampNeg + b.toNatClampNeg) d) 134 0 (3 * a.toNatClampNeg + b.toNatClampNeg) e) 120 0 a.toNatClampNeg 1) 121 0 a.toNatClampNeg (zgF s 10 0 15)) 122 0 a.toNatClampNeg c) 123 0 a.toNatClampNeg d) 124 0 a.toNatClampNeg e) 132 0 (3 * a.toNatClampNeg + 0) (-1)) 132 0 (3 * a.toNatClampNeg + 1) (-1)) 132 0 (3 * a.toNatClampNeg + 2) (-1)) ∨ ¬ ∃ v, v < 3 ∧ A v) → ((∀ v, v < 3 → ¬ A v) → P 0 (zuA (zuA (zuA (zuF u 100 0 0 0) 132 0 (3 * a.toNatClampNeg + b.toNatClampNeg) c) 133 0 (3 * a.toNatClampNeg + b.toNatClampNeg) d) 134 0 (3 * a.toNatClampNeg + b.toNatClampNeg) e)) → w_X12_propose u a b c d e P := by
        intro u P m k1' k0'
        have m0 := qmc_F0 (x := 0) m
        refine M u P m (i_bad0 ⟨fun _ => im_stateOf m0 hv hD g hh ⟨fun _ => ⟨v9, fun _ => ?_, fun z => ?_⟩, fun z => absurd c4 z⟩, fun z => absurd rfl z⟩)
        · intro x hx
          subst hx
          rw [e9]
          refine ⟨v9, fun u1 h1 => ⟨v9, fun u2 h2 => ⟨v9, fun u3 h3 => ?_⟩⟩⟩
          subst h1
          subst h2
          subst h3
          have eD : zgF (zuA (zuA (zuA (zuF u 100 0 0 0) 132 0 (3 * a.toNatClampNeg + b.toNatClampNeg) c) 133 0 (3 * a.toNatClampNeg + b.toNatClampNeg) d) 134 0 (3 * a.toNatClampNeg + b.toNatClampNeg) e) 100 0 3 = zgF s 10 0 15 := (m0.2 3 (by decide)).trans d1
          refine lm_alike (A := A) c1 hn (fun w hw => ?_) (by rw [eD]; exact k1') zfu 0 0 (by omega) (by decide) (.inl ⟨rfl, fun v hv => by omega⟩) k0'
          show (¬ Int32.ofNat w = b ∧ _) ↔ _
          refine and_congr_right (fun h1 => ?_)
          have h2 := ne w hw h1
          simp only [q_NuF, q_FuF, q_PuF, q_OuF, q_AuF, q_RuF, q_LuF, q_JuF, q_NuP, q_FuP, q_PuP, q_OuP, q_AuP, q_RuP, q_LuP, q_JuP, q_NuO, q_FuO, q_PuO, q_OuO, q_AuO, q_RuO, q_LuO, q_JuO, q_NuA, q_FuA, q_PuA, q_OuA, q_AuA, q_RuA, q_LuA, q_JuA, q_NuR, q_FuR, q_PuR, q_OuR, q_AuR, q_RuR, q_LuR, q_JuR, q_NuJ, q_FuJ, q_PuJ, q_OuJ, q_AuJ, q_RuJ, q_LuJ, q_JuJ, q_NuL, q_FuL, q_PuL, q_OuL, q_AuL, q_RuL, q_LuL, q_JuL, q_NuB, q_FuB, q_PuB, q_OuB, q_AuB, q_RuB, q_LuB, q_JuB, q_NuW, q_FuW, q_PuW, q_OuW, q_AuW, q_RuW, q_LuW, q_JuW, q_NuV, q_FuV, q_PuV, q_OuV, q_AuV, q_RuV, q_LuV, q_JuV, q_NuU, q_FuU, q_PuU, q_OuU, q_AuU, q_RuU, q_LuU, q_JuU, q_NuX, q_FuX, q_PuX, q_OuX, q_AuX, q_RuX, q_LuX, q_JuX, q_NuR4, q_FuR4, q_PuR4, q_OuR4, q_AuR4, q_RuR4, q_LuR4, q_JuR4, Nat.reduceEqDiff, reduceIte, and_true, true_and, and_false, false_and, and_self, if_true, if_false, not_true_eq_false, not_false_eq_true, Nat.add_left_cancel_iff, h2]
          rw [m.1 132 (by decide), m.1 133 (by decide), m.1 134 (by decide), mt 132 (by decide), mt 133 (by decide), mt 134 (by decide)]
        · exfalso
          rw [m0.1 131 (by decide), e9, ← q1] at z
          have y1' : ¬ zgA s 61 a.toNatClampNeg b.toNatClampNeg = -1 := y1
          lia
      refine l_alike hA zfu 0 (by omega) (by decide) (fun ⟨v, _, h1, h2⟩ => ⟨fun z => absurd z (by decide), fun _ => ?_⟩) (fun na => ⟨fun _ => ⟨v3, ?_⟩, fun z => absurd rfl z⟩)
      · refine i_awardAs ?_
        rw [y0, x10]
        refine Z _ _ (by refine qmc_F (qmc_F (qmc_F (qmc_O (qmc_R (qmc_R (qmc_R mm)))) (by decide)) (by decide)) (by decide)) (.inl ?_) (fun z => absurd h2 (z v h1))
        rw [← x10]
        have hs := hs2
        have hD := tD
        have hO := tO
        have hT := tT
        have hP := tP
        have hW := tW
        have hC := tC
        have hR := tR
        have hS := tS
        have hB := tB
        have hH := tH
        have hG := tG
        refine ⟨by show qth _ = _; simp (disch := decide) only [qth_uF, qth_uF100, qth_uP, qth_uO, qth_uA, qth_uB, qth_uR, qth_uL, qth_uW, qth_uV, qth_uU, qth_uX, qth_set], fun _ => by first | rfl | lia, ?_⟩; simp (disch := decide) only [qR, GD_uF, GD_uF10, GD_uF100, GD_uP, GD_uO, GD_uA, GD_uB, GD_uR, GD_uJ, GD_uL, GD_uW, GD_uV, GD_uU, GD_uX, GD_uR4, GO_uF, GO_uF10, GO_uF100, GO_uP, GO_uO, GO_uA, GO_uB, GO_uR, GO_uJ, GO_uL, GO_uW, GO_uV, GO_uU, GO_uX, GO_uR4, GT_uF, GT_uF10, GT_uF100, GT_uP, GT_uO, GT_uA, GT_uB, GT_uR, GT_uJ, GT_uL, GT_uW, GT_uV, GT_uU, GT_uX, GT_uR4, GP_uF, GP_uF13, GP_uF100, GP_uP, GP_uO, GP_uA, GP_uB, GP_uR, GP_uJ, GP_uL, GP_uW, GP_uV, GP_uU, GP_uX, GP_uR4, GW_uF, GW_uF100, GW_uP, GW_uO, GW_uA, GW_uB, GW_uR, GW_uJ, GW_uL, GW_uW, GW_uV, GW_uU, GW_uX, GW_uR4, GC_uF, GC_uF10, GC_uP, GC_uO, GC_uA, GC_uB, GC_uR, GC_uJ, GC_uL, GC_uW, GC_uV, GC_uU, GC_uX, GC_uR4, GR_uF, GR_uF100, GR_uP, GR_uO, GR_uA, GR_uB, GR_uR, GR_uJ, GR_uL, GR_uW, GR_uV, GR_uU, GR_uX, GK_uF, GK_uF10, GK_uF100, GK_uP, GK_uO, GK_uA, GK_uB, GK_uR, GK_uJ, GK_uL, GK_uW, GK_uV, GK_uU, GK_uX, GK_uR4, GS_uF, GS_uF10, GS_uF100, GS_uP, GS_uO, GS_uA, GS_uB, GS_uR, GS_uJ, GS_uL, GS_uW, GS_uV, GS_uU, GS_uX, GS_uR4, GB_uF, GB_uF100, GB_uP, GB_uO, GB_uA, GB_uB, GB_uR, GB_uJ, GB_uL, GB_uW, GB_uV, GB_uU, GB_uX, GB_uR4, GH_uF, GH_uF10, GH_uF100, GH_uP, GH_uO, GH_uA, GH_uB, GH_uR, GH_uJ, GH_uL, GH_uW, GH_uV, GH_uU, GH_uX, GH_uR4, GG_uF, GG_uF100, GG_uP, GG_uO, GG_uA, GG_uB, GG_uR, GG_uJ, GG_uL, GG_uW, GG_uV, GG_uU, GG_uX, GG_uR4]; refine ⟨?_, ?_, ?_, ?_, ?_, ?_, ?_, ?_, ?_, ?_, ?_, ?_⟩ <;> try with_reducible assumption
        exact GK_award nb tD xn y0 yA y2 (Int32.not_lt.mp k4) (Int32.not_lt.mp k5) (Int32.not_lt.mp k8) (Int32.not_lt.mp k9) tK tk t4
      · refine Z _ _ (qmc_R mm) (.inr (fun ⟨v, h1, h2⟩ => na v (by omega) h1 h2)) (fun _ => ?_)
        have hs := hs2
        have hD := tD
        have hO := tO
        have hT := tT
        have hP := tP
        have hW := tW
        have hC := tC
        have hR := tR
        have hS := tS
        have hB := tB
        have hH := tH
        have hG := tG
        refine ⟨by show qth _ = _; simp (disch := decide) only [qth_uF, qth_uF100, qth_uP, qth_uO, qth_uA, qth_uB, qth_uR, qth_uL, qth_uW, qth_uV, qth_uU, qth_uX, qth_set], fun _ => by first | rfl | lia, ?_⟩; simp (disch := decide) only [qR, GD_uF, GD_uF10, GD_uF100, GD_uP, GD_uO, GD_uA, GD_uB, GD_uR, GD_uJ, GD_uL, GD_uW, GD_uV, GD_uU, GD_uX, GD_uR4, GO_uF, GO_uF10, GO_uF100, GO_uP, GO_uO, GO_uA, GO_uB, GO_uR, GO_uJ, GO_uL, GO_uW, GO_uV, GO_uU, GO_uX, GO_uR4, GT_uF, GT_uF10, GT_uF100, GT_uP, GT_uO, GT_uA, GT_uB, GT_uR, GT_uJ, GT_uL, GT_uW, GT_uV, GT_uU, GT_uX, GT_uR4, GP_uF, GP_uF13, GP_uF100, GP_uP, GP_uO, GP_uA, GP_uB, GP_uR, GP_uJ, GP_uL, GP_uW, GP_uV, GP_uU, GP_uX, GP_uR4, GW_uF, GW_uF100, GW_uP, GW_uO, GW_uA, GW_uB, GW_uR, GW_uJ, GW_uL, GW_uW, GW_uV, GW_uU, GW_uX, GW_uR4, GC_uF, GC_uF10, GC_uP, GC_uO, GC_uA, GC_uB, GC_uR, GC_uJ, GC_uL, GC_uW, GC_uV, GC_uU, GC_uX, GC_uR4, GR_uF, GR_uF100, GR_uP, GR_uO, GR_uA, GR_uB, GR_uR, GR_uJ, GR_uL, GR_uW, GR_uV, GR_uU, GR_uX, GK_uF, GK_uF10, GK_uF100, GK_uP, GK_uO, GK_uA, GK_uB, GK_uR, GK_uJ, GK_uL, GK_uW, GK_uV, GK_uU, GK_uX, GK_uR4, GS_uF, GS_uF10, GS_uF100, GS_uP, GS_uO, GS_uA, GS_uB, GS_uR, GS_uJ, GS_uL, GS_uW, GS_uV, GS_uU, GS_uX, GS_uR4, GB_uF, GB_uF100, GB_uP, GB_uO, GB_uA, GB_uB, GB_uR, GB_uJ, GB_uL, GB_uW, GB_uV, GB_uU, GB_uX, GB_uR4, GH_uF, GH_uF10, GH_uF100, GH_uP, GH_uO, GH_uA, GH_uB, GH_uR, GH_uJ, GH_uL, GH_uW, GH_uV, GH_uU, GH_uX, GH_uR4, GG_uF, GG_uF100, GG_uP, GG_uO, GG_uA, GG_uB, GG_uR, GG_uJ, GG_uL, GG_uW, GG_uV, GG_uU, GG_uX, GG_uR4]; refine ⟨?_, ?_, ?_, ?_, ?_, ?_, ?_, ?_, ?_, ?_, ?_, ?_⟩ <;> try with_reducible assumption
        exact GKp_new nb c0 xn y0 yA y2 tK tk
    · exact M _ _ qmc_rf (i_bad0 ⟨fun _ => im_stateOf (s := s) (by repeat (first | exact qmc_rf | apply qmc_F0 | (refine qmc_F ?_ (by decide)) | (refine qmc_A ?_ (by decide)) | apply qmc_O | apply qmc_R | apply qmc_W | (refine qmc_V ?_ (by decide)) | apply qmc_U)) hv hD g hh ⟨fun z => absurd z c4, fun _ => zOK_0 hs rfl⟩, fun z => absurd rfl z⟩)

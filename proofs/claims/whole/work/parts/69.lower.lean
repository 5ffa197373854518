/-! the highest cells off -/
theorem q_AB {s : zTs} {k i j : Nat} {f : Nat → Int32} : zgA (zuB s k i f) k i j = f j := by rw [q_AuB, if_pos ⟨rfl, rfl⟩]
theorem qmc_B {s t : zTs} {k i : Nat} {f : Nat → Int32} (h : qmc s t) (hk : k < 100) : qmc s (zuB t k i f) := ⟨fun c hc i' j' => by rw [q_AuB, if_neg (fun z => by omega)]; exact h.1 c hc i' j', h.2⟩
def qlw (H : Nat → Nat) (f g g' : Nat) : Nat := if f ≤ g' ∧ g' < g ∧ 0 < H g' then H g' - 1 else H g'
def qct (H : Nat → Nat) (f : Nat) : Nat → Int32
  | 0 => 0
  | j + 1 => if 0 < H (f + j) then qct H f j + 1 else qct H f j
theorem qlw_s {H : Nat → Nat} {f g g' : Nat} (hf : f ≤ g) : qlw H f (g + 1) g' = if g' = g ∧ 0 < H g then H g - 1 else qlw H f g g' := by
  unfold qlw
  by_cases e : g' = g
  · subst e
    by_cases c : 0 < H g'
    · rw [if_pos ⟨hf, by omega, c⟩, if_pos ⟨rfl, c⟩]
    · rw [if_neg (fun z => c z.2.2), if_neg (fun z => c z.2), if_neg (fun z => c z.2.2)]
  · rw [if_neg (fun z : g' = g ∧ 0 < H g => e z.1)]
    by_cases c : f ≤ g' ∧ g' < g ∧ 0 < H g'
    · rw [if_pos c, if_pos ⟨c.1, by omega, c.2.2⟩]
    · rw [if_neg c, if_neg (fun z => c ⟨z.1, by omega, z.2.2⟩)]
theorem qct_s {H : Nat → Nat} {f g : Nat} (hf : f ≤ g) : qct H f (g + 1 - f) = if 0 < H g then qct H f (g - f) + 1 else qct H f (g - f) := by
  rw [show g + 1 - f = (g - f) + 1 by omega, qct, show f + (g - f) = g by omega]
theorem q_pred {n : Nat} (h : 0 < n) (h2 : n < 2147483648) : Int32.ofNat n - 1 = Int32.ofNat (n - 1) := by
  refine q_of_toInt ?_
  rw [q_sub (by rw [q_of h2, show (1 : Int32).toInt = 1 from rfl]; omega) (by rw [q_of h2, show (1 : Int32).toInt = 1 from rfl]; omega), q_of h2, show (1 : Int32).toInt = 1 from rfl]
  omega
theorem l_lower {P : Int32 → zTs → Prop} {st : zTs} {i f t : Nat} {H : Nat → Nat} (hH : ∀ g, g < 12 → H g ≤ 20) (ht : t < 12) (fin : ∀ F', (∀ g', g' < 12 → F' g' = Int32.ofNat (qlw H f (t + 1) g')) → P (qct H f (t + 1 - f)) (zuB st 56 i F')) : ∀ (m g : Nat) (x : Int32) (F : Nat → Int32), f ≤ g → g ≤ t + 1 → t + 1 - g < m → (∀ g', g' < 12 → F g' = Int32.ofNat (qlw H f g g')) → x = qct H f (g - f) → w_X8_takeHighestOff_5 P m (zuB st 56 i F) i (Int32.ofNat t) x (Int32.ofNat g) := by
  intro m
  induction m with
  | zero => intro g x F h0 h1 h2; omega
  | succ m ih =>
    intro g x F h0 h1 h2 hF hx
    rw [w_X8_takeHighestOff_5, q_on (by omega)]
    refine ⟨fun c => ?_, fun c => ?_⟩
    · rw [q_nlt (by omega) (by omega)] at c
      have e : g = t + 1 := by omega
      subst e
      rw [hx]
      exact fin F hF
    · rw [q_nlt (by omega) (by omega)] at c
      have hg : g < 12 := by omega
      have vg : vp_in (Int32.ofNat g) 12 := q_nv hg (by omega)
      have hFg : F g = Int32.ofNat (H g) := by
        rw [hF g hg]; unfold qlw; rw [if_neg (fun z => by omega)]
      have h20 := hH g hg
      rw [q_AB, hFg]
      refine ⟨vg, fun c2 y hy => ?_, fun c2 => ⟨vg, vg, fun u hu y hy z hz => ?_⟩⟩
      · subst hy
        rw [q_os (by omega)]
        have c3 : H g ≤ 0 := (q_nle (b := 0) (by omega) (by decide)).mp c2
        refine ih (g + 1) x F (by omega) (by omega) (by omega) (fun g' hg' => ?_) ?_
        · rw [qlw_s h0, if_neg (fun z => by omega)]; exact hF g' hg'
        · rw [qct_s h0, if_neg (by omega)]; exact hx
      · have c3 : 0 < H g := by
          have : ¬ H g ≤ 0 := fun z => c2 ((q_nle (b := 0) (by omega) (by decide)).mpr z)
          omega
        subst hz
        subst hy
        subst hu
        rw [q_os (by omega), zuA_fuse, q_pred c3 (by omega)]
        refine ih (g + 1) _ _ (by omega) (by omega) (by omega) (fun g' hg' => ?_) ?_
        · rw [qlw_s h0]
          by_cases e : g' = g
          · rw [if_pos e, if_pos ⟨e, c3⟩]
          · rw [if_neg e, if_neg (fun z => e z.1)]; exact hF g' hg'
        · rw [qct_s h0, if_pos c3, hx]
theorem lm_lower {P : Int32 → zTs → Prop} {st : zTs} {a : Int32} {f t : Nat} {H : Nat → Nat} (ha : ¬ a < 0) (hi : a.toNatClampNeg < 6) (hH : ∀ g, g < 12 → H g ≤ 20) (ht : t < 12) (fin : ∀ F', (∀ g', g' < 12 → F' (12 * a.toNatClampNeg + g') = Int32.ofNat (qlw H f (t + 1) g')) → (∀ c, (c < 12 * a.toNatClampNeg ∨ 12 * a.toNatClampNeg + 12 ≤ c) → F' c = zgA st 144 0 c) → P (qct H f (t + 1 - f)) (zuB st 144 0 F')) : ∀ (m g : Nat) (x : Int32) (F : Nat → Int32), f ≤ g → g ≤ t + 1 → t + 1 - g < m → (∀ g', g' < 12 → F (12 * a.toNatClampNeg + g') = Int32.ofNat (qlw H f g g')) → (∀ c, (c < 12 * a.toNatClampNeg ∨ 12 * a.toNatClampNeg + 12 ≤ c) → F c = zgA st 144 0 c) → x = qct H f (g - f) → w_X12_lower_55 P m (zuB st 144 0 F) a (Int32.ofNat t) x (Int32.ofNat g) := by
  intro m
  induction m with
  | zero => intro g x F h0 h1 h2; omega
  | succ m ih =>
    intro g x F h0 h1 h2 hF hO hx
    rw [w_X12_lower_55]
    refine ⟨fun c => ?_, fun c => ?_⟩
    · rw [q_nlt (by omega) (by omega)] at c
      have e : g = t + 1 := by omega
      subst e
      rw [hx]
      exact fin F hF hO
    · rw [q_nlt (by omega) (by omega)] at c
      have hg : g < 12 := by omega
      obtain ⟨vg, eg⟩ := q_ix12 ha hi hg
      have hFg : F (12 * a.toNatClampNeg + g) = Int32.ofNat (H g) := by
        rw [hF g hg]; unfold qlw; rw [if_neg (fun z => by omega)]
      have h20 := hH g hg
      rw [q_AB, eg, hFg]
      refine ⟨vg, fun c2 y hy => ?_, fun c2 => ⟨vg, vg, fun u hu y hy z hz => ?_⟩⟩
      · subst hy
        rw [q_os (by omega)]
        have c3 : H g = 0 := by
          have := congrArg Int32.toInt c2
          rw [q_of (by omega), show (0 : Int32).toInt = 0 from rfl] at this
          omega
        refine ih (g + 1) x F (by omega) (by omega) (by omega) (fun g' hg' => ?_) hO ?_
        · rw [qlw_s h0, if_neg (fun z => by omega)]; exact hF g' hg'
        · rw [qct_s h0, if_neg (by omega)]; exact hx
      · have c3 : 0 < H g := by
          have : ¬ H g = 0 := fun z => c2 (by rw [z]; rfl)
          omega
        subst hz
        subst hy
        subst hu
        rw [q_os (by omega), zuA_fuse, q_pred c3 (by omega)]
        refine ih (g + 1) _ _ (by omega) (by omega) (by omega) (fun g' hg' => ?_) (fun c' hc' => ?_) ?_
        · rw [qlw_s h0]
          by_cases e : g' = g
          · rw [if_pos (by rw [e]), if_pos ⟨e, c3⟩]
          · rw [if_neg (by omega), if_neg (fun z => e z.1)]; exact hF g' hg'
        · rw [if_neg (by omega)]; exact hO c' hc'
        · rw [qct_s h0, if_pos c3, hx]
theorem qlw_le {H : Nat → Nat} {f g g' : Nat} : qlw H f g g' ≤ H g' := by
  unfold qlw
  split <;> omega
theorem GC_lower {s : zTs} {i f t : Nat} {F F2 : Nat → Int32} (h : GC s) (hi : i < zgN s 20) (hF : ∀ g', g' < 12 → F g' = Int32.ofNat (qlw (fun g => (zgA s 56 i g).toNatClampNeg) f t g')) (hF2 : ∀ g', g' < 12 → F2 (12 * i + g') = Int32.ofNat (qlw (fun g => (zgA s 56 i g).toNatClampNeg) f t g')) (hO : ∀ c, (c < 12 * i ∨ 12 * i + 12 ≤ c) → F2 c = zgA s 144 0 c) : GC (zuB (zuF (zuB s 56 i F) 100 0 0 0) 144 0 F2) := by
  obtain ⟨k1, k2, k3⟩ := GC_at h hi
  obtain ⟨h1, h2, h3⟩ := h
  simp only [GC, q_NuF, q_FuF, q_PuF, q_OuF, q_AuF, q_RuF, q_LuF, q_JuF, q_NuP, q_FuP, q_PuP, q_OuP, q_AuP, q_RuP, q_LuP, q_JuP, q_NuO, q_FuO, q_PuO, q_OuO, q_AuO, q_RuO, q_LuO, q_JuO, q_NuA, q_FuA, q_PuA, q_OuA, q_AuA, q_RuA, q_LuA, q_JuA, q_NuR, q_FuR, q_PuR, q_OuR, q_AuR, q_RuR, q_LuR, q_JuR, q_NuJ, q_FuJ, q_PuJ, q_OuJ, q_AuJ, q_RuJ, q_LuJ, q_JuJ, q_NuL, q_FuL, q_PuL, q_OuL, q_AuL, q_RuL, q_LuL, q_JuL, q_NuB, q_FuB, q_PuB, q_OuB, q_AuB, q_RuB, q_LuB, q_JuB, q_NuW, q_FuW, q_PuW, q_OuW, q_AuW, q_RuW, q_LuW, q_JuW, q_NuV, q_FuV, q_PuV, q_OuV, q_AuV, q_RuV, q_LuV, q_JuV, q_NuU, q_FuU, q_PuU, q_OuU, q_AuU, q_RuU, q_LuU, q_JuU, q_NuX, q_FuX, q_PuX, q_OuX, q_AuX, q_RuX, q_LuX, q_JuX, q_NuR4, q_FuR4, q_PuR4, q_OuR4, q_AuR4, q_RuR4, q_LuR4, q_JuR4, Nat.reduceEqDiff, reduceIte, and_true, true_and, and_false, false_and, and_self, if_true, if_false, not_true_eq_false, not_false_eq_true]
  refine ⟨fun i' hi' => ?_, fun g hg => ?_, h3⟩
  · obtain ⟨x1, x2, x3⟩ := h1 i' hi'
    by_cases e : i' = i
    · subst e
      simp only [Nat.reduceEqDiff, reduceIte, and_true, true_and, and_false, false_and, and_self, if_true, if_false, not_true_eq_false, not_false_eq_true]
      refine ⟨fun g hg => ?_, x2, fun g k hg hk hh => ?_⟩
      · have q := qlw_le (H := fun g => (zgA s 56 i' g).toNatClampNeg) (f := f) (g := t) (g' := g)
        have := (k1 g hg).2.2
        rw [hF g hg, hF2 g hg]
        refine ⟨rfl, ?_, ?_⟩
        · rw [Int32.le_iff_toInt_le, q_of (by omega), show (0 : Int32).toInt = 0 from rfl]; omega
        · rw [Int32.le_iff_toInt_le, q_of (by omega), show (20 : Int32).toInt = 20 from rfl]; omega
      · have q := qlw_le (H := fun g => (zgA s 56 i' g).toNatClampNeg) (f := f) (g := t) (g' := g)
        have := (k1 g hg).2.2
        rw [hF g hg, q_of (by omega)] at hh
        exact k3 g k hg (by omega)
    · simp only [e, Nat.reduceEqDiff, reduceIte, and_true, true_and, and_false, false_and, and_self, if_true, if_false, not_true_eq_false, not_false_eq_true]
      refine ⟨fun g hg => ?_, x2, x3⟩
      rw [hO _ (by omega)]
      exact x1 g hg
  · rw [hO _ (by omega)]
    exact h2 g hg
theorem b_lower {st : zTs} {a b c : Int32} (h : qR st) : w_X11_lower st a b c (fun k s => (k = 0 ∧ w_X12_lower s a b c (zOK 1 0)) ∨ (k = 1 ∧ w_X12_lower s a b c (zOK 2 0))) (fun r s => w_X12_lower s a b c (zOK 0 r)) := by
  have h0 := h
  obtain ⟨hD, hO, hT, hP, hW, hC, hR, hK, hS, hB, hH, hG⟩ := h
  have mm : qmc st (zuF st 100 0 0 0) := (by repeat (first | exact qmc_rf | apply qmc_F0 | (refine qmc_F ?_ (by decide)) | (refine qmc_A ?_ (by decide)) | apply qmc_O | apply qmc_R | apply qmc_W | (refine qmc_V ?_ (by decide)) | apply qmc_U))
  unfold w_X11_lower
  refine i_wallAt h0 (fun z => .inl ⟨rfl, ?_⟩) (fun a1 a2 hk h6 => ?_)
  · intro u hu
    subst hu
    have B : w_X12_lower_19 (zOK 1 0) (zuF st 100 0 0 0) a b c 1 := i_bad1 ⟨fun e => absurd e (by decide), fun _ => zOK_t (qR_th h0) (by decide)⟩
    exact im_wallN mm hW z ⟨fun _ => B, fun z => absurd rfl z⟩
  refine i_segs (fun q => .inr ⟨rfl, ?_⟩) (fun q => ?_)
  · intro u hu
    subst hu
    have B : w_X12_lower_40 (zOK 2 0) (zuF st 100 0 0 0) a b c 1 := i_bad1 ⟨fun e => absurd e (by decide), fun _ => zOK_t (qR_th h0) (by decide)⟩
    exact im_wallY mm hW a1 a2 ⟨fun z => absurd z (by decide), fun _ => i_bad0 ⟨fun _ => im_span (fun z => absurd z q) (fun _ => ⟨fun _ => B, fun z => absurd rfl z⟩), fun z => absurd rfl z⟩⟩
  · obtain ⟨k1, k2, k3⟩ := GC_at hC hk
    obtain ⟨q1, q2, q3⟩ := id q
    have hf12 : b.toNatClampNeg < 12 := q_tlt (b := 12) (Int32.not_lt.mp q1) (by lia) rfl
    have q4 : ¬ c < 0 := by lia
    have ht12 : c.toNatClampNeg < 12 := q_tlt (b := 12) (Int32.not_lt.mp q4) (by lia) rfl
    have eb := q_nat q1
    have ec := q_nat q4
    have hle : b.toNatClampNeg ≤ c.toNatClampNeg := by
      have x1 := q_t0 (Int32.not_lt.mp q1)
      have x2 := q_t0 (Int32.not_lt.mp q4)
      rw [Int32.lt_iff_toInt_lt] at q2
      omega
    have h20 : ∀ g, g < 12 → (zgA st 56 a.toNatClampNeg g).toNatClampNeg ≤ 20 := fun g hg => (k1 g hg).2.2
    have M : ∀ (t : zTs) (P : Int32 → zTs → Prop), qmc st t → w_X12_lower_55 P zfu (zuF t 100 0 0 0) a c 0 b → w_X12_lower t a b c P := by
      intro t P m B u hu
      subst hu
      exact im_wallY (qmc_F0 m) hW a1 a2 ⟨fun z => absurd z (by decide), fun _ => i_bad0 ⟨fun _ => im_span (fun _ => ⟨fun z => absurd z (by decide), fun _ => i_bad0 ⟨fun _ => B, fun z => absurd rfl z⟩⟩) (fun z => absurd q z), fun z => absurd rfl z⟩⟩
    have start : ∀ g', g' < 12 → zgA st 56 a.toNatClampNeg g' = Int32.ofNat (qlw (fun g => (zgA st 56 a.toNatClampNeg g).toNatClampNeg) b.toNatClampNeg b.toNatClampNeg g') := by
      intro g' hg'
      unfold qlw
      rw [if_neg (fun z => by omega)]
      exact (k1 g' hg').2.1
    have W := l_lower (P := fun r s => w_X12_lower s a b c (zOK 0 r)) (st := st) (i := a.toNatClampNeg) (f := b.toNatClampNeg) (t := c.toNatClampNeg) (H := fun g => (zgA st 56 a.toNatClampNeg g).toNatClampNeg) h20 ht12 (fun F hF => ?_) zfu b.toNatClampNeg 0 (zgA st 56 a.toNatClampNeg) (Nat.le_refl _) (by omega) (by unfold zfu; omega) start (by rw [Nat.sub_self]; rfl)
    · rw [zuA_self, ← eb, ← ec] at W
      exact W
    · refine M _ _ (qmc_B qmc_rf (by decide)) ?_
      have W2 := lm_lower (P := zOK 0 (qct (fun g => (zgA st 56 a.toNatClampNeg g).toNatClampNeg) b.toNatClampNeg (c.toNatClampNeg + 1 - b.toNatClampNeg))) (st := zuF (zuB st 56 a.toNatClampNeg F) 100 0 0 0) (a := a) (f := b.toNatClampNeg) (t := c.toNatClampNeg) (H := fun g => (zgA st 56 a.toNatClampNeg g).toNatClampNeg) a1 h6 h20 ht12 (fun F2 hF2 hO => ?_) zfu b.toNatClampNeg 0 (zgA (zuF (zuB st 56 a.toNatClampNeg F) 100 0 0 0) 144 0) (Nat.le_refl _) (by omega) (by unfold zfu; omega) (fun g' hg' => ?_) (fun _ _ => rfl) (by rw [Nat.sub_self]; rfl)
      · rw [zuA_self, ← eb, ← ec] at W2
        exact W2
      · have hO' : ∀ c', (c' < 12 * a.toNatClampNeg ∨ 12 * a.toNatClampNeg + 12 ≤ c') → F2 c' = zgA st 144 0 c' := fun c' hc' => by
          rw [hO c' hc']
          simp only [q_NuF, q_FuF, q_PuF, q_OuF, q_AuF, q_RuF, q_LuF, q_JuF, q_NuP, q_FuP, q_PuP, q_OuP, q_AuP, q_RuP, q_LuP, q_JuP, q_NuO, q_FuO, q_PuO, q_OuO, q_AuO, q_RuO, q_LuO, q_JuO, q_NuA, q_FuA, q_PuA, q_OuA, q_AuA, q_RuA, q_LuA, q_JuA, q_NuR, q_FuR, q_PuR, q_OuR, q_AuR, q_RuR, q_LuR, q_JuR, q_NuJ, q_FuJ, q_PuJ, q_OuJ, q_AuJ, q_RuJ, q_LuJ, q_JuJ, q_NuL, q_FuL, q_PuL, q_OuL, q_AuL, q_RuL, q_LuL, q_JuL, q_NuB, q_FuB, q_PuB, q_OuB, q_AuB, q_RuB, q_LuB, q_JuB, q_NuW, q_FuW, q_PuW, q_OuW, q_AuW, q_RuW, q_LuW, q_JuW, q_NuV, q_FuV, q_PuV, q_OuV, q_AuV, q_RuV, q_LuV, q_JuV, q_NuU, q_FuU, q_PuU, q_OuU, q_AuU, q_RuU, q_LuU, q_JuU, q_NuX, q_FuX, q_PuX, q_OuX, q_AuX, q_RuX, q_LuX, q_JuX, q_NuR4, q_FuR4, q_PuR4, q_OuR4, q_AuR4, q_RuR4, q_LuR4, q_JuR4, Nat.reduceEqDiff, reduceIte, and_true, true_and, and_false, false_and, and_self, if_true, if_false, not_true_eq_false, not_false_eq_true]
        refine ⟨by show qth _ = _; simp (disch := decide) only [qth_uF, qth_uF100, qth_uP, qth_uO, qth_uA, qth_uB, qth_uR, qth_uL, qth_uW, qth_uV, qth_uU, qth_uX, qth_set], fun _ => by first | rfl | lia, ?_⟩; simp (disch := decide) only [qR, GD_uF, GD_uF10, GD_uF100, GD_uP, GD_uO, GD_uA, GD_uB, GD_uR, GD_uJ, GD_uL, GD_uW, GD_uV, GD_uU, GD_uX, GD_uR4, GO_uF, GO_uF10, GO_uF100, GO_uP, GO_uO, GO_uA, GO_uB, GO_uR, GO_uJ, GO_uL, GO_uW, GO_uV, GO_uU, GO_uX, GO_uR4, GT_uF, GT_uF10, GT_uF100, GT_uP, GT_uO, GT_uA, GT_uB, GT_uR, GT_uJ, GT_uL, GT_uW, GT_uV, GT_uU, GT_uX, GT_uR4, GP_uF, GP_uF13, GP_uF100, GP_uP, GP_uO, GP_uA, GP_uB, GP_uR, GP_uJ, GP_uL, GP_uW, GP_uV, GP_uU, GP_uX, GP_uR4, GW_uF, GW_uF100, GW_uP, GW_uO, GW_uA, GW_uB, GW_uR, GW_uJ, GW_uL, GW_uW, GW_uV, GW_uU, GW_uX, GW_uR4, GC_uF, GC_uF10, GC_uP, GC_uO, GC_uA, GC_uB, GC_uR, GC_uJ, GC_uL, GC_uW, GC_uV, GC_uU, GC_uX, GC_uR4, GR_uF, GR_uF100, GR_uP, GR_uO, GR_uA, GR_uB, GR_uR, GR_uJ, GR_uL, GR_uW, GR_uV, GR_uU, GR_uX, GK_uF, GK_uF10, GK_uF100, GK_uP, GK_uO, GK_uA, GK_uB, GK_uR, GK_uJ, GK_uL, GK_uW, GK_uV, GK_uU, GK_uX, GK_uR4, GS_uF, GS_uF10, GS_uF100, GS_uP, GS_uO, GS_uA, GS_uB, GS_uR, GS_uJ, GS_uL, GS_uW, GS_uV, GS_uU, GS_uX, GS_uR4, GB_uF, GB_uF100, GB_uP, GB_uO, GB_uA, GB_uB, GB_uR, GB_uJ, GB_uL, GB_uW, GB_uV, GB_uU, GB_uX, GB_uR4, GH_uF, GH_uF10, GH_uF100, GH_uP, GH_uO, GH_uA, GH_uB, GH_uR, GH_uJ, GH_uL, GH_uW, GH_uV, GH_uU, GH_uX, GH_uR4, GG_uF, GG_uF100, GG_uP, GG_uO, GG_uA, GG_uB, GG_uR, GG_uJ, GG_uL, GG_uW, GG_uV, GG_uU, GG_uX, GG_uR4]; refine ⟨?_, ?_, ?_, ?_, ?_, ?_, ?_, ?_, ?_, ?_, ?_, ?_⟩ <;> try with_reducible assumption
        exact GC_lower hC hk hF hF2 hO'
      · simp only [q_NuF, q_FuF, q_PuF, q_OuF, q_AuF, q_RuF, q_LuF, q_JuF, q_NuP, q_FuP, q_PuP, q_OuP, q_AuP, q_RuP, q_LuP, q_JuP, q_NuO, q_FuO, q_PuO, q_OuO, q_AuO, q_RuO, q_LuO, q_JuO, q_NuA, q_FuA, q_PuA, q_OuA, q_AuA, q_RuA, q_LuA, q_JuA, q_NuR, q_FuR, q_PuR, q_OuR, q_AuR, q_RuR, q_LuR, q_JuR, q_NuJ, q_FuJ, q_PuJ, q_OuJ, q_AuJ, q_RuJ, q_LuJ, q_JuJ, q_NuL, q_FuL, q_PuL, q_OuL, q_AuL, q_RuL, q_LuL, q_JuL, q_NuB, q_FuB, q_PuB, q_OuB, q_AuB, q_RuB, q_LuB, q_JuB, q_NuW, q_FuW, q_PuW, q_OuW, q_AuW, q_RuW, q_LuW, q_JuW, q_NuV, q_FuV, q_PuV, q_OuV, q_AuV, q_RuV, q_LuV, q_JuV, q_NuU, q_FuU, q_PuU, q_OuU, q_AuU, q_RuU, q_LuU, q_JuU, q_NuX, q_FuX, q_PuX, q_OuX, q_AuX, q_RuX, q_LuX, q_JuX, q_NuR4, q_FuR4, q_PuR4, q_OuR4, q_AuR4, q_RuR4, q_LuR4, q_JuR4, Nat.reduceEqDiff, reduceIte, and_true, true_and, and_false, false_and, and_self, if_true, if_false, not_true_eq_false, not_false_eq_true]
        rw [(k1 g' hg').1]
        exact start g' hg'

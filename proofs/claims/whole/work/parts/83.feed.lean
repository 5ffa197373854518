/-! feed -/
theorem q_nar8 (x : Int32) : -128 ≤ vp_nar .byte (x.toInt8.toInt32) ∧ vp_nar .byte (x.toInt8.toInt32) ≤ 127 := by
  have e : ∀ y : Int32, vp_nar .byte y = y.toInt8.toInt32 := fun y => rfl
  rw [e]
  have h1 := Int8.le_toInt (x.toInt8.toInt32.toInt8)
  have h2 := Int8.toInt_lt (x.toInt8.toInt32.toInt8)
  rw [Int32.le_iff_toInt_le, Int32.le_iff_toInt_le, Int8.toInt_toInt32, show (-128 : Int32).toInt = -128 from rfl, show (127 : Int32).toInt = 127 from rfl]
  omega
def qbt (a k : Int32) : Int32 := vp_nar .byte ((a >>> (k &&& 31) : Int32).toInt8.toInt32)
def qw4 (A : Nat → Int32) (n : Nat) (a : Int32) : Nat → Int32 := qst1 (qst1 (qst1 (qst1 A n (qbt a 24)) (n + 1) (qbt a 16)) (n + 2) (qbt a 8)) (n + 3) (qbt a 0)
def qfc (s : zTs) (A : Nat → Int32) (n : Nat) : zTs := zuF (zuB s 43 0 A) 10 0 11 (Int32.ofNat n)
def qfm (s : zTs) (A : Nat → Int32) (n : Nat) : zTs := zuF (zuB s 102 0 A) 100 0 6 (Int32.ofNat n)
theorem qfc_n {s : zTs} {A : Nat → Int32} {n : Nat} : zgF (qfc s A n) 10 0 11 = Int32.ofNat n := by unfold qfc; simp only [q_NuF, q_FuF, q_PuF, q_OuF, q_AuF, q_RuF, q_LuF, q_JuF, q_NuP, q_FuP, q_PuP, q_OuP, q_AuP, q_RuP, q_LuP, q_JuP, q_NuO, q_FuO, q_PuO, q_OuO, q_AuO, q_RuO, q_LuO, q_JuO, q_NuA, q_FuA, q_PuA, q_OuA, q_AuA, q_RuA, q_LuA, q_JuA, q_NuR, q_FuR, q_PuR, q_OuR, q_AuR, q_RuR, q_LuR, q_JuR, q_NuJ, q_FuJ, q_PuJ, q_OuJ, q_AuJ, q_RuJ, q_LuJ, q_JuJ, q_NuL, q_FuL, q_PuL, q_OuL, q_AuL, q_RuL, q_LuL, q_JuL, q_NuB, q_FuB, q_PuB, q_OuB, q_AuB, q_RuB, q_LuB, q_JuB, q_NuW, q_FuW, q_PuW, q_OuW, q_AuW, q_RuW, q_LuW, q_JuW, q_NuV, q_FuV, q_PuV, q_OuV, q_AuV, q_RuV, q_LuV, q_JuV, q_NuU, q_FuU, q_PuU, q_OuU, q_AuU, q_RuU, q_LuU, q_JuU, q_NuX, q_FuX, q_PuX, q_OuX, q_AuX, q_RuX, q_LuX, q_JuX, q_NuR4, q_FuR4, q_PuR4, q_OuR4, q_AuR4, q_RuR4, q_LuR4, q_JuR4, Nat.reduceEqDiff, reduceIte, and_true, true_and, and_false, false_and, and_self, if_true, if_false, not_true_eq_false, not_false_eq_true]
theorem qfm_n {s : zTs} {A : Nat → Int32} {n : Nat} : zgF (qfm s A n) 100 0 6 = Int32.ofNat n := by unfold qfm; simp only [q_NuF, q_FuF, q_PuF, q_OuF, q_AuF, q_RuF, q_LuF, q_JuF, q_NuP, q_FuP, q_PuP, q_OuP, q_AuP, q_RuP, q_LuP, q_JuP, q_NuO, q_FuO, q_PuO, q_OuO, q_AuO, q_RuO, q_LuO, q_JuO, q_NuA, q_FuA, q_PuA, q_OuA, q_AuA, q_RuA, q_LuA, q_JuA, q_NuR, q_FuR, q_PuR, q_OuR, q_AuR, q_RuR, q_LuR, q_JuR, q_NuJ, q_FuJ, q_PuJ, q_OuJ, q_AuJ, q_RuJ, q_LuJ, q_JuJ, q_NuL, q_FuL, q_PuL, q_OuL, q_AuL, q_RuL, q_LuL, q_JuL, q_NuB, q_FuB, q_PuB, q_OuB, q_AuB, q_RuB, q_LuB, q_JuB, q_NuW, q_FuW, q_PuW, q_OuW, q_AuW, q_RuW, q_LuW, q_JuW, q_NuV, q_FuV, q_PuV, q_OuV, q_AuV, q_RuV, q_LuV, q_JuV, q_NuU, q_FuU, q_PuU, q_OuU, q_AuU, q_RuU, q_LuU, q_JuU, q_NuX, q_FuX, q_PuX, q_OuX, q_AuX, q_RuX, q_LuX, q_JuX, q_NuR4, q_FuR4, q_PuR4, q_OuR4, q_AuR4, q_RuR4, q_LuR4, q_JuR4, Nat.reduceEqDiff, reduceIte, and_true, true_and, and_false, false_and, and_self, if_true, if_false, not_true_eq_false, not_false_eq_true]
theorem zuF_fuse {s : zTs} {k i j : Nat} {x y : Int32} : zuF (zuF s k i j x) k i j y = zuF s k i j y := by
  have e : zp2 (zgF (zuF s k i j x)) k i (zp1 (zgF (zuF s k i j x) k i) j y) = zp2 (zgF s) k i (zp1 (zgF s k i) j y) := by
    funext a b c
    show (zp2 (zp2 (zgF s) k i (zp1 (zgF s k i) j x)) k i (zp1 (zp2 (zgF s) k i (zp1 (zgF s k i) j x) k i) j y)) a b c = _
    rw [zp2_at]
    unfold zp2 zp1
    by_cases h1 : a = k ∧ b = i
    · rw [if_pos h1, if_pos h1]
      by_cases h2 : c = j
      · rw [if_pos h2, if_pos h2]
      · rw [if_neg h2, if_neg h2, if_neg h2]
    · rw [if_neg h1, if_neg h1, if_neg h1]
  show (_, zp2 (zgF (zuF s k i j x)) k i (zp1 (zgF (zuF s k i j x) k i) j y), _) = (_, zp2 (zgF s) k i (zp1 (zgF s k i) j y), _)
  rw [e]
  rfl
theorem zuF_self {s : zTs} {k i j : Nat} : zuF s k i j (zgF s k i j) = s := by
  have e : zp2 (zgF s) k i (zp1 (zgF s k i) j (zgF s k i j)) = zgF s := by
    funext a b c
    unfold zp2 zp1
    by_cases h1 : a = k ∧ b = i
    · rw [if_pos h1]
      by_cases h2 : c = j
      · rw [if_pos h2, h1.1, h1.2, h2]
      · rw [if_neg h2, h1.1, h1.2]
    · rw [if_neg h1]
  show (_, zp2 (zgF s) k i (zp1 (zgF s k i) j (zgF s k i j)), _) = _
  rw [e]
  rfl
theorem zuAF {s : zTs} {k i j k' i' j' : Nat} {x y : Int32} : zuA (zuF s k' i' j' y) k i j x = zuF (zuA s k i j x) k' i' j' y := rfl
theorem qfc_s {s : zTs} {A : Nat → Int32} {n m : Nat} {x : Int32} : zuF (zuA (qfc s A n) 43 0 n x) 10 0 11 (Int32.ofNat m) = qfc s (qst1 A n x) m := by
  unfold qfc qst1
  rw [zuAF, zuA_fuse, zuF_fuse]
theorem qfm_s {s : zTs} {A : Nat → Int32} {n m : Nat} {x : Int32} : zuF (zuA (qfm s A n) 102 0 n x) 100 0 6 (Int32.ofNat m) = qfm s (qst1 A n x) m := by
  unfold qfm qst1
  rw [zuAF, zuA_fuse, zuF_fuse]
theorem l_put1 {P : zTs → Prop} {s : zTs} {A : Nat → Int32} {n f : Nat} {a k : Int32} (hk : ¬ k < 0) (hn : n < 400) (h : w_X11_putOnTape_3 P f (qfc s (qst1 A n (qbt a k)) (n + 1)) a (k + -8)) : w_X11_putOnTape_3 P (f + 1) (qfc s A n) a k := by
  rw [w_X11_putOnTape_3]
  refine ⟨fun c => absurd c hk, fun _ => ⟨fun c => ?_, fun _ => ⟨?_, ?_⟩⟩⟩
  · rw [qfc_n, show (400 : Int32) = Int32.ofNat 400 from rfl, q_nle (by omega) (by omega)] at c
    omega
  · rw [qfc_n]; exact q_nv hn (by omega)
  · intro u hu v hv w hw
    subst hw
    rw [qfc_n, q_on (by omega)] at hu
    subst hu
    have e : zgF (zuA (qfc s A n) 43 0 n (vp_nar .byte ((a >>> (k &&& 31) : Int32).toInt8.toInt32))) 10 0 11 = Int32.ofNat n := by simp only [q_NuF, q_FuF, q_PuF, q_OuF, q_AuF, q_RuF, q_LuF, q_JuF, q_NuP, q_FuP, q_PuP, q_OuP, q_AuP, q_RuP, q_LuP, q_JuP, q_NuO, q_FuO, q_PuO, q_OuO, q_AuO, q_RuO, q_LuO, q_JuO, q_NuA, q_FuA, q_PuA, q_OuA, q_AuA, q_RuA, q_LuA, q_JuA, q_NuR, q_FuR, q_PuR, q_OuR, q_AuR, q_RuR, q_LuR, q_JuR, q_NuJ, q_FuJ, q_PuJ, q_OuJ, q_AuJ, q_RuJ, q_LuJ, q_JuJ, q_NuL, q_FuL, q_PuL, q_OuL, q_AuL, q_RuL, q_LuL, q_JuL, q_NuB, q_FuB, q_PuB, q_OuB, q_AuB, q_RuB, q_LuB, q_JuB, q_NuW, q_FuW, q_PuW, q_OuW, q_AuW, q_RuW, q_LuW, q_JuW, q_NuV, q_FuV, q_PuV, q_OuV, q_AuV, q_RuV, q_LuV, q_JuV, q_NuU, q_FuU, q_PuU, q_OuU, q_AuU, q_RuU, q_LuU, q_JuU, q_NuX, q_FuX, q_PuX, q_OuX, q_AuX, q_RuX, q_LuX, q_JuX, q_NuR4, q_FuR4, q_PuR4, q_OuR4, q_AuR4, q_RuR4, q_LuR4, q_JuR4]; exact qfc_n
    rw [e, q_os (by omega), qfc_s] at hv
    subst hv
    exact h
theorem l_put {P : zTs → Prop} {s : zTs} {A : Nat → Int32} {n : Nat} {a : Int32} (hn : n + 4 ≤ 400) (h : P (qfc s (qw4 A n a) (n + 4))) : w_X11_putOnTape (qfc s A n) a P := by
  unfold w_X11_putOnTape
  rw [show zfu = 99995 + 1 + 1 + 1 + 1 + 1 from rfl]
  refine l_put1 (by decide) (by omega) (l_put1 (by decide) (by omega) (l_put1 (by decide) (by omega) (l_put1 (by decide) (by omega) ?_)))
  rw [w_X11_putOnTape_3]
  exact ⟨fun _ => h, fun z => absurd (by decide) z⟩
theorem lm_feed1 {P : Int32 → zTs → Prop} {K : zTs → Int32 → Int32 → Int32 → Int32 → Int32 → Int32 → Prop} {s : zTs} {A : Nat → Int32} {n f : Nat} {a b c d e i x k : Int32} (hk : ¬ k < 0) (hn : n < 400) (h : w_X12_feed_77 P K f (qfm s (qst1 A n (qbt x k)) (n + 1)) a b c d e i x (k + -8)) : w_X12_feed_77 P K (f + 1) (qfm s A n) a b c d e i x k := by
  rw [w_X12_feed_77]
  refine ⟨fun c => absurd c hk, fun _ => ⟨?_, ?_⟩⟩
  · rw [qfm_n]; exact q_nv hn (by omega)
  · intro u hu v hv w hw
    subst hw
    rw [qfm_n, q_on (by omega)] at hu
    subst hu
    have e : zgF (zuA (qfm s A n) 102 0 n (vp_nar .byte ((x >>> (k &&& 31) : Int32).toInt8.toInt32))) 100 0 6 = Int32.ofNat n := by simp only [q_NuF, q_FuF, q_PuF, q_OuF, q_AuF, q_RuF, q_LuF, q_JuF, q_NuP, q_FuP, q_PuP, q_OuP, q_AuP, q_RuP, q_LuP, q_JuP, q_NuO, q_FuO, q_PuO, q_OuO, q_AuO, q_RuO, q_LuO, q_JuO, q_NuA, q_FuA, q_PuA, q_OuA, q_AuA, q_RuA, q_LuA, q_JuA, q_NuR, q_FuR, q_PuR, q_OuR, q_AuR, q_RuR, q_LuR, q_JuR, q_NuJ, q_FuJ, q_PuJ, q_OuJ, q_AuJ, q_RuJ, q_LuJ, q_JuJ, q_NuL, q_FuL, q_PuL, q_OuL, q_AuL, q_RuL, q_LuL, q_JuL, q_NuB, q_FuB, q_PuB, q_OuB, q_AuB, q_RuB, q_LuB, q_JuB, q_NuW, q_FuW, q_PuW, q_OuW, q_AuW, q_RuW, q_LuW, q_JuW, q_NuV, q_FuV, q_PuV, q_OuV, q_AuV, q_RuV, q_LuV, q_JuV, q_NuU, q_FuU, q_PuU, q_OuU, q_AuU, q_RuU, q_LuU, q_JuU, q_NuX, q_FuX, q_PuX, q_OuX, q_AuX, q_RuX, q_LuX, q_JuX, q_NuR4, q_FuR4, q_PuR4, q_OuR4, q_AuR4, q_RuR4, q_LuR4, q_JuR4]; exact qfm_n
    rw [e, q_os (by omega), qfm_s] at hv
    subst hv
    exact h
theorem lm_feed4 {P : Int32 → zTs → Prop} {K : zTs → Int32 → Int32 → Int32 → Int32 → Int32 → Int32 → Prop} {s : zTs} {A : Nat → Int32} {n : Nat} {a b c d e i x : Int32} (hn : n + 4 ≤ 400) (h : K (qfm s (qw4 A n x) (n + 4)) a b c d e (i + 1)) : w_X12_feed_71 P K (qfm s A n) a b c d e i x := by
  unfold w_X12_feed_71
  rw [show zfu = 99995 + 1 + 1 + 1 + 1 + 1 from rfl]
  refine lm_feed1 (by decide) (by omega) (lm_feed1 (by decide) (by omega) (lm_feed1 (by decide) (by omega) (lm_feed1 (by decide) (by omega) ?_)))
  rw [w_X12_feed_77]
  exact ⟨fun _ y hy => by subst hy; exact h, fun z => absurd (by decide) z⟩
def qw20 (A : Nat → Int32) (n : Nat) (a b c d e : Int32) : Nat → Int32 := qw4 (qw4 (qw4 (qw4 (qw4 A n a) (n + 4) b) (n + 8) c) (n + 12) d) (n + 16) e
theorem lm_feed {P : Int32 → zTs → Prop} {s : zTs} {A : Nat → Int32} {n : Nat} {a b c d e : Int32} (hn : n + 20 ≤ 400) (h : P (Int32.ofNat (n + 20)) (qfm s (qw20 A n a b c d e) (n + 20))) : w_X12_feed_23 P zfu (qfm s A n) a b c d e 0 := by
  rw [show zfu = 99994 + 1 + 1 + 1 + 1 + 1 + 1 from rfl]
  rw [w_X12_feed_23]
  refine ⟨fun z => absurd z (by decide), fun _ => ⟨fun _ => lm_feed4 (by omega) ?_, fun z => absurd rfl z⟩⟩
  rw [w_X12_feed_23]
  refine ⟨fun z => absurd z (by decide), fun _ => ⟨fun z => absurd z (by decide), fun _ => ⟨fun _ => lm_feed4 (by omega) ?_, fun z => absurd (by decide) z⟩⟩⟩
  rw [w_X12_feed_23]
  refine ⟨fun z => absurd z (by decide), fun _ => ⟨fun z => absurd z (by decide), fun _ => ⟨fun z => absurd z (by decide), fun _ => ⟨fun _ => lm_feed4 (by omega) ?_, fun z => absurd (by decide) z⟩⟩⟩⟩
  rw [w_X12_feed_23]
  refine ⟨fun z => absurd z (by decide), fun _ => ⟨fun z => absurd z (by decide), fun _ => ⟨fun z => absurd z (by decide), fun _ => ⟨fun z => absurd z (by decide), fun _ => ⟨fun _ => lm_feed4 (by omega) ?_, fun z => absurd (by decide) z⟩⟩⟩⟩⟩
  rw [w_X12_feed_23]
  refine ⟨fun z => absurd z (by decide), fun _ => ⟨fun z => absurd z (by decide), fun _ => ⟨fun z => absurd z (by decide), fun _ => ⟨fun z => absurd z (by decide), fun _ => ⟨fun z => absurd z (by decide), fun _ => lm_feed4 (by omega) ?_⟩⟩⟩⟩⟩
  rw [w_X12_feed_23]
  refine ⟨fun _ => ?_, fun z => absurd (by decide) z⟩
  rw [qfm_n]
  exact h
def qby (x : Int32) : Prop := -128 ≤ x ∧ x ≤ 127
theorem qw4_in {A B : Nat → Int32} {n : Nat} {a : Int32} (h : ∀ j, A j = B j ∧ qby (B j)) : ∀ j, qw4 A n a j = qw4 B n a j ∧ qby (qw4 B n a j) := by
  have one : ∀ {A B : Nat → Int32} {n : Nat} {k : Int32}, (∀ j, A j = B j ∧ qby (B j)) → ∀ j, qst1 A n (qbt a k) j = qst1 B n (qbt a k) j ∧ qby (qst1 B n (qbt a k) j) := by
    intro A B n k h j
    by_cases c : j = n
    · rw [c, qst1_at, qst1_at]; exact ⟨rfl, q_nar8 _⟩
    · rw [qst1_ne c, qst1_ne c]; exact h j
  exact one (one (one (one h)))
theorem qw20_in {A B : Nat → Int32} {n : Nat} {a b c d e : Int32} (h : ∀ j, A j = B j ∧ qby (B j)) : ∀ j, qw20 A n a b c d e j = qw20 B n a b c d e j ∧ qby (qw20 B n a b c d e j) := qw4_in (qw4_in (qw4_in (qw4_in (qw4_in h))))
theorem qfc_self {s : zTs} {n : Nat} (h : zgF s 10 0 11 = Int32.ofNat n) : qfc s (zgA s 43 0) n = s := by
  unfold qfc
  rw [← h]
  exact (congrArg (fun z => zuF z 10 0 11 (zgF s 10 0 11)) zuA_self).trans zuF_self
theorem qfm_self {s : zTs} {n : Nat} (h : zgF s 100 0 6 = Int32.ofNat n) : qfm s (zgA s 102 0) n = s := by
  unfold qfm
  rw [← h]
  exact (congrArg (fun z => zuF z 100 0 6 (zgF s 100 0 6)) zuA_self).trans zuF_self
theorem b_feed {st : zTs} {a b c d e : Int32} (h : qR st) : w_X11_feed st a b c d e (fun r s => w_X12_feed s a b c d e (zOK 0 r)) := by
  have h0 := h
  obtain ⟨hD, hO, hT, hP, hW, hC, hR, hK, hS, hB, hH, hG⟩ := h
  obtain ⟨t1, t2, t3, t4⟩ := id hT
  have tn := q_of_toInt (q_t0 t2)
  have l4 : (zgF st 10 0 11).toNatClampNeg ≤ 400 := by
    have := q_t0 t2
    rw [Int32.le_iff_toInt_le, show (400 : Int32).toInt = 400 from rfl] at t3
    omega
  obtain ⟨n, hn⟩ : ∃ n, (zgF st 10 0 11).toNatClampNeg = n := ⟨_, rfl⟩
  rw [hn] at tn l4
  have k20 : zgF st 10 0 11 + 20 = Int32.ofNat (n + 20) := by
    rw [tn, show (20 : Int32) = Int32.ofNat 20 from rfl, q_nadd (by omega)]
  unfold w_X11_feed
  rw [k20]
  refine ⟨fun z => ?_, fun z => ?_⟩
  · have z' := z
    rw [show (400 : Int32) = Int32.ofNat 400 from rfl, q_nle (by omega) (by omega)] at z'
    rw [← qfc_self tn]
    refine l_put (by omega) (l_put (by omega) (l_put (by omega) (l_put (by omega) (l_put (by omega) ?_))))
    show w_X12_feed (qfc st (qw20 (zgA st 43 0) n a b c d e) (n + 20)) a b c d e (zOK 0 (zgF (qfc st (qw20 (zgA st 43 0) n a b c d e) (n + 20)) 10 0 11))
    intro u hu
    subst hu
    rw [qfc_n]
    have e6 : zgF (zuF (qfc st (qw20 (zgA st 43 0) n a b c d e) (n + 20)) 100 0 0 0) 100 0 6 = Int32.ofNat n := by
      unfold qfc
      simp only [q_NuF, q_FuF, q_PuF, q_OuF, q_AuF, q_RuF, q_LuF, q_JuF, q_NuP, q_FuP, q_PuP, q_OuP, q_AuP, q_RuP, q_LuP, q_JuP, q_NuO, q_FuO, q_PuO, q_OuO, q_AuO, q_RuO, q_LuO, q_JuO, q_NuA, q_FuA, q_PuA, q_OuA, q_AuA, q_RuA, q_LuA, q_JuA, q_NuR, q_FuR, q_PuR, q_OuR, q_AuR, q_RuR, q_LuR, q_JuR, q_NuJ, q_FuJ, q_PuJ, q_OuJ, q_AuJ, q_RuJ, q_LuJ, q_JuJ, q_NuL, q_FuL, q_PuL, q_OuL, q_AuL, q_RuL, q_LuL, q_JuL, q_NuB, q_FuB, q_PuB, q_OuB, q_AuB, q_RuB, q_LuB, q_JuB, q_NuW, q_FuW, q_PuW, q_OuW, q_AuW, q_RuW, q_LuW, q_JuW, q_NuV, q_FuV, q_PuV, q_OuV, q_AuV, q_RuV, q_LuV, q_JuV, q_NuU, q_FuU, q_PuU, q_OuU, q_AuU, q_RuU, q_LuU, q_JuU, q_NuX, q_FuX, q_PuX, q_OuX, q_AuX, q_RuX, q_LuX, q_JuX, q_NuR4, q_FuR4, q_PuR4, q_OuR4, q_AuR4, q_RuR4, q_LuR4, q_JuR4, Nat.reduceEqDiff, reduceIte, and_true, true_and, and_false, false_and, and_self, if_true, if_false, not_true_eq_false, not_false_eq_true]
      exact t1.trans tn
    have e102 : zgA (zuF (qfc st (qw20 (zgA st 43 0) n a b c d e) (n + 20)) 100 0 0 0) 102 0 = zgA st 102 0 := by
      funext j
      unfold qfc
      simp only [q_NuF, q_FuF, q_PuF, q_OuF, q_AuF, q_RuF, q_LuF, q_JuF, q_NuP, q_FuP, q_PuP, q_OuP, q_AuP, q_RuP, q_LuP, q_JuP, q_NuO, q_FuO, q_PuO, q_OuO, q_AuO, q_RuO, q_LuO, q_JuO, q_NuA, q_FuA, q_PuA, q_OuA, q_AuA, q_RuA, q_LuA, q_JuA, q_NuR, q_FuR, q_PuR, q_OuR, q_AuR, q_RuR, q_LuR, q_JuR, q_NuJ, q_FuJ, q_PuJ, q_OuJ, q_AuJ, q_RuJ, q_LuJ, q_JuJ, q_NuL, q_FuL, q_PuL, q_OuL, q_AuL, q_RuL, q_LuL, q_JuL, q_NuB, q_FuB, q_PuB, q_OuB, q_AuB, q_RuB, q_LuB, q_JuB, q_NuW, q_FuW, q_PuW, q_OuW, q_AuW, q_RuW, q_LuW, q_JuW, q_NuV, q_FuV, q_PuV, q_OuV, q_AuV, q_RuV, q_LuV, q_JuV, q_NuU, q_FuU, q_PuU, q_OuU, q_AuU, q_RuU, q_LuU, q_JuU, q_NuX, q_FuX, q_PuX, q_OuX, q_AuX, q_RuX, q_LuX, q_JuX, q_NuR4, q_FuR4, q_PuR4, q_OuR4, q_AuR4, q_RuR4, q_LuR4, q_JuR4, Nat.reduceEqDiff, reduceIte, and_true, true_and, and_false, false_and, and_self, if_true, if_false, not_true_eq_false, not_false_eq_true]
    refine ⟨fun _ => ?_, fun y => absurd (by rw [e6, ← tn, k20]; exact z) y⟩
    rw [← qfm_self e6]
    refine lm_feed (by omega) ?_
    rw [e102]
    have key := qw20_in (n := n) (a := a) (b := b) (c := c) (d := d) (e := e) (A := zgA st 43 0) (B := zgA st 102 0) t4
    unfold qfm qfc
    refine ⟨by show qth _ = _; simp (disch := decide) only [qth_uF, qth_uF100, qth_uP, qth_uO, qth_uA, qth_uB, qth_uR, qth_uL, qth_uW, qth_uV, qth_uU, qth_uX, qth_set], fun _ => by first | rfl | lia, ?_⟩; simp (disch := decide) only [qR, GD_uF, GD_uF10, GD_uF100, GD_uP, GD_uO, GD_uA, GD_uB, GD_uR, GD_uJ, GD_uL, GD_uW, GD_uV, GD_uU, GD_uX, GD_uR4, GO_uF, GO_uF10, GO_uF100, GO_uP, GO_uO, GO_uA, GO_uB, GO_uR, GO_uJ, GO_uL, GO_uW, GO_uV, GO_uU, GO_uX, GO_uR4, GT_uF, GT_uF10, GT_uF100, GT_uP, GT_uO, GT_uA, GT_uB, GT_uR, GT_uJ, GT_uL, GT_uW, GT_uV, GT_uU, GT_uX, GT_uR4, GP_uF, GP_uF13, GP_uF100, GP_uP, GP_uO, GP_uA, GP_uB, GP_uR, GP_uJ, GP_uL, GP_uW, GP_uV, GP_uU, GP_uX, GP_uR4, GW_uF, GW_uF100, GW_uP, GW_uO, GW_uA, GW_uB, GW_uR, GW_uJ, GW_uL, GW_uW, GW_uV, GW_uU, GW_uX, GW_uR4, GC_uF, GC_uF10, GC_uP, GC_uO, GC_uA, GC_uB, GC_uR, GC_uJ, GC_uL, GC_uW, GC_uV, GC_uU, GC_uX, GC_uR4, GR_uF, GR_uF100, GR_uP, GR_uO, GR_uA, GR_uB, GR_uR, GR_uJ, GR_uL, GR_uW, GR_uV, GR_uU, GR_uX, GK_uF, GK_uF10, GK_uF100, GK_uP, GK_uO, GK_uA, GK_uB, GK_uR, GK_uJ, GK_uL, GK_uW, GK_uV, GK_uU, GK_uX, GK_uR4, GS_uF, GS_uF10, GS_uF100, GS_uP, GS_uO, GS_uA, GS_uB, GS_uR, GS_uJ, GS_uL, GS_uW, GS_uV, GS_uU, GS_uX, GS_uR4, GB_uF, GB_uF100, GB_uP, GB_uO, GB_uA, GB_uB, GB_uR, GB_uJ, GB_uL, GB_uW, GB_uV, GB_uU, GB_uX, GB_uR4, GH_uF, GH_uF10, GH_uF100, GH_uP, GH_uO, GH_uA, GH_uB, GH_uR, GH_uJ, GH_uL, GH_uW, GH_uV, GH_uU, GH_uX, GH_uR4, GG_uF, GG_uF100, GG_uP, GG_uO, GG_uA, GG_uB, GG_uR, GG_uJ, GG_uL, GG_uW, GG_uV, GG_uU, GG_uX, GG_uR4]; refine ⟨?_, ?_, ?_, ?_, ?_, ?_, ?_, ?_, ?_, ?_, ?_, ?_⟩ <;> try with_reducible assumption
    simp only [GT, q_NuF, q_FuF, q_PuF, q_OuF, q_AuF, q_RuF, q_LuF, q_JuF, q_NuP, q_FuP, q_PuP, q_OuP, q_AuP, q_RuP, q_LuP, q_JuP, q_NuO, q_FuO, q_PuO, q_OuO, q_AuO, q_RuO, q_LuO, q_JuO, q_NuA, q_FuA, q_PuA, q_OuA, q_AuA, q_RuA, q_LuA, q_JuA, q_NuR, q_FuR, q_PuR, q_OuR, q_AuR, q_RuR, q_LuR, q_JuR, q_NuJ, q_FuJ, q_PuJ, q_OuJ, q_AuJ, q_RuJ, q_LuJ, q_JuJ, q_NuL, q_FuL, q_PuL, q_OuL, q_AuL, q_RuL, q_LuL, q_JuL, q_NuB, q_FuB, q_PuB, q_OuB, q_AuB, q_RuB, q_LuB, q_JuB, q_NuW, q_FuW, q_PuW, q_OuW, q_AuW, q_RuW, q_LuW, q_JuW, q_NuV, q_FuV, q_PuV, q_OuV, q_AuV, q_RuV, q_LuV, q_JuV, q_NuU, q_FuU, q_PuU, q_OuU, q_AuU, q_RuU, q_LuU, q_JuU, q_NuX, q_FuX, q_PuX, q_OuX, q_AuX, q_RuX, q_LuX, q_JuX, q_NuR4, q_FuR4, q_PuR4, q_OuR4, q_AuR4, q_RuR4, q_LuR4, q_JuR4, Nat.reduceEqDiff, reduceIte, and_true, true_and, and_false, false_and, and_self, if_true, if_false, not_true_eq_false, not_false_eq_true]
    exact ⟨Int32.not_lt.mp (q_n0 (by omega)), z, fun j => key j⟩
  · intro u hu
    subst hu
    have e6 : zgF (zuF st 100 0 0 0) 100 0 6 = zgF st 10 0 11 := by simp only [q_NuF, q_FuF, q_PuF, q_OuF, q_AuF, q_RuF, q_LuF, q_JuF, q_NuP, q_FuP, q_PuP, q_OuP, q_AuP, q_RuP, q_LuP, q_JuP, q_NuO, q_FuO, q_PuO, q_OuO, q_AuO, q_RuO, q_LuO, q_JuO, q_NuA, q_FuA, q_PuA, q_OuA, q_AuA, q_RuA, q_LuA, q_JuA, q_NuR, q_FuR, q_PuR, q_OuR, q_AuR, q_RuR, q_LuR, q_JuR, q_NuJ, q_FuJ, q_PuJ, q_OuJ, q_AuJ, q_RuJ, q_LuJ, q_JuJ, q_NuL, q_FuL, q_PuL, q_OuL, q_AuL, q_RuL, q_LuL, q_JuL, q_NuB, q_FuB, q_PuB, q_OuB, q_AuB, q_RuB, q_LuB, q_JuB, q_NuW, q_FuW, q_PuW, q_OuW, q_AuW, q_RuW, q_LuW, q_JuW, q_NuV, q_FuV, q_PuV, q_OuV, q_AuV, q_RuV, q_LuV, q_JuV, q_NuU, q_FuU, q_PuU, q_OuU, q_AuU, q_RuU, q_LuU, q_JuU, q_NuX, q_FuX, q_PuX, q_OuX, q_AuX, q_RuX, q_LuX, q_JuX, q_NuR4, q_FuR4, q_PuR4, q_OuR4, q_AuR4, q_RuR4, q_LuR4, q_JuR4, Nat.reduceEqDiff, reduceIte, and_true, true_and, and_false, false_and, and_self, if_true, if_false, not_true_eq_false, not_false_eq_true]; exact t1
    rw [e6, k20]
    exact ⟨fun y => absurd y z, fun _ => zOK_0 h0 rfl⟩

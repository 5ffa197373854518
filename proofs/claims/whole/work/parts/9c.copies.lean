/-! the model's copies at the end of a rule -/
def YN (s : zTs) (C3 C5 C7 C8 : Nat → Int32) : zTs := zuB (zuB (zuB (zuB s 103 0 C3) 105 0 C5) 107 0 C7) 108 0 C8
theorem YN_3 {s : zTs} {C3 C5 C7 C8 : Nat → Int32} {j : Nat} {x : Int32} : zuA (YN s C3 C5 C7 C8) 103 0 j x = YN s (qst1 C3 j x) C5 C7 C8 := by
  unfold YN qst1
  rw [zuA_comm (by decide), zuA_comm (by decide), zuA_comm (by decide), zuA_fuse]
theorem YN_5 {s : zTs} {C3 C5 C7 C8 : Nat → Int32} {j : Nat} {x : Int32} : zuA (YN s C3 C5 C7 C8) 105 0 j x = YN s C3 (qst1 C5 j x) C7 C8 := by
  unfold YN qst1
  rw [zuA_comm (by decide), zuA_comm (by decide), zuA_fuse]
theorem YN_7 {s : zTs} {C3 C5 C7 C8 : Nat → Int32} {j : Nat} {x : Int32} : zuA (YN s C3 C5 C7 C8) 107 0 j x = YN s C3 C5 (qst1 C7 j x) C8 := by
  unfold YN qst1
  rw [zuA_comm (by decide), zuA_fuse]
theorem YN_8 {s : zTs} {C3 C5 C7 C8 : Nat → Int32} {j : Nat} {x : Int32} : zuA (YN s C3 C5 C7 C8) 108 0 j x = YN s C3 C5 C7 (qst1 C8 j x) := by
  unfold YN qst1
  rw [zuA_fuse]
theorem YN_F {s : zTs} {C3 C5 C7 C8 : Nat → Int32} : zgF (YN s C3 C5 C7 C8) = zgF s := by unfold YN; simp only [q_FuB]
theorem YN_A {s : zTs} {C3 C5 C7 C8 : Nat → Int32} {k i j : Nat} (h3 : ¬ k = 103) (h5 : ¬ k = 105) (h7 : ¬ k = 107) (h8 : ¬ k = 108) : zgA (YN s C3 C5 C7 C8) k i j = zgA s k i j := by unfold YN; simp only [q_AuB, h3, h5, h7, h8, Nat.reduceEqDiff, reduceIte, and_true, true_and, and_false, false_and, and_self, if_true, if_false, not_true_eq_false, not_false_eq_true]
theorem YN_self {s : zTs} : YN s (zgA s 103 0) (zgA s 105 0) (zgA s 107 0) (zgA s 108 0) = s := by
  unfold YN
  rw [zuA_self, zuA_self, zuA_self, zuA_self]
theorem im_c201 {P : Int32 → zTs → Prop} {s : zTs} {a : Int32} {k : Nat} {C3 C5 : Nat → Int32} (h21 : zgF s 100 0 21 = Int32.ofNat k) (hk : k ≤ 799) (h : ∀ C7 C8, (∀ j, j < k → C7 j = zgA s 109 0 j ∧ C8 j = zgA s 110 0 j) → P a (YN s C3 C5 C7 C8)) : ∀ (u r : Nat) (C7 C8 : Nat → Int32), r ≤ k → k + 1 - r ≤ u → (∀ j, j < r → C7 j = zgA s 109 0 j ∧ C8 j = zgA s 110 0 j) → w_X12_rule_201 P u (YN s C3 C5 C7 C8) a (Int32.ofNat r) := by
  intro u
  induction u with
  | zero => intro r C7 C8 h1 h2; omega
  | succ u ih =>
    intro r C7 C8 h1 h2 h3
    rw [w_X12_rule_201, YN_F, h21, q_nle (by omega) (by omega)]
    refine ⟨fun z => h C7 C8 (fun j hj => h3 j (by omega)), fun z => ?_⟩
    have v : vp_in (Int32.ofNat r) 800 := q_nv (by omega) (by omega)
    refine ⟨v, v, fun b eb => ⟨v, v, fun c ec x hx => ?_⟩⟩
    rw [q_on (by omega), YN_A (by decide) (by decide) (by decide) (by decide), YN_7] at eb
    subst eb
    rw [q_on (by omega), YN_A (by decide) (by decide) (by decide) (by decide), YN_8] at ec
    subst ec
    subst hx
    rw [q_os (by omega)]
    refine ih (r + 1) _ _ (by omega) (by omega) (fun j hj => ?_)
    by_cases e : j = r
    · rw [e, qst1_at, qst1_at]; exact ⟨rfl, rfl⟩
    · rw [qst1_ne e, qst1_ne e]; exact h3 j (by omega)
theorem im_c176 {P : Int32 → zTs → Prop} {s : zTs} {a : Int32} {k : Nat} {C3 C7 C8 : Nat → Int32} (h21 : zgF s 100 0 21 = Int32.ofNat k) (hk : k ≤ 799) (h : ∀ C5 C7 C8, (∀ j, j < 4 → C5 j = zgA s 106 0 j) → (∀ j, j < k → C7 j = zgA s 109 0 j ∧ C8 j = zgA s 110 0 j) → P a (YN s C3 C5 C7 C8)) : ∀ (u r : Nat) (C5 : Nat → Int32), r ≤ 4 → 5 - r ≤ u → (∀ j, j < r → C5 j = zgA s 106 0 j) → w_X12_rule_176 P u (YN s C3 C5 C7 C8) a (Int32.ofNat r) := by
  intro u
  induction u with
  | zero => intro r C5 h1 h2; omega
  | succ u ih =>
    intro r C5 h1 h2 h3
    rw [w_X12_rule_176, show (4 : Int32) = Int32.ofNat 4 from rfl, q_nle (by omega) (by omega)]
    refine ⟨fun z => im_c201 h21 hk (fun D7 D8 hd => h C5 D7 D8 (fun j hj => h3 j (by omega)) hd) zfu 0 C7 C8 (by omega) (by unfold zfu; omega) (fun j hj => by omega), fun z => ?_⟩
    have v : vp_in (Int32.ofNat r) 4 := q_nv (by omega) (by omega)
    refine ⟨v, v, fun b eb x hx => ?_⟩
    rw [q_on (by omega), YN_A (by decide) (by decide) (by decide) (by decide), YN_5] at eb
    subst eb
    subst hx
    rw [q_os (by omega)]
    refine ih (r + 1) _ (by omega) (by omega) (fun j hj => ?_)
    by_cases e : j = r
    · rw [e, qst1_at]
    · rw [qst1_ne e]; exact h3 j (by omega)
theorem im_c150 {P : Int32 → zTs → Prop} {s : zTs} {a : Int32} {k : Nat} (h21 : zgF s 100 0 21 = Int32.ofNat k) (hk : k ≤ 799) (h : ∀ C3 C5 C7 C8, (∀ j, j < 15 → C3 j = zgA s 104 0 j) → (∀ j, j < 4 → C5 j = zgA s 106 0 j) → (∀ j, j < k → C7 j = zgA s 109 0 j ∧ C8 j = zgA s 110 0 j) → P a (YN s C3 C5 C7 C8)) : w_X12_rule_150 P zfu s a 0 := by
  have key : ∀ (u r : Nat) (C3 : Nat → Int32), r ≤ 15 → 16 - r ≤ u → (∀ j, j < r → C3 j = zgA s 104 0 j) → w_X12_rule_150 P u (YN s C3 (zgA s 105 0) (zgA s 107 0) (zgA s 108 0)) a (Int32.ofNat r) := by
    intro u
    induction u with
    | zero => intro r C3 h1 h2; omega
    | succ u ih =>
      intro r C3 h1 h2 h3
      rw [w_X12_rule_150, show (15 : Int32) = Int32.ofNat 15 from rfl, q_nle (by omega) (by omega)]
      refine ⟨fun z => im_c176 h21 hk (fun D5 D7 D8 h5 hd => h C3 D5 D7 D8 (fun j hj => h3 j (by omega)) h5 hd) zfu 0 _ (by omega) (by unfold zfu; omega) (fun j hj => by omega), fun z => ?_⟩
      have v : vp_in (Int32.ofNat r) 15 := q_nv (by omega) (by omega)
      refine ⟨v, v, fun b eb x hx => ?_⟩
      rw [q_on (by omega), YN_A (by decide) (by decide) (by decide) (by decide), YN_3] at eb
      subst eb
      subst hx
      rw [q_os (by omega)]
      refine ih (r + 1) _ (by omega) (by omega) (fun j hj => ?_)
      by_cases e : j = r
      · rw [e, qst1_at]
      · rw [qst1_ne e]; exact h3 j (by omega)
  have K := key zfu 0 (zgA s 103 0) (by omega) (by unfold zfu; omega) (fun j hj => by omega)
  rw [YN_self] at K
  exact K

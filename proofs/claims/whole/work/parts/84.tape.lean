/-! the tape, its bytes, and states of a reading -/
def zuC (s : zTs) (k i : Nat) (f : Nat → Int32) : zTs := (s.1, zp2 (zgF s) k i f, s.2.2)
theorem q_FuC {s : zTs} (k i : Nat) (f : Nat → Int32) (k' i' j' : Nat) : zgF (zuC s k i f) k' i' j' = if k' = k ∧ i' = i then f j' else zgF s k' i' j' := by
  show zp2 (zgF s) k i f k' i' j' = _
  unfold zp2
  split <;> rfl
theorem q_NuC {s : zTs} (k i : Nat) (f : Nat → Int32) : zgN (zuC s k i f) = zgN s := Eq.trans rfl rfl
theorem q_PuC {s : zTs} (k i : Nat) (f : Nat → Int32) : zgP (zuC s k i f) = zgP s := Eq.trans rfl rfl
theorem q_OuC {s : zTs} (k i : Nat) (f : Nat → Int32) : zgO (zuC s k i f) = zgO s := Eq.trans rfl rfl
theorem q_AuC {s : zTs} (k i : Nat) (f : Nat → Int32) : zgA (zuC s k i f) = zgA s := Eq.trans rfl rfl
theorem q_RuC {s : zTs} (k i : Nat) (f : Nat → Int32) : zgR (zuC s k i f) = zgR s := Eq.trans rfl rfl
theorem q_LuC {s : zTs} (k i : Nat) (f : Nat → Int32) : zgL (zuC s k i f) = zgL s := Eq.trans rfl rfl
theorem q_JuC {s : zTs} (k i : Nat) (f : Nat → Int32) : zgJ (zuC s k i f) = zgJ s := Eq.trans rfl rfl
theorem zuC_fuse {s : zTs} {k i j : Nat} {f : Nat → Int32} {x : Int32} : zuF (zuC s k i f) k i j x = zuC s k i (qst1 f j x) := by
  have e : zp2 (zp2 (zgF s) k i f) k i (zp1 (zp2 (zgF s) k i f k i) j x) = zp2 (zgF s) k i (qst1 f j x) := by
    funext a b c
    rw [zp2_at]
    unfold zp2 zp1 qst1
    by_cases h : a = k ∧ b = i
    · rw [if_pos h, if_pos h]
    · rw [if_neg h, if_neg h, if_neg h]
  show (_, zp2 (zp2 (zgF s) k i f) k i (zp1 (zp2 (zgF s) k i f k i) j x), _) = (_, zp2 (zgF s) k i (qst1 f j x), _)
  rw [e]
  rfl
theorem zuC_self {s : zTs} {k i : Nat} : zuC s k i (zgF s k i) = s := by
  have e : zp2 (zgF s) k i (zgF s k i) = zgF s := by
    funext a b
    unfold zp2
    by_cases h : a = k ∧ b = i
    · rw [if_pos h, h.1, h.2]
    · rw [if_neg h]
  show (_, zp2 (zgF s) k i (zgF s k i), _) = _
  rw [e]
  rfl
theorem zuP_fuse {s : zTs} {k i j x y : Nat} : zuP (zuP s k i j x) k i j y = zuP s k i j y := by
  have e : zp2 (zgP (zuP s k i j x)) k i (zp1 (zgP (zuP s k i j x) k i) j y) = zp2 (zgP s) k i (zp1 (zgP s k i) j y) := by
    funext a b c
    show (zp2 (zp2 (zgP s) k i (zp1 (zgP s k i) j x)) k i (zp1 (zp2 (zgP s) k i (zp1 (zgP s k i) j x) k i) j y)) a b c = _
    rw [zp2_at]
    unfold zp2 zp1
    by_cases h1 : a = k ∧ b = i
    · rw [if_pos h1, if_pos h1]
      by_cases h2 : c = j
      · rw [if_pos h2, if_pos h2]
      · rw [if_neg h2, if_neg h2, if_neg h2]
    · rw [if_neg h1, if_neg h1, if_neg h1]
  show (_, _, zp2 (zgP (zuP s k i j x)) k i (zp1 (zgP (zuP s k i j x) k i) j y), _) = (_, _, zp2 (zgP s) k i (zp1 (zgP s k i) j y), _)
  rw [e]
  rfl
theorem zuP_self {s : zTs} {k i j : Nat} : zuP s k i j (zgP s k i j) = s := by
  have e : zp2 (zgP s) k i (zp1 (zgP s k i) j (zgP s k i j)) = zgP s := by
    funext a b c
    unfold zp2 zp1
    by_cases h1 : a = k ∧ b = i
    · rw [if_pos h1]
      by_cases h2 : c = j
      · rw [if_pos h2, h1.1, h1.2, h2]
      · rw [if_neg h2, h1.1, h1.2]
    · rw [if_neg h1]
  show (_, _, zp2 (zgP s) k i (zp1 (zgP s k i) j (zgP s k i j)), _) = _
  rw [e]
  rfl
/-- the class's reader: its word, its numbers and its steps -/
def YC (s : zTs) (w : Nat) (f S : Nat → Int32) : zTs := zuB (zuC (zuP s 13 0 6 w) 13 0 f) 54 0 S
theorem YC_f {s : zTs} {w j : Nat} {f S : Nat → Int32} {x : Int32} : zuF (YC s w f S) 13 0 j x = YC s w (qst1 f j x) S := by
  show zuB (zuF (zuC (zuP s 13 0 6 w) 13 0 f) 13 0 j x) 54 0 S = _
  rw [zuC_fuse]
  rfl
theorem YC_w {s : zTs} {w v : Nat} {f S : Nat → Int32} : zuP (YC s w f S) 13 0 6 v = YC s v f S := by
  show zuB (zuC (zuP (zuP s 13 0 6 w) 13 0 6 v) 13 0 f) 54 0 S = _
  rw [zuP_fuse]
  rfl
theorem YC_S {s : zTs} {w j : Nat} {f S : Nat → Int32} {x : Int32} : zuA (YC s w f S) 54 0 j x = YC s w f (qst1 S j x) := zuA_fuse
theorem YC_gf {s : zTs} {w j : Nat} {f S : Nat → Int32} : zgF (YC s w f S) 13 0 j = f j := by unfold YC; simp only [q_NuF, q_FuF, q_PuF, q_OuF, q_AuF, q_RuF, q_LuF, q_JuF, q_NuP, q_FuP, q_PuP, q_OuP, q_AuP, q_RuP, q_LuP, q_JuP, q_NuO, q_FuO, q_PuO, q_OuO, q_AuO, q_RuO, q_LuO, q_JuO, q_NuA, q_FuA, q_PuA, q_OuA, q_AuA, q_RuA, q_LuA, q_JuA, q_NuR, q_FuR, q_PuR, q_OuR, q_AuR, q_RuR, q_LuR, q_JuR, q_NuJ, q_FuJ, q_PuJ, q_OuJ, q_AuJ, q_RuJ, q_LuJ, q_JuJ, q_NuL, q_FuL, q_PuL, q_OuL, q_AuL, q_RuL, q_LuL, q_JuL, q_NuB, q_FuB, q_PuB, q_OuB, q_AuB, q_RuB, q_LuB, q_JuB, q_NuW, q_FuW, q_PuW, q_OuW, q_AuW, q_RuW, q_LuW, q_JuW, q_NuV, q_FuV, q_PuV, q_OuV, q_AuV, q_RuV, q_LuV, q_JuV, q_NuU, q_FuU, q_PuU, q_OuU, q_AuU, q_RuU, q_LuU, q_JuU, q_NuX, q_FuX, q_PuX, q_OuX, q_AuX, q_RuX, q_LuX, q_JuX, q_NuR4, q_FuR4, q_PuR4, q_OuR4, q_AuR4, q_RuR4, q_LuR4, q_JuR4, q_FuC, q_PuC, Nat.reduceEqDiff, reduceIte, and_true, true_and, and_false, false_and, and_self, if_true, if_false, not_true_eq_false, not_false_eq_true]
theorem YC_gw {s : zTs} {w : Nat} {f S : Nat → Int32} : zgP (YC s w f S) 13 0 6 = w := by unfold YC; simp only [q_NuF, q_FuF, q_PuF, q_OuF, q_AuF, q_RuF, q_LuF, q_JuF, q_NuP, q_FuP, q_PuP, q_OuP, q_AuP, q_RuP, q_LuP, q_JuP, q_NuO, q_FuO, q_PuO, q_OuO, q_AuO, q_RuO, q_LuO, q_JuO, q_NuA, q_FuA, q_PuA, q_OuA, q_AuA, q_RuA, q_LuA, q_JuA, q_NuR, q_FuR, q_PuR, q_OuR, q_AuR, q_RuR, q_LuR, q_JuR, q_NuJ, q_FuJ, q_PuJ, q_OuJ, q_AuJ, q_RuJ, q_LuJ, q_JuJ, q_NuL, q_FuL, q_PuL, q_OuL, q_AuL, q_RuL, q_LuL, q_JuL, q_NuB, q_FuB, q_PuB, q_OuB, q_AuB, q_RuB, q_LuB, q_JuB, q_NuW, q_FuW, q_PuW, q_OuW, q_AuW, q_RuW, q_LuW, q_JuW, q_NuV, q_FuV, q_PuV, q_OuV, q_AuV, q_RuV, q_LuV, q_JuV, q_NuU, q_FuU, q_PuU, q_OuU, q_AuU, q_RuU, q_LuU, q_JuU, q_NuX, q_FuX, q_PuX, q_OuX, q_AuX, q_RuX, q_LuX, q_JuX, q_NuR4, q_FuR4, q_PuR4, q_OuR4, q_AuR4, q_RuR4, q_LuR4, q_JuR4, q_FuC, q_PuC, Nat.reduceEqDiff, reduceIte, and_true, true_and, and_false, false_and, and_self, if_true, if_false, not_true_eq_false, not_false_eq_true]
theorem YC_go {s : zTs} {w : Nat} {f S : Nat → Int32} : zgP (YC s w f S) 13 0 10 = zgP s 13 0 10 := by unfold YC; simp only [q_NuF, q_FuF, q_PuF, q_OuF, q_AuF, q_RuF, q_LuF, q_JuF, q_NuP, q_FuP, q_PuP, q_OuP, q_AuP, q_RuP, q_LuP, q_JuP, q_NuO, q_FuO, q_PuO, q_OuO, q_AuO, q_RuO, q_LuO, q_JuO, q_NuA, q_FuA, q_PuA, q_OuA, q_AuA, q_RuA, q_LuA, q_JuA, q_NuR, q_FuR, q_PuR, q_OuR, q_AuR, q_RuR, q_LuR, q_JuR, q_NuJ, q_FuJ, q_PuJ, q_OuJ, q_AuJ, q_RuJ, q_LuJ, q_JuJ, q_NuL, q_FuL, q_PuL, q_OuL, q_AuL, q_RuL, q_LuL, q_JuL, q_NuB, q_FuB, q_PuB, q_OuB, q_AuB, q_RuB, q_LuB, q_JuB, q_NuW, q_FuW, q_PuW, q_OuW, q_AuW, q_RuW, q_LuW, q_JuW, q_NuV, q_FuV, q_PuV, q_OuV, q_AuV, q_RuV, q_LuV, q_JuV, q_NuU, q_FuU, q_PuU, q_OuU, q_AuU, q_RuU, q_LuU, q_JuU, q_NuX, q_FuX, q_PuX, q_OuX, q_AuX, q_RuX, q_LuX, q_JuX, q_NuR4, q_FuR4, q_PuR4, q_OuR4, q_AuR4, q_RuR4, q_LuR4, q_JuR4, q_FuC, q_PuC, Nat.reduceEqDiff, reduceIte, and_true, true_and, and_false, false_and, and_self, if_true, if_false, not_true_eq_false, not_false_eq_true]
theorem YC_gS {s : zTs} {w j : Nat} {f S : Nat → Int32} : zgA (YC s w f S) 54 0 j = S j := by unfold YC; simp only [q_NuF, q_FuF, q_PuF, q_OuF, q_AuF, q_RuF, q_LuF, q_JuF, q_NuP, q_FuP, q_PuP, q_OuP, q_AuP, q_RuP, q_LuP, q_JuP, q_NuO, q_FuO, q_PuO, q_OuO, q_AuO, q_RuO, q_LuO, q_JuO, q_NuA, q_FuA, q_PuA, q_OuA, q_AuA, q_RuA, q_LuA, q_JuA, q_NuR, q_FuR, q_PuR, q_OuR, q_AuR, q_RuR, q_LuR, q_JuR, q_NuJ, q_FuJ, q_PuJ, q_OuJ, q_AuJ, q_RuJ, q_LuJ, q_JuJ, q_NuL, q_FuL, q_PuL, q_OuL, q_AuL, q_RuL, q_LuL, q_JuL, q_NuB, q_FuB, q_PuB, q_OuB, q_AuB, q_RuB, q_LuB, q_JuB, q_NuW, q_FuW, q_PuW, q_OuW, q_AuW, q_RuW, q_LuW, q_JuW, q_NuV, q_FuV, q_PuV, q_OuV, q_AuV, q_RuV, q_LuV, q_JuV, q_NuU, q_FuU, q_PuU, q_OuU, q_AuU, q_RuU, q_LuU, q_JuU, q_NuX, q_FuX, q_PuX, q_OuX, q_AuX, q_RuX, q_LuX, q_JuX, q_NuR4, q_FuR4, q_PuR4, q_OuR4, q_AuR4, q_RuR4, q_LuR4, q_JuR4, q_FuC, q_PuC, Nat.reduceEqDiff, reduceIte, and_true, true_and, and_false, false_and, and_self, if_true, if_false, not_true_eq_false, not_false_eq_true]
theorem YC_ga {s : zTs} {w k i j : Nat} {f S : Nat → Int32} (h : ¬ k = 54) : zgA (YC s w f S) k i j = zgA s k i j := by unfold YC; simp only [q_NuF, q_FuF, q_PuF, q_OuF, q_AuF, q_RuF, q_LuF, q_JuF, q_NuP, q_FuP, q_PuP, q_OuP, q_AuP, q_RuP, q_LuP, q_JuP, q_NuO, q_FuO, q_PuO, q_OuO, q_AuO, q_RuO, q_LuO, q_JuO, q_NuA, q_FuA, q_PuA, q_OuA, q_AuA, q_RuA, q_LuA, q_JuA, q_NuR, q_FuR, q_PuR, q_OuR, q_AuR, q_RuR, q_LuR, q_JuR, q_NuJ, q_FuJ, q_PuJ, q_OuJ, q_AuJ, q_RuJ, q_LuJ, q_JuJ, q_NuL, q_FuL, q_PuL, q_OuL, q_AuL, q_RuL, q_LuL, q_JuL, q_NuB, q_FuB, q_PuB, q_OuB, q_AuB, q_RuB, q_LuB, q_JuB, q_NuW, q_FuW, q_PuW, q_OuW, q_AuW, q_RuW, q_LuW, q_JuW, q_NuV, q_FuV, q_PuV, q_OuV, q_AuV, q_RuV, q_LuV, q_JuV, q_NuU, q_FuU, q_PuU, q_OuU, q_AuU, q_RuU, q_LuU, q_JuU, q_NuX, q_FuX, q_PuX, q_OuX, q_AuX, q_RuX, q_LuX, q_JuX, q_NuR4, q_FuR4, q_PuR4, q_OuR4, q_AuR4, q_RuR4, q_LuR4, q_JuR4, q_AuC, Nat.reduceEqDiff, reduceIte, and_true, true_and, and_false, false_and, and_self, if_true, if_false, not_true_eq_false, not_false_eq_true, h]
theorem YC_self {s : zTs} : YC s (zgP s 13 0 6) (zgF s 13 0) (zgA s 54 0) = s := by
  unfold YC
  rw [zuP_self, zuC_self, zuA_self]
/-- the model's reading: its numbers, its rule, its conditions and their codes -/
def YM (t : zTs) (g A4 A6 A9 A10 : Nat → Int32) : zTs := zuC (zuB (zuB (zuB (zuB t 104 0 A4) 106 0 A6) 109 0 A9) 110 0 A10) 100 0 g
theorem YM_f {t : zTs} {j : Nat} {g A4 A6 A9 A10 : Nat → Int32} {x : Int32} : zuF (YM t g A4 A6 A9 A10) 100 0 j x = YM t (qst1 g j x) A4 A6 A9 A10 := zuC_fuse
theorem zuAC {s : zTs} {k i j k' i' : Nat} {x : Int32} {f : Nat → Int32} : zuA (zuC s k' i' f) k i j x = zuC (zuA s k i j x) k' i' f := Eq.trans rfl rfl
theorem YM_4 {t : zTs} {j : Nat} {g A4 A6 A9 A10 : Nat → Int32} {x : Int32} : zuA (YM t g A4 A6 A9 A10) 104 0 j x = YM t g (qst1 A4 j x) A6 A9 A10 := by
  unfold YM qst1
  rw [zuAC, zuA_comm (by decide : ¬ 104 = 110), zuA_comm (by decide : ¬ 104 = 109), zuA_comm (by decide : ¬ 104 = 106), zuA_fuse]
theorem YM_6 {t : zTs} {j : Nat} {g A4 A6 A9 A10 : Nat → Int32} {x : Int32} : zuA (YM t g A4 A6 A9 A10) 106 0 j x = YM t g A4 (qst1 A6 j x) A9 A10 := by
  unfold YM qst1
  rw [zuAC, zuA_comm (by decide : ¬ 106 = 110), zuA_comm (by decide : ¬ 106 = 109), zuA_fuse]
theorem YM_9 {t : zTs} {j : Nat} {g A4 A6 A9 A10 : Nat → Int32} {x : Int32} : zuA (YM t g A4 A6 A9 A10) 109 0 j x = YM t g A4 A6 (qst1 A9 j x) A10 := by
  unfold YM qst1
  rw [zuAC, zuA_comm (by decide : ¬ 109 = 110), zuA_fuse]
theorem YM_10 {t : zTs} {j : Nat} {g A4 A6 A9 A10 : Nat → Int32} {x : Int32} : zuA (YM t g A4 A6 A9 A10) 110 0 j x = YM t g A4 A6 A9 (qst1 A10 j x) := by
  unfold YM qst1
  rw [zuAC, zuA_fuse]
theorem YM_gf {t : zTs} {j : Nat} {g A4 A6 A9 A10 : Nat → Int32} : zgF (YM t g A4 A6 A9 A10) 100 0 j = g j := by unfold YM; simp only [q_NuF, q_FuF, q_PuF, q_OuF, q_AuF, q_RuF, q_LuF, q_JuF, q_NuP, q_FuP, q_PuP, q_OuP, q_AuP, q_RuP, q_LuP, q_JuP, q_NuO, q_FuO, q_PuO, q_OuO, q_AuO, q_RuO, q_LuO, q_JuO, q_NuA, q_FuA, q_PuA, q_OuA, q_AuA, q_RuA, q_LuA, q_JuA, q_NuR, q_FuR, q_PuR, q_OuR, q_AuR, q_RuR, q_LuR, q_JuR, q_NuJ, q_FuJ, q_PuJ, q_OuJ, q_AuJ, q_RuJ, q_LuJ, q_JuJ, q_NuL, q_FuL, q_PuL, q_OuL, q_AuL, q_RuL, q_LuL, q_JuL, q_NuB, q_FuB, q_PuB, q_OuB, q_AuB, q_RuB, q_LuB, q_JuB, q_NuW, q_FuW, q_PuW, q_OuW, q_AuW, q_RuW, q_LuW, q_JuW, q_NuV, q_FuV, q_PuV, q_OuV, q_AuV, q_RuV, q_LuV, q_JuV, q_NuU, q_FuU, q_PuU, q_OuU, q_AuU, q_RuU, q_LuU, q_JuU, q_NuX, q_FuX, q_PuX, q_OuX, q_AuX, q_RuX, q_LuX, q_JuX, q_NuR4, q_FuR4, q_PuR4, q_OuR4, q_AuR4, q_RuR4, q_LuR4, q_JuR4, q_FuC, Nat.reduceEqDiff, reduceIte, and_true, true_and, and_false, false_and, and_self, if_true, if_false, not_true_eq_false, not_false_eq_true]
theorem YM_g4 {t : zTs} {j : Nat} {g A4 A6 A9 A10 : Nat → Int32} : zgA (YM t g A4 A6 A9 A10) 104 0 j = A4 j := by unfold YM; simp only [q_NuF, q_FuF, q_PuF, q_OuF, q_AuF, q_RuF, q_LuF, q_JuF, q_NuP, q_FuP, q_PuP, q_OuP, q_AuP, q_RuP, q_LuP, q_JuP, q_NuO, q_FuO, q_PuO, q_OuO, q_AuO, q_RuO, q_LuO, q_JuO, q_NuA, q_FuA, q_PuA, q_OuA, q_AuA, q_RuA, q_LuA, q_JuA, q_NuR, q_FuR, q_PuR, q_OuR, q_AuR, q_RuR, q_LuR, q_JuR, q_NuJ, q_FuJ, q_PuJ, q_OuJ, q_AuJ, q_RuJ, q_LuJ, q_JuJ, q_NuL, q_FuL, q_PuL, q_OuL, q_AuL, q_RuL, q_LuL, q_JuL, q_NuB, q_FuB, q_PuB, q_OuB, q_AuB, q_RuB, q_LuB, q_JuB, q_NuW, q_FuW, q_PuW, q_OuW, q_AuW, q_RuW, q_LuW, q_JuW, q_NuV, q_FuV, q_PuV, q_OuV, q_AuV, q_RuV, q_LuV, q_JuV, q_NuU, q_FuU, q_PuU, q_OuU, q_AuU, q_RuU, q_LuU, q_JuU, q_NuX, q_FuX, q_PuX, q_OuX, q_AuX, q_RuX, q_LuX, q_JuX, q_NuR4, q_FuR4, q_PuR4, q_OuR4, q_AuR4, q_RuR4, q_LuR4, q_JuR4, q_AuC, Nat.reduceEqDiff, reduceIte, and_true, true_and, and_false, false_and, and_self, if_true, if_false, not_true_eq_false, not_false_eq_true]
theorem YM_g6 {t : zTs} {j : Nat} {g A4 A6 A9 A10 : Nat → Int32} : zgA (YM t g A4 A6 A9 A10) 106 0 j = A6 j := by unfold YM; simp only [q_NuF, q_FuF, q_PuF, q_OuF, q_AuF, q_RuF, q_LuF, q_JuF, q_NuP, q_FuP, q_PuP, q_OuP, q_AuP, q_RuP, q_LuP, q_JuP, q_NuO, q_FuO, q_PuO, q_OuO, q_AuO, q_RuO, q_LuO, q_JuO, q_NuA, q_FuA, q_PuA, q_OuA, q_AuA, q_RuA, q_LuA, q_JuA, q_NuR, q_FuR, q_PuR, q_OuR, q_AuR, q_RuR, q_LuR, q_JuR, q_NuJ, q_FuJ, q_PuJ, q_OuJ, q_AuJ, q_RuJ, q_LuJ, q_JuJ, q_NuL, q_FuL, q_PuL, q_OuL, q_AuL, q_RuL, q_LuL, q_JuL, q_NuB, q_FuB, q_PuB, q_OuB, q_AuB, q_RuB, q_LuB, q_JuB, q_NuW, q_FuW, q_PuW, q_OuW, q_AuW, q_RuW, q_LuW, q_JuW, q_NuV, q_FuV, q_PuV, q_OuV, q_AuV, q_RuV, q_LuV, q_JuV, q_NuU, q_FuU, q_PuU, q_OuU, q_AuU, q_RuU, q_LuU, q_JuU, q_NuX, q_FuX, q_PuX, q_OuX, q_AuX, q_RuX, q_LuX, q_JuX, q_NuR4, q_FuR4, q_PuR4, q_OuR4, q_AuR4, q_RuR4, q_LuR4, q_JuR4, q_AuC, Nat.reduceEqDiff, reduceIte, and_true, true_and, and_false, false_and, and_self, if_true, if_false, not_true_eq_false, not_false_eq_true]
theorem YM_g9 {t : zTs} {j : Nat} {g A4 A6 A9 A10 : Nat → Int32} : zgA (YM t g A4 A6 A9 A10) 109 0 j = A9 j := by unfold YM; simp only [q_NuF, q_FuF, q_PuF, q_OuF, q_AuF, q_RuF, q_LuF, q_JuF, q_NuP, q_FuP, q_PuP, q_OuP, q_AuP, q_RuP, q_LuP, q_JuP, q_NuO, q_FuO, q_PuO, q_OuO, q_AuO, q_RuO, q_LuO, q_JuO, q_NuA, q_FuA, q_PuA, q_OuA, q_AuA, q_RuA, q_LuA, q_JuA, q_NuR, q_FuR, q_PuR, q_OuR, q_AuR, q_RuR, q_LuR, q_JuR, q_NuJ, q_FuJ, q_PuJ, q_OuJ, q_AuJ, q_RuJ, q_LuJ, q_JuJ, q_NuL, q_FuL, q_PuL, q_OuL, q_AuL, q_RuL, q_LuL, q_JuL, q_NuB, q_FuB, q_PuB, q_OuB, q_AuB, q_RuB, q_LuB, q_JuB, q_NuW, q_FuW, q_PuW, q_OuW, q_AuW, q_RuW, q_LuW, q_JuW, q_NuV, q_FuV, q_PuV, q_OuV, q_AuV, q_RuV, q_LuV, q_JuV, q_NuU, q_FuU, q_PuU, q_OuU, q_AuU, q_RuU, q_LuU, q_JuU, q_NuX, q_FuX, q_PuX, q_OuX, q_AuX, q_RuX, q_LuX, q_JuX, q_NuR4, q_FuR4, q_PuR4, q_OuR4, q_AuR4, q_RuR4, q_LuR4, q_JuR4, q_AuC, Nat.reduceEqDiff, reduceIte, and_true, true_and, and_false, false_and, and_self, if_true, if_false, not_true_eq_false, not_false_eq_true]
theorem YM_g10 {t : zTs} {j : Nat} {g A4 A6 A9 A10 : Nat → Int32} : zgA (YM t g A4 A6 A9 A10) 110 0 j = A10 j := by unfold YM; simp only [q_NuF, q_FuF, q_PuF, q_OuF, q_AuF, q_RuF, q_LuF, q_JuF, q_NuP, q_FuP, q_PuP, q_OuP, q_AuP, q_RuP, q_LuP, q_JuP, q_NuO, q_FuO, q_PuO, q_OuO, q_AuO, q_RuO, q_LuO, q_JuO, q_NuA, q_FuA, q_PuA, q_OuA, q_AuA, q_RuA, q_LuA, q_JuA, q_NuR, q_FuR, q_PuR, q_OuR, q_AuR, q_RuR, q_LuR, q_JuR, q_NuJ, q_FuJ, q_PuJ, q_OuJ, q_AuJ, q_RuJ, q_LuJ, q_JuJ, q_NuL, q_FuL, q_PuL, q_OuL, q_AuL, q_RuL, q_LuL, q_JuL, q_NuB, q_FuB, q_PuB, q_OuB, q_AuB, q_RuB, q_LuB, q_JuB, q_NuW, q_FuW, q_PuW, q_OuW, q_AuW, q_RuW, q_LuW, q_JuW, q_NuV, q_FuV, q_PuV, q_OuV, q_AuV, q_RuV, q_LuV, q_JuV, q_NuU, q_FuU, q_PuU, q_OuU, q_AuU, q_RuU, q_LuU, q_JuU, q_NuX, q_FuX, q_PuX, q_OuX, q_AuX, q_RuX, q_LuX, q_JuX, q_NuR4, q_FuR4, q_PuR4, q_OuR4, q_AuR4, q_RuR4, q_LuR4, q_JuR4, q_AuC, Nat.reduceEqDiff, reduceIte, and_true, true_and, and_false, false_and, and_self, if_true, if_false, not_true_eq_false, not_false_eq_true]
theorem YM_ga {t : zTs} {k i j : Nat} {g A4 A6 A9 A10 : Nat → Int32} (h4 : ¬ k = 104) (h6 : ¬ k = 106) (h9 : ¬ k = 109) (h10 : ¬ k = 110) : zgA (YM t g A4 A6 A9 A10) k i j = zgA t k i j := by unfold YM; simp only [q_NuF, q_FuF, q_PuF, q_OuF, q_AuF, q_RuF, q_LuF, q_JuF, q_NuP, q_FuP, q_PuP, q_OuP, q_AuP, q_RuP, q_LuP, q_JuP, q_NuO, q_FuO, q_PuO, q_OuO, q_AuO, q_RuO, q_LuO, q_JuO, q_NuA, q_FuA, q_PuA, q_OuA, q_AuA, q_RuA, q_LuA, q_JuA, q_NuR, q_FuR, q_PuR, q_OuR, q_AuR, q_RuR, q_LuR, q_JuR, q_NuJ, q_FuJ, q_PuJ, q_OuJ, q_AuJ, q_RuJ, q_LuJ, q_JuJ, q_NuL, q_FuL, q_PuL, q_OuL, q_AuL, q_RuL, q_LuL, q_JuL, q_NuB, q_FuB, q_PuB, q_OuB, q_AuB, q_RuB, q_LuB, q_JuB, q_NuW, q_FuW, q_PuW, q_OuW, q_AuW, q_RuW, q_LuW, q_JuW, q_NuV, q_FuV, q_PuV, q_OuV, q_AuV, q_RuV, q_LuV, q_JuV, q_NuU, q_FuU, q_PuU, q_OuU, q_AuU, q_RuU, q_LuU, q_JuU, q_NuX, q_FuX, q_PuX, q_OuX, q_AuX, q_RuX, q_LuX, q_JuX, q_NuR4, q_FuR4, q_PuR4, q_OuR4, q_AuR4, q_RuR4, q_LuR4, q_JuR4, q_AuC, Nat.reduceEqDiff, reduceIte, and_true, true_and, and_false, false_and, and_self, if_true, if_false, not_true_eq_false, not_false_eq_true, h4, h6, h9, h10]
theorem YM_self {t : zTs} : YM t (zgF t 100 0) (zgA t 104 0) (zgA t 106 0) (zgA t 109 0) (zgA t 110 0) = t := by
  unfold YM
  rw [zuA_self, zuA_self, zuA_self, zuA_self, zuC_self]
/-- g is f but for the places in l -/
def yag (l : List Nat) (f g : Nat → Int32) : Prop := ∀ j, ¬ j ∈ l → g j = f j
theorem yag_rf {l : List Nat} {f : Nat → Int32} : yag l f f := fun _ _ => rfl
theorem yag_st {l : List Nat} {f g : Nat → Int32} {j : Nat} {x : Int32} (hj : j ∈ l) (h : yag l f g) : yag l f (qst1 g j x) := fun i hi => (qst1_ne (fun e => hi (by rw [e]; exact hj))).trans (h i hi)
theorem yag_tr {l : List Nat} {f g h : Nat → Int32} (a : yag l f g) (b : yag l g h) : yag l f h := fun j hj => (b j hj).trans (a j hj)
theorem yag_mo {l m : List Nat} {f g : Nat → Int32} (h : ∀ j, j ∈ l → j ∈ m) (a : yag l f g) : yag m f g := fun j hj => a j (fun z => hj (h j z))
def ylet (b : Int32) : Prop := 97 ≤ b ∧ b ≤ 122
def ydig (b : Int32) : Prop := 48 ≤ b ∧ b ≤ 57
def yTB (T B : Nat → Int32) (L : Nat) : Prop := L ≤ 400 ∧ (∀ q, L ≤ q → B q = 0) ∧ ∀ q, q < L → (T q &&& 255) = B q ∧ ((T q = B q ∧ 0 ≤ B q ∧ B q ≤ 127) ∨ (T q < 0 ∧ 128 ≤ B q ∧ B q ≤ 255))
def ysk (B : Nat → Int32) (L p q : Nat) : Prop := p ≤ q ∧ q ≤ L ∧ (∀ j, p ≤ j → j < q → B j = 32) ∧ ¬ B q = 32
def ymw (B : Nat → Int32) (q p v : Nat) : Prop := p = q + zlen.getD v 0 ∧ ∀ j, j < zlen.getD v 0 → (zbyt.getD v []).getD j 0 = B (q + j)
def ywd (B : Nat → Int32) (q p w : Nat) : Prop := w < 24 ∧ (¬ w = 0 → ymw B q p w) ∧ (w = 0 → ∀ v, 1 ≤ v → v < 24 → ¬ ymw B q p v)
def ynm (B : Nat → Int32) (q : Nat) : Nat → Int32
  | 0 => 0
  | k + 1 => if 10000 < 10 * ynm B q k + B (q + k) - 48 then 10000 else 10 * ynm B q k + B (q + k) - 48
def yTok (B : Nat → Int32) (L w : Nat) (f : Nat → Int32) (q p : Nat) : Prop :=
  (q = L ∧ p = q ∧ w = 0 ∧ f 7 = -1 ∧ f 8 = 0) ∨
  (ylet (B q) ∧ q < p ∧ (∀ j, q ≤ j → j < p → ylet (B j)) ∧ ¬ ylet (B p) ∧ ywd B q p w ∧ f 7 = -1 ∧ f 8 = 0) ∨
  (ydig (B q) ∧ q < p ∧ (∀ j, q ≤ j → j < p → ydig (B j)) ∧ ¬ ydig (B p) ∧ w = 0 ∧ f 7 = ynm B q (p - q) ∧ f 8 = 0) ∨
  (q < L ∧ p = q + 1 ∧ ¬ ylet (B q) ∧ ¬ ydig (B q) ∧ w = 0 ∧ f 7 = -1 ∧ f 8 = B q)
def YT (B : Nat → Int32) (L w : Nat) (f : Nat → Int32) (q p : Nat) : Prop := f 3 = Int32.ofNat L ∧ f 4 = Int32.ofNat q ∧ f 5 = Int32.ofNat p ∧ q ≤ L ∧ p ≤ L ∧ ¬ B q = 32 ∧ yTok B L w f q p
theorem i_within {P : Int32 → Prop} {s : zTs} {w p L : Nat} {f S B : Nat → Int32} {a b : Int32} (hB : yTB (zgA s 43 0) B L) (h3 : f 3 = Int32.ofNat L) (h5 : f 5 = Int32.ofNat p) (hp : p ≤ L) (ha : 0 < a) (hb : b < 128) (yes : a ≤ B p → B p ≤ b → p < L → P 1) (no : ¬ (a ≤ B p ∧ B p ≤ b) → P 0) : w_X6_isWithin (YC s w f S) a b P := by
  obtain ⟨l4, hz, ht⟩ := hB
  unfold w_X6_isWithin
  rw [YC_gf, YC_gf, h3, h5, q_on (by omega), YC_ga (k := 43) (by decide)]
  refine ⟨fun c => ?_, fun c => ?_⟩
  · rw [q_nle (by omega) (by omega)] at c
    refine no (fun z => ?_)
    have e := hz p c
    lia
  · rw [q_nle (by omega) (by omega)] at c
    have v : vp_in (Int32.ofNat p) 400 := q_nv (by omega) (by omega)
    obtain ⟨-, t⟩ := ht p (by omega)
    refine ⟨v, fun z => no (by lia), fun z => ⟨v, fun z2 => no (by lia), fun z2 => yes (by lia) (by lia) (by omega)⟩⟩

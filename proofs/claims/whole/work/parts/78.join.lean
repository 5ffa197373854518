/-! surveys joined: the tables -/
/-- the better of two -/
def qup (c v : Int32 × Int32) : Int32 × Int32 := if c.1 < v.1 then v else if v.1 = c.1 then (if c.2 ≤ v.2 then c else v) else c
/-- one row of the table from its end, by the row behind it -/
def qrw (D : Nat → Int32) (near : Int32) (pv : Nat → Int32 × Int32) : Nat → Int32 × Int32
  | 0 => (0, 0)
  | q + 1 => if near < D q then qup (qup (0, 0) (pv (q + 1))) (qrw D near pv q) else qup (qup (qup (0, 0) (pv (q + 1))) (qrw D near pv q)) ((pv q).1 + 1, (pv q).2 + D q)
/-- the table, counted from its end; D p q: how far apart the p-th from the end is from the q-th from the end -/
def qtb (D : Nat → Nat → Int32) (near : Int32) : Nat → Nat → Int32 × Int32
  | 0 => fun _ => (0, 0)
  | p + 1 => qrw (D p) near (qtb D near p)
theorem qtb_0 {D : Nat → Nat → Int32} {near : Int32} {p : Nat} : qtb D near p 0 = (0, 0) := by
  cases p with
  | zero => rfl
  | succ p => rfl
theorem qup_in {c v : Int32 × Int32} {b : Int32} (h1 : 0 ≤ c.1) (h2 : c.1 ≤ b) (h3 : c.1 = 0 → c.2 = 0) (g1 : 0 ≤ v.1) (g2 : v.1 ≤ b) (g3 : v.1 = 0 → v.2 = 0) : 0 ≤ (qup c v).1 ∧ (qup c v).1 ≤ b ∧ ((qup c v).1 = 0 → (qup c v).2 = 0) := by
  unfold qup
  repeat' split
  all_goals first | exact ⟨h1, h2, h3⟩ | exact ⟨g1, g2, g3⟩
theorem qtb_in {D : Nat → Nat → Int32} {near : Int32} : ∀ p, p ≤ 20 → ∀ q, 0 ≤ (qtb D near p q).1 ∧ (qtb D near p q).1 ≤ Int32.ofNat p ∧ ((qtb D near p q).1 = 0 → (qtb D near p q).2 = 0) := by
  intro p
  induction p with
  | zero => intro _ q; show 0 ≤ (0 : Int32) ∧ (0 : Int32) ≤ Int32.ofNat 0 ∧ ((0 : Int32) = 0 → (0 : Int32) = 0); decide
  | succ p ih =>
    intro hp q
    have le1 : Int32.ofNat p ≤ Int32.ofNat (p + 1) := (q_nle (by omega) (by omega)).mpr (by omega)
    induction q with
    | zero =>
      refine ⟨by show (0 : Int32) ≤ 0; decide, ?_, fun _ => rfl⟩
      show (0 : Int32) ≤ Int32.ofNat (p + 1)
      exact (q_nle (a := 0) (by decide) (by omega)).mpr (by omega)
    | succ q iq =>
      obtain ⟨x1, x2, x3⟩ := ih (by omega) (q + 1)
      obtain ⟨y1, y2, y3⟩ := ih (by omega) q
      obtain ⟨z1, z2, z3⟩ := iq
      have a := qup_in (c := (0, 0)) (v := qtb D near p (q + 1)) (b := Int32.ofNat (p + 1)) (by decide) ((q_nle (a := 0) (by decide) (by omega)).mpr (by omega)) (fun _ => rfl) x1 (Int32.le_trans x2 le1) x3
      have b := qup_in a.1 a.2.1 a.2.2 z1 z2 z3
      show 0 ≤ (qrw (D p) near (qtb D near p) (q + 1)).1 ∧ _
      have e : qtb D near (p + 1) (q + 1) = qrw (D p) near (qtb D near p) (q + 1) := rfl
      rw [e, qrw]
      split
      · exact b
      · have up : (qtb D near p q).1 + 1 ≤ Int32.ofNat (p + 1) ∧ 0 ≤ (qtb D near p q).1 + 1 ∧ ¬ (qtb D near p q).1 + 1 = 0 := by
          have t0 := q_t0 y1
          have y2' := y2
          rw [Int32.le_iff_toInt_le, q_of (by omega)] at y2'
          have ea : ((qtb D near p q).1 + 1).toInt = (qtb D near p q).1.toInt + 1 := by rw [q_add] <;> rw [show (1 : Int32).toInt = 1 from rfl] <;> omega
          refine ⟨?_, ?_, ?_⟩
          · rw [Int32.le_iff_toInt_le, ea, q_of (by omega)]; omega
          · rw [Int32.le_iff_toInt_le, ea, show (0 : Int32).toInt = 0 from rfl]; omega
          · rw [q_eq, ea, show (0 : Int32).toInt = 0 from rfl]; omega
        exact qup_in b.1 b.2.1 b.2.2 up.2.1 up.1 (fun z => absurd z up.2.2)
def qst1 (f : Nat → Int32) (c : Nat) (x : Int32) : Nat → Int32 := fun j => if j = c then x else f j
theorem qst1_at {f : Nat → Int32} {c : Nat} {x : Int32} : qst1 f c x c = x := if_pos rfl
theorem qst1_ne {f : Nat → Int32} {c d : Nat} {x : Int32} (h : ¬ d = c) : qst1 f c x d = f d := if_neg h
theorem qst1_2 {f : Nat → Int32} {c : Nat} {x y : Int32} : qst1 (qst1 f c x) c y = qst1 f c y := by
  funext j
  unfold qst1
  by_cases e : j = c
  · rw [if_pos e, if_pos e]
  · rw [if_neg e, if_neg e, if_neg e]
theorem qst1_id {f : Nat → Int32} {c : Nat} : qst1 f c (f c) = f := by
  funext j
  unfold qst1
  by_cases e : j = c
  · rw [if_pos e, e]
  · rw [if_neg e]
/-- rows of the tables, class and model -/
def qj (s : zTs) (A B C : Nat → Int32) : zTs := zuB (zuB (zuB s 51 0 A) 52 0 B) 53 0 C
def qjm (s : zTs) (A B C : Nat → Int32) : zTs := zuB (zuB (zuB s 156 0 A) 157 0 B) 158 0 C
theorem qj_a {s : zTs} {A B C : Nat → Int32} {c : Nat} {x : Int32} : zuA (qj s A B C) 51 0 c x = qj s (qst1 A c x) B C := by
  unfold qj qst1
  simp (disch := decide) only [zuA_comm, zuA_fuse]
theorem qj_b {s : zTs} {A B C : Nat → Int32} {c : Nat} {x : Int32} : zuA (qj s A B C) 52 0 c x = qj s A (qst1 B c x) C := by
  unfold qj qst1
  simp (disch := decide) only [zuA_comm, zuA_fuse]
theorem qj_c {s : zTs} {A B C : Nat → Int32} {c : Nat} {x : Int32} : zuA (qj s A B C) 53 0 c x = qj s A B (qst1 C c x) := by
  unfold qj qst1
  simp (disch := decide) only [zuA_comm, zuA_fuse]
theorem qjm_a {s : zTs} {A B C : Nat → Int32} {c : Nat} {x : Int32} : zuA (qjm s A B C) 156 0 c x = qjm s (qst1 A c x) B C := by
  unfold qjm qst1
  simp (disch := decide) only [zuA_comm, zuA_fuse]
theorem qjm_b {s : zTs} {A B C : Nat → Int32} {c : Nat} {x : Int32} : zuA (qjm s A B C) 157 0 c x = qjm s A (qst1 B c x) C := by
  unfold qjm qst1
  simp (disch := decide) only [zuA_comm, zuA_fuse]
theorem qjm_c {s : zTs} {A B C : Nat → Int32} {c : Nat} {x : Int32} : zuA (qjm s A B C) 158 0 c x = qjm s A B (qst1 C c x) := by
  unfold qjm qst1
  simp (disch := decide) only [zuA_comm, zuA_fuse]
theorem qj_51 {s : zTs} {A B C : Nat → Int32} {c : Nat} : zgA (qj s A B C) 51 0 c = A c := by unfold qj; simp only [q_NuF, q_FuF, q_PuF, q_OuF, q_AuF, q_RuF, q_LuF, q_JuF, q_NuP, q_FuP, q_PuP, q_OuP, q_AuP, q_RuP, q_LuP, q_JuP, q_NuO, q_FuO, q_PuO, q_OuO, q_AuO, q_RuO, q_LuO, q_JuO, q_NuA, q_FuA, q_PuA, q_OuA, q_AuA, q_RuA, q_LuA, q_JuA, q_NuR, q_FuR, q_PuR, q_OuR, q_AuR, q_RuR, q_LuR, q_JuR, q_NuJ, q_FuJ, q_PuJ, q_OuJ, q_AuJ, q_RuJ, q_LuJ, q_JuJ, q_NuL, q_FuL, q_PuL, q_OuL, q_AuL, q_RuL, q_LuL, q_JuL, q_NuB, q_FuB, q_PuB, q_OuB, q_AuB, q_RuB, q_LuB, q_JuB, q_NuW, q_FuW, q_PuW, q_OuW, q_AuW, q_RuW, q_LuW, q_JuW, q_NuV, q_FuV, q_PuV, q_OuV, q_AuV, q_RuV, q_LuV, q_JuV, q_NuU, q_FuU, q_PuU, q_OuU, q_AuU, q_RuU, q_LuU, q_JuU, q_NuX, q_FuX, q_PuX, q_OuX, q_AuX, q_RuX, q_LuX, q_JuX, q_NuR4, q_FuR4, q_PuR4, q_OuR4, q_AuR4, q_RuR4, q_LuR4, q_JuR4, Nat.reduceEqDiff, reduceIte, and_true, true_and, and_false, false_and, and_self, if_true, if_false, not_true_eq_false, not_false_eq_true]
theorem qj_52 {s : zTs} {A B C : Nat → Int32} {c : Nat} : zgA (qj s A B C) 52 0 c = B c := by unfold qj; simp only [q_NuF, q_FuF, q_PuF, q_OuF, q_AuF, q_RuF, q_LuF, q_JuF, q_NuP, q_FuP, q_PuP, q_OuP, q_AuP, q_RuP, q_LuP, q_JuP, q_NuO, q_FuO, q_PuO, q_OuO, q_AuO, q_RuO, q_LuO, q_JuO, q_NuA, q_FuA, q_PuA, q_OuA, q_AuA, q_RuA, q_LuA, q_JuA, q_NuR, q_FuR, q_PuR, q_OuR, q_AuR, q_RuR, q_LuR, q_JuR, q_NuJ, q_FuJ, q_PuJ, q_OuJ, q_AuJ, q_RuJ, q_LuJ, q_JuJ, q_NuL, q_FuL, q_PuL, q_OuL, q_AuL, q_RuL, q_LuL, q_JuL, q_NuB, q_FuB, q_PuB, q_OuB, q_AuB, q_RuB, q_LuB, q_JuB, q_NuW, q_FuW, q_PuW, q_OuW, q_AuW, q_RuW, q_LuW, q_JuW, q_NuV, q_FuV, q_PuV, q_OuV, q_AuV, q_RuV, q_LuV, q_JuV, q_NuU, q_FuU, q_PuU, q_OuU, q_AuU, q_RuU, q_LuU, q_JuU, q_NuX, q_FuX, q_PuX, q_OuX, q_AuX, q_RuX, q_LuX, q_JuX, q_NuR4, q_FuR4, q_PuR4, q_OuR4, q_AuR4, q_RuR4, q_LuR4, q_JuR4, Nat.reduceEqDiff, reduceIte, and_true, true_and, and_false, false_and, and_self, if_true, if_false, not_true_eq_false, not_false_eq_true]
theorem qj_53 {s : zTs} {A B C : Nat → Int32} {c : Nat} : zgA (qj s A B C) 53 0 c = C c := by unfold qj; simp only [q_NuF, q_FuF, q_PuF, q_OuF, q_AuF, q_RuF, q_LuF, q_JuF, q_NuP, q_FuP, q_PuP, q_OuP, q_AuP, q_RuP, q_LuP, q_JuP, q_NuO, q_FuO, q_PuO, q_OuO, q_AuO, q_RuO, q_LuO, q_JuO, q_NuA, q_FuA, q_PuA, q_OuA, q_AuA, q_RuA, q_LuA, q_JuA, q_NuR, q_FuR, q_PuR, q_OuR, q_AuR, q_RuR, q_LuR, q_JuR, q_NuJ, q_FuJ, q_PuJ, q_OuJ, q_AuJ, q_RuJ, q_LuJ, q_JuJ, q_NuL, q_FuL, q_PuL, q_OuL, q_AuL, q_RuL, q_LuL, q_JuL, q_NuB, q_FuB, q_PuB, q_OuB, q_AuB, q_RuB, q_LuB, q_JuB, q_NuW, q_FuW, q_PuW, q_OuW, q_AuW, q_RuW, q_LuW, q_JuW, q_NuV, q_FuV, q_PuV, q_OuV, q_AuV, q_RuV, q_LuV, q_JuV, q_NuU, q_FuU, q_PuU, q_OuU, q_AuU, q_RuU, q_LuU, q_JuU, q_NuX, q_FuX, q_PuX, q_OuX, q_AuX, q_RuX, q_LuX, q_JuX, q_NuR4, q_FuR4, q_PuR4, q_OuR4, q_AuR4, q_RuR4, q_LuR4, q_JuR4, Nat.reduceEqDiff, reduceIte, and_true, true_and, and_false, false_and, and_self, if_true, if_false, not_true_eq_false, not_false_eq_true]
theorem qjm_6 {s : zTs} {A B C : Nat → Int32} {c : Nat} : zgA (qjm s A B C) 156 0 c = A c := by unfold qjm; simp only [q_NuF, q_FuF, q_PuF, q_OuF, q_AuF, q_RuF, q_LuF, q_JuF, q_NuP, q_FuP, q_PuP, q_OuP, q_AuP, q_RuP, q_LuP, q_JuP, q_NuO, q_FuO, q_PuO, q_OuO, q_AuO, q_RuO, q_LuO, q_JuO, q_NuA, q_FuA, q_PuA, q_OuA, q_AuA, q_RuA, q_LuA, q_JuA, q_NuR, q_FuR, q_PuR, q_OuR, q_AuR, q_RuR, q_LuR, q_JuR, q_NuJ, q_FuJ, q_PuJ, q_OuJ, q_AuJ, q_RuJ, q_LuJ, q_JuJ, q_NuL, q_FuL, q_PuL, q_OuL, q_AuL, q_RuL, q_LuL, q_JuL, q_NuB, q_FuB, q_PuB, q_OuB, q_AuB, q_RuB, q_LuB, q_JuB, q_NuW, q_FuW, q_PuW, q_OuW, q_AuW, q_RuW, q_LuW, q_JuW, q_NuV, q_FuV, q_PuV, q_OuV, q_AuV, q_RuV, q_LuV, q_JuV, q_NuU, q_FuU, q_PuU, q_OuU, q_AuU, q_RuU, q_LuU, q_JuU, q_NuX, q_FuX, q_PuX, q_OuX, q_AuX, q_RuX, q_LuX, q_JuX, q_NuR4, q_FuR4, q_PuR4, q_OuR4, q_AuR4, q_RuR4, q_LuR4, q_JuR4, Nat.reduceEqDiff, reduceIte, and_true, true_and, and_false, false_and, and_self, if_true, if_false, not_true_eq_false, not_false_eq_true]
theorem qjm_7 {s : zTs} {A B C : Nat → Int32} {c : Nat} : zgA (qjm s A B C) 157 0 c = B c := by unfold qjm; simp only [q_NuF, q_FuF, q_PuF, q_OuF, q_AuF, q_RuF, q_LuF, q_JuF, q_NuP, q_FuP, q_PuP, q_OuP, q_AuP, q_RuP, q_LuP, q_JuP, q_NuO, q_FuO, q_PuO, q_OuO, q_AuO, q_RuO, q_LuO, q_JuO, q_NuA, q_FuA, q_PuA, q_OuA, q_AuA, q_RuA, q_LuA, q_JuA, q_NuR, q_FuR, q_PuR, q_OuR, q_AuR, q_RuR, q_LuR, q_JuR, q_NuJ, q_FuJ, q_PuJ, q_OuJ, q_AuJ, q_RuJ, q_LuJ, q_JuJ, q_NuL, q_FuL, q_PuL, q_OuL, q_AuL, q_RuL, q_LuL, q_JuL, q_NuB, q_FuB, q_PuB, q_OuB, q_AuB, q_RuB, q_LuB, q_JuB, q_NuW, q_FuW, q_PuW, q_OuW, q_AuW, q_RuW, q_LuW, q_JuW, q_NuV, q_FuV, q_PuV, q_OuV, q_AuV, q_RuV, q_LuV, q_JuV, q_NuU, q_FuU, q_PuU, q_OuU, q_AuU, q_RuU, q_LuU, q_JuU, q_NuX, q_FuX, q_PuX, q_OuX, q_AuX, q_RuX, q_LuX, q_JuX, q_NuR4, q_FuR4, q_PuR4, q_OuR4, q_AuR4, q_RuR4, q_LuR4, q_JuR4, Nat.reduceEqDiff, reduceIte, and_true, true_and, and_false, false_and, and_self, if_true, if_false, not_true_eq_false, not_false_eq_true]
theorem qjm_8 {s : zTs} {A B C : Nat → Int32} {c : Nat} : zgA (qjm s A B C) 158 0 c = C c := by unfold qjm; simp only [q_NuF, q_FuF, q_PuF, q_OuF, q_AuF, q_RuF, q_LuF, q_JuF, q_NuP, q_FuP, q_PuP, q_OuP, q_AuP, q_RuP, q_LuP, q_JuP, q_NuO, q_FuO, q_PuO, q_OuO, q_AuO, q_RuO, q_LuO, q_JuO, q_NuA, q_FuA, q_PuA, q_OuA, q_AuA, q_RuA, q_LuA, q_JuA, q_NuR, q_FuR, q_PuR, q_OuR, q_AuR, q_RuR, q_LuR, q_JuR, q_NuJ, q_FuJ, q_PuJ, q_OuJ, q_AuJ, q_RuJ, q_LuJ, q_JuJ, q_NuL, q_FuL, q_PuL, q_OuL, q_AuL, q_RuL, q_LuL, q_JuL, q_NuB, q_FuB, q_PuB, q_OuB, q_AuB, q_RuB, q_LuB, q_JuB, q_NuW, q_FuW, q_PuW, q_OuW, q_AuW, q_RuW, q_LuW, q_JuW, q_NuV, q_FuV, q_PuV, q_OuV, q_AuV, q_RuV, q_LuV, q_JuV, q_NuU, q_FuU, q_PuU, q_OuU, q_AuU, q_RuU, q_LuU, q_JuU, q_NuX, q_FuX, q_PuX, q_OuX, q_AuX, q_RuX, q_LuX, q_JuX, q_NuR4, q_FuR4, q_PuR4, q_OuR4, q_AuR4, q_RuR4, q_LuR4, q_JuR4, Nat.reduceEqDiff, reduceIte, and_true, true_and, and_false, false_and, and_self, if_true, if_false, not_true_eq_false, not_false_eq_true]
theorem qj_F {s : zTs} {A B C : Nat → Int32} : zgF (qj s A B C) = zgF s := by unfold qj; simp only [q_NuF, q_FuF, q_PuF, q_OuF, q_AuF, q_RuF, q_LuF, q_JuF, q_NuP, q_FuP, q_PuP, q_OuP, q_AuP, q_RuP, q_LuP, q_JuP, q_NuO, q_FuO, q_PuO, q_OuO, q_AuO, q_RuO, q_LuO, q_JuO, q_NuA, q_FuA, q_PuA, q_OuA, q_AuA, q_RuA, q_LuA, q_JuA, q_NuR, q_FuR, q_PuR, q_OuR, q_AuR, q_RuR, q_LuR, q_JuR, q_NuJ, q_FuJ, q_PuJ, q_OuJ, q_AuJ, q_RuJ, q_LuJ, q_JuJ, q_NuL, q_FuL, q_PuL, q_OuL, q_AuL, q_RuL, q_LuL, q_JuL, q_NuB, q_FuB, q_PuB, q_OuB, q_AuB, q_RuB, q_LuB, q_JuB, q_NuW, q_FuW, q_PuW, q_OuW, q_AuW, q_RuW, q_LuW, q_JuW, q_NuV, q_FuV, q_PuV, q_OuV, q_AuV, q_RuV, q_LuV, q_JuV, q_NuU, q_FuU, q_PuU, q_OuU, q_AuU, q_RuU, q_LuU, q_JuU, q_NuX, q_FuX, q_PuX, q_OuX, q_AuX, q_RuX, q_LuX, q_JuX, q_NuR4, q_FuR4, q_PuR4, q_OuR4, q_AuR4, q_RuR4, q_LuR4, q_JuR4]
theorem qj_A {s : zTs} {A B C : Nat → Int32} {k i j : Nat} (h1 : ¬ k = 51) (h2 : ¬ k = 52) (h3 : ¬ k = 53) : zgA (qj s A B C) k i j = zgA s k i j := by unfold qj; simp only [q_NuF, q_FuF, q_PuF, q_OuF, q_AuF, q_RuF, q_LuF, q_JuF, q_NuP, q_FuP, q_PuP, q_OuP, q_AuP, q_RuP, q_LuP, q_JuP, q_NuO, q_FuO, q_PuO, q_OuO, q_AuO, q_RuO, q_LuO, q_JuO, q_NuA, q_FuA, q_PuA, q_OuA, q_AuA, q_RuA, q_LuA, q_JuA, q_NuR, q_FuR, q_PuR, q_OuR, q_AuR, q_RuR, q_LuR, q_JuR, q_NuJ, q_FuJ, q_PuJ, q_OuJ, q_AuJ, q_RuJ, q_LuJ, q_JuJ, q_NuL, q_FuL, q_PuL, q_OuL, q_AuL, q_RuL, q_LuL, q_JuL, q_NuB, q_FuB, q_PuB, q_OuB, q_AuB, q_RuB, q_LuB, q_JuB, q_NuW, q_FuW, q_PuW, q_OuW, q_AuW, q_RuW, q_LuW, q_JuW, q_NuV, q_FuV, q_PuV, q_OuV, q_AuV, q_RuV, q_LuV, q_JuV, q_NuU, q_FuU, q_PuU, q_OuU, q_AuU, q_RuU, q_LuU, q_JuU, q_NuX, q_FuX, q_PuX, q_OuX, q_AuX, q_RuX, q_LuX, q_JuX, q_NuR4, q_FuR4, q_PuR4, q_OuR4, q_AuR4, q_RuR4, q_LuR4, q_JuR4, h1, h2, h3, Nat.reduceEqDiff, reduceIte, and_true, true_and, and_false, false_and, and_self, if_true, if_false, not_true_eq_false, not_false_eq_true]
theorem qjm_A {s : zTs} {A B C : Nat → Int32} {k i j : Nat} (h1 : ¬ k = 156) (h2 : ¬ k = 157) (h3 : ¬ k = 158) : zgA (qjm s A B C) k i j = zgA s k i j := by unfold qjm; simp only [q_NuF, q_FuF, q_PuF, q_OuF, q_AuF, q_RuF, q_LuF, q_JuF, q_NuP, q_FuP, q_PuP, q_OuP, q_AuP, q_RuP, q_LuP, q_JuP, q_NuO, q_FuO, q_PuO, q_OuO, q_AuO, q_RuO, q_LuO, q_JuO, q_NuA, q_FuA, q_PuA, q_OuA, q_AuA, q_RuA, q_LuA, q_JuA, q_NuR, q_FuR, q_PuR, q_OuR, q_AuR, q_RuR, q_LuR, q_JuR, q_NuJ, q_FuJ, q_PuJ, q_OuJ, q_AuJ, q_RuJ, q_LuJ, q_JuJ, q_NuL, q_FuL, q_PuL, q_OuL, q_AuL, q_RuL, q_LuL, q_JuL, q_NuB, q_FuB, q_PuB, q_OuB, q_AuB, q_RuB, q_LuB, q_JuB, q_NuW, q_FuW, q_PuW, q_OuW, q_AuW, q_RuW, q_LuW, q_JuW, q_NuV, q_FuV, q_PuV, q_OuV, q_AuV, q_RuV, q_LuV, q_JuV, q_NuU, q_FuU, q_PuU, q_OuU, q_AuU, q_RuU, q_LuU, q_JuU, q_NuX, q_FuX, q_PuX, q_OuX, q_AuX, q_RuX, q_LuX, q_JuX, q_NuR4, q_FuR4, q_PuR4, q_OuR4, q_AuR4, q_RuR4, q_LuR4, q_JuR4, h1, h2, h3, Nat.reduceEqDiff, reduceIte, and_true, true_and, and_false, false_and, and_self, if_true, if_false, not_true_eq_false, not_false_eq_true]
theorem i_offer {P : zTs → Prop} {s : zTs} {A B C : Nat → Int32} {x a b : Int32} {c : Nat} (vx : vp_in x 441) (ex : x.toNatClampNeg = c) (h : P (qj s (qst1 A c (qup (A c, B c) (a, b)).1) (qst1 B c (qup (A c, B c) (a, b)).2) C)) : w_X3_offer (qj s A B C) x a b P := by
  unfold w_X3_offer
  rw [ex, qj_51, qj_52]
  have set : (qup (A c, B c) (a, b) = (a, b)) → w_X3_offer_30 P (qj s A B C) x a b := by
    intro e
    refine ⟨vx, fun u hu => ⟨vx, fun u' hu' => ?_⟩⟩
    subst hu'
    subst hu
    rw [ex, qj_a, qj_b]
    rw [e] at h
    exact h
  have keep : (qup (A c, B c) (a, b) = (A c, B c)) → P (qj s A B C) := by
    intro e
    rw [e] at h
    have h : P (qj s (qst1 A c (A c)) (qst1 B c (B c)) C) := h
    rw [qst1_id, qst1_id] at h
    exact h
  refine ⟨vx, fun c1 => set ?_, fun c1 => ⟨vx, fun c2 => ⟨vx, fun c3 => keep ?_, fun c3 => set ?_⟩, fun c2 => keep ?_⟩⟩
  · unfold qup; rw [if_pos c1]
  · unfold qup; rw [if_neg c1, if_pos c2, if_pos c3]
  · unfold qup; rw [if_neg c1, if_pos c2, if_neg c3]
  · unfold qup; rw [if_neg c1, if_neg c2]
theorem im_takes {P : zTs → Prop} {s : zTs} {A B C : Nat → Int32} {x a b : Int32} {c : Nat} (vx : vp_in x 441) (ex : x.toNatClampNeg = c) (h : P (qjm s (qst1 A c (qup (A c, B c) (a, b)).1) (qst1 B c (qup (A c, B c) (a, b)).2) C)) : w_X12_takes (qjm s A B C) x a b P := by
  unfold w_X12_takes
  rw [ex, qjm_6, qjm_7]
  have set : (qup (A c, B c) (a, b) = (a, b)) → w_X12_takes_31 P (qjm s A B C) x a b := by
    intro e
    refine ⟨vx, fun u hu => ⟨vx, fun u' hu' => ?_⟩⟩
    subst hu'
    subst hu
    rw [ex, qjm_a, qjm_b]
    rw [e] at h
    exact h
  have keep : (qup (A c, B c) (a, b) = (A c, B c)) → P (qjm s A B C) := by
    intro e
    rw [e] at h
    have h : P (qjm s (qst1 A c (A c)) (qst1 B c (B c)) C) := h
    rw [qst1_id, qst1_id] at h
    exact h
  refine ⟨vx, fun c1 => keep ?_, fun c1 => ⟨vx, fun c2 => ⟨vx, fun c3 => set ?_, fun c3 => keep ?_⟩, fun c2 => set ?_⟩⟩
  · unfold qup; rw [if_neg (show ¬ A c < a by lia), if_neg (show ¬ a = A c by lia)]
  · unfold qup; rw [if_neg (show ¬ A c < a by lia), if_pos c2, if_neg (show ¬ B c ≤ b from Int32.not_le.mpr c3)]
  · unfold qup; rw [if_neg (show ¬ A c < a by lia), if_pos c2, if_pos (show B c ≤ b from Int32.not_lt.mp c3)]
  · unfold qup; rw [if_pos (show A c < a by lia)]
/-- one place further down -/
def qdn (k : Nat) : Int32 := Int32.ofNat k + -1
theorem qdn_s {k : Nat} (h : k < 100) : qdn (k + 1) = Int32.ofNat k := by
  unfold qdn
  rw [q_nsub (by omega) (by omega), Nat.add_sub_cancel]
theorem qdn_0 : qdn 0 = -1 := by decide
theorem q_c21 {i j : Nat} (hi : i ≤ 20) (hj : j ≤ 20) : vp_in (21 * Int32.ofNat i + Int32.ofNat j) 441 ∧ (21 * Int32.ofNat i + Int32.ofNat j).toNatClampNeg = 21 * i + j := by
  obtain ⟨e, v⟩ := q_pl (m := 21) (a := Int32.ofNat i) (b := Int32.ofNat j) (M := 21) (N := 441) rfl (q_n0 (by omega)) (q_n0 (by omega)) (by rw [q_on (by omega), q_on (by omega)]; omega) (by omega)
  rw [q_on (by omega), q_on (by omega)] at e
  exact ⟨v, e⟩
theorem q_c21e {i j : Nat} (hi : i ≤ 20) (hj : j ≤ 20) : 21 * Int32.ofNat i + Int32.ofNat j = Int32.ofNat (21 * i + j) := by
  obtain ⟨v, e⟩ := q_c21 hi hj
  have : ¬ 21 * Int32.ofNat i + Int32.ofNat j < 0 := fun z => v (.inl z)
  rw [q_nat this, e]
theorem q_nadd {a b : Nat} (h : a + b < 2147483648) : Int32.ofNat a + Int32.ofNat b = Int32.ofNat (a + b) := by
  refine q_of_toInt ?_
  rw [q_add (by rw [q_of (by omega), q_of (by omega)]; omega) (by rw [q_of (by omega), q_of (by omega)]; omega), q_of (by omega), q_of (by omega)]
  omega
/-- the table as far as it stands: rows above i, and of the row i what stands at j and behind -/
def QT (D : Nat → Nat → Int32) (near : Int32) (n m i j : Nat) (A B : Nat → Int32) : Prop := ∀ i' j', i' ≤ n → j' ≤ m → (i < i' ∨ (i' = i ∧ j ≤ j')) → A (21 * i' + j') = (qtb D near (n - i') (m - j')).1 ∧ B (21 * i' + j') = (qtb D near (n - i') (m - j')).2
theorem QT_step {D : Nat → Nat → Int32} {near : Int32} {n m i j : Nat} {A B : Nat → Int32} (hm : m ≤ 20) (hj : j ≤ m) (h : QT D near n m i (j + 1) A B) : QT D near n m i j (qst1 A (21 * i + j) (qtb D near (n - i) (m - j)).1) (qst1 B (21 * i + j) (qtb D near (n - i) (m - j)).2) := by
  intro i' j' h1 h2 h3
  by_cases e : i' = i ∧ j' = j
  · obtain ⟨rfl, rfl⟩ := e
    exact ⟨qst1_at, qst1_at⟩
  · have ne : ¬ 21 * i' + j' = 21 * i + j := by omega
    rw [qst1_ne ne, qst1_ne ne]
    exact h i' j' h1 h2 (by omega)
theorem qup_0 {v : Int32 × Int32} (h1 : 0 ≤ v.1) (h3 : v.1 = 0 → v.2 = 0) : qup (0, 0) v = v ∧ qup (-1, 0) v = v := by
  constructor
  · unfold qup
    by_cases c : (0 : Int32) < v.1
    · rw [if_pos c]
    · have z : v.1 = 0 := by lia
      rw [if_neg c, if_pos z, if_pos (show (0 : Int32) ≤ v.2 by rw [h3 z]; decide)]
      exact Prod.ext z.symm (h3 z).symm
  · unfold qup
    rw [if_pos (show (-1 : Int32) < v.1 by lia)]

/-! a new rule of the class -/
def ynw (s : zTs) (o : Nat) : zTs := zuF (zuF (zuF (zuF (zuF (zuF (zuF (zuM (zuA (zuA (zuA (zuA (zuV (zuW s 24) 66 4) 66 o 0 30) 66 o 1 30) 66 o 2 30) 66 o 3 30)) 24 o 5 14) 24 o 7 10) 24 o 8 14) 24 o 10 10) 24 o 11 50) 24 o 12 8) 24 o 13 17
theorem i_new {P : zTs → Prop} {s : zTs} {o : Nat} {mk : zMk} (h66 : zgN s 66 = o) (h68 : zgN s 68 = o) (h : P (ynw s o)) : w_X5_init (zuW s 24) mk o P := by
  refine ⟨?_, fun a ea => ⟨q_vpi (by decide) (by decide), fun b eb => ⟨q_vpi (by decide) (by decide), fun c ec => ⟨q_vpi (by decide) (by decide), fun d ed => ⟨q_vpi (by decide) (by decide), fun e ee => ⟨?_, fun m em => ?_⟩⟩⟩⟩⟩⟩
  · rw [q_NuW, if_neg (by decide)]; exact h66
  · subst ee ed ec eb ea
    simp only [q_NuF, q_FuF, q_PuF, q_OuF, q_AuF, q_RuF, q_LuF, q_JuF, q_NuP, q_FuP, q_PuP, q_OuP, q_AuP, q_RuP, q_LuP, q_JuP, q_NuO, q_FuO, q_PuO, q_OuO, q_AuO, q_RuO, q_LuO, q_JuO, q_NuA, q_FuA, q_PuA, q_OuA, q_AuA, q_RuA, q_LuA, q_JuA, q_NuR, q_FuR, q_PuR, q_OuR, q_AuR, q_RuR, q_LuR, q_JuR, q_NuJ, q_FuJ, q_PuJ, q_OuJ, q_AuJ, q_RuJ, q_LuJ, q_JuJ, q_NuL, q_FuL, q_PuL, q_OuL, q_AuL, q_RuL, q_LuL, q_JuL, q_NuB, q_FuB, q_PuB, q_OuB, q_AuB, q_RuB, q_LuB, q_JuB, q_NuW, q_FuW, q_PuW, q_OuW, q_AuW, q_RuW, q_LuW, q_JuW, q_NuV, q_FuV, q_PuV, q_OuV, q_AuV, q_RuV, q_LuV, q_JuV, q_NuU, q_FuU, q_PuU, q_OuU, q_AuU, q_RuU, q_LuU, q_JuU, q_NuX, q_FuX, q_PuX, q_OuX, q_AuX, q_RuX, q_LuX, q_JuX, q_NuR4, q_FuR4, q_PuR4, q_OuR4, q_AuR4, q_RuR4, q_LuR4, q_JuR4, Nat.reduceEqDiff, reduceIte, and_true, true_and, and_false, false_and, and_self, if_true, if_false, not_true_eq_false, not_false_eq_true]
    exact h68
  · subst em ee ed ec eb ea
    intro a1 e1 a2 e2 a3 e3 a4 e4 a5 e5 a6 e6 a7 e7
    subst e7 e6 e5 e4 e3 e2 e1
    exact h
theorem ynw_F {s : zTs} {o k i j : Nat} (ho : zgN s 24 = o) (h : ¬ (k = 24 ∧ i = o)) : zgF (ynw s o) k i j = zgF s k i j := by
  have g : ∀ t j' x, zgF (zuF t 24 o j' x) k i j = zgF t k i j := fun t j' x => by rw [q_FuF, if_neg (fun z => h ⟨z.1, z.2.1⟩)]
  unfold ynw
  rw [g, g, g, g, g, g, g]
  unfold zuM zuV4
  simp only [q_FuR4, q_FuV, q_FuA]
  rw [q_FuW, if_neg (fun z => h ⟨z.1, by rw [← ho]; exact z.2⟩)]
theorem ynw_24 {s : zTs} {o : Nat} (ho : zgN s 24 = o) : ∀ j, zgF (ynw s o) 24 o j = if j = 13 then 17 else if j = 12 then 8 else if j = 11 then 50 else if j = 10 then 10 else if j = 8 then 14 else if j = 7 then 10 else if j = 5 then 14 else 0 := by
  intro j
  have g : ∀ t j' x, zgF (zuF t 24 o j' x) 24 o j = if j = j' then x else zgF t 24 o j := by
    intro t j' x
    rw [q_FuF]
    by_cases e : j = j'
    · rw [if_pos ⟨rfl, rfl, e⟩, if_pos e]
    · rw [if_neg (fun z => e z.2.2), if_neg e]
  have z : ∀ t, zgF t = zgF (zuW s 24) → zgF t 24 o j = 0 := by
    intro t e
    rw [e, q_FuW, if_pos ⟨rfl, ho.symm⟩]
  unfold ynw
  rw [g, g, g, g, g, g, g, z _ ?_]
  unfold zuM zuV4
  simp only [q_FuR4, q_FuV, q_FuA]
theorem ynw_66 {s : zTs} {o j : Nat} (hj : j < 4) : zgA (ynw s o) 66 o j = 30 := by
  unfold ynw zuM zuV4
  simp only [q_NuF, q_FuF, q_PuF, q_OuF, q_AuF, q_RuF, q_LuF, q_JuF, q_NuP, q_FuP, q_PuP, q_OuP, q_AuP, q_RuP, q_LuP, q_JuP, q_NuO, q_FuO, q_PuO, q_OuO, q_AuO, q_RuO, q_LuO, q_JuO, q_NuA, q_FuA, q_PuA, q_OuA, q_AuA, q_RuA, q_LuA, q_JuA, q_NuR, q_FuR, q_PuR, q_OuR, q_AuR, q_RuR, q_LuR, q_JuR, q_NuJ, q_FuJ, q_PuJ, q_OuJ, q_AuJ, q_RuJ, q_LuJ, q_JuJ, q_NuL, q_FuL, q_PuL, q_OuL, q_AuL, q_RuL, q_LuL, q_JuL, q_NuB, q_FuB, q_PuB, q_OuB, q_AuB, q_RuB, q_LuB, q_JuB, q_NuW, q_FuW, q_PuW, q_OuW, q_AuW, q_RuW, q_LuW, q_JuW, q_NuV, q_FuV, q_PuV, q_OuV, q_AuV, q_RuV, q_LuV, q_JuV, q_NuU, q_FuU, q_PuU, q_OuU, q_AuU, q_RuU, q_LuU, q_JuU, q_NuX, q_FuX, q_PuX, q_OuX, q_AuX, q_RuX, q_LuX, q_JuX, q_NuR4, q_FuR4, q_PuR4, q_OuR4, q_AuR4, q_RuR4, q_LuR4, q_JuR4, Nat.reduceEqDiff, reduceIte, and_true, true_and, and_false, false_and, and_self, if_true, if_false, not_true_eq_false, not_false_eq_true]
  rcases (by omega : j = 0 ∨ j = 1 ∨ j = 2 ∨ j = 3) with e | e | e | e <;> subst e <;> simp only [Nat.reduceEqDiff, reduceIte, and_true, true_and, and_false, false_and, and_self, if_true, if_false, not_true_eq_false, not_false_eq_true]
theorem ynw_A {s : zTs} {o k i j : Nat} (h66 : zgN s 66 = o) (h : ¬ (k = 66 ∧ i = o)) (h9 : ¬ (k = 69 ∧ zgN s 69 ≤ i)) : zgA (ynw s o) k i j = zgA s k i j := by
  have g : ∀ t j' x, zgA (zuA t 66 o j' x) k i j = zgA t k i j := fun t j' x => by rw [q_AuA, if_neg (fun z => h ⟨z.1, z.2.1⟩)]
  have v : ∀ t n, zgN s 69 ≤ zgN t 69 → zgA (zuV t 69 n) k i j = zgA t k i j := fun t n hn => by rw [q_AuV, if_neg (fun z => h9 ⟨z.1, by have := z.2; omega⟩)]
  unfold ynw zuM zuV4
  simp only [q_AuF, q_AuR4]
  rw [v, v, v, v, g, g, g, g, q_AuV, if_neg (fun z => h ⟨z.1, by have := z.2; rw [q_NuW, if_neg (by decide)] at this; omega⟩), q_AuW]
  all_goals simp only [q_NuV, q_NuA, q_NuW, Nat.reduceEqDiff, reduceIte, and_true, true_and, and_false, false_and, and_self, if_true, if_false, not_true_eq_false, not_false_eq_true]
  all_goals omega
theorem ynw_N {s : zTs} {o : Nat} : zgN (ynw s o) 24 = zgN s 24 + 1 ∧ zgN (ynw s o) 66 = zgN s 66 + 1 ∧ zgN (ynw s o) 68 = zgN s 68 + 1 ∧ zgN (ynw s o) 69 = zgN s 69 + 4 ∧ ∀ k, ¬ k = 24 → ¬ k = 66 → ¬ k = 68 → ¬ k = 69 → zgN (ynw s o) k = zgN s k := by
  unfold ynw zuM zuV4
  refine ⟨?_, ?_, ?_, ?_, fun k h1 h2 h3 h4 => ?_⟩
  all_goals simp only [q_NuF, q_FuF, q_PuF, q_OuF, q_AuF, q_RuF, q_LuF, q_JuF, q_NuP, q_FuP, q_PuP, q_OuP, q_AuP, q_RuP, q_LuP, q_JuP, q_NuO, q_FuO, q_PuO, q_OuO, q_AuO, q_RuO, q_LuO, q_JuO, q_NuA, q_FuA, q_PuA, q_OuA, q_AuA, q_RuA, q_LuA, q_JuA, q_NuR, q_FuR, q_PuR, q_OuR, q_AuR, q_RuR, q_LuR, q_JuR, q_NuJ, q_FuJ, q_PuJ, q_OuJ, q_AuJ, q_RuJ, q_LuJ, q_JuJ, q_NuL, q_FuL, q_PuL, q_OuL, q_AuL, q_RuL, q_LuL, q_JuL, q_NuB, q_FuB, q_PuB, q_OuB, q_AuB, q_RuB, q_LuB, q_JuB, q_NuW, q_FuW, q_PuW, q_OuW, q_AuW, q_RuW, q_LuW, q_JuW, q_NuV, q_FuV, q_PuV, q_OuV, q_AuV, q_RuV, q_LuV, q_JuV, q_NuU, q_FuU, q_PuU, q_OuU, q_AuU, q_RuU, q_LuU, q_JuU, q_NuX, q_FuX, q_PuX, q_OuX, q_AuX, q_RuX, q_LuX, q_JuX, q_NuR4, q_FuR4, q_PuR4, q_OuR4, q_AuR4, q_RuR4, q_LuR4, q_JuR4, Nat.reduceEqDiff, reduceIte, and_true, true_and, and_false, false_and, and_self, if_true, if_false, not_true_eq_false, not_false_eq_true]
  simp only [h1, h2, h3, h4, if_false]

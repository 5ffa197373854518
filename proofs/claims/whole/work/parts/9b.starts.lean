/-! the model's start of a rule -/
def ytb (j : Nat) : Int32 := if j = 14 then 17 else if j = 13 then 8 else if j = 12 then 50 else if j = 11 then 10 else if j = 9 then 14 else if j = 8 then 10 else if j = 7 then 1 else if j = 6 then 14 else if j < 4 then 30 else 0
theorem im_starts4 {P : zTs → Prop} {t : zTs} {g A4 A9 A10 : Nat → Int32} (h : ∀ g' A6', g' 21 = 0 → g' 12 = 0 → yag [12, 21] g g' → (∀ j, j < 4 → A6' j = -1) → P (YM t g' A4 A6' A9 A10)) : ∀ (u r : Nat) (A6 : Nat → Int32), r ≤ 4 → 5 - r ≤ u → (∀ j, j < r → A6 j = -1) → w_X12_starts_104 P u (YM t g A4 A6 A9 A10) (Int32.ofNat r) := by
  intro u
  induction u with
  | zero => intro r A6 h1 h2; omega
  | succ u ih =>
    intro r A6 h1 h2 h3
    rw [w_X12_starts_104, show (4 : Int32) = Int32.ofNat 4 from rfl, q_nle (by omega) (by omega)]
    refine ⟨fun z a ea b eb => ?_, fun z => ⟨q_nv (by omega) (by omega), fun a ea x hx => ?_⟩⟩
    · rw [YM_f] at ea
      subst ea
      rw [YM_f] at eb
      subst eb
      exact h _ A6 ((qst1_ne (by decide)).trans qst1_at) qst1_at (yag_st (by decide) (yag_st (by decide) yag_rf)) (fun j hj => h3 j (by omega))
    · rw [q_on (by omega), YM_6] at ea
      subst ea
      subst hx
      rw [q_os (by omega)]
      refine ih (r + 1) _ (by omega) (by omega) (fun j hj => ?_)
      by_cases e : j = r
      · rw [e, qst1_at]
      · rw [qst1_ne e]; exact h3 j (by omega)
theorem im_starts {P : zTs → Prop} {t : zTs} {g A4 A6 A9 A10 : Nat → Int32} (h : ∀ g' A4' A6', g' 21 = 0 → g' 12 = 0 → yag [12, 21] g g' → (∀ j, j < 15 → A4' j = ytb j) → (∀ j, j < 4 → A6' j = -1) → P (YM t g' A4' A6' A9 A10)) : w_X12_starts (YM t g A4 A6 A9 A10) P := by
  have key : ∀ (u r : Nat) (A4 : Nat → Int32), r ≤ 15 → 16 - r ≤ u → (∀ j, j < r → A4 j = if j < 4 then 30 else 0) → w_X12_starts_2 P u (YM t g A4 A6 A9 A10) (Int32.ofNat r) := by
    intro u
    induction u with
    | zero => intro r A4 h1 h2; omega
    | succ u ih =>
      intro r A4 h1 h2 h3
      rw [w_X12_starts_2, show (15 : Int32) = Int32.ofNat 15 from rfl, show (4 : Int32) = Int32.ofNat 4 from rfl, q_nle (by omega) (by omega), q_nle (by omega) (by omega)]
      refine ⟨fun z => ?_, fun z => ?_⟩
      · refine ⟨v15_6, fun a1 e1 => ⟨v15_7, fun a2 e2 => ⟨v15_8, fun a3 e3 => ⟨v15_9, fun a4 e4 => ⟨q_vpi (by decide) (by decide), fun a5 e5 => ⟨q_vpi (by decide) (by decide), fun a6 e6 => ⟨v15_13, fun a7 e7 => ⟨v15_14, fun a8 e8 => ?_⟩⟩⟩⟩⟩⟩⟩⟩
        rw [YM_4] at e1
        subst e1
        rw [YM_4] at e2
        subst e2
        rw [YM_4] at e3
        subst e3
        rw [YM_4] at e4
        subst e4
        rw [YM_4] at e5
        subst e5
        rw [YM_4] at e6
        subst e6
        rw [YM_4] at e7
        subst e7
        rw [YM_4] at e8
        subst e8
        refine im_starts4 (fun g' A6' k21 k12 ka k6 => h g' _ A6' k21 k12 ka (fun j hj => ?_) k6) zfu 0 A6 (by omega) (by unfold zfu; omega) (fun j hj => by omega)
        have b := h3 j (by omega)
        unfold qst1 ytb
        rw [b]
        rfl
      · have go : ∀ x, x = (if r < 4 then 30 else 0) → w_X12_starts_24 P (w_X12_starts_2 P u) (YM t g A4 A6 A9 A10) (Int32.ofNat r) x (Int32.ofNat r) := by
          intro x hx
          refine ⟨q_nv (by omega) (by omega), fun a ea y hy => ?_⟩
          rw [q_on (by omega), YM_4] at ea
          subst ea
          subst hy
          rw [q_os (by omega)]
          refine ih (r + 1) _ (by omega) (by omega) (fun j hj => ?_)
          by_cases e : j = r
          · rw [e, qst1_at]; exact hx
          · rw [qst1_ne e]; exact h3 j (by omega)
        exact ⟨fun y => go 0 (by rw [if_neg (by omega)]), fun y => go 30 (by rw [if_pos (by omega)])⟩
  exact key zfu 0 A4 (by omega) (by unfold zfu; omega) (fun j hj => by omega)
theorem y_start {s : zTs} {o : Nat} {A4 A6 A9 A10 : Nat → Int32} {k : Nat} (ho : zgN s 24 = o) (h68 : zgN s 68 = o) (h4 : ∀ j, j < 15 → A4 j = ytb j) (h6 : ∀ j, j < 4 → A6 j = -1) : YRI (ynw s o) o A4 A6 A9 A10 k := by
  have F := ynw_24 ho
  have e : ∀ j, j < 15 → A4 j = ytb j := h4
  refine ⟨⟨⟨fun j hj => ?_, ?_⟩, ?_⟩, fun j hj => ?_⟩
  · dsimp only
    rw [ynw_66 hj, e j (by omega)]
    rcases (by omega : j = 0 ∨ j = 1 ∨ j = 2 ∨ j = 3) with z | z | z | z <;> subst z <;> decide
  · dsimp only
    rw [e 4 (by omega), e 5 (by omega), e 6 (by omega), e 7 (by omega), F, F, F, F]
    decide
  · dsimp only
    rw [e 8 (by omega), e 9 (by omega), e 10 (by omega), e 11 (by omega), e 12 (by omega), e 13 (by omega), e 14 (by omega), F, F, F, F, F, F, F, F, F, F]
    decide
  · refine ⟨zgN s 69 + j, ?_, ?_, ?_, .inl (h6 j hj)⟩
    · unfold ynw zuM zuV4
      simp only [q_NuF, q_FuF, q_PuF, q_OuF, q_AuF, q_RuF, q_LuF, q_JuF, q_NuP, q_FuP, q_PuP, q_OuP, q_AuP, q_RuP, q_LuP, q_JuP, q_NuO, q_FuO, q_PuO, q_OuO, q_AuO, q_RuO, q_LuO, q_JuO, q_NuA, q_FuA, q_PuA, q_OuA, q_AuA, q_RuA, q_LuA, q_JuA, q_NuR, q_FuR, q_PuR, q_OuR, q_AuR, q_RuR, q_LuR, q_JuR, q_NuJ, q_FuJ, q_PuJ, q_OuJ, q_AuJ, q_RuJ, q_LuJ, q_JuJ, q_NuL, q_FuL, q_PuL, q_OuL, q_AuL, q_RuL, q_LuL, q_JuL, q_NuB, q_FuB, q_PuB, q_OuB, q_AuB, q_RuB, q_LuB, q_JuB, q_NuW, q_FuW, q_PuW, q_OuW, q_AuW, q_RuW, q_LuW, q_JuW, q_NuV, q_FuV, q_PuV, q_OuV, q_AuV, q_RuV, q_LuV, q_JuV, q_NuU, q_FuU, q_PuU, q_OuU, q_AuU, q_RuU, q_LuU, q_JuU, q_NuX, q_FuX, q_PuX, q_OuX, q_AuX, q_RuX, q_LuX, q_JuX, q_NuR4, q_FuR4, q_PuR4, q_OuR4, q_AuR4, q_RuR4, q_LuR4, q_JuR4, Nat.reduceEqDiff, reduceIte, and_true, true_and, and_false, false_and, and_self, if_true, if_false, not_true_eq_false, not_false_eq_true]
      rw [if_pos h68.symm, if_pos hj]
    · rw [ynw_N.2.2.2.1]; omega
    · refine .inl ⟨?_, h6 j hj⟩
      unfold ynw zuM zuV4
      simp only [q_NuF, q_FuF, q_PuF, q_OuF, q_AuF, q_RuF, q_LuF, q_JuF, q_NuP, q_FuP, q_PuP, q_OuP, q_AuP, q_RuP, q_LuP, q_JuP, q_NuO, q_FuO, q_PuO, q_OuO, q_AuO, q_RuO, q_LuO, q_JuO, q_NuA, q_FuA, q_PuA, q_OuA, q_AuA, q_RuA, q_LuA, q_JuA, q_NuR, q_FuR, q_PuR, q_OuR, q_AuR, q_RuR, q_LuR, q_JuR, q_NuJ, q_FuJ, q_PuJ, q_OuJ, q_AuJ, q_RuJ, q_LuJ, q_JuJ, q_NuL, q_FuL, q_PuL, q_OuL, q_AuL, q_RuL, q_LuL, q_JuL, q_NuB, q_FuB, q_PuB, q_OuB, q_AuB, q_RuB, q_LuB, q_JuB, q_NuW, q_FuW, q_PuW, q_OuW, q_AuW, q_RuW, q_LuW, q_JuW, q_NuV, q_FuV, q_PuV, q_OuV, q_AuV, q_RuV, q_LuV, q_JuV, q_NuU, q_FuU, q_PuU, q_OuU, q_AuU, q_RuU, q_LuU, q_JuU, q_NuX, q_FuX, q_PuX, q_OuX, q_AuX, q_RuX, q_LuX, q_JuX, q_NuR4, q_FuR4, q_PuR4, q_OuR4, q_AuR4, q_RuR4, q_LuR4, q_JuR4, Nat.reduceEqDiff, reduceIte, and_true, true_and, and_false, false_and, and_self, if_true, if_false, not_true_eq_false, not_false_eq_true]
      rcases (by omega : j = 0 ∨ j = 1 ∨ j = 2 ∨ j = 3) with z | z | z | z <;> subst z <;> simp only [Nat.add_zero, Nat.reduceEqDiff, reduceIte, and_true, true_and, and_false, false_and, and_self, if_true, if_false, not_true_eq_false, not_false_eq_true] <;> simp

/-! rule -/
theorem YM_gF {t : zTs} {k i j : Nat} {g A4 A6 A9 A10 : Nat → Int32} (h : ¬ k = 100) : zgF (YM t g A4 A6 A9 A10) k i j = zgF t k i j := by unfold YM; simp only [q_NuF, q_FuF, q_PuF, q_OuF, q_AuF, q_RuF, q_LuF, q_JuF, q_NuP, q_FuP, q_PuP, q_OuP, q_AuP, q_RuP, q_LuP, q_JuP, q_NuO, q_FuO, q_PuO, q_OuO, q_AuO, q_RuO, q_LuO, q_JuO, q_NuA, q_FuA, q_PuA, q_OuA, q_AuA, q_RuA, q_LuA, q_JuA, q_NuR, q_FuR, q_PuR, q_OuR, q_AuR, q_RuR, q_LuR, q_JuR, q_NuJ, q_FuJ, q_PuJ, q_OuJ, q_AuJ, q_RuJ, q_LuJ, q_JuJ, q_NuL, q_FuL, q_PuL, q_OuL, q_AuL, q_RuL, q_LuL, q_JuL, q_NuB, q_FuB, q_PuB, q_OuB, q_AuB, q_RuB, q_LuB, q_JuB, q_NuW, q_FuW, q_PuW, q_OuW, q_AuW, q_RuW, q_LuW, q_JuW, q_NuV, q_FuV, q_PuV, q_OuV, q_AuV, q_RuV, q_LuV, q_JuV, q_NuU, q_FuU, q_PuU, q_OuU, q_AuU, q_RuU, q_LuU, q_JuU, q_NuX, q_FuX, q_PuX, q_OuX, q_AuX, q_RuX, q_LuX, q_JuX, q_NuR4, q_FuR4, q_PuR4, q_OuR4, q_AuR4, q_RuR4, q_LuR4, q_JuR4, q_FuC, Nat.reduceEqDiff, reduceIte, and_true, true_and, and_false, false_and, and_self, if_true, if_false, not_true_eq_false, not_false_eq_true, h]
theorem YM_un {t : zTs} {g A4 A6 A9 A10 : Nat → Int32} : zgN (YM t g A4 A6 A9 A10) = zgN t ∧ zgP (YM t g A4 A6 A9 A10) = zgP t ∧ zgO (YM t g A4 A6 A9 A10) = zgO t ∧ zgR (YM t g A4 A6 A9 A10) = zgR t ∧ zgL (YM t g A4 A6 A9 A10) = zgL t := by
  unfold YM
  refine ⟨?_, ?_, ?_, ?_, ?_⟩
  all_goals simp only [q_NuF, q_FuF, q_PuF, q_OuF, q_AuF, q_RuF, q_LuF, q_JuF, q_NuP, q_FuP, q_PuP, q_OuP, q_AuP, q_RuP, q_LuP, q_JuP, q_NuO, q_FuO, q_PuO, q_OuO, q_AuO, q_RuO, q_LuO, q_JuO, q_NuA, q_FuA, q_PuA, q_OuA, q_AuA, q_RuA, q_LuA, q_JuA, q_NuR, q_FuR, q_PuR, q_OuR, q_AuR, q_RuR, q_LuR, q_JuR, q_NuJ, q_FuJ, q_PuJ, q_OuJ, q_AuJ, q_RuJ, q_LuJ, q_JuJ, q_NuL, q_FuL, q_PuL, q_OuL, q_AuL, q_RuL, q_LuL, q_JuL, q_NuB, q_FuB, q_PuB, q_OuB, q_AuB, q_RuB, q_LuB, q_JuB, q_NuW, q_FuW, q_PuW, q_OuW, q_AuW, q_RuW, q_LuW, q_JuW, q_NuV, q_FuV, q_PuV, q_OuV, q_AuV, q_RuV, q_LuV, q_JuV, q_NuU, q_FuU, q_PuU, q_OuU, q_AuU, q_RuU, q_LuU, q_JuU, q_NuX, q_FuX, q_PuX, q_OuX, q_AuX, q_RuX, q_LuX, q_JuX, q_NuR4, q_FuR4, q_PuR4, q_OuR4, q_AuR4, q_RuR4, q_LuR4, q_JuR4, q_NuC, q_PuC, q_OuC, q_RuC, q_LuC]
theorem YN_un {t : zTs} {C3 C5 C7 C8 : Nat → Int32} : zgN (YN t C3 C5 C7 C8) = zgN t ∧ zgP (YN t C3 C5 C7 C8) = zgP t ∧ zgO (YN t C3 C5 C7 C8) = zgO t ∧ zgR (YN t C3 C5 C7 C8) = zgR t ∧ zgL (YN t C3 C5 C7 C8) = zgL t := by
  unfold YN
  refine ⟨?_, ?_, ?_, ?_, ?_⟩
  all_goals simp only [q_NuF, q_FuF, q_PuF, q_OuF, q_AuF, q_RuF, q_LuF, q_JuF, q_NuP, q_FuP, q_PuP, q_OuP, q_AuP, q_RuP, q_LuP, q_JuP, q_NuO, q_FuO, q_PuO, q_OuO, q_AuO, q_RuO, q_LuO, q_JuO, q_NuA, q_FuA, q_PuA, q_OuA, q_AuA, q_RuA, q_LuA, q_JuA, q_NuR, q_FuR, q_PuR, q_OuR, q_AuR, q_RuR, q_LuR, q_JuR, q_NuJ, q_FuJ, q_PuJ, q_OuJ, q_AuJ, q_RuJ, q_LuJ, q_JuJ, q_NuL, q_FuL, q_PuL, q_OuL, q_AuL, q_RuL, q_LuL, q_JuL, q_NuB, q_FuB, q_PuB, q_OuB, q_AuB, q_RuB, q_LuB, q_JuB, q_NuW, q_FuW, q_PuW, q_OuW, q_AuW, q_RuW, q_LuW, q_JuW, q_NuV, q_FuV, q_PuV, q_OuV, q_AuV, q_RuV, q_LuV, q_JuV, q_NuU, q_FuU, q_PuU, q_OuU, q_AuU, q_RuU, q_LuU, q_JuU, q_NuX, q_FuX, q_PuX, q_OuX, q_AuX, q_RuX, q_LuX, q_JuX, q_NuR4, q_FuR4, q_PuR4, q_OuR4, q_AuR4, q_RuR4, q_LuR4, q_JuR4]
theorem YN_3578 {t : zTs} {C3 C5 C7 C8 : Nat → Int32} : zgA (YN t C3 C5 C7 C8) 103 0 = C3 ∧ zgA (YN t C3 C5 C7 C8) 105 0 = C5 ∧ zgA (YN t C3 C5 C7 C8) 107 0 = C7 ∧ zgA (YN t C3 C5 C7 C8) 108 0 = C8 := by
  unfold YN
  refine ⟨?_, ?_, ?_, ?_⟩
  all_goals funext j; simp only [q_AuB, Nat.reduceEqDiff, reduceIte, and_true, true_and, and_false, false_and, and_self, if_true, if_false, not_true_eq_false, not_false_eq_true]
theorem YC_un {s : zTs} {w : Nat} {f S : Nat → Int32} : zgO (YC s w f S) = zgO s ∧ zgR (YC s w f S) = zgR s ∧ zgL (YC s w f S) = zgL s ∧ zgN (YC s w f S) = zgN s := by
  unfold YC
  refine ⟨?_, ?_, ?_, ?_⟩
  all_goals simp only [q_NuF, q_FuF, q_PuF, q_OuF, q_AuF, q_RuF, q_LuF, q_JuF, q_NuP, q_FuP, q_PuP, q_OuP, q_AuP, q_RuP, q_LuP, q_JuP, q_NuO, q_FuO, q_PuO, q_OuO, q_AuO, q_RuO, q_LuO, q_JuO, q_NuA, q_FuA, q_PuA, q_OuA, q_AuA, q_RuA, q_LuA, q_JuA, q_NuR, q_FuR, q_PuR, q_OuR, q_AuR, q_RuR, q_LuR, q_JuR, q_NuJ, q_FuJ, q_PuJ, q_OuJ, q_AuJ, q_RuJ, q_LuJ, q_JuJ, q_NuL, q_FuL, q_PuL, q_OuL, q_AuL, q_RuL, q_LuL, q_JuL, q_NuB, q_FuB, q_PuB, q_OuB, q_AuB, q_RuB, q_LuB, q_JuB, q_NuW, q_FuW, q_PuW, q_OuW, q_AuW, q_RuW, q_LuW, q_JuW, q_NuV, q_FuV, q_PuV, q_OuV, q_AuV, q_RuV, q_LuV, q_JuV, q_NuU, q_FuU, q_PuU, q_OuU, q_AuU, q_RuU, q_LuU, q_JuU, q_NuX, q_FuX, q_PuX, q_OuX, q_AuX, q_RuX, q_LuX, q_JuX, q_NuR4, q_FuR4, q_PuR4, q_OuR4, q_AuR4, q_RuR4, q_LuR4, q_JuR4, q_NuC, q_OuC, q_RuC, q_LuC]
theorem YC_gP {s : zTs} {w k i j : Nat} {f S : Nat → Int32} (h : ¬ k = 13) : zgP (YC s w f S) k i j = zgP s k i j := by unfold YC; simp only [q_NuF, q_FuF, q_PuF, q_OuF, q_AuF, q_RuF, q_LuF, q_JuF, q_NuP, q_FuP, q_PuP, q_OuP, q_AuP, q_RuP, q_LuP, q_JuP, q_NuO, q_FuO, q_PuO, q_OuO, q_AuO, q_RuO, q_LuO, q_JuO, q_NuA, q_FuA, q_PuA, q_OuA, q_AuA, q_RuA, q_LuA, q_JuA, q_NuR, q_FuR, q_PuR, q_OuR, q_AuR, q_RuR, q_LuR, q_JuR, q_NuJ, q_FuJ, q_PuJ, q_OuJ, q_AuJ, q_RuJ, q_LuJ, q_JuJ, q_NuL, q_FuL, q_PuL, q_OuL, q_AuL, q_RuL, q_LuL, q_JuL, q_NuB, q_FuB, q_PuB, q_OuB, q_AuB, q_RuB, q_LuB, q_JuB, q_NuW, q_FuW, q_PuW, q_OuW, q_AuW, q_RuW, q_LuW, q_JuW, q_NuV, q_FuV, q_PuV, q_OuV, q_AuV, q_RuV, q_LuV, q_JuV, q_NuU, q_FuU, q_PuU, q_OuU, q_AuU, q_RuU, q_LuU, q_JuU, q_NuX, q_FuX, q_PuX, q_OuX, q_AuX, q_RuX, q_LuX, q_JuX, q_NuR4, q_FuR4, q_PuR4, q_OuR4, q_AuR4, q_RuR4, q_LuR4, q_JuR4, q_PuC, Nat.reduceEqDiff, reduceIte, and_true, true_and, and_false, false_and, and_self, if_true, if_false, not_true_eq_false, not_false_eq_true, h]
theorem y_mem9 {k : Nat} (h : ¬ k ∈ [54, 103, 104, 105, 106, 107, 108, 109, 110]) : ¬ k = 54 ∧ ¬ k = 103 ∧ ¬ k = 104 ∧ ¬ k = 105 ∧ ¬ k = 106 ∧ ¬ k = 107 ∧ ¬ k = 108 ∧ ¬ k = 109 ∧ ¬ k = 110 := by
  simp only [List.mem_cons, List.not_mem_nil, or_false] at h
  omega
/-- the model reads what the class has read -/
theorem b_rule {st : zTs} {a : Int32} (h : qR st) : w_X11_rule st a (fun k s => k = 1 ∧ w_X12_rule s a (zOK 1 0)) (fun r s => w_X12_rule s a (zOK 0 r)) := by
  have h0 := h
  obtain ⟨hD, hO, hT, hP, hW, hC, hR, hK, hS, hB, hH, hG⟩ := h
  obtain ⟨t1, t2, t3, t4⟩ := id hT
  obtain ⟨r1, r2, r3, r4, r5, r6⟩ := id hR
  refine i_range (fun c => ⟨rfl, ?_⟩) (fun c1 c2 s11 e11 => ?_)
  · have e6 : zgF (zuF st 100 0 0 0) 100 0 6 = zgF st 10 0 11 := by simp only [q_NuF, q_FuF, q_PuF, q_OuF, q_AuF, q_RuF, q_LuF, q_JuF, q_NuP, q_FuP, q_PuP, q_OuP, q_AuP, q_RuP, q_LuP, q_JuP, q_NuO, q_FuO, q_PuO, q_OuO, q_AuO, q_RuO, q_LuO, q_JuO, q_NuA, q_FuA, q_PuA, q_OuA, q_AuA, q_RuA, q_LuA, q_JuA, q_NuR, q_FuR, q_PuR, q_OuR, q_AuR, q_RuR, q_LuR, q_JuR, q_NuJ, q_FuJ, q_PuJ, q_OuJ, q_AuJ, q_RuJ, q_LuJ, q_JuJ, q_NuL, q_FuL, q_PuL, q_OuL, q_AuL, q_RuL, q_LuL, q_JuL, q_NuB, q_FuB, q_PuB, q_OuB, q_AuB, q_RuB, q_LuB, q_JuB, q_NuW, q_FuW, q_PuW, q_OuW, q_AuW, q_RuW, q_LuW, q_JuW, q_NuV, q_FuV, q_PuV, q_OuV, q_AuV, q_RuV, q_LuV, q_JuV, q_NuU, q_FuU, q_PuU, q_OuU, q_AuU, q_RuU, q_LuU, q_JuU, q_NuX, q_FuX, q_PuX, q_OuX, q_AuX, q_RuX, q_LuX, q_JuX, q_NuR4, q_FuR4, q_PuR4, q_OuR4, q_AuR4, q_RuR4, q_LuR4, q_JuR4, Nat.reduceEqDiff, reduceIte, and_true, true_and, and_false, false_and, and_self, if_true, if_false, not_true_eq_false, not_false_eq_true]; exact t1
    have B : w_X12_rule_23 (zOK 1 0) (zuF st 100 0 0 0) a 1 := i_bad1 ⟨fun e => absurd e (by decide), fun _ => zOK_t (qR_th h0) (by decide)⟩
    intro u hu
    subst hu
    refine ⟨fun _ => B, fun c1 => ⟨fun c2 => ?_, fun _ => B⟩⟩
    rw [e6] at c2
    exfalso; lia
  · subst e11
    have L4 : a.toNatClampNeg ≤ 400 := by
      have y := Int32.le_trans (Int32.not_lt.mp c2) t3
      rw [Int32.le_iff_toInt_le, q_t0 (Int32.not_lt.mp c1), show (400 : Int32).toInt = 400 from rfl] at y
      omega
    obtain ⟨L, eL⟩ : ∃ L, a.toNatClampNeg = L := ⟨_, rfl⟩
    have ea : a = Int32.ofNat L := by rw [← eL]; exact q_of_toInt (q_t0 (Int32.not_lt.mp c1))
    rw [eL] at L4
    subst ea
    obtain ⟨o, ho⟩ : ∃ o, zgN st 24 = o := ⟨_, rfl⟩
    rw [ho] at r1 r2 r3
    have tT : ∀ j, -128 ≤ zgA st 43 0 j ∧ zgA st 43 0 j ≤ 127 := fun j => by rw [(t4 j).1]; exact (t4 j).2
    have hl : Int32.ofNat L ≤ zgF st 10 0 11 := Int32.not_lt.mp c2
    -- the model's start over a state that the class has left
    have start : ∀ (s X : zTs) (q : Nat) (P : Int32 → zTs → Prop), YE st s o → (∀ j, zgA X 102 0 j = zgA s 102 0 j) → zgF X 100 0 6 = zgF s 100 0 6 → ysk (ybt (zgA st 43 0) L) L 0 q → (∀ g A4 A6, YMS (ybt (zgA st 43 0) L) L X g q 0 → g 8 = Int32.ofNat q → g 10 = -1 → g 6 = 0 → g 0 = 0 → yag [0, 6, 7, 8, 9, 10, 12, 21] (zgF X 100 0) g → YRI (zuP (ynw (zuF st 10 0 11 0) o) 13 0 10 o) o A4 A6 (zgA X 109 0) (zgA X 110 0) 0 → w_X12_rule_67 P zfu (YM X g A4 A6 (zgA X 109 0) (zgA X 110 0)) 0) → w_X12_rule X (Int32.ofNat L) P := by
      intro s X q P E eA eF hs hk
      obtain ⟨-, e2, -, -, -, e5, -⟩ := E
      refine im_rule (B := ybt (zgA st 43 0) L) (L := L) (q := q) (y_tapeM L4 tT (fun j => ?_)) ?_ hs (fun g A4 A6 hM g8 g10 g6 g0 ga h4 h6 => hk g A4 A6 hM g8 g10 g6 g0 ga ?_)
      · rw [eA j, e5 102 0 j (fun z => absurd z.1 (by decide)) (fun z => absurd z.1 (by decide))]
        exact (t4 j).1.symm
      · rw [eF, e2 100 0 6 (fun z => absurd z.1 (by decide)) (fun z => absurd z.1 (by decide)), t1]
        exact hl
      · have Y := y_start (s := zuF st 10 0 11 0) (o := o) (A9 := zgA X 109 0) (A10 := zgA X 110 0) (k := 0) ho r3 h4 h6
        unfold YRI at Y ⊢
        simp only [q_FuP, q_AuP, q_RuP, q_NuP, q_LuP]
        exact Y
    have hz : zfu ≤ zfu + 0 := Nat.le_refl _
    refine i_readRule (B := ybt (zgA st 43 0) L) (L := L) (o := o) ybt_0 (y_tape L4 tT) ho r2 r3 ?_ ?_
    · intro s' w f S c q hc hF hb k12 hs mL
      refine ⟨fun z => absurd z (by simp), fun y24 e24 s40 e40 => ?_⟩
      obtain rfl := Option.some.inj e24
      have E := y_old ho r2 r3 hb
      have hs40 : zgF s40 24 o 0 = Int32.ofNat c := by rw [e40, q_FuP, YC_gF (by decide)]; exact hF
      have n40 : zgN s40 = zgN s' := by rw [e40, q_NuP]; exact YC_un.2.2.2
      have R40 : zgR s40 = zgR s' := by rw [e40, q_RuP]; exact YC_un.2.1
      have L40 : zgL s40 = zgL s' := by rw [e40, q_LuP]; exact YC_un.2.2.1
      have O40 : zgO s40 = zgO s' := by rw [e40, q_OuP]; exact YC_un.1
      have F40 : ∀ k i j, ¬ k = 13 → zgF s40 k i j = zgF s' k i j := fun k i j hk => by rw [e40, q_FuP]; exact YC_gF hk
      have F12 : zgF s40 13 0 12 = -1 := by rw [e40, q_FuP, YC_gf]; exact k12
      have A40 : ∀ k i j, ¬ k = 54 → zgA s40 k i j = zgA s' k i j := fun k i j hk => by rw [e40, q_AuP]; exact YC_ga hk
      have P40 : ∀ k i j, ¬ k = 10 → ¬ k = 13 → zgP s40 k i j = zgP s' k i j := fun k i j h1 h2 => by rw [e40, q_PuP, if_neg (fun z => h1 z.1)]; exact YC_gP h2
      have P16 : zgP s40 10 0 16 = o := by rw [e40, q_PuP, if_pos ⟨rfl, rfl, rfl⟩]
      rw [hs40]
      clear e40
      refine start s' s40 q _ E (fun j => A40 102 0 j (by decide)) (F40 100 0 6 (by decide)) hs (fun g A4 A6 hM g8 g10 g6 g0 ga hI => mL s40 g A4 A6 _ _ _ 0 zfu hM g8 (by omega) hz hI ?_)
      intro g' A4' A6' A9' A10' k' g21 k799 g9 ag hI'
      refine ⟨fun _ s145 e145 => ?_, fun z => absurd (by rw [YM_gf, g9]; decide) z⟩
      rw [YM_f] at e145
      subst e145
      refine im_c150 (k := k') (by rw [YM_gf, qst1_ne (by decide)]; exact g21) k799 (fun C3 C5 C7 C8 h3 h5 h7 => ?_)
      have a0 : ∀ j, ¬ j ∈ [0, 6, 7, 8, 9, 10, 12, 21] → g' j = zgF s40 100 0 j := fun j hj => (ag j (fun z => hj (by
        simp only [List.mem_cons, List.not_mem_nil, or_false] at z ⊢
        omega))).trans (ga j hj)
      obtain ⟨m1, m2, m3, m4, m5⟩ := YM_un (t := s40) (g := qst1 g' 11 (Int32.ofNat c)) (A4 := A4') (A6 := A6') (A9 := A9') (A10 := A10')
      obtain ⟨v1, v2, v3, v4, v5⟩ := YN_un (t := YM s40 (qst1 g' 11 (Int32.ofNat c)) A4' A6' A9' A10') (C3 := C3) (C5 := C5) (C7 := C7) (C8 := C8)
      obtain ⟨w3, w5, w7, w8⟩ := YN_3578 (t := YM s40 (qst1 g' 11 (Int32.ofNat c)) A4' A6' A9' A10') (C3 := C3) (C5 := C5) (C7 := C7) (C8 := C8)
      have fG : ∀ j, zgF (YN (YM s40 (qst1 g' 11 (Int32.ofNat c)) A4' A6' A9' A10') C3 C5 C7 C8) 100 0 j = qst1 g' 11 (Int32.ofNat c) j := fun j => by rw [YN_F, YM_gf]
      have fF : ∀ k i j, ¬ k = 100 → zgF (YN (YM s40 (qst1 g' 11 (Int32.ofNat c)) A4' A6' A9' A10') C3 C5 C7 C8) k i j = zgF s40 k i j := fun k i j hk => by rw [YN_F, YM_gF hk]
      have fA : ∀ k i j, ¬ k ∈ [54, 103, 104, 105, 106, 107, 108, 109, 110] → zgA (YN (YM s40 (qst1 g' 11 (Int32.ofNat c)) A4' A6' A9' A10') C3 C5 C7 C8) k i j = zgA s40 k i j := fun k i j hk => by
        obtain ⟨-, x3, x4, x5, x6, x7, x8, x9, x0⟩ := y_mem9 hk
        rw [YN_A x3 x5 x7 x8, YM_ga x4 x6 x9 x0]
      simp only [YM_g4] at h3
      simp only [YM_g6] at h5
      simp only [YM_g9, YM_g10] at h7
      generalize YN (YM s40 (qst1 g' 11 (Int32.ofNat c)) A4' A6' A9' A10') C3 C5 C7 C8 = t at *
      have f11 : zgF t 100 0 11 = Int32.ofNat c := (fG 11).trans qst1_at
      have fo : ∀ j, ¬ j = 11 → zgF t 100 0 j = g' j := fun j hj => (fG j).trans (qst1_ne hj)
      refine ⟨(fo 0 (by decide)).trans ((ag 0 (by decide)).trans g0), fun _ => rfl, ?_⟩
      have X : YX st s' t := by
        refine ⟨v1.trans (m1.trans n40), fun k i j k1 k2 => (fF k i j k2).trans (F40 k i j k1), fun j hj => ?_, fun k i j k1 k2 => by rw [v2, m2]; exact P40 k i j k1 k2, by rw [v3, m3, O40], fun k i j hk => (fA k i j hk).trans (A40 k i j (y_mem9 hk).1), by rw [v4, m4, R40], by rw [v5, m5, L40]⟩
        have j11 : ¬ j = 11 := fun e => hj (by subst e; decide)
        rw [fo j j11, a0 j (fun z => hj (by
          simp only [List.mem_cons, List.not_mem_nil, or_false] at z ⊢
          omega)), F40 100 0 j (by decide)]
        exact E.2.1 100 0 j (fun z => absurd z.1 (by decide)) (fun z => absurd z.1 (by decide))
      refine y_qR ho E X ((fo 6 (by decide)).trans ((ag 6 (by decide)).trans g6)) ?_ ?_ h0
      · show zgF t 100 0 10 = zgF t 13 0 12
        rw [fo 10 (by decide), ag 10 (by decide), g10, fF 13 0 12 (by decide), F12]
      · obtain ⟨⟨-, e24, e66, e68, -⟩, -⟩ := id E
        obtain ⟨i1, i2⟩ := hI'
        have p16 : zgP t 10 0 16 = o := by rw [v2, m2]; exact P16
        unfold GR
        rw [v1, m1, n40, p16, e24, e66, e68, f11, fF 24 o 0 (by decide), hs40]
        refine ⟨by omega, rfl, rfl, rfl, ?_, fun j hj => ?_⟩
        · have q1 : (fun j => zgF t 24 o j) = fun j => zgF s' 24 o j := funext fun j => (fF 24 o j (by decide)).trans (F40 24 o j (by decide))
          have q2 : (fun j => zgA t 66 o j) = fun j => zgA s' 66 o j := funext fun j => (fA 66 o j (by decide)).trans (A40 66 o j (by decide))
          rw [q1, q2, w3]
          exact GRr_ex h3 i1
        · obtain ⟨y, y1, y2, y3, y4⟩ := i2 j hj
          refine ⟨y, by rw [v4, m4, R40]; exact y1, y2, ?_⟩
          have q2 : (fun z => zgA t 69 y z) = zgA s' 69 y := funext fun z => (fA 69 y z (by decide)).trans (A40 69 y z (by decide))
          rw [q2, w5, w7, w8, v5, m5, L40]
          rw [h5 j hj]
          exact GRc_ex h7 y4 y3
    · intro s' w f S kd pl q hb e11 e12 hk hs mL
      refine ⟨fun _ => ?_, fun y24 e24 => absurd e24 (by simp)⟩
      have E := y_old ho r2 r3 hb
      show w_X12_rule (YC s' w f S) (Int32.ofNat L) (zOK 0 (zgF (YC s' w f S) 13 0 11 - 10))
      rw [YC_gf, e11]
      obtain ⟨O40, R40, L40, n40⟩ := YC_un (s := s') (w := w) (f := f) (S := S)
      have F40 : ∀ k i j, ¬ k = 13 → zgF (YC s' w f S) k i j = zgF s' k i j := fun k i j hk => YC_gF hk
      have F12 : zgF (YC s' w f S) 13 0 12 = pl := by rw [YC_gf]; exact e12
      have A40 : ∀ k i j, ¬ k = 54 → zgA (YC s' w f S) k i j = zgA s' k i j := fun k i j hk => YC_ga hk
      have P40 : ∀ k i j, ¬ k = 13 → zgP (YC s' w f S) k i j = zgP s' k i j := fun k i j h1 => YC_gP h1
      generalize YC s' w f S = s40 at *
      refine start s' s40 q _ E (fun j => A40 102 0 j (by decide)) (F40 100 0 6 (by decide)) hs (fun g A4 A6 hM g8 g10 g6 g0 ga hI => mL s40 g A4 A6 _ _ _ 0 zfu hM g8 (by omega) hz hI ?_)
      intro g' A4' A6' A9' A10' c' hf ag
      obtain ⟨k7, k9, k10, k0, -⟩ := hf
      refine ⟨fun z => ?_, fun _ => ?_⟩
      · rw [YM_gf, k9] at z
        exfalso; lia
      rw [YM_gf, k9]
      have a0 : ∀ j, ¬ j ∈ [0, 6, 7, 8, 9, 10, 12, 21] → g' j = zgF s40 100 0 j := fun j hj => (ag j (fun z => hj (by
        simp only [List.mem_cons, List.not_mem_nil, or_false] at z ⊢
        omega))).trans (ga j hj)
      obtain ⟨m1, m2, m3, m4, m5⟩ := YM_un (t := s40) (g := g') (A4 := A4') (A6 := A6') (A9 := A9') (A10 := A10')
      have fo : ∀ j, zgF (YM s40 g' A4' A6' A9' A10') 100 0 j = g' j := fun j => YM_gf
      have fF : ∀ k i j, ¬ k = 100 → zgF (YM s40 g' A4' A6' A9' A10') k i j = zgF s40 k i j := fun k i j hk => YM_gF hk
      have fA : ∀ k i j, ¬ k = 104 → ¬ k = 106 → ¬ k = 109 → ¬ k = 110 → zgA (YM s40 g' A4' A6' A9' A10') k i j = zgA s40 k i j := fun k i j x4 x6 x9 x0 => YM_ga x4 x6 x9 x0
      generalize YM s40 g' A4' A6' A9' A10' = t at *
      refine ⟨(fo 0).trans ((ag 0 (by decide)).trans g0), fun _ => rfl, ?_⟩
      have X : YX st s' t := by
        refine ⟨m1.trans n40, fun k i j k1 k2 => (fF k i j k2).trans (F40 k i j k1), fun j hj => ?_, fun k i j k1 k2 => by rw [m2]; exact P40 k i j k2, by rw [m3, O40], fun k i j hk => ?_, by rw [m4, R40], by rw [m5, L40]⟩
        · rw [fo j, a0 j (fun z => hj (by
            simp only [List.mem_cons, List.not_mem_nil, or_false] at z ⊢
            omega)), F40 100 0 j (by decide)]
          exact E.2.1 100 0 j (fun z => absurd z.1 (by decide)) (fun z => absurd z.1 (by decide))
        · obtain ⟨x54, x3, x4, x5, x6, x7, x8, x9, x0⟩ := y_mem9 hk
          exact (fA k i j x4 x6 x9 x0).trans (A40 k i j x54)
      refine y_qR ho E X ((fo 6).trans ((ag 6 (by decide)).trans g6)) ?_ ?_ h0
      · show zgF t 100 0 10 = zgF t 13 0 12
        rw [fo 10, k10, fF 13 0 12 (by decide), F12]
      · obtain ⟨⟨-, e24, e66, e68, e69⟩, e2, -, e3, -, e5, e7, e8⟩ := id E
        have p16 : zgP t 10 0 16 = zgP st 10 0 16 := by rw [m2, P40 10 0 16 (by decide)]; exact e3 10 0 16 (by decide)
        have no : ¬ zgP st 10 0 16 = o := by omega
        have tA : ∀ k i j, ¬ k = 54 → ¬ k = 104 → ¬ k = 106 → ¬ k = 109 → ¬ k = 110 → ¬ (k = 66 ∧ i = o) → ¬ (k = 69 ∧ zgN st 69 ≤ i) → zgA t k i j = zgA st k i j := fun k i j y0 y1 y2 y3 y4 y5 y6 => (fA k i j y1 y2 y3 y4).trans ((A40 k i j y0).trans (e5 k i j y5 y6))
        have t24 : ∀ j, zgF t 24 (zgP st 10 0 16) j = zgF st 24 (zgP st 10 0 16) j := fun j => (fF 24 _ j (by decide)).trans ((F40 24 _ j (by decide)).trans (e2 24 _ j (fun z => no z.2) (fun z => absurd z.1 (by decide))))
        have t100 : zgF t 100 0 11 = zgF st 100 0 11 := by
          rw [fo 11, a0 11 (by decide), F40 100 0 11 (by decide)]
          exact e2 100 0 11 (fun z => absurd z.1 (by decide)) (fun z => absurd z.1 (by decide))
        unfold GR
        rw [m1, n40, p16, e24, e66, e68, t100, t24]
        refine ⟨by omega, rfl, rfl, r4, ?_, fun j hj => ?_⟩
        · have q1 : (fun j => zgF t 24 (zgP st 10 0 16) j) = fun j => zgF st 24 (zgP st 10 0 16) j := funext t24
          have q2 : (fun j => zgA t 66 (zgP st 10 0 16) j) = fun j => zgA st 66 (zgP st 10 0 16) j := funext fun j => tA 66 _ j (by decide) (by decide) (by decide) (by decide) (by decide) (fun z => no z.2) (fun z => absurd z.1 (by decide))
          have q3 : (fun j => zgA t 103 0 j) = fun j => zgA st 103 0 j := funext fun j => tA 103 _ j (by decide) (by decide) (by decide) (by decide) (by decide) (fun z => absurd z.1 (by decide)) (fun z => absurd z.1 (by decide))
          rw [q1, q2, q3]
          exact r5
        · obtain ⟨y, y1, y2, y3⟩ := r6 j hj
          refine ⟨y, ?_, by omega, ?_⟩
          · rw [m4, R40, e7 68 _ j (fun z => no z.2)]
            exact y1
          · have q1 : (fun z => zgA t 107 0 z) = fun z => zgA st 107 0 z := funext fun j => tA 107 _ j (by decide) (by decide) (by decide) (by decide) (by decide) (fun z => absurd z.1 (by decide)) (fun z => absurd z.1 (by decide))
            have q2 : (fun z => zgA t 108 0 z) = fun z => zgA st 108 0 z := funext fun j => tA 108 _ j (by decide) (by decide) (by decide) (by decide) (by decide) (fun z => absurd z.1 (by decide)) (fun z => absurd z.1 (by decide))
            have q3 : (fun z => zgA t 69 y z) = fun z => zgA st 69 y z := funext fun j => tA 69 _ j (by decide) (by decide) (by decide) (by decide) (by decide) (fun z => absurd z.1 (by decide)) (fun z => by omega)
            rw [q1, q2, q3, m5, L40, e8 69 y (fun z => by omega) (by decide), tA 105 0 j (by decide) (by decide) (by decide) (by decide) (by decide) (fun z => absurd z.1 (by decide)) (fun z => absurd z.1 (by decide))]
            exact y3

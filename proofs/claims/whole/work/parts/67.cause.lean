/-! causes -/
theorem i_workAt2 {X P : Nat → zTs → Prop} {st : zTs} {a : Int32} (h : qR st) (hX : (a < 0 ∨ ¬ a < zgF st 31 0 2) → X 0 st) (hY : ∀ s, qR s → zgN s = zgN st → zgA s = zgA st → zgP s = zgP st → (∀ k i j, ¬ k = 21 → zgF s k i j = zgF st k i j) → ¬ a < 0 → a < zgF s 31 0 2 → a.toNatClampNeg < zgN s 21 → qhd s a.toNatClampNeg → P a.toNatClampNeg s) : w_X11_workAt st a X P := by
  have h0 := h
  obtain ⟨hD, hO, hT, hP, hW, hC, hR, hK, hS, hB, hH, hG⟩ := h
  unfold w_X11_workAt w_X11_workAt_15 w_Jx4a65c_size_8abf5_r31
  refine ⟨fun c => hX (.inl c), fun c1 => ⟨fun c2 => ?_, fun c => hX (.inr c)⟩⟩
  refine i_get31 hK.1 (Int32.not_lt.mp c1) c2 ?_
  obtain ⟨hk, -⟩ := q_idx hK.1 c1 c2
  obtain ⟨g1, g2, g3, g4, g5⟩ := (GK_iff.mp hK).2.1 _ hk
  obtain ⟨-, -, -, -, -, s0, s1, -⟩ := id g2
  have same := hY st h0 rfl rfl rfl (fun _ _ _ _ => rfl) c1 c2 hk
  unfold w_X10_hearSilence
  refine ⟨fun c4 => ⟨fun c6 => ⟨fun c7 => ?_, fun c7 => ?_⟩, fun c6 => same (fun z => c6 z.2)⟩, fun c4 => same (fun z => c4 z.1)⟩
  · refine i_dispute (hY _ ?_ (by simp only [q_NuF, q_FuF, q_PuF, q_OuF, q_AuF, q_RuF, q_LuF, q_JuF, q_NuP, q_FuP, q_PuP, q_OuP, q_AuP, q_RuP, q_LuP, q_JuP, q_NuO, q_FuO, q_PuO, q_OuO, q_AuO, q_RuO, q_LuO, q_JuO, q_NuA, q_FuA, q_PuA, q_OuA, q_AuA, q_RuA, q_LuA, q_JuA, q_NuR, q_FuR, q_PuR, q_OuR, q_AuR, q_RuR, q_LuR, q_JuR, q_NuJ, q_FuJ, q_PuJ, q_OuJ, q_AuJ, q_RuJ, q_LuJ, q_JuJ, q_NuL, q_FuL, q_PuL, q_OuL, q_AuL, q_RuL, q_LuL, q_JuL, q_NuB, q_FuB, q_PuB, q_OuB, q_AuB, q_RuB, q_LuB, q_JuB, q_NuW, q_FuW, q_PuW, q_OuW, q_AuW, q_RuW, q_LuW, q_JuW, q_NuV, q_FuV, q_PuV, q_OuV, q_AuV, q_RuV, q_LuV, q_JuV, q_NuU, q_FuU, q_PuU, q_OuU, q_AuU, q_RuU, q_LuU, q_JuU, q_NuX, q_FuX, q_PuX, q_OuX, q_AuX, q_RuX, q_LuX, q_JuX, q_NuR4, q_FuR4, q_PuR4, q_OuR4, q_AuR4, q_RuR4, q_LuR4, q_JuR4]) (by simp only [q_NuF, q_FuF, q_PuF, q_OuF, q_AuF, q_RuF, q_LuF, q_JuF, q_NuP, q_FuP, q_PuP, q_OuP, q_AuP, q_RuP, q_LuP, q_JuP, q_NuO, q_FuO, q_PuO, q_OuO, q_AuO, q_RuO, q_LuO, q_JuO, q_NuA, q_FuA, q_PuA, q_OuA, q_AuA, q_RuA, q_LuA, q_JuA, q_NuR, q_FuR, q_PuR, q_OuR, q_AuR, q_RuR, q_LuR, q_JuR, q_NuJ, q_FuJ, q_PuJ, q_OuJ, q_AuJ, q_RuJ, q_LuJ, q_JuJ, q_NuL, q_FuL, q_PuL, q_OuL, q_AuL, q_RuL, q_LuL, q_JuL, q_NuB, q_FuB, q_PuB, q_OuB, q_AuB, q_RuB, q_LuB, q_JuB, q_NuW, q_FuW, q_PuW, q_OuW, q_AuW, q_RuW, q_LuW, q_JuW, q_NuV, q_FuV, q_PuV, q_OuV, q_AuV, q_RuV, q_LuV, q_JuV, q_NuU, q_FuU, q_PuU, q_OuU, q_AuU, q_RuU, q_LuU, q_JuU, q_NuX, q_FuX, q_PuX, q_OuX, q_AuX, q_RuX, q_LuX, q_JuX, q_NuR4, q_FuR4, q_PuR4, q_OuR4, q_AuR4, q_RuR4, q_LuR4, q_JuR4]) (by simp only [q_NuF, q_FuF, q_PuF, q_OuF, q_AuF, q_RuF, q_LuF, q_JuF, q_NuP, q_FuP, q_PuP, q_OuP, q_AuP, q_RuP, q_LuP, q_JuP, q_NuO, q_FuO, q_PuO, q_OuO, q_AuO, q_RuO, q_LuO, q_JuO, q_NuA, q_FuA, q_PuA, q_OuA, q_AuA, q_RuA, q_LuA, q_JuA, q_NuR, q_FuR, q_PuR, q_OuR, q_AuR, q_RuR, q_LuR, q_JuR, q_NuJ, q_FuJ, q_PuJ, q_OuJ, q_AuJ, q_RuJ, q_LuJ, q_JuJ, q_NuL, q_FuL, q_PuL, q_OuL, q_AuL, q_RuL, q_LuL, q_JuL, q_NuB, q_FuB, q_PuB, q_OuB, q_AuB, q_RuB, q_LuB, q_JuB, q_NuW, q_FuW, q_PuW, q_OuW, q_AuW, q_RuW, q_LuW, q_JuW, q_NuV, q_FuV, q_PuV, q_OuV, q_AuV, q_RuV, q_LuV, q_JuV, q_NuU, q_FuU, q_PuU, q_OuU, q_AuU, q_RuU, q_LuU, q_JuU, q_NuX, q_FuX, q_PuX, q_OuX, q_AuX, q_RuX, q_LuX, q_JuX, q_NuR4, q_FuR4, q_PuR4, q_OuR4, q_AuR4, q_RuR4, q_LuR4, q_JuR4]) (fun k i j hk => by simp only [q_NuF, q_FuF, q_PuF, q_OuF, q_AuF, q_RuF, q_LuF, q_JuF, q_NuP, q_FuP, q_PuP, q_OuP, q_AuP, q_RuP, q_LuP, q_JuP, q_NuO, q_FuO, q_PuO, q_OuO, q_AuO, q_RuO, q_LuO, q_JuO, q_NuA, q_FuA, q_PuA, q_OuA, q_AuA, q_RuA, q_LuA, q_JuA, q_NuR, q_FuR, q_PuR, q_OuR, q_AuR, q_RuR, q_LuR, q_JuR, q_NuJ, q_FuJ, q_PuJ, q_OuJ, q_AuJ, q_RuJ, q_LuJ, q_JuJ, q_NuL, q_FuL, q_PuL, q_OuL, q_AuL, q_RuL, q_LuL, q_JuL, q_NuB, q_FuB, q_PuB, q_OuB, q_AuB, q_RuB, q_LuB, q_JuB, q_NuW, q_FuW, q_PuW, q_OuW, q_AuW, q_RuW, q_LuW, q_JuW, q_NuV, q_FuV, q_PuV, q_OuV, q_AuV, q_RuV, q_LuV, q_JuV, q_NuU, q_FuU, q_PuU, q_OuU, q_AuU, q_RuU, q_LuU, q_JuU, q_NuX, q_FuX, q_PuX, q_OuX, q_AuX, q_RuX, q_LuX, q_JuX, q_NuR4, q_FuR4, q_PuR4, q_OuR4, q_AuR4, q_RuR4, q_LuR4, q_JuR4, hk, Nat.reduceEqDiff, reduceIte, and_true, true_and, and_false, false_and, and_self, if_true, if_false, not_true_eq_false, not_false_eq_true]) c1 ?_ ?_ ?_)
    · have hK2 := GK_hearD hD hK hk c4 c6 c7
      simp (disch := decide) only [qR, GD_uF, GD_uF10, GD_uF100, GD_uP, GD_uO, GD_uA, GD_uB, GD_uR, GD_uJ, GD_uL, GD_uW, GD_uV, GD_uU, GD_uX, GD_uR4, GO_uF, GO_uF10, GO_uF100, GO_uP, GO_uO, GO_uA, GO_uB, GO_uR, GO_uJ, GO_uL, GO_uW, GO_uV, GO_uU, GO_uX, GO_uR4, GT_uF, GT_uF10, GT_uF100, GT_uP, GT_uO, GT_uA, GT_uB, GT_uR, GT_uJ, GT_uL, GT_uW, GT_uV, GT_uU, GT_uX, GT_uR4, GP_uF, GP_uF13, GP_uF100, GP_uP, GP_uO, GP_uA, GP_uB, GP_uR, GP_uJ, GP_uL, GP_uW, GP_uV, GP_uU, GP_uX, GP_uR4, GW_uF, GW_uF100, GW_uP, GW_uO, GW_uA, GW_uB, GW_uR, GW_uJ, GW_uL, GW_uW, GW_uV, GW_uU, GW_uX, GW_uR4, GC_uF, GC_uF10, GC_uP, GC_uO, GC_uA, GC_uB, GC_uR, GC_uJ, GC_uL, GC_uW, GC_uV, GC_uU, GC_uX, GC_uR4, GR_uF, GR_uF100, GR_uP, GR_uO, GR_uA, GR_uB, GR_uR, GR_uJ, GR_uL, GR_uW, GR_uV, GR_uU, GR_uX, GK_uF, GK_uF10, GK_uF100, GK_uP, GK_uO, GK_uA, GK_uB, GK_uR, GK_uJ, GK_uL, GK_uW, GK_uV, GK_uU, GK_uX, GK_uR4, GS_uF, GS_uF10, GS_uF100, GS_uP, GS_uO, GS_uA, GS_uB, GS_uR, GS_uJ, GS_uL, GS_uW, GS_uV, GS_uU, GS_uX, GS_uR4, GB_uF, GB_uF100, GB_uP, GB_uO, GB_uA, GB_uB, GB_uR, GB_uJ, GB_uL, GB_uW, GB_uV, GB_uU, GB_uX, GB_uR4, GH_uF, GH_uF10, GH_uF100, GH_uP, GH_uO, GH_uA, GH_uB, GH_uR, GH_uJ, GH_uL, GH_uW, GH_uV, GH_uU, GH_uX, GH_uR4, GG_uF, GG_uF100, GG_uP, GG_uO, GG_uA, GG_uB, GG_uR, GG_uJ, GG_uL, GG_uW, GG_uV, GG_uU, GG_uX, GG_uR4]
      exact ⟨hD, hO, hT, hP, hW, hC, hR, hK2, hS, hB, hH, hG⟩
    · simp only [q_NuF, q_FuF, q_PuF, q_OuF, q_AuF, q_RuF, q_LuF, q_JuF, q_NuP, q_FuP, q_PuP, q_OuP, q_AuP, q_RuP, q_LuP, q_JuP, q_NuO, q_FuO, q_PuO, q_OuO, q_AuO, q_RuO, q_LuO, q_JuO, q_NuA, q_FuA, q_PuA, q_OuA, q_AuA, q_RuA, q_LuA, q_JuA, q_NuR, q_FuR, q_PuR, q_OuR, q_AuR, q_RuR, q_LuR, q_JuR, q_NuJ, q_FuJ, q_PuJ, q_OuJ, q_AuJ, q_RuJ, q_LuJ, q_JuJ, q_NuL, q_FuL, q_PuL, q_OuL, q_AuL, q_RuL, q_LuL, q_JuL, q_NuB, q_FuB, q_PuB, q_OuB, q_AuB, q_RuB, q_LuB, q_JuB, q_NuW, q_FuW, q_PuW, q_OuW, q_AuW, q_RuW, q_LuW, q_JuW, q_NuV, q_FuV, q_PuV, q_OuV, q_AuV, q_RuV, q_LuV, q_JuV, q_NuU, q_FuU, q_PuU, q_OuU, q_AuU, q_RuU, q_LuU, q_JuU, q_NuX, q_FuX, q_PuX, q_OuX, q_AuX, q_RuX, q_LuX, q_JuX, q_NuR4, q_FuR4, q_PuR4, q_OuR4, q_AuR4, q_RuR4, q_LuR4, q_JuR4, Nat.reduceEqDiff, reduceIte, and_true, true_and, and_false, false_and, and_self, if_true, if_false, not_true_eq_false, not_false_eq_true]; exact c2
    · simp only [q_NuF, q_FuF, q_PuF, q_OuF, q_AuF, q_RuF, q_LuF, q_JuF, q_NuP, q_FuP, q_PuP, q_OuP, q_AuP, q_RuP, q_LuP, q_JuP, q_NuO, q_FuO, q_PuO, q_OuO, q_AuO, q_RuO, q_LuO, q_JuO, q_NuA, q_FuA, q_PuA, q_OuA, q_AuA, q_RuA, q_LuA, q_JuA, q_NuR, q_FuR, q_PuR, q_OuR, q_AuR, q_RuR, q_LuR, q_JuR, q_NuJ, q_FuJ, q_PuJ, q_OuJ, q_AuJ, q_RuJ, q_LuJ, q_JuJ, q_NuL, q_FuL, q_PuL, q_OuL, q_AuL, q_RuL, q_LuL, q_JuL, q_NuB, q_FuB, q_PuB, q_OuB, q_AuB, q_RuB, q_LuB, q_JuB, q_NuW, q_FuW, q_PuW, q_OuW, q_AuW, q_RuW, q_LuW, q_JuW, q_NuV, q_FuV, q_PuV, q_OuV, q_AuV, q_RuV, q_LuV, q_JuV, q_NuU, q_FuU, q_PuU, q_OuU, q_AuU, q_RuU, q_LuU, q_JuU, q_NuX, q_FuX, q_PuX, q_OuX, q_AuX, q_RuX, q_LuX, q_JuX, q_NuR4, q_FuR4, q_PuR4, q_OuR4, q_AuR4, q_RuR4, q_LuR4, q_JuR4, Nat.reduceEqDiff, reduceIte, and_true, true_and, and_false, false_and, and_self, if_true, if_false, not_true_eq_false, not_false_eq_true]; exact hk
    · simp only [qhd, q_NuF, q_FuF, q_PuF, q_OuF, q_AuF, q_RuF, q_LuF, q_JuF, q_NuP, q_FuP, q_PuP, q_OuP, q_AuP, q_RuP, q_LuP, q_JuP, q_NuO, q_FuO, q_PuO, q_OuO, q_AuO, q_RuO, q_LuO, q_JuO, q_NuA, q_FuA, q_PuA, q_OuA, q_AuA, q_RuA, q_LuA, q_JuA, q_NuR, q_FuR, q_PuR, q_OuR, q_AuR, q_RuR, q_LuR, q_JuR, q_NuJ, q_FuJ, q_PuJ, q_OuJ, q_AuJ, q_RuJ, q_LuJ, q_JuJ, q_NuL, q_FuL, q_PuL, q_OuL, q_AuL, q_RuL, q_LuL, q_JuL, q_NuB, q_FuB, q_PuB, q_OuB, q_AuB, q_RuB, q_LuB, q_JuB, q_NuW, q_FuW, q_PuW, q_OuW, q_AuW, q_RuW, q_LuW, q_JuW, q_NuV, q_FuV, q_PuV, q_OuV, q_AuV, q_RuV, q_LuV, q_JuV, q_NuU, q_FuU, q_PuU, q_OuU, q_AuU, q_RuU, q_LuU, q_JuU, q_NuX, q_FuX, q_PuX, q_OuX, q_AuX, q_RuX, q_LuX, q_JuX, q_NuR4, q_FuR4, q_PuR4, q_OuR4, q_AuR4, q_RuR4, q_LuR4, q_JuR4, Nat.reduceEqDiff, reduceIte, and_true, true_and, and_false, false_and, and_self, if_true, if_false, not_true_eq_false, not_false_eq_true, q_em3_m2, q_em3_m1, q_em3_0, q_em3_1, q_em3_2, q_em3_3, q_em3_4, q_em3_5, q_em3_6, q_em3_7, q_em3_8, q_em3_9, q_em3_10, q_em3_11, q_em3_12, q_em2_m3, q_em2_m1, q_em2_0, q_em2_1, q_em2_2, q_em2_3, q_em2_4, q_em2_5, q_em2_6, q_em2_7, q_em2_8, q_em2_9, q_em2_10, q_em2_11, q_em2_12, q_em1_m3, q_em1_m2, q_em1_0, q_em1_1, q_em1_2, q_em1_3, q_em1_4, q_em1_5, q_em1_6, q_em1_7, q_em1_8, q_em1_9, q_em1_10, q_em1_11, q_em1_12, q_e0_m3, q_e0_m2, q_e0_m1, q_e0_1, q_e0_2, q_e0_3, q_e0_4, q_e0_5, q_e0_6, q_e0_7, q_e0_8, q_e0_9, q_e0_10, q_e0_11, q_e0_12, q_e1_m3, q_e1_m2, q_e1_m1, q_e1_0, q_e1_2, q_e1_3, q_e1_4, q_e1_5, q_e1_6, q_e1_7, q_e1_8, q_e1_9, q_e1_10, q_e1_11, q_e1_12, q_e2_m3, q_e2_m2, q_e2_m1, q_e2_0, q_e2_1, q_e2_3, q_e2_4, q_e2_5, q_e2_6, q_e2_7, q_e2_8, q_e2_9, q_e2_10, q_e2_11, q_e2_12, q_e3_m3, q_e3_m2, q_e3_m1, q_e3_0, q_e3_1, q_e3_2, q_e3_4, q_e3_5, q_e3_6, q_e3_7, q_e3_8, q_e3_9, q_e3_10, q_e3_11, q_e3_12, q_e4_m3, q_e4_m2, q_e4_m1, q_e4_0, q_e4_1, q_e4_2, q_e4_3, q_e4_5, q_e4_6, q_e4_7, q_e4_8, q_e4_9, q_e4_10, q_e4_11, q_e4_12, q_e5_m3, q_e5_m2, q_e5_m1, q_e5_0, q_e5_1, q_e5_2, q_e5_3, q_e5_4, q_e5_6, q_e5_7, q_e5_8, q_e5_9, q_e5_10, q_e5_11, q_e5_12, q_e6_m3, q_e6_m2, q_e6_m1, q_e6_0, q_e6_1, q_e6_2, q_e6_3, q_e6_4, q_e6_5, q_e6_7, q_e6_8, q_e6_9, q_e6_10, q_e6_11, q_e6_12, q_e7_m3, q_e7_m2, q_e7_m1, q_e7_0, q_e7_1, q_e7_2, q_e7_3, q_e7_4, q_e7_5, q_e7_6, q_e7_8, q_e7_9, q_e7_10, q_e7_11, q_e7_12, q_e8_m3, q_e8_m2, q_e8_m1, q_e8_0, q_e8_1, q_e8_2, q_e8_3, q_e8_4, q_e8_5, q_e8_6, q_e8_7, q_e8_9, q_e8_10, q_e8_11, q_e8_12, q_e9_m3, q_e9_m2, q_e9_m1, q_e9_0, q_e9_1, q_e9_2, q_e9_3, q_e9_4, q_e9_5, q_e9_6, q_e9_7, q_e9_8, q_e9_10, q_e9_11, q_e9_12, q_e10_m3, q_e10_m2, q_e10_m1, q_e10_0, q_e10_1, q_e10_2, q_e10_3, q_e10_4, q_e10_5, q_e10_6, q_e10_7, q_e10_8, q_e10_9, q_e10_11, q_e10_12, q_e11_m3, q_e11_m2, q_e11_m1, q_e11_0, q_e11_1, q_e11_2, q_e11_3, q_e11_4, q_e11_5, q_e11_6, q_e11_7, q_e11_8, q_e11_9, q_e11_10, q_e11_12, q_e12_m3, q_e12_m2, q_e12_m1, q_e12_0, q_e12_1, q_e12_2, q_e12_3, q_e12_4, q_e12_5, q_e12_6, q_e12_7, q_e12_8, q_e12_9, q_e12_10, q_e12_11, not_false_eq_true]
  · refine i_allow s0 s1 (hY _ ?_ (by simp only [q_NuF, q_FuF, q_PuF, q_OuF, q_AuF, q_RuF, q_LuF, q_JuF, q_NuP, q_FuP, q_PuP, q_OuP, q_AuP, q_RuP, q_LuP, q_JuP, q_NuO, q_FuO, q_PuO, q_OuO, q_AuO, q_RuO, q_LuO, q_JuO, q_NuA, q_FuA, q_PuA, q_OuA, q_AuA, q_RuA, q_LuA, q_JuA, q_NuR, q_FuR, q_PuR, q_OuR, q_AuR, q_RuR, q_LuR, q_JuR, q_NuJ, q_FuJ, q_PuJ, q_OuJ, q_AuJ, q_RuJ, q_LuJ, q_JuJ, q_NuL, q_FuL, q_PuL, q_OuL, q_AuL, q_RuL, q_LuL, q_JuL, q_NuB, q_FuB, q_PuB, q_OuB, q_AuB, q_RuB, q_LuB, q_JuB, q_NuW, q_FuW, q_PuW, q_OuW, q_AuW, q_RuW, q_LuW, q_JuW, q_NuV, q_FuV, q_PuV, q_OuV, q_AuV, q_RuV, q_LuV, q_JuV, q_NuU, q_FuU, q_PuU, q_OuU, q_AuU, q_RuU, q_LuU, q_JuU, q_NuX, q_FuX, q_PuX, q_OuX, q_AuX, q_RuX, q_LuX, q_JuX, q_NuR4, q_FuR4, q_PuR4, q_OuR4, q_AuR4, q_RuR4, q_LuR4, q_JuR4]) (by simp only [q_NuF, q_FuF, q_PuF, q_OuF, q_AuF, q_RuF, q_LuF, q_JuF, q_NuP, q_FuP, q_PuP, q_OuP, q_AuP, q_RuP, q_LuP, q_JuP, q_NuO, q_FuO, q_PuO, q_OuO, q_AuO, q_RuO, q_LuO, q_JuO, q_NuA, q_FuA, q_PuA, q_OuA, q_AuA, q_RuA, q_LuA, q_JuA, q_NuR, q_FuR, q_PuR, q_OuR, q_AuR, q_RuR, q_LuR, q_JuR, q_NuJ, q_FuJ, q_PuJ, q_OuJ, q_AuJ, q_RuJ, q_LuJ, q_JuJ, q_NuL, q_FuL, q_PuL, q_OuL, q_AuL, q_RuL, q_LuL, q_JuL, q_NuB, q_FuB, q_PuB, q_OuB, q_AuB, q_RuB, q_LuB, q_JuB, q_NuW, q_FuW, q_PuW, q_OuW, q_AuW, q_RuW, q_LuW, q_JuW, q_NuV, q_FuV, q_PuV, q_OuV, q_AuV, q_RuV, q_LuV, q_JuV, q_NuU, q_FuU, q_PuU, q_OuU, q_AuU, q_RuU, q_LuU, q_JuU, q_NuX, q_FuX, q_PuX, q_OuX, q_AuX, q_RuX, q_LuX, q_JuX, q_NuR4, q_FuR4, q_PuR4, q_OuR4, q_AuR4, q_RuR4, q_LuR4, q_JuR4]) (by simp only [q_NuF, q_FuF, q_PuF, q_OuF, q_AuF, q_RuF, q_LuF, q_JuF, q_NuP, q_FuP, q_PuP, q_OuP, q_AuP, q_RuP, q_LuP, q_JuP, q_NuO, q_FuO, q_PuO, q_OuO, q_AuO, q_RuO, q_LuO, q_JuO, q_NuA, q_FuA, q_PuA, q_OuA, q_AuA, q_RuA, q_LuA, q_JuA, q_NuR, q_FuR, q_PuR, q_OuR, q_AuR, q_RuR, q_LuR, q_JuR, q_NuJ, q_FuJ, q_PuJ, q_OuJ, q_AuJ, q_RuJ, q_LuJ, q_JuJ, q_NuL, q_FuL, q_PuL, q_OuL, q_AuL, q_RuL, q_LuL, q_JuL, q_NuB, q_FuB, q_PuB, q_OuB, q_AuB, q_RuB, q_LuB, q_JuB, q_NuW, q_FuW, q_PuW, q_OuW, q_AuW, q_RuW, q_LuW, q_JuW, q_NuV, q_FuV, q_PuV, q_OuV, q_AuV, q_RuV, q_LuV, q_JuV, q_NuU, q_FuU, q_PuU, q_OuU, q_AuU, q_RuU, q_LuU, q_JuU, q_NuX, q_FuX, q_PuX, q_OuX, q_AuX, q_RuX, q_LuX, q_JuX, q_NuR4, q_FuR4, q_PuR4, q_OuR4, q_AuR4, q_RuR4, q_LuR4, q_JuR4]) (fun k i j hk => by simp only [q_NuF, q_FuF, q_PuF, q_OuF, q_AuF, q_RuF, q_LuF, q_JuF, q_NuP, q_FuP, q_PuP, q_OuP, q_AuP, q_RuP, q_LuP, q_JuP, q_NuO, q_FuO, q_PuO, q_OuO, q_AuO, q_RuO, q_LuO, q_JuO, q_NuA, q_FuA, q_PuA, q_OuA, q_AuA, q_RuA, q_LuA, q_JuA, q_NuR, q_FuR, q_PuR, q_OuR, q_AuR, q_RuR, q_LuR, q_JuR, q_NuJ, q_FuJ, q_PuJ, q_OuJ, q_AuJ, q_RuJ, q_LuJ, q_JuJ, q_NuL, q_FuL, q_PuL, q_OuL, q_AuL, q_RuL, q_LuL, q_JuL, q_NuB, q_FuB, q_PuB, q_OuB, q_AuB, q_RuB, q_LuB, q_JuB, q_NuW, q_FuW, q_PuW, q_OuW, q_AuW, q_RuW, q_LuW, q_JuW, q_NuV, q_FuV, q_PuV, q_OuV, q_AuV, q_RuV, q_LuV, q_JuV, q_NuU, q_FuU, q_PuU, q_OuU, q_AuU, q_RuU, q_LuU, q_JuU, q_NuX, q_FuX, q_PuX, q_OuX, q_AuX, q_RuX, q_LuX, q_JuX, q_NuR4, q_FuR4, q_PuR4, q_OuR4, q_AuR4, q_RuR4, q_LuR4, q_JuR4, hk, Nat.reduceEqDiff, reduceIte, and_true, true_and, and_false, false_and, and_self, if_true, if_false, not_true_eq_false, not_false_eq_true]) c1 ?_ ?_ ?_)
    · have hK2 := GK_hearA hK hk c4 c6 c7
      simp (disch := decide) only [qR, GD_uF, GD_uF10, GD_uF100, GD_uP, GD_uO, GD_uA, GD_uB, GD_uR, GD_uJ, GD_uL, GD_uW, GD_uV, GD_uU, GD_uX, GD_uR4, GO_uF, GO_uF10, GO_uF100, GO_uP, GO_uO, GO_uA, GO_uB, GO_uR, GO_uJ, GO_uL, GO_uW, GO_uV, GO_uU, GO_uX, GO_uR4, GT_uF, GT_uF10, GT_uF100, GT_uP, GT_uO, GT_uA, GT_uB, GT_uR, GT_uJ, GT_uL, GT_uW, GT_uV, GT_uU, GT_uX, GT_uR4, GP_uF, GP_uF13, GP_uF100, GP_uP, GP_uO, GP_uA, GP_uB, GP_uR, GP_uJ, GP_uL, GP_uW, GP_uV, GP_uU, GP_uX, GP_uR4, GW_uF, GW_uF100, GW_uP, GW_uO, GW_uA, GW_uB, GW_uR, GW_uJ, GW_uL, GW_uW, GW_uV, GW_uU, GW_uX, GW_uR4, GC_uF, GC_uF10, GC_uP, GC_uO, GC_uA, GC_uB, GC_uR, GC_uJ, GC_uL, GC_uW, GC_uV, GC_uU, GC_uX, GC_uR4, GR_uF, GR_uF100, GR_uP, GR_uO, GR_uA, GR_uB, GR_uR, GR_uJ, GR_uL, GR_uW, GR_uV, GR_uU, GR_uX, GK_uF, GK_uF10, GK_uF100, GK_uP, GK_uO, GK_uA, GK_uB, GK_uR, GK_uJ, GK_uL, GK_uW, GK_uV, GK_uU, GK_uX, GK_uR4, GS_uF, GS_uF10, GS_uF100, GS_uP, GS_uO, GS_uA, GS_uB, GS_uR, GS_uJ, GS_uL, GS_uW, GS_uV, GS_uU, GS_uX, GS_uR4, GB_uF, GB_uF100, GB_uP, GB_uO, GB_uA, GB_uB, GB_uR, GB_uJ, GB_uL, GB_uW, GB_uV, GB_uU, GB_uX, GB_uR4, GH_uF, GH_uF10, GH_uF100, GH_uP, GH_uO, GH_uA, GH_uB, GH_uR, GH_uJ, GH_uL, GH_uW, GH_uV, GH_uU, GH_uX, GH_uR4, GG_uF, GG_uF100, GG_uP, GG_uO, GG_uA, GG_uB, GG_uR, GG_uJ, GG_uL, GG_uW, GG_uV, GG_uU, GG_uX, GG_uR4]
      exact ⟨hD, hO, hT, hP, hW, hC, hR, hK2, hS, hB, hH, hG⟩
    · simp only [q_NuF, q_FuF, q_PuF, q_OuF, q_AuF, q_RuF, q_LuF, q_JuF, q_NuP, q_FuP, q_PuP, q_OuP, q_AuP, q_RuP, q_LuP, q_JuP, q_NuO, q_FuO, q_PuO, q_OuO, q_AuO, q_RuO, q_LuO, q_JuO, q_NuA, q_FuA, q_PuA, q_OuA, q_AuA, q_RuA, q_LuA, q_JuA, q_NuR, q_FuR, q_PuR, q_OuR, q_AuR, q_RuR, q_LuR, q_JuR, q_NuJ, q_FuJ, q_PuJ, q_OuJ, q_AuJ, q_RuJ, q_LuJ, q_JuJ, q_NuL, q_FuL, q_PuL, q_OuL, q_AuL, q_RuL, q_LuL, q_JuL, q_NuB, q_FuB, q_PuB, q_OuB, q_AuB, q_RuB, q_LuB, q_JuB, q_NuW, q_FuW, q_PuW, q_OuW, q_AuW, q_RuW, q_LuW, q_JuW, q_NuV, q_FuV, q_PuV, q_OuV, q_AuV, q_RuV, q_LuV, q_JuV, q_NuU, q_FuU, q_PuU, q_OuU, q_AuU, q_RuU, q_LuU, q_JuU, q_NuX, q_FuX, q_PuX, q_OuX, q_AuX, q_RuX, q_LuX, q_JuX, q_NuR4, q_FuR4, q_PuR4, q_OuR4, q_AuR4, q_RuR4, q_LuR4, q_JuR4, Nat.reduceEqDiff, reduceIte, and_true, true_and, and_false, false_and, and_self, if_true, if_false, not_true_eq_false, not_false_eq_true]; exact c2
    · simp only [q_NuF, q_FuF, q_PuF, q_OuF, q_AuF, q_RuF, q_LuF, q_JuF, q_NuP, q_FuP, q_PuP, q_OuP, q_AuP, q_RuP, q_LuP, q_JuP, q_NuO, q_FuO, q_PuO, q_OuO, q_AuO, q_RuO, q_LuO, q_JuO, q_NuA, q_FuA, q_PuA, q_OuA, q_AuA, q_RuA, q_LuA, q_JuA, q_NuR, q_FuR, q_PuR, q_OuR, q_AuR, q_RuR, q_LuR, q_JuR, q_NuJ, q_FuJ, q_PuJ, q_OuJ, q_AuJ, q_RuJ, q_LuJ, q_JuJ, q_NuL, q_FuL, q_PuL, q_OuL, q_AuL, q_RuL, q_LuL, q_JuL, q_NuB, q_FuB, q_PuB, q_OuB, q_AuB, q_RuB, q_LuB, q_JuB, q_NuW, q_FuW, q_PuW, q_OuW, q_AuW, q_RuW, q_LuW, q_JuW, q_NuV, q_FuV, q_PuV, q_OuV, q_AuV, q_RuV, q_LuV, q_JuV, q_NuU, q_FuU, q_PuU, q_OuU, q_AuU, q_RuU, q_LuU, q_JuU, q_NuX, q_FuX, q_PuX, q_OuX, q_AuX, q_RuX, q_LuX, q_JuX, q_NuR4, q_FuR4, q_PuR4, q_OuR4, q_AuR4, q_RuR4, q_LuR4, q_JuR4, Nat.reduceEqDiff, reduceIte, and_true, true_and, and_false, false_and, and_self, if_true, if_false, not_true_eq_false, not_false_eq_true]; exact hk
    · simp only [qhd, q_NuF, q_FuF, q_PuF, q_OuF, q_AuF, q_RuF, q_LuF, q_JuF, q_NuP, q_FuP, q_PuP, q_OuP, q_AuP, q_RuP, q_LuP, q_JuP, q_NuO, q_FuO, q_PuO, q_OuO, q_AuO, q_RuO, q_LuO, q_JuO, q_NuA, q_FuA, q_PuA, q_OuA, q_AuA, q_RuA, q_LuA, q_JuA, q_NuR, q_FuR, q_PuR, q_OuR, q_AuR, q_RuR, q_LuR, q_JuR, q_NuJ, q_FuJ, q_PuJ, q_OuJ, q_AuJ, q_RuJ, q_LuJ, q_JuJ, q_NuL, q_FuL, q_PuL, q_OuL, q_AuL, q_RuL, q_LuL, q_JuL, q_NuB, q_FuB, q_PuB, q_OuB, q_AuB, q_RuB, q_LuB, q_JuB, q_NuW, q_FuW, q_PuW, q_OuW, q_AuW, q_RuW, q_LuW, q_JuW, q_NuV, q_FuV, q_PuV, q_OuV, q_AuV, q_RuV, q_LuV, q_JuV, q_NuU, q_FuU, q_PuU, q_OuU, q_AuU, q_RuU, q_LuU, q_JuU, q_NuX, q_FuX, q_PuX, q_OuX, q_AuX, q_RuX, q_LuX, q_JuX, q_NuR4, q_FuR4, q_PuR4, q_OuR4, q_AuR4, q_RuR4, q_LuR4, q_JuR4, Nat.reduceEqDiff, reduceIte, and_true, true_and, and_false, false_and, and_self, if_true, if_false, not_true_eq_false, not_false_eq_true, q_em3_m2, q_em3_m1, q_em3_0, q_em3_1, q_em3_2, q_em3_3, q_em3_4, q_em3_5, q_em3_6, q_em3_7, q_em3_8, q_em3_9, q_em3_10, q_em3_11, q_em3_12, q_em2_m3, q_em2_m1, q_em2_0, q_em2_1, q_em2_2, q_em2_3, q_em2_4, q_em2_5, q_em2_6, q_em2_7, q_em2_8, q_em2_9, q_em2_10, q_em2_11, q_em2_12, q_em1_m3, q_em1_m2, q_em1_0, q_em1_1, q_em1_2, q_em1_3, q_em1_4, q_em1_5, q_em1_6, q_em1_7, q_em1_8, q_em1_9, q_em1_10, q_em1_11, q_em1_12, q_e0_m3, q_e0_m2, q_e0_m1, q_e0_1, q_e0_2, q_e0_3, q_e0_4, q_e0_5, q_e0_6, q_e0_7, q_e0_8, q_e0_9, q_e0_10, q_e0_11, q_e0_12, q_e1_m3, q_e1_m2, q_e1_m1, q_e1_0, q_e1_2, q_e1_3, q_e1_4, q_e1_5, q_e1_6, q_e1_7, q_e1_8, q_e1_9, q_e1_10, q_e1_11, q_e1_12, q_e2_m3, q_e2_m2, q_e2_m1, q_e2_0, q_e2_1, q_e2_3, q_e2_4, q_e2_5, q_e2_6, q_e2_7, q_e2_8, q_e2_9, q_e2_10, q_e2_11, q_e2_12, q_e3_m3, q_e3_m2, q_e3_m1, q_e3_0, q_e3_1, q_e3_2, q_e3_4, q_e3_5, q_e3_6, q_e3_7, q_e3_8, q_e3_9, q_e3_10, q_e3_11, q_e3_12, q_e4_m3, q_e4_m2, q_e4_m1, q_e4_0, q_e4_1, q_e4_2, q_e4_3, q_e4_5, q_e4_6, q_e4_7, q_e4_8, q_e4_9, q_e4_10, q_e4_11, q_e4_12, q_e5_m3, q_e5_m2, q_e5_m1, q_e5_0, q_e5_1, q_e5_2, q_e5_3, q_e5_4, q_e5_6, q_e5_7, q_e5_8, q_e5_9, q_e5_10, q_e5_11, q_e5_12, q_e6_m3, q_e6_m2, q_e6_m1, q_e6_0, q_e6_1, q_e6_2, q_e6_3, q_e6_4, q_e6_5, q_e6_7, q_e6_8, q_e6_9, q_e6_10, q_e6_11, q_e6_12, q_e7_m3, q_e7_m2, q_e7_m1, q_e7_0, q_e7_1, q_e7_2, q_e7_3, q_e7_4, q_e7_5, q_e7_6, q_e7_8, q_e7_9, q_e7_10, q_e7_11, q_e7_12, q_e8_m3, q_e8_m2, q_e8_m1, q_e8_0, q_e8_1, q_e8_2, q_e8_3, q_e8_4, q_e8_5, q_e8_6, q_e8_7, q_e8_9, q_e8_10, q_e8_11, q_e8_12, q_e9_m3, q_e9_m2, q_e9_m1, q_e9_0, q_e9_1, q_e9_2, q_e9_3, q_e9_4, q_e9_5, q_e9_6, q_e9_7, q_e9_8, q_e9_10, q_e9_11, q_e9_12, q_e10_m3, q_e10_m2, q_e10_m1, q_e10_0, q_e10_1, q_e10_2, q_e10_3, q_e10_4, q_e10_5, q_e10_6, q_e10_7, q_e10_8, q_e10_9, q_e10_11, q_e10_12, q_e11_m3, q_e11_m2, q_e11_m1, q_e11_0, q_e11_1, q_e11_2, q_e11_3, q_e11_4, q_e11_5, q_e11_6, q_e11_7, q_e11_8, q_e11_9, q_e11_10, q_e11_12, q_e12_m3, q_e12_m2, q_e12_m1, q_e12_0, q_e12_1, q_e12_2, q_e12_3, q_e12_4, q_e12_5, q_e12_6, q_e12_7, q_e12_8, q_e12_9, q_e12_10, q_e12_11, not_false_eq_true]
theorem zOKJ_t {k : Int32} {r r2 : Int64} {s : zTs} (h : qR s) (hk : ¬ k = 0) : zOKJ k r r2 (zuF s 100 0 0 k) := ⟨qth_set, fun e => absurd e hk, qR_th h⟩
theorem zOKJ_0 {r r2 : Int64} {s : zTs} (h : qR s) (e : r2 = r) : zOKJ 0 r r2 (zuF s 100 0 0 0) := ⟨qth_set, fun _ => e, qR_th h⟩
theorem im_gaugeN {P : Int32 → Prop} {s t : zTs} {a : Int32} (m : qmc s t) (hG : GG s) (c : a < 0 ∨ ¬ a < zgF s 33 0 2) (h : P 0) : w_X12_isGauge t a P := by
  have e : zgF t 100 0 76 = zgF s 33 0 2 := (m.2 76 (by decide)).trans hG.1.2.1
  unfold w_X12_isGauge
  rw [e]
  exact ⟨fun _ => h, fun c3 => ⟨fun _ => h, fun c4 => absurd (Int32.not_le.mp c4) (c.resolve_left c3)⟩⟩
theorem im_gaugeY {P : Int32 → Prop} {s t : zTs} {a : Int32} (m : qmc s t) (hG : GG s) (c1 : ¬ a < 0) (c2 : a < zgF s 33 0 2) (h : P 1) : w_X12_isGauge t a P := by
  have e : zgF t 100 0 76 = zgF s 33 0 2 := (m.2 76 (by decide)).trans hG.1.2.1
  unfold w_X12_isGauge
  rw [e]
  exact ⟨fun c => absurd c c1, fun _ => ⟨fun c => absurd c2 (Int32.not_lt.mpr c), fun _ => h⟩⟩
theorem im_asked0 {Q : Int32 → zTs → Prop} {t : zTs} (q : Q 0 (zuF t 100 0 0 1)) : w_X12_isAsked_34 Q t 1 := by
  intro u hu
  subst hu
  have z : zgF (zuF t 100 0 0 1) 100 0 0 = 1 := qth_set
  rw [z]
  exact ⟨fun e => absurd e (by decide), fun _ => q⟩
theorem im_asked1 {Q : Int32 → zTs → Prop} {t : zTs} (q : Q 1 (zuF t 100 0 0 0)) : w_X12_isAsked_34 Q t 0 := by
  intro u hu
  subst hu
  have z : zgF (zuF t 100 0 0 0) 100 0 0 = 0 := qth_set
  rw [z]
  exact ⟨fun _ => q, fun e => absurd rfl e⟩
theorem im_askedN {Q : Int32 → zTs → Prop} {s t : zTs} {a b c : Int32} (m : qmc s t) (h : qR s) (hn : (a < 0 ∨ ¬ a < zgF s 33 0 2) ∨ (b < 0 ∨ ¬ b < zgF s 33 0 2) ∨ (c < 0 ∨ ¬ c < zgF s 31 0 2)) (q : Q 0 (zuF t 100 0 0 1)) : w_X12_isAsked t a b c Q := by
  obtain ⟨hD, hO, hT, hP, hW, hC, hR, hK, hS, hB, hH, hG⟩ := h
  have e : zgF t 100 0 23 = zgF s 31 0 2 := (m.2 23 (by decide)).trans hK.2.1
  unfold w_X12_isAsked
  rw [e]
  by_cases ca : a < 0 ∨ ¬ a < zgF s 33 0 2
  · exact im_gaugeN m hG ca ⟨fun _ => im_asked0 q, fun z => absurd rfl z⟩
  · have ca' : ¬ a < 0 ∧ a < zgF s 33 0 2 := ⟨fun z => ca (.inl z), Classical.not_not.mp (fun z => ca (.inr z))⟩
    refine im_gaugeY m hG ca'.1 ca'.2 ⟨fun z => absurd z (by decide), fun _ => ?_⟩
    by_cases cb : b < 0 ∨ ¬ b < zgF s 33 0 2
    · exact im_gaugeN m hG cb ⟨fun _ => im_asked0 q, fun z => absurd rfl z⟩
    · have cb' : ¬ b < 0 ∧ b < zgF s 33 0 2 := ⟨fun z => cb (.inl z), Classical.not_not.mp (fun z => cb (.inr z))⟩
      refine im_gaugeY m hG cb'.1 cb'.2 ⟨fun z => absurd z (by decide), fun _ => ⟨fun _ => im_asked0 q, fun c1 => ⟨fun c2 => ?_, fun _ => im_asked0 q⟩⟩⟩
      exact absurd c2 (((hn.resolve_left ca).resolve_left cb).resolve_left c1)
theorem im_askedY {Q : Int32 → zTs → Prop} {s t : zTs} {a b c : Int32} (m : qmc s t) (h : qR s) (a1 : ¬ a < 0) (a2 : a < zgF s 33 0 2) (b1 : ¬ b < 0) (b2 : b < zgF s 33 0 2) (c1 : ¬ c < 0) (c2 : c < zgF s 31 0 2) (q : Q 1 (zuF t 100 0 0 0)) : w_X12_isAsked t a b c Q := by
  obtain ⟨hD, hO, hT, hP, hW, hC, hR, hK, hS, hB, hH, hG⟩ := h
  have e : zgF t 100 0 23 = zgF s 31 0 2 := (m.2 23 (by decide)).trans hK.2.1
  unfold w_X12_isAsked
  rw [e]
  exact im_gaugeY m hG a1 a2 ⟨fun z => absurd z (by decide), fun _ => im_gaugeY m hG b1 b2 ⟨fun z => absurd z (by decide), fun _ => ⟨fun z => absurd z c1, fun _ => ⟨fun _ => im_asked1 q, fun z => absurd c2 z⟩⟩⟩⟩
/-- a gauge's cover and value -/
def qcs (s : zTs) (w : Nat) (d : Int32) : Prop := qco (zgF s 23 w 2).toNatClampNeg (zgA s 64 w) d
def qvs (s : zTs) (w : Nat) (d : Int32) : Int32 := qva (zgF s 23 w 2).toNatClampNeg (zgA s 64 w) (zgA s 65 w) d
theorem i_cov {P : Int32 → Prop} {s : zTs} {i : Nat} {d : Int32} (hG : GG s) (hk : i < zgN s 23) (h1 : qcs s i d → P 1) (h0 : ¬ qcs s i d → P 0) : w_X2_covers s i d P := by
  obtain ⟨q1, q2, q3, q4⟩ := QG_of hG hk
  exact i_covers q1 q3.1 h1 h0
theorem i_val {P : Int32 → Prop} {s : zTs} {i : Nat} {d : Int32} (hG : GG s) (hk : i < zgN s 23) (hc : qcs s i d) (hp : P (qvs s i d)) : w_X2_valueOn s i d P := by
  obtain ⟨q1, q2, q3, q4⟩ := QG_of hG hk
  exact i_valueOn q1 q3 hc hp
theorem im_at {P : Int32 → Prop} {s t : zTs} {a d : Int32} (m : qmc s t) (hG : GG s) (c1 : ¬ a < 0) (hk : a.toNatClampNeg < zgN s 23) (y : qcs s a.toNatClampNeg d → P (qvs s a.toNatClampNeg d)) (u : ¬ qcs s a.toNatClampNeg d → P (-2000000000)) : w_X12_atDay t a d P := by
  obtain ⟨q1, q2, q3, q4⟩ := QG_of hG hk
  have h10 := hG.1.2.2.1
  refine im_atDay c1 (by omega) ?_ q3 (fun j hj => ?_) y u
  · rw [m.1 159 (by decide), q2]; exact q1
  · rw [m.1 160 (by decide), m.1 161 (by decide)]; exact q4 j hj
/-- whether there are causes -/
def qhc (s : zTs) (g f k : Nat) (d : Int32) : Prop := ¬ zgF s 21 k 9 = -1 ∧ ¬ zgF s 21 k 4 = 6 ∧ ¬ d ≤ zgF s 21 k 9 ∧ qcs s g (zgF s 21 k 9) ∧ qcs s g d ∧ qcs s f (zgF s 21 k 9) ∧ qcs s f d
theorem i_hasCauses {P : Int32 → Prop} {s : zTs} {g f k : Nat} {d : Int32} (hG : GG s) (hg : g < zgN s 23) (hf : f < zgN s 23) (h1 : qhc s g f k d → P 1) (h0 : ¬ qhc s g f k d → P 0) : w_X11_hasCauses s g f k d P := by
  intro x hx
  subst hx
  refine ⟨fun c => h0 (fun z => z.1 c), fun c1 => ⟨fun c => h0 (fun z => z.2.1 c), fun c2 => ⟨fun c => h0 (fun z => z.2.2.1 c), fun c3 => ?_⟩⟩⟩
  refine i_cov hG hg (fun c4 => ⟨fun z => absurd z (by decide), fun _ => ?_⟩) (fun c => ⟨fun _ => h0 (fun z => c z.2.2.2.1), fun z => absurd rfl z⟩)
  refine i_cov hG hg (fun c5 => ⟨fun z => absurd z (by decide), fun _ => ?_⟩) (fun c => ⟨fun _ => h0 (fun z => c z.2.2.2.2.1), fun z => absurd rfl z⟩)
  refine i_cov hG hf (fun c6 => ⟨fun z => absurd z (by decide), fun _ => ?_⟩) (fun c => ⟨fun _ => h0 (fun z => c z.2.2.2.2.2.1), fun z => absurd rfl z⟩)
  refine i_cov hG hf (fun c7 => ⟨fun z => absurd z (by decide), fun _ => ?_⟩) (fun c => ⟨fun _ => h0 (fun z => c z.2.2.2.2.2.2), fun z => absurd rfl z⟩)
  exact h1 ⟨c1, c2, c3, c4, c5, c6, c7⟩
theorem qvs_nv {s : zTs} {i : Nat} {d : Int32} (hG : GG s) (hk : i < zgN s 23) (hc : qcs s i d) : ¬ qvs s i d = -2000000000 := qva_nv (QG_of hG hk).2.2.1 hc
theorem im_isToldCause {P : Int32 → Prop} {s t : zTs} {a b c d : Int32} (m : qmc s t) (hG : GG s) (g5 : GKs s c.toNatClampNeg) (hv : vp_in c 30) (a1 : ¬ a < 0) (ka : a.toNatClampNeg < zgN s 23) (b1 : ¬ b < 0) (kb : b.toNatClampNeg < zgN s 23) (h1 : qhc s a.toNatClampNeg b.toNatClampNeg c.toNatClampNeg d → P 1) (h0 : ¬ qhc s a.toNatClampNeg b.toNatClampNeg c.toNatClampNeg d → P 0) : w_X12_isToldCause t a b c d P := by
  have e9 : zgA s 127 0 c.toNatClampNeg = zgF s 21 c.toNatClampNeg 9 := g5.1.symm
  have e4 : zgA s 126 0 c.toNatClampNeg = 5 ∨ zgA s 126 0 c.toNatClampNeg = 7 ↔ (¬ zgF s 21 c.toNatClampNeg 9 = -1 ∧ ¬ zgF s 21 c.toNatClampNeg 4 = 6) := by
    by_cases z : zgA s 126 0 c.toNatClampNeg = 0
    · have z9 : zgA s 127 0 c.toNatClampNeg = -1 := by
        rcases GKs_eight g5 with e8 | e8 | e8 | e8 | e8 | ⟨e8, -⟩
        · exact (GKs_plan g5 e8).2.1
        · exact (GKs_free g5 e8).2.1
        · exact (GKs_ask g5 e8).2.1
        · exact (GKs_allow g5 e8).2.1
        · exact (GKs_disp g5 e8).2.1
        · exact absurd z e8
      constructor
      · intro y; exfalso; lia
      · intro y; exact absurd (e9.symm.trans z9) y.1
    · obtain ⟨t1, t2, t3, t4, -⟩ := GKs_gone g5 z
      rw [← e9]
      constructor
      · intro y; exact ⟨by lia, by lia⟩
      · intro y; lia
  have B : w_X12_isToldCause_36 P t a b c d ∨ ((zgA s 126 0 c.toNatClampNeg = 5 ∨ zgA s 126 0 c.toNatClampNeg = 7) ∧ ¬ d ≤ zgA s 127 0 c.toNatClampNeg) := by
    by_cases z : (zgA s 126 0 c.toNatClampNeg = 5 ∨ zgA s 126 0 c.toNatClampNeg = 7) ∧ ¬ d ≤ zgA s 127 0 c.toNatClampNeg
    · exact .inr z
    · refine .inl ⟨fun _ => h0 (fun y => z ⟨e4.mpr ⟨y.1, y.2.1⟩, by rw [e9]; exact y.2.2.1⟩), fun y => absurd rfl y⟩
  have C : ((zgA s 126 0 c.toNatClampNeg = 5 ∨ zgA s 126 0 c.toNatClampNeg = 7) ∧ ¬ d ≤ zgA s 127 0 c.toNatClampNeg) → w_X12_isToldCause_37 P t a b c d 1 := by
    intro ⟨y1, y2⟩
    obtain ⟨x1, x2⟩ := e4.mp y1
    rw [e9] at y2
    refine ⟨fun z => absurd z (by decide), fun _ => ?_⟩
    refine im_at m hG a1 ka (fun k1 => ⟨fun z => absurd z (qvs_nv hG ka k1), fun _ => ⟨hv, ?_⟩⟩) (fun k1 => ⟨fun _ => h0 (fun z => k1 z.2.2.2.2.1), fun z => absurd rfl z⟩)
    rw [m.1 127 (by decide), e9]
    refine im_at m hG a1 ka (fun k2 => ⟨fun z => absurd z (qvs_nv hG ka k2), fun _ => ?_⟩) (fun k1 => ⟨fun _ => h0 (fun z => k1 z.2.2.2.1), fun z => absurd rfl z⟩)
    refine im_at m hG b1 kb (fun k3 => ⟨fun z => absurd z (qvs_nv hG kb k3), fun _ => ⟨hv, ?_⟩⟩) (fun k1 => ⟨fun _ => h0 (fun z => k1 z.2.2.2.2.2.2), fun z => absurd rfl z⟩)
    refine im_at m hG b1 kb (fun k4 => ⟨fun z => absurd z (qvs_nv hG kb k4), fun _ => ?_⟩) (fun k1 => ⟨fun _ => h0 (fun z => k1 z.2.2.2.2.2.1), fun z => absurd rfl z⟩)
    exact h1 ⟨x1, x2, y2, k2, k1, k4, k3⟩
  have D : (zgA s 126 0 c.toNatClampNeg = 5 ∨ zgA s 126 0 c.toNatClampNeg = 7) → w_X12_isToldCause_21 P t a b c d := by
    intro y
    unfold w_X12_isToldCause_21
    rw [m.1 127 (by decide)]
    exact ⟨hv, fun z => B.resolve_right (fun x => x.2 z), fun z => C ⟨y, z⟩⟩
  unfold w_X12_isToldCause
  rw [m.1 126 (by decide)]
  exact ⟨hv, fun y => D (.inl y), fun y => ⟨hv, fun y' => D (.inr y'), fun y' => B.resolve_right (fun x => x.1.elim y y')⟩⟩
/-- what came by age -/
def qag (s : zTs) (w : Nat) (x d : Int32) : Int64 := if x - zgA s 64 w 0 = 0 then 0 else qfl ((qvs s w x - zgA s 65 w 0).toInt64 * (d - x).toInt64) ((x - zgA s 64 w 0).toInt64)
theorem qag_num {s : zTs} {i : Nat} {x d : Int32} (hG : GG s) (hk : i < zgN s 23) (cx : qcs s i x) (cd : qcs s i d) (hd : ¬ d ≤ x) (hz : ¬ x - zgA s 64 i 0 = 0) : -1000000000000 ≤ ((qvs s i x - zgA s 65 i 0).toInt64 * (d - x).toInt64).toInt ∧ ((qvs s i x - zgA s 65 i 0).toInt64 * (d - x).toInt64).toInt ≤ 1000000000000 ∧ 0 < (x - zgA s 64 i 0).toInt64.toInt ∧ (x - zgA s 64 i 0).toInt64.toInt ≤ 2147483648 := by
  obtain ⟨q1, q2, q3, q4⟩ := QG_of hG hk
  have n0 := cx.1
  obtain ⟨p1, p2, p3, p4⟩ := q3.2.2 0 n0
  obtain ⟨r1, r2, r3, r4⟩ := q3.2.2 ((zgF s 23 i 2).toNatClampNeg - 1) (by omega)
  have v := qva_hi q3 cx
  have x0 := cx.2.1
  have d1 := cd.2.2
  have d0 := cd.2.1
  obtain ⟨f1, f2, f3, f4, f5, f6⟩ := q_sd (x := x) (y := zgA s 64 i 0) (by lia) (by lia) p1 p2
  obtain ⟨g1, g2, g3, g4, g5, g6⟩ := q_sd (x := d) (y := x) (by lia) (by lia) (by lia) (by lia)
  have v1 : -10000 ≤ (zgA s 65 i 0).toInt := by rw [Int32.le_iff_toInt_le] at p3; exact p3
  have v2 : (zgA s 65 i 0).toInt ≤ 10000 := by rw [Int32.le_iff_toInt_le] at p4; exact p4
  have hv : (qvs s i x - zgA s 65 i 0).toInt64.toInt = (qvs s i x).toInt - (zgA s 65 i 0).toInt := by
    have v : -50000 ≤ (qvs s i x).toInt ∧ (qvs s i x).toInt ≤ 50000 := v
    rw [Int32.toInt_toInt64, q_sub (by omega) (by omega)]
  have v : -50000 ≤ (qvs s i x).toInt ∧ (qvs s i x).toInt ≤ 50000 := v
  rw [Int32.le_iff_toInt_le] at hd
  have pr := q_prod (x := (qvs s i x).toInt - (zgA s 65 i 0).toInt) (y := d.toInt - x.toInt) (A := 60000) (B := 1000000) (by omega) (by omega) (by omega) (by omega) (by omega)
  have em : ((qvs s i x - zgA s 65 i 0).toInt64 * (d - x).toInt64).toInt = ((qvs s i x).toInt - (zgA s 65 i 0).toInt) * (d.toInt - x.toInt) := by
    rw [Int64.toInt_mul, hv, g2]
    exact Int.bmod_eq_of_le (by omega) (by omega)
  rw [Int32.le_iff_toInt_le] at x0
  rw [q_eq, f1, show (0 : Int32).toInt = 0 from rfl] at hz
  rw [em, f2]
  refine ⟨by omega, by omega, by omega, by omega⟩
theorem i_ageing {P : Int64 → Prop} {s : zTs} {i : Nat} {x d : Int32} (hG : GG s) (hk : i < zgN s 23) (cx : qcs s i x) (cd : qcs s i d) (hd : ¬ d ≤ x) (h : P (qag s i x d)) : w_X2_ageing s i x d P := by
  have v0 : vp_in 0 40 := q_vpi (by decide) (by decide)
  refine i_val hG hk cx ⟨v0, v0, ?_⟩
  unfold qag at h
  refine ⟨fun z => ?_, fun z => ?_⟩
  · have z' : x - zgA s 64 i 0 = 0 := z
    rw [if_pos z'] at h
    exact h
  · have z' : ¬ x - zgA s 64 i 0 = 0 := z
    rw [if_neg z'] at h
    obtain ⟨a0, a1, b0, b1⟩ := qag_num hG hk cx cd hd z'
    exact i_floorDiv a0 a1 b0 b1 h
theorem im_ageOf {P : Int64 → Prop} {s t : zTs} {a c d : Int32} (m : qmc s t) (hG : GG s) (g5 : GKs s c.toNatClampNeg) (hv : vp_in c 30) (a1 : ¬ a < 0) (ka : a.toNatClampNeg < zgN s 23) (cx : qcs s a.toNatClampNeg (zgF s 21 c.toNatClampNeg 9)) (cd : qcs s a.toNatClampNeg d) (hd : ¬ d ≤ zgF s 21 c.toNatClampNeg 9) (h : P (qag s a.toNatClampNeg (zgF s 21 c.toNatClampNeg 9) d)) : w_X12_ageOf t a c d P := by
  obtain ⟨q1, q2, q3, q4⟩ := QG_of hG ka
  have h10 := hG.1.2.2.1
  obtain ⟨e1, v1⟩ := q_pl (m := 40) (a := a) (b := 0) (M := 40) (N := 400) rfl a1 (by decide) (by rw [show (0 : Int32).toNatClampNeg = 0 from rfl]; omega) (by omega)
  rw [Int32.add_zero] at e1 v1
  have e1 : (40 * a).toNatClampNeg = 40 * a.toNatClampNeg + 0 := e1
  obtain ⟨t1, t2⟩ := q4 0 (by omega)
  unfold qag at h
  refine ⟨v1, fun x hx => ⟨hv, fun y hy => ?_⟩⟩
  rw [m.1 160 (by decide), e1, t1] at hx
  rw [m.1 127 (by decide), ← g5.1] at hy
  subst hx
  subst hy
  refine ⟨fun z => ?_, fun z => ?_⟩
  · rw [if_pos (by rw [z, Int32.sub_self])] at h
    exact h
  · have z' : ¬ zgF s 21 c.toNatClampNeg 9 - zgA s 64 a.toNatClampNeg 0 = 0 := fun y => z (by lia)
    rw [if_neg z'] at h
    obtain ⟨a0, a9, b0, b1⟩ := qag_num hG ka cx cd hd z'
    refine im_at m hG a1 ka (fun _ => ⟨v1, ?_⟩) (fun y => absurd cx y)
    rw [m.1 161 (by decide), e1, t2]
    exact im_floor b0 h
/-- how much a gauge changed -/
def qcg (s : zTs) (w : Nat) (x d : Int32) : Int64 := (qvs s w d - qvs s w x).toInt64
theorem i_change {P : Int64 → Prop} {s : zTs} {i : Nat} {x d : Int32} (hG : GG s) (hk : i < zgN s 23) (cx : qcs s i x) (cd : qcs s i d) (h : P (qcg s i x d)) : w_X2_change s i x d P := i_val hG hk cd (i_val hG hk cx h)
theorem im_grewOf {P : Int64 → Prop} {s t : zTs} {a c d : Int32} (m : qmc s t) (hG : GG s) (g5 : GKs s c.toNatClampNeg) (hv : vp_in c 30) (a1 : ¬ a < 0) (ka : a.toNatClampNeg < zgN s 23) (cx : qcs s a.toNatClampNeg (zgF s 21 c.toNatClampNeg 9)) (cd : qcs s a.toNatClampNeg d) (h : P (qcg s a.toNatClampNeg (zgF s 21 c.toNatClampNeg 9) d)) : w_X12_grewOf t a c d P := by
  refine im_at m hG a1 ka (fun _ => ⟨hv, ?_⟩) (fun y => absurd cd y)
  rw [m.1 127 (by decide), ← g5.1]
  exact im_at m hG a1 ka (fun _ => h) (fun y => absurd cx y)
theorem b_cause {st : zTs} {a b c d e : Int32} (h : qR st) : w_X11_cause st a b c d e (fun k s => (k = 0 ∧ w_X12_cause s a b c d e (zOKJ 1 0)) ∨ (k = 1 ∧ w_X12_cause s a b c d e (zOKJ 2 0))) (fun r s => w_X12_cause s a b c d e (zOKJ 0 r)) := by
  have bad : ((a < 0 ∨ ¬ a < zgF st 33 0 2) ∨ (b < 0 ∨ ¬ b < zgF st 33 0 2) ∨ (c < 0 ∨ ¬ c < zgF st 31 0 2)) → w_X12_cause st a b c d e (zOKJ 1 0) := fun hn => im_askedN qmc_rf h hn ⟨fun _ => zOKJ_t h (by decide), fun z => absurd rfl z⟩
  unfold w_X11_cause
  refine i_gaugeAt h (fun z => .inl ⟨rfl, bad (.inl z)⟩) (fun a1 a2 ka0 => ?_)
  refine i_gaugeAt h (fun z => .inl ⟨rfl, bad (.inr (.inl z))⟩) (fun b1 b2 kb0 => ?_)
  refine i_workAt2 h (fun z => .inl ⟨rfl, bad (.inr (.inr z))⟩) (fun s hs sN sA sP sF c1 c2 hk hh => ?_)
  have hs' := hs; obtain ⟨hD, hO, hT, hP, hW, hC, hR, hK, hS, hB, hH, hG⟩ := hs'
  have a3 : a < zgF s 33 0 2 := by rw [sF 33 0 2 (by decide)]; exact a2
  have b3 : b < zgF s 33 0 2 := by rw [sF 33 0 2 (by decide)]; exact b2
  have ka : a.toNatClampNeg < zgN s 23 := by rw [sN]; exact ka0
  have kb : b.toNatClampNeg < zgN s 23 := by rw [sN]; exact kb0
  have g5 := ((GK_iff.mp hK).2.1 _ hk).2.2.2.2
  have hv : vp_in c 30 := q_i30 c1 (by have := hK.2.2.1; omega)
  refine i_range (fun z => .inr ⟨rfl, ?_⟩) (fun c3 c4 => ?_)
  · have B : w_X12_cause_27 (zOKJ 2 0) (zuF s 100 0 0 0) a b c d e 1 := i_bad1 ⟨fun e => absurd e (by decide), fun _ => zOKJ_t (qR_th hs) (by decide)⟩
    exact im_askedY qmc_rf hs a1 a3 b1 b3 c1 c2 ⟨fun e => absurd e (by decide), fun _ => ⟨fun _ => B, fun d => ⟨fun e => (by exfalso; lia), fun _ => B⟩⟩⟩
  · have mm : qmc s (zuF s 100 0 0 0) := (by repeat (first | exact qmc_rf | apply qmc_F0 | (refine qmc_F ?_ (by decide)) | (refine qmc_A ?_ (by decide)) | apply qmc_O | apply qmc_R | apply qmc_W | (refine qmc_V ?_ (by decide)) | apply qmc_U))
    have M : ∀ P : Int64 → zTs → Prop, w_X12_isToldCause (zuF s 100 0 0 0) a b c d (fun (r42 : Int32) => ((r42 = 0 → P (-2000000000) (zuF s 100 0 0 0)) ∧ (¬ r42 = 0 → (e = 0 → w_X12_grewOf (zuF s 100 0 0 0) a c d (fun (r62 : Int64) => (P r62 (zuF s 100 0 0 0)))) ∧ (¬ e = 0 → (e = 1 → w_X12_grewOf (zuF s 100 0 0 0) b c d (fun (r79 : Int64) => (P r79 (zuF s 100 0 0 0)))) ∧ (¬ e = 1 → (e = 2 → w_X12_ageOf (zuF s 100 0 0 0) a c d (fun (r96 : Int64) => (P r96 (zuF s 100 0 0 0)))) ∧ (¬ e = 2 → w_X12_worksOf (zuF s 100 0 0 0) a b c d (fun (r108 : Int64) => (P r108 (zuF s 100 0 0 0))))))))) → w_X12_cause s a b c d e P := fun P B => im_askedY qmc_rf hs a1 a3 b1 b3 c1 c2 ⟨fun e => absurd e (by decide), fun _ => ⟨fun z => absurd z c3, fun _ => ⟨fun _ => i_bad0 ⟨fun _ => B, fun z => absurd rfl z⟩, fun z => absurd (Int32.not_lt.mp c4) z⟩⟩⟩
    refine i_hasCauses hG ka kb (fun q => ⟨fun z => absurd z (by decide), fun _ x hx => ?_⟩) (fun q => ⟨fun _ => ?_, fun z => absurd rfl z⟩)
    · subst hx
      obtain ⟨x1, x2, x3, y1, y2, y3, y4⟩ := id q
      refine ⟨fun z => i_change hG ka y1 y2 ?_, fun z => i_change hG kb y3 y4 ?_, fun z => i_ageing hG ka y1 y2 x3 ?_, fun z => i_change hG ka y1 y2 (i_change hG kb y3 y4 (i_ageing hG ka y1 y2 x3 ?_))⟩
      · exact M _ (im_isToldCause mm hG g5 hv a1 ka b1 kb (fun _ => ⟨fun y => absurd y (by decide), fun _ => ⟨fun _ => im_grewOf mm hG g5 hv a1 ka y1 y2 (zOKJ_0 hs rfl), fun y => absurd z y⟩⟩) (fun y => absurd q y))
      · exact M _ (im_isToldCause mm hG g5 hv a1 ka b1 kb (fun _ => ⟨fun y => absurd y (by decide), fun _ => ⟨fun y => absurd (z.symm.trans y) (by decide), fun _ => ⟨fun _ => im_grewOf mm hG g5 hv b1 kb y3 y4 (zOKJ_0 hs rfl), fun y => absurd z y⟩⟩⟩) (fun y => absurd q y))
      · exact M _ (im_isToldCause mm hG g5 hv a1 ka b1 kb (fun _ => ⟨fun y => absurd y (by decide), fun _ => ⟨fun y => absurd (z.symm.trans y) (by decide), fun _ => ⟨fun y => absurd (z.symm.trans y) (by decide), fun _ => ⟨fun _ => im_ageOf mm hG g5 hv a1 ka y1 y2 x3 (zOKJ_0 hs rfl), fun y => absurd z y⟩⟩⟩⟩) (fun y => absurd q y))
      · exact M _ (im_isToldCause mm hG g5 hv a1 ka b1 kb (fun _ => ⟨fun y => absurd y (by decide), fun _ => ⟨fun y => absurd y z.1, fun _ => ⟨fun y => absurd y z.2.1, fun _ => ⟨fun y => absurd y z.2.2, fun _ => im_grewOf mm hG g5 hv a1 ka y1 y2 (im_grewOf mm hG g5 hv b1 kb y3 y4 (im_ageOf mm hG g5 hv a1 ka y1 y2 x3 (zOKJ_0 hs rfl)))⟩⟩⟩⟩) (fun y => absurd q y))
    · exact M _ (im_isToldCause mm hG g5 hv a1 ka b1 kb (fun y => absurd y q) (fun _ => ⟨fun _ => zOKJ_0 hs rfl, fun y => absurd rfl y⟩))
theorem b_blamed {st : zTs} {a b c d : Int32} (h : qR st) : w_X11_blamed st a b c d (fun k s => k = 0 ∧ w_X12_blamed s a b c d (zOK 1 0)) (fun r s => w_X12_blamed s a b c d (zOK 0 r)) := by
  have bad : ((a < 0 ∨ ¬ a < zgF st 33 0 2) ∨ (b < 0 ∨ ¬ b < zgF st 33 0 2) ∨ (c < 0 ∨ ¬ c < zgF st 31 0 2)) → w_X12_blamed st a b c d (zOK 1 0) := fun hn => im_askedN qmc_rf h hn ⟨fun _ => zOK_t h (by decide), fun z => absurd rfl z⟩
  unfold w_X11_blamed
  refine i_gaugeAt h (fun z => ⟨rfl, bad (.inl z)⟩) (fun a1 a2 ka0 => ?_)
  refine i_gaugeAt h (fun z => ⟨rfl, bad (.inr (.inl z))⟩) (fun b1 b2 kb0 => ?_)
  refine i_workAt2 h (fun z => ⟨rfl, bad (.inr (.inr z))⟩) (fun s hs sN sA sP sF c1 c2 hk hh => ?_)
  have hs' := hs; obtain ⟨hD, hO, hT, hP, hW, hC, hR, hK, hS, hB, hH, hG⟩ := hs'
  have a3 : a < zgF s 33 0 2 := by rw [sF 33 0 2 (by decide)]; exact a2
  have b3 : b < zgF s 33 0 2 := by rw [sF 33 0 2 (by decide)]; exact b2
  have ka : a.toNatClampNeg < zgN s 23 := by rw [sN]; exact ka0
  have kb : b.toNatClampNeg < zgN s 23 := by rw [sN]; exact kb0
  have g5 := ((GK_iff.mp hK).2.1 _ hk).2.2.2.2
  have hv : vp_in c 30 := q_i30 c1 (by have := hK.2.2.1; omega)
  obtain ⟨-, -, -, -, ⟨-, ⟨-, -, -, r11, -⟩, -⟩, -⟩ := id hR
  have r11 : zgA s 103 0 11 = zgF s 24 (zgP s 10 0 16) 10 := r11
  have mm : qmc s (zuF s 100 0 0 0) := (by repeat (first | exact qmc_rf | apply qmc_F0 | (refine qmc_F ?_ (by decide)) | (refine qmc_A ?_ (by decide)) | apply qmc_O | apply qmc_R | apply qmc_W | (refine qmc_V ?_ (by decide)) | apply qmc_U))
  have v11 : vp_in 11 15 := q_vpi (by decide) (by decide)
  have e11 : zgA (zuF s 100 0 0 0) 103 0 (11 : Int32).toNatClampNeg = zgF s 24 (zgP s 10 0 16) 10 := r11
  have M : ∀ P : Int32 → zTs → Prop, w_X12_isToldCause (zuF s 100 0 0 0) a b c d (fun (r16 : Int32) => ((r16 = 0 → P 0 (zuF s 100 0 0 0)) ∧ (¬ r16 = 0 → w_X12_worksOf (zuF s 100 0 0 0) a b c d (fun (r28 : Int64) => (vp_in 11 15 ∧ (((lg_cmp r28 ((zgA (zuF s 100 0 0 0) 103 0 (11 : Int32).toNatClampNeg : Int32).toInt64)) ≤ 0 → P 0 (zuF s 100 0 0 0)) ∧ (¬ (lg_cmp r28 ((zgA (zuF s 100 0 0 0) 103 0 (11 : Int32).toNatClampNeg : Int32).toInt64)) ≤ 0 → P 1 (zuF s 100 0 0 0)))))))) → w_X12_blamed s a b c d P := fun P B => im_askedY qmc_rf hs a1 a3 b1 b3 c1 c2 ⟨fun e => absurd e (by decide), fun _ => B⟩
  refine i_hasCauses hG ka kb (fun q => ⟨fun z => absurd z (by decide), fun _ => ?_⟩) (fun q => ⟨fun _ => ?_, fun z => absurd rfl z⟩)
  · obtain ⟨x1, x2, x3, y1, y2, y3, y4⟩ := id q
    refine i_change hG ka y1 y2 (i_change hG kb y3 y4 (i_ageing hG ka y1 y2 x3 ⟨fun z => ?_, fun z => ?_⟩))
    · refine M _ (im_isToldCause mm hG g5 hv a1 ka b1 kb (fun _ => ⟨fun y => absurd y (by decide), fun _ => im_grewOf mm hG g5 hv a1 ka y1 y2 (im_grewOf mm hG g5 hv b1 kb y3 y4 (im_ageOf mm hG g5 hv a1 ka y1 y2 x3 ⟨v11, ?_⟩))⟩) (fun y => absurd q y))
      rw [e11]
      exact ⟨fun _ => zOK_0 hs rfl, fun y => absurd z y⟩
    · refine M _ (im_isToldCause mm hG g5 hv a1 ka b1 kb (fun _ => ⟨fun y => absurd y (by decide), fun _ => im_grewOf mm hG g5 hv a1 ka y1 y2 (im_grewOf mm hG g5 hv b1 kb y3 y4 (im_ageOf mm hG g5 hv a1 ka y1 y2 x3 ⟨v11, ?_⟩))⟩) (fun y => absurd q y))
      rw [e11]
      exact ⟨fun y => absurd y z, fun _ => zOK_0 hs rfl⟩
  · exact M _ (im_isToldCause mm hG g5 hv a1 ka b1 kb (fun y => absurd y q) (fun _ => ⟨fun _ => zOK_0 hs rfl, fun y => absurd rfl y⟩))

/-! a rule: class and model -/
theorem ynw_P {s : zTs} {o : Nat} : zgP (ynw s o) = zgP s := by
  unfold ynw zuM zuV4
  simp only [q_NuF, q_FuF, q_PuF, q_OuF, q_AuF, q_RuF, q_LuF, q_JuF, q_NuP, q_FuP, q_PuP, q_OuP, q_AuP, q_RuP, q_LuP, q_JuP, q_NuO, q_FuO, q_PuO, q_OuO, q_AuO, q_RuO, q_LuO, q_JuO, q_NuA, q_FuA, q_PuA, q_OuA, q_AuA, q_RuA, q_LuA, q_JuA, q_NuR, q_FuR, q_PuR, q_OuR, q_AuR, q_RuR, q_LuR, q_JuR, q_NuJ, q_FuJ, q_PuJ, q_OuJ, q_AuJ, q_RuJ, q_LuJ, q_JuJ, q_NuL, q_FuL, q_PuL, q_OuL, q_AuL, q_RuL, q_LuL, q_JuL, q_NuB, q_FuB, q_PuB, q_OuB, q_AuB, q_RuB, q_LuB, q_JuB, q_NuW, q_FuW, q_PuW, q_OuW, q_AuW, q_RuW, q_LuW, q_JuW, q_NuV, q_FuV, q_PuV, q_OuV, q_AuV, q_RuV, q_LuV, q_JuV, q_NuU, q_FuU, q_PuU, q_OuU, q_AuU, q_RuU, q_LuU, q_JuU, q_NuX, q_FuX, q_PuX, q_OuX, q_AuX, q_RuX, q_LuX, q_JuX, q_NuR4, q_FuR4, q_PuR4, q_OuR4, q_AuR4, q_RuR4, q_LuR4, q_JuR4]
theorem ynw_O {s : zTs} {o k i j : Nat} (h : ¬ k = 24) : zgO (ynw s o) k i j = zgO s k i j := by
  unfold ynw zuM zuV4
  simp only [q_NuF, q_FuF, q_PuF, q_OuF, q_AuF, q_RuF, q_LuF, q_JuF, q_NuP, q_FuP, q_PuP, q_OuP, q_AuP, q_RuP, q_LuP, q_JuP, q_NuO, q_FuO, q_PuO, q_OuO, q_AuO, q_RuO, q_LuO, q_JuO, q_NuA, q_FuA, q_PuA, q_OuA, q_AuA, q_RuA, q_LuA, q_JuA, q_NuR, q_FuR, q_PuR, q_OuR, q_AuR, q_RuR, q_LuR, q_JuR, q_NuJ, q_FuJ, q_PuJ, q_OuJ, q_AuJ, q_RuJ, q_LuJ, q_JuJ, q_NuL, q_FuL, q_PuL, q_OuL, q_AuL, q_RuL, q_LuL, q_JuL, q_NuB, q_FuB, q_PuB, q_OuB, q_AuB, q_RuB, q_LuB, q_JuB, q_NuW, q_FuW, q_PuW, q_OuW, q_AuW, q_RuW, q_LuW, q_JuW, q_NuV, q_FuV, q_PuV, q_OuV, q_AuV, q_RuV, q_LuV, q_JuV, q_NuU, q_FuU, q_PuU, q_OuU, q_AuU, q_RuU, q_LuU, q_JuU, q_NuX, q_FuX, q_PuX, q_OuX, q_AuX, q_RuX, q_LuX, q_JuX, q_NuR4, q_FuR4, q_PuR4, q_OuR4, q_AuR4, q_RuR4, q_LuR4, q_JuR4, h, false_and, if_false]
theorem ynw_R {s : zTs} {o k i j : Nat} (h68 : zgN s 68 = o) (h : ¬ (k = 68 ∧ i = o)) : zgR (ynw s o) k i j = zgR s k i j := by
  unfold ynw zuM zuV4
  simp only [q_RuF]
  rw [q_RuR4, if_neg (fun z => h ⟨z.1, by have := z.2; simp only [q_NuF, q_FuF, q_PuF, q_OuF, q_AuF, q_RuF, q_LuF, q_JuF, q_NuP, q_FuP, q_PuP, q_OuP, q_AuP, q_RuP, q_LuP, q_JuP, q_NuO, q_FuO, q_PuO, q_OuO, q_AuO, q_RuO, q_LuO, q_JuO, q_NuA, q_FuA, q_PuA, q_OuA, q_AuA, q_RuA, q_LuA, q_JuA, q_NuR, q_FuR, q_PuR, q_OuR, q_AuR, q_RuR, q_LuR, q_JuR, q_NuJ, q_FuJ, q_PuJ, q_OuJ, q_AuJ, q_RuJ, q_LuJ, q_JuJ, q_NuL, q_FuL, q_PuL, q_OuL, q_AuL, q_RuL, q_LuL, q_JuL, q_NuB, q_FuB, q_PuB, q_OuB, q_AuB, q_RuB, q_LuB, q_JuB, q_NuW, q_FuW, q_PuW, q_OuW, q_AuW, q_RuW, q_LuW, q_JuW, q_NuV, q_FuV, q_PuV, q_OuV, q_AuV, q_RuV, q_LuV, q_JuV, q_NuU, q_FuU, q_PuU, q_OuU, q_AuU, q_RuU, q_LuU, q_JuU, q_NuX, q_FuX, q_PuX, q_OuX, q_AuX, q_RuX, q_LuX, q_JuX, q_NuR4, q_FuR4, q_PuR4, q_OuR4, q_AuR4, q_RuR4, q_LuR4, q_JuR4, Nat.reduceEqDiff, reduceIte, and_true, true_and, and_false, false_and, and_self, if_true, if_false, not_true_eq_false, not_false_eq_true] at this; omega⟩)]
  simp only [q_NuF, q_FuF, q_PuF, q_OuF, q_AuF, q_RuF, q_LuF, q_JuF, q_NuP, q_FuP, q_PuP, q_OuP, q_AuP, q_RuP, q_LuP, q_JuP, q_NuO, q_FuO, q_PuO, q_OuO, q_AuO, q_RuO, q_LuO, q_JuO, q_NuA, q_FuA, q_PuA, q_OuA, q_AuA, q_RuA, q_LuA, q_JuA, q_NuR, q_FuR, q_PuR, q_OuR, q_AuR, q_RuR, q_LuR, q_JuR, q_NuJ, q_FuJ, q_PuJ, q_OuJ, q_AuJ, q_RuJ, q_LuJ, q_JuJ, q_NuL, q_FuL, q_PuL, q_OuL, q_AuL, q_RuL, q_LuL, q_JuL, q_NuB, q_FuB, q_PuB, q_OuB, q_AuB, q_RuB, q_LuB, q_JuB, q_NuW, q_FuW, q_PuW, q_OuW, q_AuW, q_RuW, q_LuW, q_JuW, q_NuV, q_FuV, q_PuV, q_OuV, q_AuV, q_RuV, q_LuV, q_JuV, q_NuU, q_FuU, q_PuU, q_OuU, q_AuU, q_RuU, q_LuU, q_JuU, q_NuX, q_FuX, q_PuX, q_OuX, q_AuX, q_RuX, q_LuX, q_JuX, q_NuR4, q_FuR4, q_PuR4, q_OuR4, q_AuR4, q_RuR4, q_LuR4, q_JuR4]
theorem ynw_L {s : zTs} {o k i : Nat} (h : ¬ (k = 69 ∧ zgN s 69 ≤ i)) (h6 : ¬ k = 66) : zgL (ynw s o) k i = zgL s k i := by
  have v : ∀ t n, zgN s 69 ≤ zgN t 69 → zgL (zuV t 69 n) k i = zgL t k i := fun t n hn => by rw [q_LuV, if_neg (fun z => h ⟨z.1, by have := z.2; omega⟩)]
  unfold ynw zuM zuV4
  simp only [q_LuF, q_LuR4]
  rw [v, v, v, v, q_LuA, q_LuA, q_LuA, q_LuA, q_LuV, if_neg (fun z => h6 z.1), q_LuW]
  all_goals simp only [q_NuV, q_NuA, q_NuW, Nat.reduceEqDiff, reduceIte, and_true, true_and, and_false, false_and, and_self, if_true, if_false, not_true_eq_false, not_false_eq_true]
  all_goals omega
/-- what the class's reading leaves as it is -/
def YE (st s : zTs) (o : Nat) : Prop := ((∀ k, ¬ k ∈ [24, 66, 68, 69] → zgN s k = zgN st k) ∧ zgN s 24 = o + 1 ∧ zgN s 66 = o + 1 ∧ zgN s 68 = o + 1 ∧ zgN st 69 ≤ zgN s 69) ∧ (∀ k i j, ¬ (k = 24 ∧ i = o) → ¬ (k = 10 ∧ i = 0 ∧ j = 11) → zgF s k i j = zgF st k i j) ∧ zgF s 10 0 11 = 0 ∧ (∀ k i j, ¬ k = 13 → zgP s k i j = zgP st k i j) ∧ (∀ k i j, ¬ k = 24 → zgO s k i j = zgO st k i j) ∧ (∀ k i j, ¬ (k = 66 ∧ i = o) → ¬ (k = 69 ∧ zgN st 69 ≤ i) → zgA s k i j = zgA st k i j) ∧ (∀ k i j, ¬ (k = 68 ∧ i = o) → zgR s k i j = zgR st k i j) ∧ (∀ k i, ¬ (k = 69 ∧ zgN st 69 ≤ i) → ¬ k = 66 → zgL s k i = zgL st k i)
theorem y_old {st s : zTs} {o : Nat} (ho : zgN st 24 = o) (h66 : zgN st 66 = o) (h68 : zgN st 68 = o) (hb : YBF o (zuP (ynw (zuF st 10 0 11 0) o) 13 0 10 o) s) : YE st s o := by
  obtain ⟨b1, b2, b3, b4, b5, b6, b7, b8, -⟩ := hb
  have ho' : zgN (zuF st 10 0 11 0) 24 = o := ho
  have h66' : zgN (zuF st 10 0 11 0) 66 = o := h66
  have h68' : zgN (zuF st 10 0 11 0) 68 = o := h68
  obtain ⟨n1, n2, n3, n4, n5⟩ := ynw_N (s := zuF st 10 0 11 0) (o := o)
  simp only [q_NuP, q_NuF] at b1 b2 b6 b8 n1 n2 n3 n4 n5
  refine ⟨⟨fun k hk => ?_, ?_, ?_, ?_, ?_⟩, fun k i j h1 h2 => ?_, ?_, fun k i j h1 => ?_, fun k i j h1 => ?_, fun k i j h1 h2 => ?_, fun k i j h1 => ?_, fun k i h1 h2 => ?_⟩
  · have k1 : ¬ k = 24 := fun e => hk (by subst e; decide)
    have k2 : ¬ k = 66 := fun e => hk (by subst e; decide)
    have k3 : ¬ k = 68 := fun e => hk (by subst e; decide)
    have k4 : ¬ k = 69 := fun e => hk (by subst e; decide)
    exact (b1 k k4).trans (n5 k k1 k2 k3 k4)
  · have := b1 24 (by decide); omega
  · have := b1 66 (by decide); omega
  · have := b1 68 (by decide); omega
  · omega
  · rw [b3 k i j h1, q_FuP, ynw_F ho' h1, q_FuF, if_neg h2]
  · rw [b3 10 0 11 (fun z => absurd z.1 (by decide)), q_FuP, ynw_F ho' (fun z => absurd z.1 (by decide)), q_FuF, if_pos ⟨rfl, rfl, rfl⟩]
  · rw [b4, q_PuP, if_neg (fun z => h1 z.1), ynw_P, q_PuF]
  · rw [b5, q_OuP, ynw_O h1, q_OuF]
  · rw [b6 k i j h1 (fun z => h2 ⟨z.1, by omega⟩), q_AuP, ynw_A h66' h1 h2, q_AuF]
  · rw [b7 k i j h1, q_RuP, ynw_R h68' h1, q_RuF]
  · rw [b8 k i (fun z => h1 ⟨z.1, by omega⟩), q_LuP, ynw_L (s := zuF st 10 0 11 0) h1 h2, q_LuF]
theorem GRr_ex {f f' F A : Nat → Int32} (he : ∀ j, j < 15 → f' j = f j) (h : GRr f F A) : GRr f' F A := by
  obtain ⟨⟨g1, g2⟩, g3⟩ := h
  refine ⟨⟨fun i hi => ?_, ?_⟩, ?_⟩
  · rw [he i (by omega)]; exact g1 i hi
  · rw [he 4 (by omega), he 5 (by omega), he 6 (by omega), he 7 (by omega)]
    exact g2
  · rw [he 8 (by omega), he 9 (by omega), he 10 (by omega), he 11 (by omega), he 12 (by omega), he 13 (by omega), he 14 (by omega)]
    exact g3
/-- what class and model leave as it is -/
def YX (st s t : zTs) : Prop := zgN t = zgN s ∧ (∀ k i j, ¬ k = 13 → ¬ k = 100 → zgF t k i j = zgF s k i j) ∧ (∀ j, ¬ j ∈ [0, 6, 7, 8, 9, 10, 11, 12, 21] → zgF t 100 0 j = zgF st 100 0 j) ∧ (∀ k i j, ¬ k = 10 → ¬ k = 13 → zgP t k i j = zgP s k i j) ∧ zgO t = zgO s ∧ (∀ k i j, ¬ k ∈ [54, 103, 104, 105, 106, 107, 108, 109, 110] → zgA t k i j = zgA s k i j) ∧ zgR t = zgR s ∧ zgL t = zgL s
theorem y_YQ {st s t : zTs} {o : Nat} (E : YE st s o) (h : YX st s t) : YQ st t := by
  obtain ⟨⟨e1, -⟩, e2, -, e3, e4, e5, e6, e7⟩ := E
  obtain ⟨x1, x2, x3, x4, x5, x6, x7, x8⟩ := h
  refine ⟨fun k hk => ?_, fun k i j hk => ?_, fun j hj => ?_, x3, fun k i j hk => ?_, fun k i j hk => ?_, fun k i j hk => ?_, fun k i j hk => ?_, fun k i hk => ?_⟩
  · rw [x1]; exact e1 k hk
  · have k1 : ¬ k = 10 := fun e => hk (by subst e; decide)
    have k2 : ¬ k = 13 := fun e => hk (by subst e; decide)
    have k3 : ¬ k = 24 := fun e => hk (by subst e; decide)
    have k4 : ¬ k = 100 := fun e => hk (by subst e; decide)
    rw [x2 k i j k2 k4]; exact e2 k i j (fun z => k3 z.1) (fun z => k1 z.1)
  · rw [x2 10 0 j (by decide) (by decide)]; exact e2 10 0 j (fun z => absurd z.1 (by decide)) (fun z => hj z.2.2)
  · have k1 : ¬ k = 10 := fun e => hk (by subst e; decide)
    have k2 : ¬ k = 13 := fun e => hk (by subst e; decide)
    rw [x4 k i j k1 k2]; exact e3 k i j k2
  · rw [x5]; exact e4 k i j hk
  · have k1 : ¬ k = 66 := fun e => hk (by subst e; decide)
    have k2 : ¬ k = 69 := fun e => hk (by subst e; decide)
    rw [x6 k i j (fun z => hk (by
      simp only [List.mem_cons, List.not_mem_nil, or_false] at z ⊢
      omega))]
    exact e5 k i j (fun z => k1 z.1) (fun z => k2 z.1)
  · rw [x7]; exact e6 k i j (fun z => hk z.1)
  · have k1 : ¬ k = 66 := fun e => hk (by subst e; decide)
    have k2 : ¬ k = 69 := fun e => hk (by subst e; decide)
    rw [x8]; exact e7 k i (fun z => k2 z.1) k1
/-- all groups, from the three that a rule changes -/
theorem y_qR {st s t : zTs} {o : Nat} (ho : zgN st 24 = o) (E : YE st s o) (h : YX st s t) (h6 : zgF t 100 0 6 = 0) (hP : GP t) (hR : GR t) (q : qR st) : qR t := by
  have hQ := y_YQ E h
  obtain ⟨hD, hO, hT, -, hW, hC, -, hK, hS, hB, hH, hG⟩ := q
  obtain ⟨r1, r2, r3, r4⟩ := YQ_1 hQ hD hO hS hB
  obtain ⟨r5, r6, r7, r8⟩ := YQ_2 hQ hW hC hH hG
  obtain ⟨⟨-, e24, -⟩, e2, e11, -, -, e5, -⟩ := E
  obtain ⟨x1, x2, -, -, -, x6, -⟩ := h
  refine ⟨r1, r2, ?_, hP, r5, r6, hR, ?_, r3, r4, r7, r8⟩
  · obtain ⟨-, -, -, t4⟩ := hT
    have k11 : zgF t 10 0 11 = 0 := (x2 10 0 11 (by decide) (by decide)).trans e11
    refine ⟨h6.trans k11.symm, by rw [k11]; decide, by rw [k11]; decide, fun j => ?_⟩
    rw [x6 43 0 j (by decide), x6 102 0 j (by decide), e5 43 0 j (fun z => absurd z.1 (by decide)) (fun z => absurd z.1 (by decide)), e5 102 0 j (fun z => absurd z.1 (by decide)) (fun z => absurd z.1 (by decide))]
    exact t4 j
  · refine YQ_K hQ (by rw [x1, e24]; omega) (fun i j hi => ?_) (fun i j hi => ?_) hK
    · rw [x2 24 i j (by decide) (by decide)]
      exact e2 24 i j (fun z => by omega) (fun z => absurd z.1 (by decide))
    · rw [x6 66 i j (by decide)]
      exact e5 66 i j (fun z => by omega) (fun z => absurd z.1 (by decide))

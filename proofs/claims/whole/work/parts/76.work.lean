/-! a new work -/
theorem GRr_congr {f f' F F' A A' : Nat → Int32} (h1 : ∀ j, j < 15 → f' j = f j) (h2 : ∀ j, F' j = F j) (h3 : ∀ j, A' j = A j) (h : GRr f F A) : GRr f' F' A' := by
  obtain ⟨⟨a1, a2, a3, a4, a5⟩, ⟨b1, b2, b3, b4, b5, b6, b7⟩, c, d⟩ := h
  have e2 : F' = F := funext h2
  have e3 : A' = A := funext h3
  rw [e2, e3]
  refine ⟨⟨fun j hj => ?_, ?_, ?_, ?_, ?_⟩, ⟨?_, ?_, ?_, ?_, ?_, ?_, ?_⟩, c, d⟩
  · rw [h1 j (by omega)]; exact a1 j hj
  · rw [h1 4 (by decide)]; exact a2
  · rw [h1 5 (by decide)]; exact a3
  · rw [h1 6 (by decide)]; exact a4
  · rw [h1 7 (by decide)]; exact a5
  · rw [h1 8 (by decide)]; exact b1
  · rw [h1 9 (by decide)]; exact b2
  · rw [h1 10 (by decide)]; exact b3
  · rw [h1 11 (by decide)]; exact b4
  · rw [h1 12 (by decide)]; exact b5
  · rw [h1 13 (by decide)]; exact b6
  · rw [h1 14 (by decide)]; exact b7
/-- cells of the model that hold one number a work -/
def qone (k : Nat) : Prop := k = 112 ∨ k = 113 ∨ k = 114 ∨ k = 115 ∨ k = 117 ∨ k = 118 ∨ k = 119 ∨ k = 120 ∨ k = 121 ∨ k = 122 ∨ k = 123 ∨ k = 124 ∨ k = 125 ∨ k = 126 ∨ k = 127 ∨ k = 128 ∨ k = 142 ∨ k = 143 ∨ k = 149 ∨ k = 150
theorem GK5_same {s T : zTs} {w : Nat} (h : GK5 s w) (N20 : zgN T 20 = zgN s 20) (N24 : zgN T 24 = zgN s 24) (N25 : zgN T 25 = zgN s 25) (t10 : zgF T 10 0 15 = zgF s 10 0 15)
    (tF21 : ∀ j, zgF T 21 w j = zgF s 21 w j) (tP21 : ∀ j, zgP T 21 w j = zgP s 21 w j) (tO21 : ∀ j, zgO T 21 w j = zgO s 21 w j)
    (tF24 : ∀ i j, zgF T 24 i j = zgF s 24 i j) (tF25 : ∀ i j, zgF T 25 i j = zgF s 25 i j) (tA66 : ∀ i j, zgA T 66 i j = zgA s 66 i j) (tA61 : ∀ j, zgA T 61 w j = zgA s 61 w j) (tR67 : ∀ j, zgR T 67 w j = zgR s 67 w j)
    (tA : ∀ k, qone k → zgA T k 0 w = zgA s k 0 w) (tA116 : ∀ j, j < 15 → zgA T 116 0 (15 * w + j) = zgA s 116 0 (15 * w + j))
    (tA3 : ∀ k, (k = 131 ∨ k = 132 ∨ k = 133 ∨ k = 134) → ∀ m, m < 3 → zgA T k 0 (3 * w + m) = zgA s k 0 (3 * w + m)) : GK5 T w := by
  obtain ⟨g1, g2, g3, g4, g5⟩ := h
  have s3 : (zgF s 21 w 2).toNatClampNeg < 15 := by
    obtain ⟨-, -, -, -, -, s0, s1, -⟩ := id g2
    exact q_tlt (b := 15) s0 (by lia) rfl
  refine ⟨⟨?_, ?_, ?_⟩, ?_, fun m hm => ?_, ?_, ?_⟩
  · rw [tP21]
    exact GRr_congr tA116 (fun j => tF24 _ _) (fun j => tA66 _ _) g1.1
  · rw [tP21, N24]; exact g1.2.1
  · rw [tP21, tF24]; exact g1.2.2
  · simp only [GKa, tA 112 (by unfold qone; decide), tA 113 (by unfold qone; decide), tA 114 (by unfold qone; decide), tA 142 (by unfold qone; decide), tA 143 (by unfold qone; decide), tA 149 (by unfold qone; decide), tA 150 (by unfold qone; decide), tP21, tF21, N20]
    exact g2
  · rw [tA61, tR67, tA3 131 (by decide) m hm, tA3 132 (by decide) m hm, tA3 133 (by decide) m hm, tA3 134 (by decide) m hm, N25]
    simp only [tF25]
    exact g3 m hm
  · simp only [GKv, tA 120 (by unfold qone; decide), tA 121 (by unfold qone; decide), tA 122 (by unfold qone; decide), tA 123 (by unfold qone; decide), tA 124 (by unfold qone; decide), tO21, tF21, tF25, N25, t10]
    exact g4
  · simp only [GKs, qla, tA 115 (by unfold qone; decide), tA 117 (by unfold qone; decide), tA 118 (by unfold qone; decide), tA 119 (by unfold qone; decide), tA 120 (by unfold qone; decide), tA 122 (by unfold qone; decide), tA 125 (by unfold qone; decide), tA 126 (by unfold qone; decide), tA 127 (by unfold qone; decide), tA 128 (by unfold qone; decide), tF21, t10, tA116 4 (by decide), tA116 5 (by decide), tA116 6 (by decide), tA116 7 (by decide), tA116 _ s3]
    exact g5
theorem GK_new {s T : zTs} {n W : Nat} {b c v : Int32} (h : GK s) (hR : GR s) (hD : GD s) (hn : n = zgN s 21) (n30 : n < 30) (hW0 : W < zgN s 20) (hb : b = 0 ∨ b = 1) (c0 : 0 ≤ c) (c3 : c ≤ 3)
    (t21 : zgN T 21 = n + 1) (t61 : zgN T 61 = n + 1) (t67 : zgN T 67 = n + 1) (N20 : zgN T 20 = zgN s 20) (N24 : zgN T 24 = zgN s 24) (N25 : zgN T 25 = zgN s 25)
    (tGL : GL 31 35 (n + 1) T) (t23 : zgF T 100 0 23 = zgF T 31 0 2) (t10 : zgF T 10 0 15 = zgF s 10 0 15)
    (tF21 : ∀ w, ¬ w = n → ∀ j, zgF T 21 w j = zgF s 21 w j) (tP21 : ∀ w, ¬ w = n → ∀ j, zgP T 21 w j = zgP s 21 w j) (tO21 : ∀ w, ¬ w = n → ∀ j, zgO T 21 w j = zgO s 21 w j)
    (tF24 : ∀ i j, zgF T 24 i j = zgF s 24 i j) (tF25 : ∀ i j, zgF T 25 i j = zgF s 25 i j) (tA66 : ∀ i j, zgA T 66 i j = zgA s 66 i j) (tA61 : ∀ w, ¬ w = n → ∀ j, zgA T 61 w j = zgA s 61 w j) (tR67 : ∀ w, ¬ w = n → ∀ j, zgR T 67 w j = zgR s 67 w j)
    (tA : ∀ k, qone k → ∀ w, ¬ w = n → zgA T k 0 w = zgA s k 0 w) (tA116 : ∀ w, ¬ w = n → ∀ j, j < 15 → zgA T 116 0 (15 * w + j) = zgA s 116 0 (15 * w + j))
    (tA3 : ∀ k, (k = 131 ∨ k = 132 ∨ k = 133 ∨ k = 134) → ∀ w, ¬ w = n → ∀ m, m < 3 → zgA T k 0 (3 * w + m) = zgA s k 0 (3 * w + m))
    (e0 : zgP T 21 n 0 = W) (e3 : zgP T 21 n 3 = zgP s 10 0 16) (eO : zgO T 21 n 10 = none) (f1 : zgF T 21 n 1 = b) (f2 : zgF T 21 n 2 = c) (f4 : zgF T 21 n 4 = v) (f7 : zgF T 21 n 7 = -1) (f9 : zgF T 21 n 9 = -1) (f14 : zgF T 21 n 14 = 0) (f15 : zgF T 21 n 15 = 0) (f16 : zgF T 21 n 16 = -1) (f17 : zgF T 21 n 17 = 0)
    (a112 : zgA T 112 0 n = Int32.ofNat W) (a113 : zgA T 113 0 n = b) (a114 : zgA T 114 0 n = c) (a115 : (zgA T 115 0 n = 0 ∧ v = 1) ∨ (¬ zgA T 115 0 n = 0 ∧ v = 0)) (a116 : ∀ j, j < 15 → zgA T 116 0 (15 * n + j) = zgA s 103 0 j) (a117 : zgA T 117 0 n = -1) (a125 : zgA T 125 0 n = -1) (a127 : zgA T 127 0 n = -1)
    (az : ∀ k, (k = 118 ∨ k = 120 ∨ k = 126 ∨ k = 142 ∨ k = 143 ∨ k = 149 ∨ k = 150) → zgA T k 0 n = zgA s k 0 n)
    (a61 : ∀ m, m < 3 → zgA T 61 n m = -1) (a131 : ∀ m, m < 3 → zgA T 131 0 (3 * n + m) = -1) (a132 : ∀ m, m < 3 → zgA T 132 0 (3 * n + m) = -1) (r67 : ∀ m, m < 3 → zgR T 67 n m = none) (rest : ¬ zgF s 24 (zgP s 10 0 16) 4 = 127) : GK T := by
  obtain ⟨x1, x2, x3⟩ := GK_iff.mp h
  obtain ⟨z118, z120, z126, z142, z143, z149, z150⟩ := x3 n (by omega) n30
  refine GK_iff.mpr ⟨⟨by rw [t21]; exact tGL, t23, by omega, by omega, by omega⟩, fun w hw => ?_, fun w h1 h2 => ?_⟩
  · rw [t21] at hw
    by_cases e : w = n
    · subst e
      refine ⟨⟨?_, ?_, ?_⟩, ⟨?_, ?_, ?_, ?_, ?_, ?_, ?_, ?_, ?_, ?_, ?_, ?_⟩, fun m hm => ⟨?_, ?_, ?_, ?_⟩, ?_, ?_⟩
      · rw [e3]
        exact GRr_congr a116 (fun j => tF24 _ _) (fun j => tA66 _ _) hR.2.2.2.2.1
      · rw [e3, N24]; exact hR.1
      · rw [e3, tF24]; exact rest
      · rw [a112, e0]
      · rw [e0, N20]; exact hW0
      · rw [a113, f1]
      · rw [f1]; exact hb
      · rw [a114, f2]
      · rw [f2]; exact c0
      · rw [f2]; exact c3
      · rw [az 142 (by decide), z142, f14]
      · rw [az 143 (by decide), z143, f15]
      · rw [az 149 (by decide), z149, f16]; exact .inl ⟨rfl, rfl⟩
      · rw [az 150 (by decide), z150, f17]
      · rw [f17]; exact .inl rfl
      · rw [a61 m hm, a131 m hm]
      · rw [a61 m hm]; exact Int32.le_refl _
      · rw [a61 m hm]; decide
      · rw [r67 m hm, a132 m hm]; exact .inl ⟨rfl, rfl⟩
      · exact .inl ⟨eO, by rw [az 120 (by decide)]; exact z120⟩
      · have d2 := hD.2.1
        unfold GKs
        rw [a117, a125, a127, f9, f7, f4, az 126 (by decide), z126, az 120 (by decide), z120, az 118 (by decide), z118, t10]
        refine ⟨rfl, Int32.le_refl _, by lia, Int32.le_refl _, by lia, Int32.le_refl _, by lia, ?_⟩
        rcases a115 with ⟨y1, y2⟩ | ⟨y1, y2⟩
        · exact .inr (.inl ⟨rfl, rfl, y1, y2, rfl, rfl⟩)
        · exact .inr (.inr (.inl ⟨rfl, rfl, y1, rfl, rfl, rfl, y2, rfl, rfl⟩))
    · exact GK5_same (x2 w (by omega)) N20 N24 N25 t10 (tF21 w e) (tP21 w e) (tO21 w e) tF24 tF25 tA66 (tA61 w e) (tR67 w e) (fun k hk => tA k hk w e) (tA116 w e) (fun k hk => tA3 k hk w e)
  · rw [t21] at h1
    have e : ¬ w = n := by omega
    have z := x3 w (by omega) h2
    unfold GKz at z ⊢
    rw [tA 118 (by unfold qone; decide) w e, tA 120 (by unfold qone; decide) w e, tA 126 (by unfold qone; decide) w e, tA 142 (by unfold qone; decide) w e, tA 143 (by unfold qone; decide) w e, tA 149 (by unfold qone; decide) w e, tA 150 (by unfold qone; decide) w e]
    exact z
theorem lm_184 {P : Int32 → zTs → Prop} {st : zTs} {n : Nat} (hn : n < 30) (fin : ∀ G, (∀ j, j < 15 → G (15 * n + j) = zgA st 103 0 j) → (∀ c, (c < 15 * n ∨ 15 * n + 15 ≤ c) → G c = zgA st 116 0 c) → w_X12_work_252 P zfu (zuA (zuA (zuA (zuA (zuB st 116 0 G) 117 0 n (-1)) 125 0 n (-1)) 127 0 n (-1)) 128 0 n (-1)) (Int32.ofNat n) 0) : ∀ (m i : Nat) (G : Nat → Int32), i ≤ 15 → 15 - i < m → (∀ j, j < i → G (15 * n + j) = zgA st 103 0 j) → (∀ c, (c < 15 * n ∨ 15 * n + 15 ≤ c) → G c = zgA st 116 0 c) → w_X12_work_184 P m (zuB st 116 0 G) (Int32.ofNat n) (Int32.ofNat i) := by
  intro m
  induction m with
  | zero => intro i G h0 h1; omega
  | succ m ih =>
    intro i G h0 h1 h2 h3
    have vn : vp_in (Int32.ofNat n) 30 := q_nv hn (by omega)
    rw [w_X12_work_184]
    refine ⟨fun z => ?_, fun z => ?_⟩
    · have z := (q_nle (a := 15) (by decide) (by omega)).mp z
      have e : i = 15 := by omega
      subst e
      rw [q_on (by omega)]
      refine ⟨vn, fun u1 e1 => ⟨vn, fun u2 e2 => ⟨vn, fun u3 e3 => ⟨vn, fun u4 e4 => ?_⟩⟩⟩⟩
      subst e4
      subst e3
      subst e2
      subst e1
      exact fin G h2 h3
    · have z : ¬ 15 ≤ i := fun w => z ((q_nle (a := 15) (by decide) (by omega)).mpr w)
      obtain ⟨e, v⟩ := q_pl (m := 15) (a := Int32.ofNat n) (b := Int32.ofNat i) (M := 15) (N := 450) rfl (q_n0 (by omega)) (q_n0 (by omega)) (by rw [q_on (by omega), q_on (by omega)]; omega) (by omega)
      rw [q_on (by omega), q_on (by omega)] at e
      have e103 : zgA (zuB st 116 0 G) 103 0 (Int32.ofNat i).toNatClampNeg = zgA st 103 0 i := by rw [q_on (by omega)]; simp only [q_NuF, q_FuF, q_PuF, q_OuF, q_AuF, q_RuF, q_LuF, q_JuF, q_NuP, q_FuP, q_PuP, q_OuP, q_AuP, q_RuP, q_LuP, q_JuP, q_NuO, q_FuO, q_PuO, q_OuO, q_AuO, q_RuO, q_LuO, q_JuO, q_NuA, q_FuA, q_PuA, q_OuA, q_AuA, q_RuA, q_LuA, q_JuA, q_NuR, q_FuR, q_PuR, q_OuR, q_AuR, q_RuR, q_LuR, q_JuR, q_NuJ, q_FuJ, q_PuJ, q_OuJ, q_AuJ, q_RuJ, q_LuJ, q_JuJ, q_NuL, q_FuL, q_PuL, q_OuL, q_AuL, q_RuL, q_LuL, q_JuL, q_NuB, q_FuB, q_PuB, q_OuB, q_AuB, q_RuB, q_LuB, q_JuB, q_NuW, q_FuW, q_PuW, q_OuW, q_AuW, q_RuW, q_LuW, q_JuW, q_NuV, q_FuV, q_PuV, q_OuV, q_AuV, q_RuV, q_LuV, q_JuV, q_NuU, q_FuU, q_PuU, q_OuU, q_AuU, q_RuU, q_LuU, q_JuU, q_NuX, q_FuX, q_PuX, q_OuX, q_AuX, q_RuX, q_LuX, q_JuX, q_NuR4, q_FuR4, q_PuR4, q_OuR4, q_AuR4, q_RuR4, q_LuR4, q_JuR4, Nat.reduceEqDiff, reduceIte, and_true, true_and, and_false, false_and, and_self, if_true, if_false, not_true_eq_false, not_false_eq_true]
      rw [e, e103]
      refine ⟨q_nv (by omega) (by omega), v, fun u hu x hx => ?_⟩
      subst hu
      subst hx
      rw [zuA_fuse, q_os (by omega)]
      refine ih (i + 1) _ (by omega) (by omega) (fun j hj => ?_) (fun c hc => ?_)
      · show (if 15 * n + j = 15 * n + i then _ else _) = _
        by_cases ej : j = i
        · rw [if_pos (by rw [ej]), ej]
        · rw [if_neg (by omega)]; exact h2 j (by omega)
      · show (if c = 15 * n + i then _ else _) = _
        rw [if_neg (by omega)]
        exact h3 c hc
theorem lm_252 {P : Int32 → zTs → Prop} {t : zTs} {n : Nat} (hn : n < 30) (h : P (Int32.ofNat n) (zuF (zuA (zuA (zuA (zuA (zuA (zuA t 131 0 (3 * n + 0) (-1)) 132 0 (3 * n + 0) (-1)) 131 0 (3 * n + 1) (-1)) 132 0 (3 * n + 1) (-1)) 131 0 (3 * n + 2) (-1)) 132 0 (3 * n + 2) (-1)) 100 0 23 (zgF t 100 0 23 + 1))) : w_X12_work_252 P zfu t (Int32.ofNat n) 0 := by
  have n0 := q_n0 (n := n) (by omega)
  have nn := q_on (n := n) (by omega)
  obtain ⟨v0, e0⟩ := q_90 (a := Int32.ofNat n) (b := 0) n0 (by rw [nn]; exact hn) (by decide) (by decide)
  obtain ⟨v1, e1⟩ := q_90 (a := Int32.ofNat n) (b := 1) n0 (by rw [nn]; exact hn) (by decide) (by decide)
  obtain ⟨v2, e2⟩ := q_90 (a := Int32.ofNat n) (b := 2) n0 (by rw [nn]; exact hn) (by decide) (by decide)
  rw [nn] at e0 e1 e2
  show w_X12_work_252 P (99996 + 1 + 1 + 1 + 1) t (Int32.ofNat n) 0
  rw [w_X12_work_252, e0]
  refine ⟨fun c => absurd c (by decide), fun _ => ⟨v0, fun u hu => ⟨v0, fun u' hu' x hx => ?_⟩⟩⟩
  subst hu'
  subst hu
  subst hx
  rw [show (0 : Int32) + 1 = 1 from rfl, w_X12_work_252, e1]
  refine ⟨fun c => absurd c (by decide), fun _ => ⟨v1, fun u hu => ⟨v1, fun u' hu' x hx => ?_⟩⟩⟩
  subst hu'
  subst hu
  subst hx
  rw [show (1 : Int32) + 1 = 2 from rfl, w_X12_work_252, e2]
  refine ⟨fun c => absurd c (by decide), fun _ => ⟨v2, fun u hu => ⟨v2, fun u' hu' x hx => ?_⟩⟩⟩
  subst hu'
  subst hu
  subst hx
  rw [show (2 : Int32) + 1 = 3 from rfl, w_X12_work_252]
  refine ⟨fun _ u hu => ?_, fun c => absurd (by decide) c⟩
  subst hu
  exact h

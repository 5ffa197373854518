/-! who is appointed, and the third -/
/-- whether one of the owners is kin -/
def qbr (K O : Nat → Int32) (p q : Nat) (x : Int32) : Bool := decide (((K x.toNatClampNeg >>> (O p &&& 31)) &&& 1) = 1) || decide (((K x.toNatClampNeg >>> (O q &&& 31)) &&& 1) = 1)
theorem i_isBarred {P : Int32 → Prop} {t : zTs} {x : Int32} {W : Nat} (hx : vp_in x 12) (h1 : qbr (zgA t 40 0) (zgA t 55 W) 0 1 x = true → P 1) (h0 : qbr (zgA t 40 0) (zgA t 55 W) 0 1 x = false → P 0) : w_X11_isBarred t x W P := by
  unfold qbr at h1 h0
  refine ⟨hx, q_vpi (by decide) (by decide), fun c => h1 ?_, fun c => ⟨hx, q_vpi (by decide) (by decide), fun c' => h1 ?_, fun c' => h0 ?_⟩⟩
  · rw [Bool.or_eq_true]; exact .inl (decide_eq_true c)
  · rw [Bool.or_eq_true]; exact .inr (decide_eq_true c')
  · rw [Bool.or_eq_false_iff]; exact ⟨decide_eq_false c, decide_eq_false c'⟩
theorem im_isBarred {P : Int32 → Prop} {t : zTs} {a x : Int32} {W : Nat} (hv : vp_in a 30) (hx : vp_in x 12) (e : zgA t 112 0 a.toNatClampNeg = Int32.ofNat W) (hW : W < 6) (h1 : qbr (zgA t 129 0) (zgA t 101 0) (2 * W) (2 * W + 1) x = true → P 1) (h0 : qbr (zgA t 129 0) (zgA t 101 0) (2 * W) (2 * W + 1) x = false → P 0) : w_X12_isBarred t a x P := by
  obtain ⟨v0, e0⟩ := q_own (sd := 0) hW (.inl rfl)
  obtain ⟨v1, e1⟩ := q_own (sd := 1) hW (.inr rfl)
  rw [Int32.add_zero] at v0 e0
  have e0 : (2 * Int32.ofNat W).toNatClampNeg = 2 * W := e0
  have e1 : (2 * Int32.ofNat W + 1).toNatClampNeg = 2 * W + 1 := e1
  unfold qbr at h1 h0
  refine ⟨hv, fun y hy => ?_⟩
  rw [e] at hy
  subst hy
  rw [e0, e1]
  refine ⟨hx, v0, fun c => h1 ?_, fun c => ⟨hx, v1, fun c' => h1 ?_, fun c' => h0 ?_⟩⟩
  · rw [Bool.or_eq_true]; exact .inl (decide_eq_true c)
  · rw [Bool.or_eq_true]; exact .inr (decide_eq_true c')
  · rw [Bool.or_eq_false_iff]; exact ⟨decide_eq_false c, decide_eq_false c'⟩
/-- who becomes third -/
def qch (sv n0 n1 : Int32) (B : Int32 → Bool) (T : Nat → Int32) : Nat → Int32 → Int32 → Int32
  | 0, c, _ => c
  | n + 1, c, i => if sv ≤ i then c else qch sv n0 n1 B T n (if i = n0 then c else if i = n1 then c else if B i = true then c else if c = -1 then i else if T c.toNatClampNeg ≤ T i.toNatClampNeg then c else i) (i + 1)
theorem qch_hi {sv n0 n1 : Int32} {B : Int32 → Bool} {T : Nat → Int32} (h2 : sv ≤ 12) : ∀ (n : Nat) (c i : Int32), 0 ≤ i → i ≤ sv → (c = -1 ∨ (0 ≤ c ∧ c < sv)) → qch sv n0 n1 B T n c i = -1 ∨ (0 ≤ qch sv n0 n1 B T n c i ∧ qch sv n0 n1 B T n c i < sv) := by
  intro n
  induction n with
  | zero => intro c i h0 h1 hc; exact hc
  | succ n ih =>
    intro c i h0 h1 hc
    rw [qch]
    split
    · exact hc
    · refine ih _ _ (by lia) (by lia) ?_
      repeat' split
      all_goals first | exact hc | exact .inr ⟨h0, by lia⟩
theorem l_third {P : zTs → Prop} {st : zTs} {k : Nat} {B : Int32 → Bool} (hB : ∀ (x : Int32) (Q : Int32 → Prop), vp_in x 12 → (B x = true → Q 1) → (B x = false → Q 0) → w_X11_isBarred st x (zgP st 21 k 0) Q) {sv : Int32} (hm : zgF st 10 0 13 = sv) (h2 : sv ≤ 12) : ∀ (n : Nat) (c i : Int32), 0 ≤ i → i ≤ sv → sv.toInt - i.toInt < n → (c = -1 ∨ (0 ≤ c ∧ c < sv)) →
    (qch sv (zgA st 61 k 0) (zgA st 61 k 1) B (zgA st 41 0) n c i = -1 → P (zuA st 61 k 2 (qch sv (zgA st 61 k 0) (zgA st 61 k 1) B (zgA st 41 0) n c i))) →
    (¬ qch sv (zgA st 61 k 0) (zgA st 61 k 1) B (zgA st 41 0) n c i = -1 → P (zuA (zuA st 41 0 (qch sv (zgA st 61 k 0) (zgA st 61 k 1) B (zgA st 41 0) n c i).toNatClampNeg (zgA st 41 0 (qch sv (zgA st 61 k 0) (zgA st 61 k 1) B (zgA st 41 0) n c i).toNatClampNeg + 1)) 61 k 2 (qch sv (zgA st 61 k 0) (zgA st 61 k 1) B (zgA st 41 0) n c i))) → w_X11_chooseThird_4 P n st k c i := by
  intro n
  induction n with
  | zero => intro c i h0 h1 hn; exact (q_bad h1 hn).elim
  | succ n ih =>
    intro c i h0 h1 hn hc f1 f2
    rw [w_X11_chooseThird_4, hm]
    rw [qch] at f1 f2
    by_cases e : sv ≤ i
    · simp only [if_pos e] at f1 f2
      refine ⟨fun _ => ⟨fun z => ⟨q_vpi (by decide) (by decide), fun u hu => by subst hu; exact f1 z⟩, fun z => ?_⟩, fun z => absurd e z⟩
      have v : vp_in c 12 := q_vpi (by simp only [q_ti]; lia) (by simp only [q_ti]; lia)
      exact ⟨v, v, fun u hu => ⟨q_vpi (by decide) (by decide), fun u' hu' => by subst hu; subst hu'; exact f2 z⟩⟩
    · simp only [if_neg e] at f1 f2
      obtain ⟨e0, e1, e2⟩ := q_step h0 h2 hn e
      have vi : vp_in i 12 := q_vpi (by simp only [q_ti]; lia) (by simp only [q_ti]; lia)
      have same : (c = -1 ∨ (0 ≤ c ∧ c < sv)) := hc
      have here : (i = -1 ∨ (0 ≤ i ∧ i < sv)) := .inr ⟨h0, Int32.not_le.mp e⟩
      refine ⟨fun z => absurd z e, fun _ => ⟨q_vpi (by decide) (by decide), fun a0 => ?_, fun a0 => ⟨q_vpi (by decide) (by decide), fun a1 => ?_, fun a1 => ?_⟩⟩⟩
      · have a0 : i = zgA st 61 k 0 := a0
        rw [if_pos a0] at f1 f2
        exact ⟨fun _ u hu => by subst hu; exact ih _ _ e0 e1 e2 same f1 f2, fun z => absurd rfl z⟩
      · have a0 : ¬ i = zgA st 61 k 0 := a0
        have a1 : i = zgA st 61 k 1 := a1
        rw [if_neg a0, if_pos a1] at f1 f2
        exact ⟨fun _ u hu => by subst hu; exact ih _ _ e0 e1 e2 same f1 f2, fun z => absurd rfl z⟩
      · have a0 : ¬ i = zgA st 61 k 0 := a0
        have a1 : ¬ i = zgA st 61 k 1 := a1
        rw [if_neg a0, if_neg a1] at f1 f2
        refine hB i _ vi (fun b => ⟨fun z => absurd z (by decide), fun _ => ?_⟩) (fun b => ⟨fun _ => ⟨fun z => absurd z (by decide), fun _ => ⟨fun z => ?_, fun z => ⟨vi, ?_, fun y => ?_, fun y => ?_⟩⟩⟩, fun z => absurd rfl z⟩)
        · rw [if_pos b] at f1 f2
          exact ⟨fun _ u hu => by subst hu; exact ih _ _ e0 e1 e2 same f1 f2, fun z => absurd rfl z⟩
        · rw [if_neg (by rw [b]; decide), if_pos z] at f1 f2
          exact fun u hu => by subst hu; exact ih _ _ e0 e1 e2 here f1 f2
        · exact q_vpi (by simp only [q_ti]; lia) (by simp only [q_ti]; lia)
        · rw [if_neg (by rw [b]; decide), if_neg z, if_pos y] at f1 f2
          exact fun u hu => by subst hu; exact ih _ _ e0 e1 e2 same f1 f2
        · rw [if_neg (by rw [b]; decide), if_neg z, if_neg y] at f1 f2
          exact fun u hu => by subst hu; exact ih _ _ e0 e1 e2 here f1 f2
theorem lm_third {P : zTs → Prop} {st : zTs} {a n0 n1 : Int32} {B : Int32 → Bool} (hB : ∀ (x : Int32) (Q : Int32 → Prop), vp_in x 12 → (B x = true → Q 1) → (B x = false → Q 0) → w_X12_isBarred st a x Q) {sv : Int32} (hm : zgF st 100 0 41 = sv) (h2 : sv ≤ 12) (i0 : vp_in (3 * a) 90 ∧ zgA st 131 0 (3 * a).toNatClampNeg = n0) (i1 : vp_in (3 * a + 1) 90 ∧ zgA st 131 0 (3 * a + 1).toNatClampNeg = n1) (i2 : vp_in (3 * a + 2) 90) : ∀ (n : Nat) (c i : Int32), 0 ≤ i → i ≤ sv → sv.toInt - i.toInt < n → (c = -1 ∨ (0 ≤ c ∧ c < sv)) →
    (qch sv n0 n1 B (zgA st 130 0) n c i = -1 → P (zuA st 131 0 (3 * a + 2).toNatClampNeg (qch sv n0 n1 B (zgA st 130 0) n c i))) →
    (¬ qch sv n0 n1 B (zgA st 130 0) n c i = -1 → P (zuA (zuA st 131 0 (3 * a + 2).toNatClampNeg (qch sv n0 n1 B (zgA st 130 0) n c i)) 130 0 (qch sv n0 n1 B (zgA st 130 0) n c i).toNatClampNeg (zgA st 130 0 (qch sv n0 n1 B (zgA st 130 0) n c i).toNatClampNeg + 1))) → w_X12_thirdFor_4 P n st a c i := by
  intro n
  induction n with
  | zero => intro c i h0 h1 hn; exact (q_bad h1 hn).elim
  | succ n ih =>
    intro c i h0 h1 hn hc f1 f2
    rw [w_X12_thirdFor_4, hm, i0.2, i1.2]
    rw [qch] at f1 f2
    by_cases e : sv ≤ i
    · simp only [if_pos e] at f1 f2
      refine ⟨fun _ => ⟨i2, fun u hu => ⟨fun z => ?_, fun z => ?_⟩⟩, fun z => absurd e z⟩
      · subst hu
        exact f1 (by lia)
      · have v : vp_in c 12 := q_vpi (by simp only [q_ti]; lia) (by simp only [q_ti]; lia)
        refine ⟨v, v, fun u' hu' => ?_⟩
        subst hu
        subst hu'
        simp only [q_NuF, q_FuF, q_PuF, q_OuF, q_AuF, q_RuF, q_LuF, q_JuF, q_NuP, q_FuP, q_PuP, q_OuP, q_AuP, q_RuP, q_LuP, q_JuP, q_NuO, q_FuO, q_PuO, q_OuO, q_AuO, q_RuO, q_LuO, q_JuO, q_NuA, q_FuA, q_PuA, q_OuA, q_AuA, q_RuA, q_LuA, q_JuA, q_NuR, q_FuR, q_PuR, q_OuR, q_AuR, q_RuR, q_LuR, q_JuR, q_NuJ, q_FuJ, q_PuJ, q_OuJ, q_AuJ, q_RuJ, q_LuJ, q_JuJ, q_NuL, q_FuL, q_PuL, q_OuL, q_AuL, q_RuL, q_LuL, q_JuL, q_NuB, q_FuB, q_PuB, q_OuB, q_AuB, q_RuB, q_LuB, q_JuB, q_NuW, q_FuW, q_PuW, q_OuW, q_AuW, q_RuW, q_LuW, q_JuW, q_NuV, q_FuV, q_PuV, q_OuV, q_AuV, q_RuV, q_LuV, q_JuV, q_NuU, q_FuU, q_PuU, q_OuU, q_AuU, q_RuU, q_LuU, q_JuU, q_NuX, q_FuX, q_PuX, q_OuX, q_AuX, q_RuX, q_LuX, q_JuX, q_NuR4, q_FuR4, q_PuR4, q_OuR4, q_AuR4, q_RuR4, q_LuR4, q_JuR4, Nat.reduceEqDiff, reduceIte, and_true, true_and, and_false, false_and, and_self, if_true, if_false, not_true_eq_false, not_false_eq_true]
        exact f2 (by lia)
    · simp only [if_neg e] at f1 f2
      obtain ⟨e0, e1, e2⟩ := q_step h0 h2 hn e
      have vi : vp_in i 12 := q_vpi (by simp only [q_ti]; lia) (by simp only [q_ti]; lia)
      have same : (c = -1 ∨ (0 ≤ c ∧ c < sv)) := hc
      have here : (i = -1 ∨ (0 ≤ i ∧ i < sv)) := .inr ⟨h0, Int32.not_le.mp e⟩
      refine ⟨fun z => absurd z e, fun _ => ⟨i0.1, fun a0 => ?_, fun a0 => ⟨i1.1, fun a1 => ?_, fun a1 => ?_⟩⟩⟩
      · rw [if_pos a0] at f1 f2
        exact fun u hu => by subst hu; exact ih _ _ e0 e1 e2 same f1 f2
      · rw [if_neg a0, if_pos a1] at f1 f2
        exact fun u hu => by subst hu; exact ih _ _ e0 e1 e2 same f1 f2
      · rw [if_neg a0, if_neg a1] at f1 f2
        refine hB i _ vi (fun b => ⟨fun z => absurd z (by decide), fun _ => ?_⟩) (fun b => ⟨fun _ => ⟨fun z => ?_, fun z => ⟨vi, ?_, fun y => ?_, fun y => ?_⟩⟩, fun z => absurd rfl z⟩)
        · rw [if_pos b] at f1 f2
          exact fun u hu => by subst hu; exact ih _ _ e0 e1 e2 same f1 f2
        · have z' : c = -1 := by lia
          rw [if_neg (by rw [b]; decide), if_pos z'] at f1 f2
          exact fun u hu => by subst hu; exact ih _ _ e0 e1 e2 here f1 f2
        · exact q_vpi (by simp only [q_ti]; lia) (by simp only [q_ti]; lia)
        · have z' : ¬ c = -1 := by lia
          rw [if_neg (by rw [b]; decide), if_neg z', if_pos y] at f1 f2
          exact fun u hu => by subst hu; exact ih _ _ e0 e1 e2 same f1 f2
        · have z' : ¬ c = -1 := by lia
          rw [if_neg (by rw [b]; decide), if_neg z', if_neg y] at f1 f2
          exact fun u hu => by subst hu; exact ih _ _ e0 e1 e2 here f1 f2
theorem im_side1 {P : Int32 → Prop} {t : zTs} {x : Int32} (h : x = 0 ∨ x = 1) (k : P 1) : w_X12_isSide t x P := ⟨fun _ => k, fun c => ⟨fun _ => k, fun c' => (h.elim c c').elim⟩⟩
theorem im_side0 {P : Int32 → Prop} {t : zTs} {x : Int32} (h : ¬ (x = 0 ∨ x = 1)) (k : P 0) : w_X12_isSide t x P := ⟨fun c => absurd (.inl c) h, fun _ => ⟨fun c => absurd (.inr c) h, fun _ => k⟩⟩
theorem i_index {X : Nat → Prop} {P : Prop} {s : zTs} {x n : Int32} (h1 : (x < 0 ∨ ¬ x < n) → X 0) (h2 : ¬ x < 0 → x < n → P) : w_X11_checkIndex s x n X P := ⟨fun c => h1 (.inl c), fun c => ⟨fun e => h2 c e, fun e => h1 (.inr e)⟩⟩
theorem i_appointBy {P : Int32 → Prop} {s : zTs} {k : Nat} (g : GK5 s k) (c : zgF s 21 k 4 = 4) (h : P (qdp s k)) : w_X10_appointBy s k P := by
  obtain ⟨g1, g2, g3, g4, g5⟩ := g
  obtain ⟨⟨n1, e4, e5, e6, e7⟩, ⟨e8, e9, -⟩, ⟨p0, p1, r0, r1, y0, y1, z0, z1, x0, x1⟩, -⟩ := GKr_un g1
  have hr : zgF s 24 (zgP s 21 k 3) 4 < 127 := by have := g1.2.2; lia
  obtain ⟨u1, u2, u3, u4, u5, u6, u7, u8, -⟩ := GKs_disp g5 c
  unfold w_X10_appointBy
  refine i_countFrom r0 r1 (Or.inl hr) u7 (by lia) z0 z1 ?_
  rw [← e5, ← e8]
  exact h
theorem b_appoint {st : zTs} {a b c d : Int32} (h : qR st) : w_X11_appoint st a b c d (fun k s => (k = 0 ∧ w_X12_appoint s a b c d (zOK 1 0)) ∨ (k = 1 ∧ w_X12_appoint s a b c d (zOK 2 0))) (fun r s => w_X12_appoint s a b c d (zOK 0 r)) := by
  unfold w_X11_appoint
  refine i_workAt h (fun c => .inl ⟨rfl, ?_⟩) (fun s hs c1 c2 hk hh => ?_)
  · exact im_isWorkN qmc_rf h c ⟨fun _ => zOK_t h (by decide), fun e => absurd rfl e⟩
  · have hs' := hs; obtain ⟨hD, hO, hT, hP, hW, hC, hR, hK, hS, hB, hH, hG⟩ := hs'
    have g := (GK_iff.mp hK).2.1 _ hk
    obtain ⟨g1, g2, g3, g4, g5⟩ := id g
    have hn : a.toNatClampNeg < 30 := by have := hK.2.2.1; omega
    have hv : vp_in a 30 := q_i30 c1 hn
    obtain ⟨d1, d2, d3⟩ := id hD
    obtain ⟨s1, s2, s3, s4, s5⟩ := id hS
    obtain ⟨p0, p1, -⟩ := id g2
    have hW6 : zgP s 21 a.toNatClampNeg 0 < 6 := by have := hW.2.2.1; omega
    refine i_index (fun e => .inl ⟨rfl, ?_⟩) (fun c3 c4 => ?_)
    · have B : w_X12_appoint_26 (zOK 1 0) (zuF s 100 0 0 0) a b c d 1 := i_bad1 ⟨fun e => absurd e (by decide), fun _ => zOK_t (qR_th hs) (by decide)⟩
      refine im_isWorkY qmc_rf hs c1 c2 ⟨fun e => absurd e (by decide), fun _ => ⟨fun _ => B, fun z => ⟨fun z' => ?_, fun _ => B⟩⟩⟩
      have z' : c < zgF s 100 0 41 := z'
      rw [s1] at z'
      exact absurd z' (e.resolve_left z)
    · have I : ∀ (t : zTs) (P : Int32 → zTs → Prop), qmc s t → w_X12_appoint_26 P (zuF t 100 0 0 0) a b c d 0 → w_X12_appoint t a b c d P := fun t P m B => im_isWorkY m hs c1 c2 ⟨fun e => absurd e (by decide), fun _ => ⟨fun e => absurd e c3, fun _ => ⟨fun _ => B, fun e => absurd (show c < zgF (zuF t 100 0 0 0) 100 0 41 by rw [(qmc_F0 m).2 41 (by decide), s1]; exact c4) e⟩⟩⟩
      have bad : ¬ ((b = 0 ∨ b = 1) ∧ (d = 0 ∨ d = 1)) → w_X12_appoint s a b c d (zOK 2 0) := by
        intro hbad
        have B : w_X12_appoint_54 (zOK 2 0) (zuF s 100 0 0 0) a b c d 1 := i_bad1 ⟨fun e => absurd e (by decide), fun _ => zOK_t (qR_th hs) (by decide)⟩
        refine I _ _ qmc_rf (i_bad0 ⟨fun _ => ?_, fun z => absurd rfl z⟩)
        by_cases hb : b = 0 ∨ b = 1
        · refine im_side1 hb ⟨fun z => absurd z (by decide), fun _ => ?_⟩
          exact im_side0 (fun hd => hbad ⟨hb, hd⟩) ⟨fun _ => B, fun z => absurd rfl z⟩
        · exact im_side0 hb ⟨fun _ => B, fun z => absurd rfl z⟩
      refine i_range (fun e => .inr ⟨rfl, bad (fun z => by lia)⟩) (fun b0 b1 => ?_)
      refine i_range (fun e => .inr ⟨rfl, bad (fun z => by lia)⟩) (fun f0 f1 => ?_)
      have hb : b = 0 ∨ b = 1 := by lia
      have hd : d = 0 ∨ d = 1 := by lia
      have hb' : 1 - b = 0 ∨ 1 - b = 1 := by lia
      have nb : b.toNatClampNeg < 3 ∧ (1 - b).toNatClampNeg < 3 ∧ ¬ (1 - b).toNatClampNeg = b.toNatClampNeg ∧ b.toNatClampNeg < 2 := by
        rcases hb with z | z <;> rw [z] <;> decide
      obtain ⟨nb0, nb1, nb2, nb4⟩ := nb
      have v3 : vp_in b 3 := q_i30 b0 nb0
      have w3 : vp_in (1 - b) 3 := q_i30 (by rcases hb' with z | z <;> rw [z] <;> decide) nb1
      obtain ⟨v9, e9⟩ := q_90 c1 hn b0 nb0
      obtain ⟨w9, f9⟩ := q_90 (b := 1 - b) c1 hn (by rcases hb' with z | z <;> rw [z] <;> decide) nb1
      rw [show 3 * a + (1 - b) = 3 * a + 1 - b by rw [Int32.sub_eq_add_neg, Int32.sub_eq_add_neg, Int32.add_assoc]] at w9 f9
      have K : ∀ (t : zTs) (P : Int32 → zTs → Prop), qmc s t → w_X12_appoint_54 P (zuF t 100 0 0 0) a b c d 0 → w_X12_appoint t a b c d P := fun t P m B => I t P m (i_bad0 ⟨fun _ => im_side1 hb ⟨fun z => absurd z (by decide), fun _ => im_side1 hd ⟨fun z => absurd z (by decide), fun _ => B⟩⟩, fun z => absurd rfl z⟩)
      refine ⟨fun e => ⟨v3, fun e1 => ?_, fun e1 => ?_⟩, fun e => ?_⟩
      · -- the state is DISPUTE and the side has none yet
        have q1 := (g3 _ nb0).1
        have q2 := (g3 _ nb1).1
        have q3 := (g3 _ nb1).2.1
        have L : ∀ (t : zTs) (P : Int32 → zTs → Prop), qmc s t → (d = b ∨ qdp s a.toNatClampNeg < zgF s 10 0 15) → w_X12_appoint_127 P (zuF t 100 0 0 0) a b c → w_X12_appoint t a b c d P := by
          intro t P m hq B
          have m0 := qmc_F0 (x := 0) m
          have eD : zgF (zuF t 100 0 0 0) 100 0 3 = zgF s 10 0 15 := (m0.2 3 (by decide)).trans d1
          refine K t P m (i_bad0 ⟨fun _ => im_stateOf m0 hv hD g hh ⟨fun _ => ⟨v9, fun _ => ⟨fun _ => B, fun z => im_disputeFrom m0 hv hD g e (im_keptOf (W := 8) hv v15_8 rfl (im_keptOf (W := 5) hv v15_5 rfl ?_))⟩, fun z => ?_⟩, fun z => absurd e z⟩, fun z => absurd rfl z⟩)
          · obtain ⟨⟨n1, e4, e5, e6, e7⟩, ⟨e8, -⟩, ⟨p0, p1, r0, r1, y0, y1, z0, z1, x0, x1⟩, -⟩ := GKr_un g1
            have hr : zgF s 24 (zgP s 21 a.toNatClampNeg 3) 4 < 127 := by have := g1.2.2; lia
            obtain ⟨u1, u2, u3, u4, u5, u6, u7, u8, -⟩ := GKs_disp g5 e
            refine im_countedFrom ?_ ?_ (Or.inl ?_) u7 (by lia) ?_ ?_
            · rw [m0.1 116 (by decide), e5]; exact r0
            · rw [m0.1 116 (by decide), e5]; exact r1
            · rw [m0.1 116 (by decide), e5]; exact hr
            · rw [m0.1 116 (by decide), e8]; exact z1
            · rw [m0.1 116 (by decide), m0.1 116 (by decide), eD]
              refine ⟨fun _ => B, fun y => ?_⟩
              exact absurd (hq.resolve_left z) y
          · exfalso
            rw [m0.1 131 (by decide), e9, ← q1] at z
            exact z (by rw [show zgA s 61 a.toNatClampNeg b.toNatClampNeg = -1 from e1]; decide)
        have S : (d = b ∨ qdp s a.toNatClampNeg < zgF s 10 0 15) → w_X11_appoint_70 (fun r s => w_X12_appoint s a b c d (zOK 0 r)) (fun k s => (k = 0 ∧ w_X12_appoint s a b c d (zOK 1 0)) ∨ (k = 1 ∧ w_X12_appoint s a b c d (zOK 2 0))) s b c a.toNatClampNeg := by
          intro hq
          have c12 : vp_in c 12 := q_vpi (by simp only [q_ti]; lia) (by simp only [q_ti]; lia)
          -- kin of class and model
          have o1 := hW.2.2.2.2 _ p1 0 (by decide)
          have o2 := hW.2.2.2.2 _ p1 1 (by decide)
          have hBm : ∀ (t : zTs), (∀ j, zgA t 129 0 j = zgA s 129 0 j) → (∀ j, zgA t 101 0 j = zgA s 101 0 j) → qbr (zgA t 129 0) (zgA t 101 0) (2 * zgP s 21 a.toNatClampNeg 0) (2 * zgP s 21 a.toNatClampNeg 0 + 1) = qbr (zgA s 40 0) (zgA s 55 (zgP s 21 a.toNatClampNeg 0)) 0 1 := by
            intro t t1 t2
            funext x
            unfold qbr
            rw [t1, t2, t2, ← s4, ← o2]
            have o1 : zgA s 55 (zgP s 21 a.toNatClampNeg 0) 0 = zgA s 101 0 (2 * zgP s 21 a.toNatClampNeg 0) := o1
            rw [← o1]
          refine i_isBarred c12 (fun z => ⟨fun y => absurd y (by decide), fun _ => ?_⟩) (fun z => ⟨fun _ => ⟨w3, fun y => ?_, fun y => ⟨v3, fun u hu => ⟨w3, fun x => ?_, fun x => ?_⟩⟩⟩, fun y => absurd rfl y⟩)
          · refine L _ _ qmc_rf hq (im_isBarred hv c12 p0 hW6 (fun _ => ⟨fun y => absurd y (by decide), fun _ => zOK_0 hs rfl⟩) (fun y => ?_))
            rw [hBm (zuF s 100 0 0 0) (fun j => rfl) (fun j => rfl), z] at y
            exact absurd y (by decide)
          · refine L _ _ qmc_rf hq (im_isBarred hv c12 p0 hW6 (fun x => ?_) (fun _ => ⟨fun _ => ⟨w9, fun _ => zOK_0 hs rfl, fun x => ?_⟩, fun y => absurd rfl y⟩))
            · rw [hBm (zuF s 100 0 0 0) (fun j => rfl) (fun j => rfl), z] at x
              exact absurd x (by decide)
            · exfalso
              rw [f9] at x
              exact x (q2.symm.trans y)
          · subst hu
            have x' : zgA s 61 a.toNatClampNeg (1 - b).toNatClampNeg = -1 := by simpa only [q_NuF, q_FuF, q_PuF, q_OuF, q_AuF, q_RuF, q_LuF, q_JuF, q_NuP, q_FuP, q_PuP, q_OuP, q_AuP, q_RuP, q_LuP, q_JuP, q_NuO, q_FuO, q_PuO, q_OuO, q_AuO, q_RuO, q_LuO, q_JuO, q_NuA, q_FuA, q_PuA, q_OuA, q_AuA, q_RuA, q_LuA, q_JuA, q_NuR, q_FuR, q_PuR, q_OuR, q_AuR, q_RuR, q_LuR, q_JuR, q_NuJ, q_FuJ, q_PuJ, q_OuJ, q_AuJ, q_RuJ, q_LuJ, q_JuJ, q_NuL, q_FuL, q_PuL, q_OuL, q_AuL, q_RuL, q_LuL, q_JuL, q_NuB, q_FuB, q_PuB, q_OuB, q_AuB, q_RuB, q_LuB, q_JuB, q_NuW, q_FuW, q_PuW, q_OuW, q_AuW, q_RuW, q_LuW, q_JuW, q_NuV, q_FuV, q_PuV, q_OuV, q_AuV, q_RuV, q_LuV, q_JuV, q_NuU, q_FuU, q_PuU, q_OuU, q_AuU, q_RuU, q_LuU, q_JuU, q_NuX, q_FuX, q_PuX, q_OuX, q_AuX, q_RuX, q_LuX, q_JuX, q_NuR4, q_FuR4, q_PuR4, q_OuR4, q_AuR4, q_RuR4, q_LuR4, q_JuR4, Nat.reduceEqDiff, reduceIte, and_true, true_and, and_false, false_and, and_self, if_true, if_false, not_true_eq_false, not_false_eq_true, nb2] using x
            refine L _ _ (by repeat (first | exact qmc_rf | apply qmc_F0 | (refine qmc_F ?_ (by decide)) | (refine qmc_A ?_ (by decide)) | apply qmc_O | apply qmc_R | apply qmc_W | (refine qmc_V ?_ (by decide)) | apply qmc_U)) hq (im_isBarred hv c12 (by simp only [q_NuF, q_FuF, q_PuF, q_OuF, q_AuF, q_RuF, q_LuF, q_JuF, q_NuP, q_FuP, q_PuP, q_OuP, q_AuP, q_RuP, q_LuP, q_JuP, q_NuO, q_FuO, q_PuO, q_OuO, q_AuO, q_RuO, q_LuO, q_JuO, q_NuA, q_FuA, q_PuA, q_OuA, q_AuA, q_RuA, q_LuA, q_JuA, q_NuR, q_FuR, q_PuR, q_OuR, q_AuR, q_RuR, q_LuR, q_JuR, q_NuJ, q_FuJ, q_PuJ, q_OuJ, q_AuJ, q_RuJ, q_LuJ, q_JuJ, q_NuL, q_FuL, q_PuL, q_OuL, q_AuL, q_RuL, q_LuL, q_JuL, q_NuB, q_FuB, q_PuB, q_OuB, q_AuB, q_RuB, q_LuB, q_JuB, q_NuW, q_FuW, q_PuW, q_OuW, q_AuW, q_RuW, q_LuW, q_JuW, q_NuV, q_FuV, q_PuV, q_OuV, q_AuV, q_RuV, q_LuV, q_JuV, q_NuU, q_FuU, q_PuU, q_OuU, q_AuU, q_RuU, q_LuU, q_JuU, q_NuX, q_FuX, q_PuX, q_OuX, q_AuX, q_RuX, q_LuX, q_JuX, q_NuR4, q_FuR4, q_PuR4, q_OuR4, q_AuR4, q_RuR4, q_LuR4, q_JuR4, Nat.reduceEqDiff, reduceIte, and_true, true_and, and_false, false_and, and_self, if_true, if_false, not_true_eq_false, not_false_eq_true]; exact p0) hW6 (fun y' => ?_) (fun _ => ⟨fun _ => ⟨w9, fun y' => ?_, fun _ => ⟨v9, fun u hu => ⟨w9, fun _ => ?_, fun y' => ?_⟩⟩⟩, fun y => absurd rfl y⟩))
            · rw [hBm _ (fun j => by simp only [q_NuF, q_FuF, q_PuF, q_OuF, q_AuF, q_RuF, q_LuF, q_JuF, q_NuP, q_FuP, q_PuP, q_OuP, q_AuP, q_RuP, q_LuP, q_JuP, q_NuO, q_FuO, q_PuO, q_OuO, q_AuO, q_RuO, q_LuO, q_JuO, q_NuA, q_FuA, q_PuA, q_OuA, q_AuA, q_RuA, q_LuA, q_JuA, q_NuR, q_FuR, q_PuR, q_OuR, q_AuR, q_RuR, q_LuR, q_JuR, q_NuJ, q_FuJ, q_PuJ, q_OuJ, q_AuJ, q_RuJ, q_LuJ, q_JuJ, q_NuL, q_FuL, q_PuL, q_OuL, q_AuL, q_RuL, q_LuL, q_JuL, q_NuB, q_FuB, q_PuB, q_OuB, q_AuB, q_RuB, q_LuB, q_JuB, q_NuW, q_FuW, q_PuW, q_OuW, q_AuW, q_RuW, q_LuW, q_JuW, q_NuV, q_FuV, q_PuV, q_OuV, q_AuV, q_RuV, q_LuV, q_JuV, q_NuU, q_FuU, q_PuU, q_OuU, q_AuU, q_RuU, q_LuU, q_JuU, q_NuX, q_FuX, q_PuX, q_OuX, q_AuX, q_RuX, q_LuX, q_JuX, q_NuR4, q_FuR4, q_PuR4, q_OuR4, q_AuR4, q_RuR4, q_LuR4, q_JuR4, Nat.reduceEqDiff, reduceIte, and_true, true_and, and_false, false_and, and_self, if_true, if_false, not_true_eq_false, not_false_eq_true]) (fun j => by simp only [q_NuF, q_FuF, q_PuF, q_OuF, q_AuF, q_RuF, q_LuF, q_JuF, q_NuP, q_FuP, q_PuP, q_OuP, q_AuP, q_RuP, q_LuP, q_JuP, q_NuO, q_FuO, q_PuO, q_OuO, q_AuO, q_RuO, q_LuO, q_JuO, q_NuA, q_FuA, q_PuA, q_OuA, q_AuA, q_RuA, q_LuA, q_JuA, q_NuR, q_FuR, q_PuR, q_OuR, q_AuR, q_RuR, q_LuR, q_JuR, q_NuJ, q_FuJ, q_PuJ, q_OuJ, q_AuJ, q_RuJ, q_LuJ, q_JuJ, q_NuL, q_FuL, q_PuL, q_OuL, q_AuL, q_RuL, q_LuL, q_JuL, q_NuB, q_FuB, q_PuB, q_OuB, q_AuB, q_RuB, q_LuB, q_JuB, q_NuW, q_FuW, q_PuW, q_OuW, q_AuW, q_RuW, q_LuW, q_JuW, q_NuV, q_FuV, q_PuV, q_OuV, q_AuV, q_RuV, q_LuV, q_JuV, q_NuU, q_FuU, q_PuU, q_OuU, q_AuU, q_RuU, q_LuU, q_JuU, q_NuX, q_FuX, q_PuX, q_OuX, q_AuX, q_RuX, q_LuX, q_JuX, q_NuR4, q_FuR4, q_PuR4, q_OuR4, q_AuR4, q_RuR4, q_LuR4, q_JuR4, Nat.reduceEqDiff, reduceIte, and_true, true_and, and_false, false_and, and_self, if_true, if_false, not_true_eq_false, not_false_eq_true]), z] at y'
              exact absurd y' (by decide)
            · exfalso
              have y2 : zgA s 131 0 (3 * a + 1 - b).toNatClampNeg = c := by simpa only [q_NuF, q_FuF, q_PuF, q_OuF, q_AuF, q_RuF, q_LuF, q_JuF, q_NuP, q_FuP, q_PuP, q_OuP, q_AuP, q_RuP, q_LuP, q_JuP, q_NuO, q_FuO, q_PuO, q_OuO, q_AuO, q_RuO, q_LuO, q_JuO, q_NuA, q_FuA, q_PuA, q_OuA, q_AuA, q_RuA, q_LuA, q_JuA, q_NuR, q_FuR, q_PuR, q_OuR, q_AuR, q_RuR, q_LuR, q_JuR, q_NuJ, q_FuJ, q_PuJ, q_OuJ, q_AuJ, q_RuJ, q_LuJ, q_JuJ, q_NuL, q_FuL, q_PuL, q_OuL, q_AuL, q_RuL, q_LuL, q_JuL, q_NuB, q_FuB, q_PuB, q_OuB, q_AuB, q_RuB, q_LuB, q_JuB, q_NuW, q_FuW, q_PuW, q_OuW, q_AuW, q_RuW, q_LuW, q_JuW, q_NuV, q_FuV, q_PuV, q_OuV, q_AuV, q_RuV, q_LuV, q_JuV, q_NuU, q_FuU, q_PuU, q_OuU, q_AuU, q_RuU, q_LuU, q_JuU, q_NuX, q_FuX, q_PuX, q_OuX, q_AuX, q_RuX, q_LuX, q_JuX, q_NuR4, q_FuR4, q_PuR4, q_OuR4, q_AuR4, q_RuR4, q_LuR4, q_JuR4, Nat.reduceEqDiff, reduceIte, and_true, true_and, and_false, false_and, and_self, if_true, if_false, not_true_eq_false, not_false_eq_true] using y'
              rw [f9, ← q2] at y2
              exact y y2
            · subst hu
              rw [e9]
              refine ⟨by show qth _ = _; simp (disch := decide) only [qth_uF, qth_uF100, qth_uP, qth_uO, qth_uA, qth_uB, qth_uR, qth_uL, qth_uW, qth_uV, qth_uU, qth_uX, qth_set], fun _ => by first | rfl | lia, ?_⟩; simp (disch := decide) only [qR, GD_uF, GD_uF10, GD_uF100, GD_uP, GD_uO, GD_uA, GD_uB, GD_uR, GD_uJ, GD_uL, GD_uW, GD_uV, GD_uU, GD_uX, GD_uR4, GO_uF, GO_uF10, GO_uF100, GO_uP, GO_uO, GO_uA, GO_uB, GO_uR, GO_uJ, GO_uL, GO_uW, GO_uV, GO_uU, GO_uX, GO_uR4, GT_uF, GT_uF10, GT_uF100, GT_uP, GT_uO, GT_uA, GT_uB, GT_uR, GT_uJ, GT_uL, GT_uW, GT_uV, GT_uU, GT_uX, GT_uR4, GP_uF, GP_uF13, GP_uF100, GP_uP, GP_uO, GP_uA, GP_uB, GP_uR, GP_uJ, GP_uL, GP_uW, GP_uV, GP_uU, GP_uX, GP_uR4, GW_uF, GW_uF100, GW_uP, GW_uO, GW_uA, GW_uB, GW_uR, GW_uJ, GW_uL, GW_uW, GW_uV, GW_uU, GW_uX, GW_uR4, GC_uF, GC_uF10, GC_uP, GC_uO, GC_uA, GC_uB, GC_uR, GC_uJ, GC_uL, GC_uW, GC_uV, GC_uU, GC_uX, GC_uR4, GR_uF, GR_uF100, GR_uP, GR_uO, GR_uA, GR_uB, GR_uR, GR_uJ, GR_uL, GR_uW, GR_uV, GR_uU, GR_uX, GK_uF, GK_uF10, GK_uF100, GK_uP, GK_uO, GK_uA, GK_uB, GK_uR, GK_uJ, GK_uL, GK_uW, GK_uV, GK_uU, GK_uX, GK_uR4, GS_uF, GS_uF10, GS_uF100, GS_uP, GS_uO, GS_uA, GS_uB, GS_uR, GS_uJ, GS_uL, GS_uW, GS_uV, GS_uU, GS_uX, GS_uR4, GB_uF, GB_uF100, GB_uP, GB_uO, GB_uA, GB_uB, GB_uR, GB_uJ, GB_uL, GB_uW, GB_uV, GB_uU, GB_uX, GB_uR4, GH_uF, GH_uF10, GH_uF100, GH_uP, GH_uO, GH_uA, GH_uB, GH_uR, GH_uJ, GH_uL, GH_uW, GH_uV, GH_uU, GH_uX, GH_uR4, GG_uF, GG_uF100, GG_uP, GG_uO, GG_uA, GG_uB, GG_uR, GG_uJ, GG_uL, GG_uW, GG_uV, GG_uU, GG_uX, GG_uR4]; refine ⟨?_, ?_, ?_, ?_, ?_, ?_, ?_, ?_, ?_, ?_, ?_, ?_⟩ <;> try with_reducible assumption
              refine GK_up hK hk (by simp only [q_NuF, q_FuF, q_PuF, q_OuF, q_AuF, q_RuF, q_LuF, q_JuF, q_NuP, q_FuP, q_PuP, q_OuP, q_AuP, q_RuP, q_LuP, q_JuP, q_NuO, q_FuO, q_PuO, q_OuO, q_AuO, q_RuO, q_LuO, q_JuO, q_NuA, q_FuA, q_PuA, q_OuA, q_AuA, q_RuA, q_LuA, q_JuA, q_NuR, q_FuR, q_PuR, q_OuR, q_AuR, q_RuR, q_LuR, q_JuR, q_NuJ, q_FuJ, q_PuJ, q_OuJ, q_AuJ, q_RuJ, q_LuJ, q_JuJ, q_NuL, q_FuL, q_PuL, q_OuL, q_AuL, q_RuL, q_LuL, q_JuL, q_NuB, q_FuB, q_PuB, q_OuB, q_AuB, q_RuB, q_LuB, q_JuB, q_NuW, q_FuW, q_PuW, q_OuW, q_AuW, q_RuW, q_LuW, q_JuW, q_NuV, q_FuV, q_PuV, q_OuV, q_AuV, q_RuV, q_LuV, q_JuV, q_NuU, q_FuU, q_PuU, q_OuU, q_AuU, q_RuU, q_LuU, q_JuU, q_NuX, q_FuX, q_PuX, q_OuX, q_AuX, q_RuX, q_LuX, q_JuX, q_NuR4, q_FuR4, q_PuR4, q_OuR4, q_AuR4, q_RuR4, q_LuR4, q_JuR4, Nat.reduceEqDiff, reduceIte, and_true, true_and, and_false, false_and, and_self, if_true, if_false, not_true_eq_false, not_false_eq_true]) (by simp (disch := decide) only [GKh_uF, GKh_uF100, GKh_uP, GKh_uO, GKh_uA, GKh_uB, GKh_uR, GKh_uL, GKh_uW, GKh_uV, GKh_uU, GKh_uX]) (fun w hw => by simp (disch := first | decide | assumption) only [GK5_uF, GK5_uF10, GK5_uP, GK5_uO, GK5_uA, GK5_uB, GK5_uR, GK5_uL, GK5_uW, GK5_uV, GK5_uU, GK5_uX, GK5_oA61, GK5_oA3]) (fun w hw => by simp (disch := first | decide | assumption) only [GKz_uF, GKz_uP, GKz_uO, GKz_uA, GKz_uB, GKz_uR, GKz_uL, GKz_uW, GKz_uV, GKz_uU, GKz_uX]) ?_
              refine ⟨by simpa only [GKr, q_NuF, q_FuF, q_PuF, q_OuF, q_AuF, q_RuF, q_LuF, q_JuF, q_NuP, q_FuP, q_PuP, q_OuP, q_AuP, q_RuP, q_LuP, q_JuP, q_NuO, q_FuO, q_PuO, q_OuO, q_AuO, q_RuO, q_LuO, q_JuO, q_NuA, q_FuA, q_PuA, q_OuA, q_AuA, q_RuA, q_LuA, q_JuA, q_NuR, q_FuR, q_PuR, q_OuR, q_AuR, q_RuR, q_LuR, q_JuR, q_NuJ, q_FuJ, q_PuJ, q_OuJ, q_AuJ, q_RuJ, q_LuJ, q_JuJ, q_NuL, q_FuL, q_PuL, q_OuL, q_AuL, q_RuL, q_LuL, q_JuL, q_NuB, q_FuB, q_PuB, q_OuB, q_AuB, q_RuB, q_LuB, q_JuB, q_NuW, q_FuW, q_PuW, q_OuW, q_AuW, q_RuW, q_LuW, q_JuW, q_NuV, q_FuV, q_PuV, q_OuV, q_AuV, q_RuV, q_LuV, q_JuV, q_NuU, q_FuU, q_PuU, q_OuU, q_AuU, q_RuU, q_LuU, q_JuU, q_NuX, q_FuX, q_PuX, q_OuX, q_AuX, q_RuX, q_LuX, q_JuX, q_NuR4, q_FuR4, q_PuR4, q_OuR4, q_AuR4, q_RuR4, q_LuR4, q_JuR4, Nat.reduceEqDiff, reduceIte, and_true, true_and, and_false, false_and, and_self, if_true, if_false, not_true_eq_false, not_false_eq_true] using g1, by simpa only [GKa, q_NuF, q_FuF, q_PuF, q_OuF, q_AuF, q_RuF, q_LuF, q_JuF, q_NuP, q_FuP, q_PuP, q_OuP, q_AuP, q_RuP, q_LuP, q_JuP, q_NuO, q_FuO, q_PuO, q_OuO, q_AuO, q_RuO, q_LuO, q_JuO, q_NuA, q_FuA, q_PuA, q_OuA, q_AuA, q_RuA, q_LuA, q_JuA, q_NuR, q_FuR, q_PuR, q_OuR, q_AuR, q_RuR, q_LuR, q_JuR, q_NuJ, q_FuJ, q_PuJ, q_OuJ, q_AuJ, q_RuJ, q_LuJ, q_JuJ, q_NuL, q_FuL, q_PuL, q_OuL, q_AuL, q_RuL, q_LuL, q_JuL, q_NuB, q_FuB, q_PuB, q_OuB, q_AuB, q_RuB, q_LuB, q_JuB, q_NuW, q_FuW, q_PuW, q_OuW, q_AuW, q_RuW, q_LuW, q_JuW, q_NuV, q_FuV, q_PuV, q_OuV, q_AuV, q_RuV, q_LuV, q_JuV, q_NuU, q_FuU, q_PuU, q_OuU, q_AuU, q_RuU, q_LuU, q_JuU, q_NuX, q_FuX, q_PuX, q_OuX, q_AuX, q_RuX, q_LuX, q_JuX, q_NuR4, q_FuR4, q_PuR4, q_OuR4, q_AuR4, q_RuR4, q_LuR4, q_JuR4, Nat.reduceEqDiff, reduceIte, and_true, true_and, and_false, false_and, and_self, if_true, if_false, not_true_eq_false, not_false_eq_true] using g2, ?_, by simpa only [GKv, q_NuF, q_FuF, q_PuF, q_OuF, q_AuF, q_RuF, q_LuF, q_JuF, q_NuP, q_FuP, q_PuP, q_OuP, q_AuP, q_RuP, q_LuP, q_JuP, q_NuO, q_FuO, q_PuO, q_OuO, q_AuO, q_RuO, q_LuO, q_JuO, q_NuA, q_FuA, q_PuA, q_OuA, q_AuA, q_RuA, q_LuA, q_JuA, q_NuR, q_FuR, q_PuR, q_OuR, q_AuR, q_RuR, q_LuR, q_JuR, q_NuJ, q_FuJ, q_PuJ, q_OuJ, q_AuJ, q_RuJ, q_LuJ, q_JuJ, q_NuL, q_FuL, q_PuL, q_OuL, q_AuL, q_RuL, q_LuL, q_JuL, q_NuB, q_FuB, q_PuB, q_OuB, q_AuB, q_RuB, q_LuB, q_JuB, q_NuW, q_FuW, q_PuW, q_OuW, q_AuW, q_RuW, q_LuW, q_JuW, q_NuV, q_FuV, q_PuV, q_OuV, q_AuV, q_RuV, q_LuV, q_JuV, q_NuU, q_FuU, q_PuU, q_OuU, q_AuU, q_RuU, q_LuU, q_JuU, q_NuX, q_FuX, q_PuX, q_OuX, q_AuX, q_RuX, q_LuX, q_JuX, q_NuR4, q_FuR4, q_PuR4, q_OuR4, q_AuR4, q_RuR4, q_LuR4, q_JuR4, Nat.reduceEqDiff, reduceIte, and_true, true_and, and_false, false_and, and_self, if_true, if_false, not_true_eq_false, not_false_eq_true] using g4, by simpa only [GKs, qla, q_NuF, q_FuF, q_PuF, q_OuF, q_AuF, q_RuF, q_LuF, q_JuF, q_NuP, q_FuP, q_PuP, q_OuP, q_AuP, q_RuP, q_LuP, q_JuP, q_NuO, q_FuO, q_PuO, q_OuO, q_AuO, q_RuO, q_LuO, q_JuO, q_NuA, q_FuA, q_PuA, q_OuA, q_AuA, q_RuA, q_LuA, q_JuA, q_NuR, q_FuR, q_PuR, q_OuR, q_AuR, q_RuR, q_LuR, q_JuR, q_NuJ, q_FuJ, q_PuJ, q_OuJ, q_AuJ, q_RuJ, q_LuJ, q_JuJ, q_NuL, q_FuL, q_PuL, q_OuL, q_AuL, q_RuL, q_LuL, q_JuL, q_NuB, q_FuB, q_PuB, q_OuB, q_AuB, q_RuB, q_LuB, q_JuB, q_NuW, q_FuW, q_PuW, q_OuW, q_AuW, q_RuW, q_LuW, q_JuW, q_NuV, q_FuV, q_PuV, q_OuV, q_AuV, q_RuV, q_LuV, q_JuV, q_NuU, q_FuU, q_PuU, q_OuU, q_AuU, q_RuU, q_LuU, q_JuU, q_NuX, q_FuX, q_PuX, q_OuX, q_AuX, q_RuX, q_LuX, q_JuX, q_NuR4, q_FuR4, q_PuR4, q_OuR4, q_AuR4, q_RuR4, q_LuR4, q_JuR4, Nat.reduceEqDiff, reduceIte, and_true, true_and, and_false, false_and, and_self, if_true, if_false, not_true_eq_false, not_false_eq_true] using g5⟩
              intro w hw
              obtain ⟨y1, y2, y3, y4⟩ := g3 w hw
              simp only [q_NuF, q_FuF, q_PuF, q_OuF, q_AuF, q_RuF, q_LuF, q_JuF, q_NuP, q_FuP, q_PuP, q_OuP, q_AuP, q_RuP, q_LuP, q_JuP, q_NuO, q_FuO, q_PuO, q_OuO, q_AuO, q_RuO, q_LuO, q_JuO, q_NuA, q_FuA, q_PuA, q_OuA, q_AuA, q_RuA, q_LuA, q_JuA, q_NuR, q_FuR, q_PuR, q_OuR, q_AuR, q_RuR, q_LuR, q_JuR, q_NuJ, q_FuJ, q_PuJ, q_OuJ, q_AuJ, q_RuJ, q_LuJ, q_JuJ, q_NuL, q_FuL, q_PuL, q_OuL, q_AuL, q_RuL, q_LuL, q_JuL, q_NuB, q_FuB, q_PuB, q_OuB, q_AuB, q_RuB, q_LuB, q_JuB, q_NuW, q_FuW, q_PuW, q_OuW, q_AuW, q_RuW, q_LuW, q_JuW, q_NuV, q_FuV, q_PuV, q_OuV, q_AuV, q_RuV, q_LuV, q_JuV, q_NuU, q_FuU, q_PuU, q_OuU, q_AuU, q_RuU, q_LuU, q_JuU, q_NuX, q_FuX, q_PuX, q_OuX, q_AuX, q_RuX, q_LuX, q_JuX, q_NuR4, q_FuR4, q_PuR4, q_OuR4, q_AuR4, q_RuR4, q_LuR4, q_JuR4, Nat.reduceEqDiff, reduceIte, and_true, true_and, and_false, false_and, and_self, if_true, if_false, not_true_eq_false, not_false_eq_true, Nat.add_left_cancel_iff]
              by_cases ew : w = b.toNatClampNeg
              · simp only [ew, Nat.reduceEqDiff, reduceIte, and_true, true_and, and_false, false_and, and_self, if_true, if_false, not_true_eq_false, not_false_eq_true]
                exact ⟨by lia, by lia, by rw [← ew]; exact y4⟩
              · simp only [ew, Nat.reduceEqDiff, reduceIte, and_true, true_and, and_false, false_and, and_self, if_true, if_false, not_true_eq_false, not_false_eq_true]
                exact ⟨y1, y2, y3, y4⟩
            · exfalso
              subst hu
              have y2 : ¬ zgA s 131 0 (3 * a + 1 - b).toNatClampNeg < 0 := by
                simpa only [q_NuF, q_FuF, q_PuF, q_OuF, q_AuF, q_RuF, q_LuF, q_JuF, q_NuP, q_FuP, q_PuP, q_OuP, q_AuP, q_RuP, q_LuP, q_JuP, q_NuO, q_FuO, q_PuO, q_OuO, q_AuO, q_RuO, q_LuO, q_JuO, q_NuA, q_FuA, q_PuA, q_OuA, q_AuA, q_RuA, q_LuA, q_JuA, q_NuR, q_FuR, q_PuR, q_OuR, q_AuR, q_RuR, q_LuR, q_JuR, q_NuJ, q_FuJ, q_PuJ, q_OuJ, q_AuJ, q_RuJ, q_LuJ, q_JuJ, q_NuL, q_FuL, q_PuL, q_OuL, q_AuL, q_RuL, q_LuL, q_JuL, q_NuB, q_FuB, q_PuB, q_OuB, q_AuB, q_RuB, q_LuB, q_JuB, q_NuW, q_FuW, q_PuW, q_OuW, q_AuW, q_RuW, q_LuW, q_JuW, q_NuV, q_FuV, q_PuV, q_OuV, q_AuV, q_RuV, q_LuV, q_JuV, q_NuU, q_FuU, q_PuU, q_OuU, q_AuU, q_RuU, q_LuU, q_JuU, q_NuX, q_FuX, q_PuX, q_OuX, q_AuX, q_RuX, q_LuX, q_JuX, q_NuR4, q_FuR4, q_PuR4, q_OuR4, q_AuR4, q_RuR4, q_LuR4, q_JuR4, Nat.reduceEqDiff, reduceIte, and_true, true_and, and_false, false_and, and_self, if_true, if_false, not_true_eq_false, not_false_eq_true, e9, f9, Nat.add_left_cancel_iff, nb2] using y'
              rw [f9, ← q2, x'] at y2
              exact y2 (by decide)
          · subst hu
            have x' : ¬ zgA s 61 a.toNatClampNeg (1 - b).toNatClampNeg = -1 := by simpa only [q_NuF, q_FuF, q_PuF, q_OuF, q_AuF, q_RuF, q_LuF, q_JuF, q_NuP, q_FuP, q_PuP, q_OuP, q_AuP, q_RuP, q_LuP, q_JuP, q_NuO, q_FuO, q_PuO, q_OuO, q_AuO, q_RuO, q_LuO, q_JuO, q_NuA, q_FuA, q_PuA, q_OuA, q_AuA, q_RuA, q_LuA, q_JuA, q_NuR, q_FuR, q_PuR, q_OuR, q_AuR, q_RuR, q_LuR, q_JuR, q_NuJ, q_FuJ, q_PuJ, q_OuJ, q_AuJ, q_RuJ, q_LuJ, q_JuJ, q_NuL, q_FuL, q_PuL, q_OuL, q_AuL, q_RuL, q_LuL, q_JuL, q_NuB, q_FuB, q_PuB, q_OuB, q_AuB, q_RuB, q_LuB, q_JuB, q_NuW, q_FuW, q_PuW, q_OuW, q_AuW, q_RuW, q_LuW, q_JuW, q_NuV, q_FuV, q_PuV, q_OuV, q_AuV, q_RuV, q_LuV, q_JuV, q_NuU, q_FuU, q_PuU, q_OuU, q_AuU, q_RuU, q_LuU, q_JuU, q_NuX, q_FuX, q_PuX, q_OuX, q_AuX, q_RuX, q_LuX, q_JuX, q_NuR4, q_FuR4, q_PuR4, q_OuR4, q_AuR4, q_RuR4, q_LuR4, q_JuR4, Nat.reduceEqDiff, reduceIte, and_true, true_and, and_false, false_and, and_self, if_true, if_false, not_true_eq_false, not_false_eq_true, nb2] using x
            have fu12 : (zgF s 10 0 13).toInt - (0 : Int32).toInt < (zfu : Int) := q_fu s3 s2 (by decide)
            have e2 : ∀ w, w < 3 → zgA (zuA s 61 a.toNatClampNeg b.toNatClampNeg c) 61 a.toNatClampNeg w = zgA (zuA s 131 0 (3 * a.toNatClampNeg + b.toNatClampNeg) c) 131 0 (3 * a.toNatClampNeg + w) := by
              intro w hw
              simp only [q_NuF, q_FuF, q_PuF, q_OuF, q_AuF, q_RuF, q_LuF, q_JuF, q_NuP, q_FuP, q_PuP, q_OuP, q_AuP, q_RuP, q_LuP, q_JuP, q_NuO, q_FuO, q_PuO, q_OuO, q_AuO, q_RuO, q_LuO, q_JuO, q_NuA, q_FuA, q_PuA, q_OuA, q_AuA, q_RuA, q_LuA, q_JuA, q_NuR, q_FuR, q_PuR, q_OuR, q_AuR, q_RuR, q_LuR, q_JuR, q_NuJ, q_FuJ, q_PuJ, q_OuJ, q_AuJ, q_RuJ, q_LuJ, q_JuJ, q_NuL, q_FuL, q_PuL, q_OuL, q_AuL, q_RuL, q_LuL, q_JuL, q_NuB, q_FuB, q_PuB, q_OuB, q_AuB, q_RuB, q_LuB, q_JuB, q_NuW, q_FuW, q_PuW, q_OuW, q_AuW, q_RuW, q_LuW, q_JuW, q_NuV, q_FuV, q_PuV, q_OuV, q_AuV, q_RuV, q_LuV, q_JuV, q_NuU, q_FuU, q_PuU, q_OuU, q_AuU, q_RuU, q_LuU, q_JuU, q_NuX, q_FuX, q_PuX, q_OuX, q_AuX, q_RuX, q_LuX, q_JuX, q_NuR4, q_FuR4, q_PuR4, q_OuR4, q_AuR4, q_RuR4, q_LuR4, q_JuR4, Nat.reduceEqDiff, reduceIte, and_true, true_and, and_false, false_and, and_self, if_true, if_false, not_true_eq_false, not_false_eq_true, Nat.add_left_cancel_iff]
              rw [(g3 w hw).1]
            have z3 : vp_in (3 * a) 90 ∧ (3 * a).toNatClampNeg = 3 * a.toNatClampNeg := by
              obtain ⟨x1, x2⟩ := q_90 (b := 0) c1 hn (by decide) (by decide)
              rw [Int32.add_zero] at x1 x2
              exact ⟨x1, x2⟩
            obtain ⟨z31, z32⟩ := q_90 (b := 1) c1 hn (by decide) (by decide)
            obtain ⟨z33, z34⟩ := q_90 (b := 2) c1 hn (by decide) (by decide)
            have z32 : (3 * a + 1).toNatClampNeg = 3 * a.toNatClampNeg + 1 := z32
            have z34 : (3 * a + 2).toNatClampNeg = 3 * a.toNatClampNeg + 2 := z34
            have hr := qch_hi (n0 := zgA (zuA s 61 a.toNatClampNeg b.toNatClampNeg c) 61 a.toNatClampNeg 0) (n1 := zgA (zuA s 61 a.toNatClampNeg b.toNatClampNeg c) 61 a.toNatClampNeg 1) (B := qbr (zgA s 40 0) (zgA s 55 (zgP s 21 a.toNatClampNeg 0)) 0 1) (T := zgA s 41 0) s3 zfu (-1) 0 (by decide) s2 (.inl rfl)
            -- the model's side, whatever state the class left
            have Z : ∀ (t : zTs) (r : Int32), qmc s t → r = qch (zgF s 10 0 13) (zgA (zuA s 61 a.toNatClampNeg b.toNatClampNeg c) 61 a.toNatClampNeg 0) (zgA (zuA s 61 a.toNatClampNeg b.toNatClampNeg c) 61 a.toNatClampNeg 1) (qbr (zgA s 40 0) (zgA s 55 (zgP s 21 a.toNatClampNeg 0)) 0 1) (zgA s 41 0) zfu (-1) 0 → (r = -1 → zOK 0 1 1 (zuA (zuA (zuF t 100 0 0 0) 131 0 (3 * a.toNatClampNeg + b.toNatClampNeg) c) 131 0 (3 * a.toNatClampNeg + 2) r)) → (¬ r = -1 → zOK 0 1 1 (zuA (zuA (zuA (zuF t 100 0 0 0) 131 0 (3 * a.toNatClampNeg + b.toNatClampNeg) c) 131 0 (3 * a.toNatClampNeg + 2) r) 130 0 r.toNatClampNeg (zgA s 41 0 r.toNatClampNeg + 1))) → w_X12_appoint t a b c d (zOK 0 1) := by
              intro t r m er k1 k2
              have m0 := qmc_F0 (x := 0) m
              refine L _ _ m hq (im_isBarred hv c12 ((m0.1 112 (by decide) _ _).trans p0) hW6 (fun y' => ?_) (fun _ => ⟨fun _ => ⟨w9, fun y' => ?_, fun _ => ⟨v9, fun u hu => ⟨w9, fun y' => ?_, fun _ => ?_⟩⟩⟩, fun y => absurd rfl y⟩))
              · rw [hBm _ (fun j => m0.1 129 (by decide) _ _) (fun j => m0.1 101 (by decide) _ _), z] at y'
                exact absurd y' (by decide)
              · exfalso
                have y2 := (m0.1 131 (by decide) 0 (3 * a + 1 - b).toNatClampNeg).symm.trans y'
                rw [f9, ← q2] at y2
                exact y y2
              · exfalso
                subst hu
                rw [e9, f9, q_AuA, if_neg (fun z => by omega), m0.1 131 (by decide), ← q2] at y'
                lia
              · subst hu
                rw [e9]
                have eT : zgA (zuA (zuF t 100 0 0 0) 131 0 (3 * a.toNatClampNeg + b.toNatClampNeg) c) 130 0 = zgA s 41 0 := by
                  funext j
                  rw [s5]
                  simp only [q_NuF, q_FuF, q_PuF, q_OuF, q_AuF, q_RuF, q_LuF, q_JuF, q_NuP, q_FuP, q_PuP, q_OuP, q_AuP, q_RuP, q_LuP, q_JuP, q_NuO, q_FuO, q_PuO, q_OuO, q_AuO, q_RuO, q_LuO, q_JuO, q_NuA, q_FuA, q_PuA, q_OuA, q_AuA, q_RuA, q_LuA, q_JuA, q_NuR, q_FuR, q_PuR, q_OuR, q_AuR, q_RuR, q_LuR, q_JuR, q_NuJ, q_FuJ, q_PuJ, q_OuJ, q_AuJ, q_RuJ, q_LuJ, q_JuJ, q_NuL, q_FuL, q_PuL, q_OuL, q_AuL, q_RuL, q_LuL, q_JuL, q_NuB, q_FuB, q_PuB, q_OuB, q_AuB, q_RuB, q_LuB, q_JuB, q_NuW, q_FuW, q_PuW, q_OuW, q_AuW, q_RuW, q_LuW, q_JuW, q_NuV, q_FuV, q_PuV, q_OuV, q_AuV, q_RuV, q_LuV, q_JuV, q_NuU, q_FuU, q_PuU, q_OuU, q_AuU, q_RuU, q_LuU, q_JuU, q_NuX, q_FuX, q_PuX, q_OuX, q_AuX, q_RuX, q_LuX, q_JuX, q_NuR4, q_FuR4, q_PuR4, q_OuR4, q_AuR4, q_RuR4, q_LuR4, q_JuR4, Nat.reduceEqDiff, reduceIte, and_true, true_and, and_false, false_and, and_self, if_true, if_false, not_true_eq_false, not_false_eq_true]
                  exact m.1 130 (by decide) _ _
                refine lm_third (B := qbr (zgA s 40 0) (zgA s 55 (zgP s 21 a.toNatClampNeg 0)) 0 1) (sv := zgF s 10 0 13) (n0 := zgA (zuA s 61 a.toNatClampNeg b.toNatClampNeg c) 61 a.toNatClampNeg 0) (n1 := zgA (zuA s 61 a.toNatClampNeg b.toNatClampNeg c) 61 a.toNatClampNeg 1) (fun x Q hx q1 q0 => ?_) ?_ s3 ⟨z3.1, ?_⟩ ⟨z31, ?_⟩ z33 zfu (-1) 0 (by decide) s2 fu12 (.inl rfl) ?_ ?_
                · have t1 : ∀ j, zgA (zuA (zuF t 100 0 0 0) 131 0 (3 * a.toNatClampNeg + b.toNatClampNeg) c) 129 0 j = zgA s 129 0 j := fun j => by simp only [q_NuF, q_FuF, q_PuF, q_OuF, q_AuF, q_RuF, q_LuF, q_JuF, q_NuP, q_FuP, q_PuP, q_OuP, q_AuP, q_RuP, q_LuP, q_JuP, q_NuO, q_FuO, q_PuO, q_OuO, q_AuO, q_RuO, q_LuO, q_JuO, q_NuA, q_FuA, q_PuA, q_OuA, q_AuA, q_RuA, q_LuA, q_JuA, q_NuR, q_FuR, q_PuR, q_OuR, q_AuR, q_RuR, q_LuR, q_JuR, q_NuJ, q_FuJ, q_PuJ, q_OuJ, q_AuJ, q_RuJ, q_LuJ, q_JuJ, q_NuL, q_FuL, q_PuL, q_OuL, q_AuL, q_RuL, q_LuL, q_JuL, q_NuB, q_FuB, q_PuB, q_OuB, q_AuB, q_RuB, q_LuB, q_JuB, q_NuW, q_FuW, q_PuW, q_OuW, q_AuW, q_RuW, q_LuW, q_JuW, q_NuV, q_FuV, q_PuV, q_OuV, q_AuV, q_RuV, q_LuV, q_JuV, q_NuU, q_FuU, q_PuU, q_OuU, q_AuU, q_RuU, q_LuU, q_JuU, q_NuX, q_FuX, q_PuX, q_OuX, q_AuX, q_RuX, q_LuX, q_JuX, q_NuR4, q_FuR4, q_PuR4, q_OuR4, q_AuR4, q_RuR4, q_LuR4, q_JuR4, Nat.reduceEqDiff, reduceIte, and_true, true_and, and_false, false_and, and_self, if_true, if_false, not_true_eq_false, not_false_eq_true]; exact m.1 129 (by decide) _ _
                  have t2 : ∀ j, zgA (zuA (zuF t 100 0 0 0) 131 0 (3 * a.toNatClampNeg + b.toNatClampNeg) c) 101 0 j = zgA s 101 0 j := fun j => by simp only [q_NuF, q_FuF, q_PuF, q_OuF, q_AuF, q_RuF, q_LuF, q_JuF, q_NuP, q_FuP, q_PuP, q_OuP, q_AuP, q_RuP, q_LuP, q_JuP, q_NuO, q_FuO, q_PuO, q_OuO, q_AuO, q_RuO, q_LuO, q_JuO, q_NuA, q_FuA, q_PuA, q_OuA, q_AuA, q_RuA, q_LuA, q_JuA, q_NuR, q_FuR, q_PuR, q_OuR, q_AuR, q_RuR, q_LuR, q_JuR, q_NuJ, q_FuJ, q_PuJ, q_OuJ, q_AuJ, q_RuJ, q_LuJ, q_JuJ, q_NuL, q_FuL, q_PuL, q_OuL, q_AuL, q_RuL, q_LuL, q_JuL, q_NuB, q_FuB, q_PuB, q_OuB, q_AuB, q_RuB, q_LuB, q_JuB, q_NuW, q_FuW, q_PuW, q_OuW, q_AuW, q_RuW, q_LuW, q_JuW, q_NuV, q_FuV, q_PuV, q_OuV, q_AuV, q_RuV, q_LuV, q_JuV, q_NuU, q_FuU, q_PuU, q_OuU, q_AuU, q_RuU, q_LuU, q_JuU, q_NuX, q_FuX, q_PuX, q_OuX, q_AuX, q_RuX, q_LuX, q_JuX, q_NuR4, q_FuR4, q_PuR4, q_OuR4, q_AuR4, q_RuR4, q_LuR4, q_JuR4, Nat.reduceEqDiff, reduceIte, and_true, true_and, and_false, false_and, and_self, if_true, if_false, not_true_eq_false, not_false_eq_true]; exact m.1 101 (by decide) _ _
                  refine im_isBarred hv hx (by simp only [q_NuF, q_FuF, q_PuF, q_OuF, q_AuF, q_RuF, q_LuF, q_JuF, q_NuP, q_FuP, q_PuP, q_OuP, q_AuP, q_RuP, q_LuP, q_JuP, q_NuO, q_FuO, q_PuO, q_OuO, q_AuO, q_RuO, q_LuO, q_JuO, q_NuA, q_FuA, q_PuA, q_OuA, q_AuA, q_RuA, q_LuA, q_JuA, q_NuR, q_FuR, q_PuR, q_OuR, q_AuR, q_RuR, q_LuR, q_JuR, q_NuJ, q_FuJ, q_PuJ, q_OuJ, q_AuJ, q_RuJ, q_LuJ, q_JuJ, q_NuL, q_FuL, q_PuL, q_OuL, q_AuL, q_RuL, q_LuL, q_JuL, q_NuB, q_FuB, q_PuB, q_OuB, q_AuB, q_RuB, q_LuB, q_JuB, q_NuW, q_FuW, q_PuW, q_OuW, q_AuW, q_RuW, q_LuW, q_JuW, q_NuV, q_FuV, q_PuV, q_OuV, q_AuV, q_RuV, q_LuV, q_JuV, q_NuU, q_FuU, q_PuU, q_OuU, q_AuU, q_RuU, q_LuU, q_JuU, q_NuX, q_FuX, q_PuX, q_OuX, q_AuX, q_RuX, q_LuX, q_JuX, q_NuR4, q_FuR4, q_PuR4, q_OuR4, q_AuR4, q_RuR4, q_LuR4, q_JuR4, Nat.reduceEqDiff, reduceIte, and_true, true_and, and_false, false_and, and_self, if_true, if_false, not_true_eq_false, not_false_eq_true]; exact (m.1 112 (by decide) _ _).trans p0) hW6 (fun y' => q1 ?_) (fun y' => q0 ?_)
                  · rw [hBm _ t1 t2] at y'; exact y'
                  · rw [hBm _ t1 t2] at y'; exact y'
                · simp only [q_NuF, q_FuF, q_PuF, q_OuF, q_AuF, q_RuF, q_LuF, q_JuF, q_NuP, q_FuP, q_PuP, q_OuP, q_AuP, q_RuP, q_LuP, q_JuP, q_NuO, q_FuO, q_PuO, q_OuO, q_AuO, q_RuO, q_LuO, q_JuO, q_NuA, q_FuA, q_PuA, q_OuA, q_AuA, q_RuA, q_LuA, q_JuA, q_NuR, q_FuR, q_PuR, q_OuR, q_AuR, q_RuR, q_LuR, q_JuR, q_NuJ, q_FuJ, q_PuJ, q_OuJ, q_AuJ, q_RuJ, q_LuJ, q_JuJ, q_NuL, q_FuL, q_PuL, q_OuL, q_AuL, q_RuL, q_LuL, q_JuL, q_NuB, q_FuB, q_PuB, q_OuB, q_AuB, q_RuB, q_LuB, q_JuB, q_NuW, q_FuW, q_PuW, q_OuW, q_AuW, q_RuW, q_LuW, q_JuW, q_NuV, q_FuV, q_PuV, q_OuV, q_AuV, q_RuV, q_LuV, q_JuV, q_NuU, q_FuU, q_PuU, q_OuU, q_AuU, q_RuU, q_LuU, q_JuU, q_NuX, q_FuX, q_PuX, q_OuX, q_AuX, q_RuX, q_LuX, q_JuX, q_NuR4, q_FuR4, q_PuR4, q_OuR4, q_AuR4, q_RuR4, q_LuR4, q_JuR4, Nat.reduceEqDiff, reduceIte, and_true, true_and, and_false, false_and, and_self, if_true, if_false, not_true_eq_false, not_false_eq_true]
                  exact (m.2 41 (by decide)).trans s1
                · rw [z3.2, e2 0 (by decide)]
                  simp only [q_NuF, q_FuF, q_PuF, q_OuF, q_AuF, q_RuF, q_LuF, q_JuF, q_NuP, q_FuP, q_PuP, q_OuP, q_AuP, q_RuP, q_LuP, q_JuP, q_NuO, q_FuO, q_PuO, q_OuO, q_AuO, q_RuO, q_LuO, q_JuO, q_NuA, q_FuA, q_PuA, q_OuA, q_AuA, q_RuA, q_LuA, q_JuA, q_NuR, q_FuR, q_PuR, q_OuR, q_AuR, q_RuR, q_LuR, q_JuR, q_NuJ, q_FuJ, q_PuJ, q_OuJ, q_AuJ, q_RuJ, q_LuJ, q_JuJ, q_NuL, q_FuL, q_PuL, q_OuL, q_AuL, q_RuL, q_LuL, q_JuL, q_NuB, q_FuB, q_PuB, q_OuB, q_AuB, q_RuB, q_LuB, q_JuB, q_NuW, q_FuW, q_PuW, q_OuW, q_AuW, q_RuW, q_LuW, q_JuW, q_NuV, q_FuV, q_PuV, q_OuV, q_AuV, q_RuV, q_LuV, q_JuV, q_NuU, q_FuU, q_PuU, q_OuU, q_AuU, q_RuU, q_LuU, q_JuU, q_NuX, q_FuX, q_PuX, q_OuX, q_AuX, q_RuX, q_LuX, q_JuX, q_NuR4, q_FuR4, q_PuR4, q_OuR4, q_AuR4, q_RuR4, q_LuR4, q_JuR4, Nat.reduceEqDiff, reduceIte, and_true, true_and, and_false, false_and, and_self, if_true, if_false, not_true_eq_false, not_false_eq_true]
                  rw [m.1 131 (by decide)]
                  rfl
                · rw [z32, e2 1 (by decide)]
                  simp only [q_NuF, q_FuF, q_PuF, q_OuF, q_AuF, q_RuF, q_LuF, q_JuF, q_NuP, q_FuP, q_PuP, q_OuP, q_AuP, q_RuP, q_LuP, q_JuP, q_NuO, q_FuO, q_PuO, q_OuO, q_AuO, q_RuO, q_LuO, q_JuO, q_NuA, q_FuA, q_PuA, q_OuA, q_AuA, q_RuA, q_LuA, q_JuA, q_NuR, q_FuR, q_PuR, q_OuR, q_AuR, q_RuR, q_LuR, q_JuR, q_NuJ, q_FuJ, q_PuJ, q_OuJ, q_AuJ, q_RuJ, q_LuJ, q_JuJ, q_NuL, q_FuL, q_PuL, q_OuL, q_AuL, q_RuL, q_LuL, q_JuL, q_NuB, q_FuB, q_PuB, q_OuB, q_AuB, q_RuB, q_LuB, q_JuB, q_NuW, q_FuW, q_PuW, q_OuW, q_AuW, q_RuW, q_LuW, q_JuW, q_NuV, q_FuV, q_PuV, q_OuV, q_AuV, q_RuV, q_LuV, q_JuV, q_NuU, q_FuU, q_PuU, q_OuU, q_AuU, q_RuU, q_LuU, q_JuU, q_NuX, q_FuX, q_PuX, q_OuX, q_AuX, q_RuX, q_LuX, q_JuX, q_NuR4, q_FuR4, q_PuR4, q_OuR4, q_AuR4, q_RuR4, q_LuR4, q_JuR4, Nat.reduceEqDiff, reduceIte, and_true, true_and, and_false, false_and, and_self, if_true, if_false, not_true_eq_false, not_false_eq_true]
                  rw [m.1 131 (by decide)]
                · rw [eT, z34, ← er]
                  exact k1
                · rw [eT, z34, ← er]
                  exact k2
            have hBc : qbr (zgA (zuA s 61 a.toNatClampNeg b.toNatClampNeg c) 40 0) (zgA (zuA s 61 a.toNatClampNeg b.toNatClampNeg c) 55 (zgP s 21 a.toNatClampNeg 0)) 0 1 = qbr (zgA s 40 0) (zgA s 55 (zgP s 21 a.toNatClampNeg 0)) 0 1 := by
              rw [show zgA (zuA s 61 a.toNatClampNeg b.toNatClampNeg c) 40 0 = zgA s 40 0 from funext fun j => by simp only [q_NuF, q_FuF, q_PuF, q_OuF, q_AuF, q_RuF, q_LuF, q_JuF, q_NuP, q_FuP, q_PuP, q_OuP, q_AuP, q_RuP, q_LuP, q_JuP, q_NuO, q_FuO, q_PuO, q_OuO, q_AuO, q_RuO, q_LuO, q_JuO, q_NuA, q_FuA, q_PuA, q_OuA, q_AuA, q_RuA, q_LuA, q_JuA, q_NuR, q_FuR, q_PuR, q_OuR, q_AuR, q_RuR, q_LuR, q_JuR, q_NuJ, q_FuJ, q_PuJ, q_OuJ, q_AuJ, q_RuJ, q_LuJ, q_JuJ, q_NuL, q_FuL, q_PuL, q_OuL, q_AuL, q_RuL, q_LuL, q_JuL, q_NuB, q_FuB, q_PuB, q_OuB, q_AuB, q_RuB, q_LuB, q_JuB, q_NuW, q_FuW, q_PuW, q_OuW, q_AuW, q_RuW, q_LuW, q_JuW, q_NuV, q_FuV, q_PuV, q_OuV, q_AuV, q_RuV, q_LuV, q_JuV, q_NuU, q_FuU, q_PuU, q_OuU, q_AuU, q_RuU, q_LuU, q_JuU, q_NuX, q_FuX, q_PuX, q_OuX, q_AuX, q_RuX, q_LuX, q_JuX, q_NuR4, q_FuR4, q_PuR4, q_OuR4, q_AuR4, q_RuR4, q_LuR4, q_JuR4, Nat.reduceEqDiff, reduceIte, and_true, true_and, and_false, false_and, and_self, if_true, if_false, not_true_eq_false, not_false_eq_true], show zgA (zuA s 61 a.toNatClampNeg b.toNatClampNeg c) 55 (zgP s 21 a.toNatClampNeg 0) = zgA s 55 (zgP s 21 a.toNatClampNeg 0) from funext fun j => by simp only [q_NuF, q_FuF, q_PuF, q_OuF, q_AuF, q_RuF, q_LuF, q_JuF, q_NuP, q_FuP, q_PuP, q_OuP, q_AuP, q_RuP, q_LuP, q_JuP, q_NuO, q_FuO, q_PuO, q_OuO, q_AuO, q_RuO, q_LuO, q_JuO, q_NuA, q_FuA, q_PuA, q_OuA, q_AuA, q_RuA, q_LuA, q_JuA, q_NuR, q_FuR, q_PuR, q_OuR, q_AuR, q_RuR, q_LuR, q_JuR, q_NuJ, q_FuJ, q_PuJ, q_OuJ, q_AuJ, q_RuJ, q_LuJ, q_JuJ, q_NuL, q_FuL, q_PuL, q_OuL, q_AuL, q_RuL, q_LuL, q_JuL, q_NuB, q_FuB, q_PuB, q_OuB, q_AuB, q_RuB, q_LuB, q_JuB, q_NuW, q_FuW, q_PuW, q_OuW, q_AuW, q_RuW, q_LuW, q_JuW, q_NuV, q_FuV, q_PuV, q_OuV, q_AuV, q_RuV, q_LuV, q_JuV, q_NuU, q_FuU, q_PuU, q_OuU, q_AuU, q_RuU, q_LuU, q_JuU, q_NuX, q_FuX, q_PuX, q_OuX, q_AuX, q_RuX, q_LuX, q_JuX, q_NuR4, q_FuR4, q_PuR4, q_OuR4, q_AuR4, q_RuR4, q_LuR4, q_JuR4, Nat.reduceEqDiff, reduceIte, and_true, true_and, and_false, false_and, and_self, if_true, if_false, not_true_eq_false, not_false_eq_true]]
            refine l_third (st := zuA s 61 a.toNatClampNeg b.toNatClampNeg c) (B := qbr (zgA s 40 0) (zgA s 55 (zgP s 21 a.toNatClampNeg 0)) 0 1) (sv := zgF s 10 0 13) (fun x Q hx q1 q0 => i_isBarred (t := zuA s 61 a.toNatClampNeg b.toNatClampNeg c) (W := zgP s 21 a.toNatClampNeg 0) hx (fun y' => q1 (by rw [hBc] at y'; exact y')) (fun y' => q0 (by rw [hBc] at y'; exact y'))) (by simp only [q_NuF, q_FuF, q_PuF, q_OuF, q_AuF, q_RuF, q_LuF, q_JuF, q_NuP, q_FuP, q_PuP, q_OuP, q_AuP, q_RuP, q_LuP, q_JuP, q_NuO, q_FuO, q_PuO, q_OuO, q_AuO, q_RuO, q_LuO, q_JuO, q_NuA, q_FuA, q_PuA, q_OuA, q_AuA, q_RuA, q_LuA, q_JuA, q_NuR, q_FuR, q_PuR, q_OuR, q_AuR, q_RuR, q_LuR, q_JuR, q_NuJ, q_FuJ, q_PuJ, q_OuJ, q_AuJ, q_RuJ, q_LuJ, q_JuJ, q_NuL, q_FuL, q_PuL, q_OuL, q_AuL, q_RuL, q_LuL, q_JuL, q_NuB, q_FuB, q_PuB, q_OuB, q_AuB, q_RuB, q_LuB, q_JuB, q_NuW, q_FuW, q_PuW, q_OuW, q_AuW, q_RuW, q_LuW, q_JuW, q_NuV, q_FuV, q_PuV, q_OuV, q_AuV, q_RuV, q_LuV, q_JuV, q_NuU, q_FuU, q_PuU, q_OuU, q_AuU, q_RuU, q_LuU, q_JuU, q_NuX, q_FuX, q_PuX, q_OuX, q_AuX, q_RuX, q_LuX, q_JuX, q_NuR4, q_FuR4, q_PuR4, q_OuR4, q_AuR4, q_RuR4, q_LuR4, q_JuR4, Nat.reduceEqDiff, reduceIte, and_true, true_and, and_false, false_and, and_self, if_true, if_false, not_true_eq_false, not_false_eq_true]) s3 zfu (-1) 0 (by decide) s2 fu12 (.inl rfl) ?_ ?_
            · rw [show zgA (zuA s 61 a.toNatClampNeg b.toNatClampNeg c) 41 0 = zgA s 41 0 from by funext j; simp only [q_NuF, q_FuF, q_PuF, q_OuF, q_AuF, q_RuF, q_LuF, q_JuF, q_NuP, q_FuP, q_PuP, q_OuP, q_AuP, q_RuP, q_LuP, q_JuP, q_NuO, q_FuO, q_PuO, q_OuO, q_AuO, q_RuO, q_LuO, q_JuO, q_NuA, q_FuA, q_PuA, q_OuA, q_AuA, q_RuA, q_LuA, q_JuA, q_NuR, q_FuR, q_PuR, q_OuR, q_AuR, q_RuR, q_LuR, q_JuR, q_NuJ, q_FuJ, q_PuJ, q_OuJ, q_AuJ, q_RuJ, q_LuJ, q_JuJ, q_NuL, q_FuL, q_PuL, q_OuL, q_AuL, q_RuL, q_LuL, q_JuL, q_NuB, q_FuB, q_PuB, q_OuB, q_AuB, q_RuB, q_LuB, q_JuB, q_NuW, q_FuW, q_PuW, q_OuW, q_AuW, q_RuW, q_LuW, q_JuW, q_NuV, q_FuV, q_PuV, q_OuV, q_AuV, q_RuV, q_LuV, q_JuV, q_NuU, q_FuU, q_PuU, q_OuU, q_AuU, q_RuU, q_LuU, q_JuU, q_NuX, q_FuX, q_PuX, q_OuX, q_AuX, q_RuX, q_LuX, q_JuX, q_NuR4, q_FuR4, q_PuR4, q_OuR4, q_AuR4, q_RuR4, q_LuR4, q_JuR4, Nat.reduceEqDiff, reduceIte, and_true, true_and, and_false, false_and, and_self, if_true, if_false, not_true_eq_false, not_false_eq_true]]
              generalize hrr : qch (zgF s 10 0 13) (zgA (zuA s 61 a.toNatClampNeg b.toNatClampNeg c) 61 a.toNatClampNeg 0) (zgA (zuA s 61 a.toNatClampNeg b.toNatClampNeg c) 61 a.toNatClampNeg 1) (qbr (zgA s 40 0) (zgA s 55 (zgP s 21 a.toNatClampNeg 0)) 0 1) (zgA s 41 0) zfu (-1) 0 = r at hr
              intro ez
              refine Z _ r (by repeat (first | exact qmc_rf | apply qmc_F0 | (refine qmc_F ?_ (by decide)) | (refine qmc_A ?_ (by decide)) | apply qmc_O | apply qmc_R | apply qmc_W | (refine qmc_V ?_ (by decide)) | apply qmc_U)) hrr.symm (fun _ => ?_) (fun z => absurd ez z)
              refine ⟨by show qth _ = _; simp (disch := decide) only [qth_uF, qth_uF100, qth_uP, qth_uO, qth_uA, qth_uB, qth_uR, qth_uL, qth_uW, qth_uV, qth_uU, qth_uX, qth_set], fun _ => by first | rfl | lia, ?_⟩; simp (disch := decide) only [qR, GD_uF, GD_uF10, GD_uF100, GD_uP, GD_uO, GD_uA, GD_uB, GD_uR, GD_uJ, GD_uL, GD_uW, GD_uV, GD_uU, GD_uX, GD_uR4, GO_uF, GO_uF10, GO_uF100, GO_uP, GO_uO, GO_uA, GO_uB, GO_uR, GO_uJ, GO_uL, GO_uW, GO_uV, GO_uU, GO_uX, GO_uR4, GT_uF, GT_uF10, GT_uF100, GT_uP, GT_uO, GT_uA, GT_uB, GT_uR, GT_uJ, GT_uL, GT_uW, GT_uV, GT_uU, GT_uX, GT_uR4, GP_uF, GP_uF13, GP_uF100, GP_uP, GP_uO, GP_uA, GP_uB, GP_uR, GP_uJ, GP_uL, GP_uW, GP_uV, GP_uU, GP_uX, GP_uR4, GW_uF, GW_uF100, GW_uP, GW_uO, GW_uA, GW_uB, GW_uR, GW_uJ, GW_uL, GW_uW, GW_uV, GW_uU, GW_uX, GW_uR4, GC_uF, GC_uF10, GC_uP, GC_uO, GC_uA, GC_uB, GC_uR, GC_uJ, GC_uL, GC_uW, GC_uV, GC_uU, GC_uX, GC_uR4, GR_uF, GR_uF100, GR_uP, GR_uO, GR_uA, GR_uB, GR_uR, GR_uJ, GR_uL, GR_uW, GR_uV, GR_uU, GR_uX, GK_uF, GK_uF10, GK_uF100, GK_uP, GK_uO, GK_uA, GK_uB, GK_uR, GK_uJ, GK_uL, GK_uW, GK_uV, GK_uU, GK_uX, GK_uR4, GS_uF, GS_uF10, GS_uF100, GS_uP, GS_uO, GS_uA, GS_uB, GS_uR, GS_uJ, GS_uL, GS_uW, GS_uV, GS_uU, GS_uX, GS_uR4, GB_uF, GB_uF100, GB_uP, GB_uO, GB_uA, GB_uB, GB_uR, GB_uJ, GB_uL, GB_uW, GB_uV, GB_uU, GB_uX, GB_uR4, GH_uF, GH_uF10, GH_uF100, GH_uP, GH_uO, GH_uA, GH_uB, GH_uR, GH_uJ, GH_uL, GH_uW, GH_uV, GH_uU, GH_uX, GH_uR4, GG_uF, GG_uF100, GG_uP, GG_uO, GG_uA, GG_uB, GG_uR, GG_uJ, GG_uL, GG_uW, GG_uV, GG_uU, GG_uX, GG_uR4]; refine ⟨?_, ?_, ?_, ?_, ?_, ?_, ?_, ?_, ?_, ?_, ?_, ?_⟩ <;> try with_reducible assumption
              refine GK_up hK hk (by simp only [q_NuF, q_FuF, q_PuF, q_OuF, q_AuF, q_RuF, q_LuF, q_JuF, q_NuP, q_FuP, q_PuP, q_OuP, q_AuP, q_RuP, q_LuP, q_JuP, q_NuO, q_FuO, q_PuO, q_OuO, q_AuO, q_RuO, q_LuO, q_JuO, q_NuA, q_FuA, q_PuA, q_OuA, q_AuA, q_RuA, q_LuA, q_JuA, q_NuR, q_FuR, q_PuR, q_OuR, q_AuR, q_RuR, q_LuR, q_JuR, q_NuJ, q_FuJ, q_PuJ, q_OuJ, q_AuJ, q_RuJ, q_LuJ, q_JuJ, q_NuL, q_FuL, q_PuL, q_OuL, q_AuL, q_RuL, q_LuL, q_JuL, q_NuB, q_FuB, q_PuB, q_OuB, q_AuB, q_RuB, q_LuB, q_JuB, q_NuW, q_FuW, q_PuW, q_OuW, q_AuW, q_RuW, q_LuW, q_JuW, q_NuV, q_FuV, q_PuV, q_OuV, q_AuV, q_RuV, q_LuV, q_JuV, q_NuU, q_FuU, q_PuU, q_OuU, q_AuU, q_RuU, q_LuU, q_JuU, q_NuX, q_FuX, q_PuX, q_OuX, q_AuX, q_RuX, q_LuX, q_JuX, q_NuR4, q_FuR4, q_PuR4, q_OuR4, q_AuR4, q_RuR4, q_LuR4, q_JuR4, Nat.reduceEqDiff, reduceIte, and_true, true_and, and_false, false_and, and_self, if_true, if_false, not_true_eq_false, not_false_eq_true]) (by simp (disch := decide) only [GKh_uF, GKh_uF100, GKh_uP, GKh_uO, GKh_uA, GKh_uB, GKh_uR, GKh_uL, GKh_uW, GKh_uV, GKh_uU, GKh_uX]) (fun w hw => by simp (disch := first | decide | assumption) only [GK5_uF, GK5_uF10, GK5_uP, GK5_uO, GK5_uA, GK5_uB, GK5_uR, GK5_uL, GK5_uW, GK5_uV, GK5_uU, GK5_uX, GK5_oA61, GK5_oA3]) (fun w hw => by simp (disch := first | decide | assumption) only [GKz_uF, GKz_uP, GKz_uO, GKz_uA, GKz_uB, GKz_uR, GKz_uL, GKz_uW, GKz_uV, GKz_uU, GKz_uX]) ?_
              refine ⟨by simpa only [GKr, q_NuF, q_FuF, q_PuF, q_OuF, q_AuF, q_RuF, q_LuF, q_JuF, q_NuP, q_FuP, q_PuP, q_OuP, q_AuP, q_RuP, q_LuP, q_JuP, q_NuO, q_FuO, q_PuO, q_OuO, q_AuO, q_RuO, q_LuO, q_JuO, q_NuA, q_FuA, q_PuA, q_OuA, q_AuA, q_RuA, q_LuA, q_JuA, q_NuR, q_FuR, q_PuR, q_OuR, q_AuR, q_RuR, q_LuR, q_JuR, q_NuJ, q_FuJ, q_PuJ, q_OuJ, q_AuJ, q_RuJ, q_LuJ, q_JuJ, q_NuL, q_FuL, q_PuL, q_OuL, q_AuL, q_RuL, q_LuL, q_JuL, q_NuB, q_FuB, q_PuB, q_OuB, q_AuB, q_RuB, q_LuB, q_JuB, q_NuW, q_FuW, q_PuW, q_OuW, q_AuW, q_RuW, q_LuW, q_JuW, q_NuV, q_FuV, q_PuV, q_OuV, q_AuV, q_RuV, q_LuV, q_JuV, q_NuU, q_FuU, q_PuU, q_OuU, q_AuU, q_RuU, q_LuU, q_JuU, q_NuX, q_FuX, q_PuX, q_OuX, q_AuX, q_RuX, q_LuX, q_JuX, q_NuR4, q_FuR4, q_PuR4, q_OuR4, q_AuR4, q_RuR4, q_LuR4, q_JuR4, Nat.reduceEqDiff, reduceIte, and_true, true_and, and_false, false_and, and_self, if_true, if_false, not_true_eq_false, not_false_eq_true] using g1, by simpa only [GKa, q_NuF, q_FuF, q_PuF, q_OuF, q_AuF, q_RuF, q_LuF, q_JuF, q_NuP, q_FuP, q_PuP, q_OuP, q_AuP, q_RuP, q_LuP, q_JuP, q_NuO, q_FuO, q_PuO, q_OuO, q_AuO, q_RuO, q_LuO, q_JuO, q_NuA, q_FuA, q_PuA, q_OuA, q_AuA, q_RuA, q_LuA, q_JuA, q_NuR, q_FuR, q_PuR, q_OuR, q_AuR, q_RuR, q_LuR, q_JuR, q_NuJ, q_FuJ, q_PuJ, q_OuJ, q_AuJ, q_RuJ, q_LuJ, q_JuJ, q_NuL, q_FuL, q_PuL, q_OuL, q_AuL, q_RuL, q_LuL, q_JuL, q_NuB, q_FuB, q_PuB, q_OuB, q_AuB, q_RuB, q_LuB, q_JuB, q_NuW, q_FuW, q_PuW, q_OuW, q_AuW, q_RuW, q_LuW, q_JuW, q_NuV, q_FuV, q_PuV, q_OuV, q_AuV, q_RuV, q_LuV, q_JuV, q_NuU, q_FuU, q_PuU, q_OuU, q_AuU, q_RuU, q_LuU, q_JuU, q_NuX, q_FuX, q_PuX, q_OuX, q_AuX, q_RuX, q_LuX, q_JuX, q_NuR4, q_FuR4, q_PuR4, q_OuR4, q_AuR4, q_RuR4, q_LuR4, q_JuR4, Nat.reduceEqDiff, reduceIte, and_true, true_and, and_false, false_and, and_self, if_true, if_false, not_true_eq_false, not_false_eq_true] using g2, ?_, by simpa only [GKv, q_NuF, q_FuF, q_PuF, q_OuF, q_AuF, q_RuF, q_LuF, q_JuF, q_NuP, q_FuP, q_PuP, q_OuP, q_AuP, q_RuP, q_LuP, q_JuP, q_NuO, q_FuO, q_PuO, q_OuO, q_AuO, q_RuO, q_LuO, q_JuO, q_NuA, q_FuA, q_PuA, q_OuA, q_AuA, q_RuA, q_LuA, q_JuA, q_NuR, q_FuR, q_PuR, q_OuR, q_AuR, q_RuR, q_LuR, q_JuR, q_NuJ, q_FuJ, q_PuJ, q_OuJ, q_AuJ, q_RuJ, q_LuJ, q_JuJ, q_NuL, q_FuL, q_PuL, q_OuL, q_AuL, q_RuL, q_LuL, q_JuL, q_NuB, q_FuB, q_PuB, q_OuB, q_AuB, q_RuB, q_LuB, q_JuB, q_NuW, q_FuW, q_PuW, q_OuW, q_AuW, q_RuW, q_LuW, q_JuW, q_NuV, q_FuV, q_PuV, q_OuV, q_AuV, q_RuV, q_LuV, q_JuV, q_NuU, q_FuU, q_PuU, q_OuU, q_AuU, q_RuU, q_LuU, q_JuU, q_NuX, q_FuX, q_PuX, q_OuX, q_AuX, q_RuX, q_LuX, q_JuX, q_NuR4, q_FuR4, q_PuR4, q_OuR4, q_AuR4, q_RuR4, q_LuR4, q_JuR4, Nat.reduceEqDiff, reduceIte, and_true, true_and, and_false, false_and, and_self, if_true, if_false, not_true_eq_false, not_false_eq_true] using g4, by simpa only [GKs, qla, q_NuF, q_FuF, q_PuF, q_OuF, q_AuF, q_RuF, q_LuF, q_JuF, q_NuP, q_FuP, q_PuP, q_OuP, q_AuP, q_RuP, q_LuP, q_JuP, q_NuO, q_FuO, q_PuO, q_OuO, q_AuO, q_RuO, q_LuO, q_JuO, q_NuA, q_FuA, q_PuA, q_OuA, q_AuA, q_RuA, q_LuA, q_JuA, q_NuR, q_FuR, q_PuR, q_OuR, q_AuR, q_RuR, q_LuR, q_JuR, q_NuJ, q_FuJ, q_PuJ, q_OuJ, q_AuJ, q_RuJ, q_LuJ, q_JuJ, q_NuL, q_FuL, q_PuL, q_OuL, q_AuL, q_RuL, q_LuL, q_JuL, q_NuB, q_FuB, q_PuB, q_OuB, q_AuB, q_RuB, q_LuB, q_JuB, q_NuW, q_FuW, q_PuW, q_OuW, q_AuW, q_RuW, q_LuW, q_JuW, q_NuV, q_FuV, q_PuV, q_OuV, q_AuV, q_RuV, q_LuV, q_JuV, q_NuU, q_FuU, q_PuU, q_OuU, q_AuU, q_RuU, q_LuU, q_JuU, q_NuX, q_FuX, q_PuX, q_OuX, q_AuX, q_RuX, q_LuX, q_JuX, q_NuR4, q_FuR4, q_PuR4, q_OuR4, q_AuR4, q_RuR4, q_LuR4, q_JuR4, Nat.reduceEqDiff, reduceIte, and_true, true_and, and_false, false_and, and_self, if_true, if_false, not_true_eq_false, not_false_eq_true] using g5⟩
              intro w hw
              obtain ⟨y1, y2, y3, y4⟩ := g3 w hw
              simp only [q_NuF, q_FuF, q_PuF, q_OuF, q_AuF, q_RuF, q_LuF, q_JuF, q_NuP, q_FuP, q_PuP, q_OuP, q_AuP, q_RuP, q_LuP, q_JuP, q_NuO, q_FuO, q_PuO, q_OuO, q_AuO, q_RuO, q_LuO, q_JuO, q_NuA, q_FuA, q_PuA, q_OuA, q_AuA, q_RuA, q_LuA, q_JuA, q_NuR, q_FuR, q_PuR, q_OuR, q_AuR, q_RuR, q_LuR, q_JuR, q_NuJ, q_FuJ, q_PuJ, q_OuJ, q_AuJ, q_RuJ, q_LuJ, q_JuJ, q_NuL, q_FuL, q_PuL, q_OuL, q_AuL, q_RuL, q_LuL, q_JuL, q_NuB, q_FuB, q_PuB, q_OuB, q_AuB, q_RuB, q_LuB, q_JuB, q_NuW, q_FuW, q_PuW, q_OuW, q_AuW, q_RuW, q_LuW, q_JuW, q_NuV, q_FuV, q_PuV, q_OuV, q_AuV, q_RuV, q_LuV, q_JuV, q_NuU, q_FuU, q_PuU, q_OuU, q_AuU, q_RuU, q_LuU, q_JuU, q_NuX, q_FuX, q_PuX, q_OuX, q_AuX, q_RuX, q_LuX, q_JuX, q_NuR4, q_FuR4, q_PuR4, q_OuR4, q_AuR4, q_RuR4, q_LuR4, q_JuR4, Nat.reduceEqDiff, reduceIte, and_true, true_and, and_false, false_and, and_self, if_true, if_false, not_true_eq_false, not_false_eq_true, Nat.add_left_cancel_iff]
              by_cases e3 : w = 2
              · simp only [e3, Nat.reduceEqDiff, reduceIte, and_true, true_and, and_false, false_and, and_self, if_true, if_false, not_true_eq_false, not_false_eq_true]
                exact ⟨by lia, by lia, by rw [e3] at y4; exact y4⟩
              · by_cases ew : w = b.toNatClampNeg
                · simp only [e3, Nat.reduceEqDiff, reduceIte, and_true, true_and, and_false, false_and, and_self, if_true, if_false, not_true_eq_false, not_false_eq_true]
                  simp only [ew, Nat.reduceEqDiff, reduceIte, and_true, true_and, and_false, false_and, and_self, if_true, if_false, not_true_eq_false, not_false_eq_true]
                  exact ⟨by lia, by lia, by rw [← ew]; exact y4⟩
                · simp only [e3, ew, Nat.reduceEqDiff, reduceIte, and_true, true_and, and_false, false_and, and_self, if_true, if_false, not_true_eq_false, not_false_eq_true]
                  exact ⟨y1, y2, y3, y4⟩
            · rw [show zgA (zuA s 61 a.toNatClampNeg b.toNatClampNeg c) 41 0 = zgA s 41 0 from by funext j; simp only [q_NuF, q_FuF, q_PuF, q_OuF, q_AuF, q_RuF, q_LuF, q_JuF, q_NuP, q_FuP, q_PuP, q_OuP, q_AuP, q_RuP, q_LuP, q_JuP, q_NuO, q_FuO, q_PuO, q_OuO, q_AuO, q_RuO, q_LuO, q_JuO, q_NuA, q_FuA, q_PuA, q_OuA, q_AuA, q_RuA, q_LuA, q_JuA, q_NuR, q_FuR, q_PuR, q_OuR, q_AuR, q_RuR, q_LuR, q_JuR, q_NuJ, q_FuJ, q_PuJ, q_OuJ, q_AuJ, q_RuJ, q_LuJ, q_JuJ, q_NuL, q_FuL, q_PuL, q_OuL, q_AuL, q_RuL, q_LuL, q_JuL, q_NuB, q_FuB, q_PuB, q_OuB, q_AuB, q_RuB, q_LuB, q_JuB, q_NuW, q_FuW, q_PuW, q_OuW, q_AuW, q_RuW, q_LuW, q_JuW, q_NuV, q_FuV, q_PuV, q_OuV, q_AuV, q_RuV, q_LuV, q_JuV, q_NuU, q_FuU, q_PuU, q_OuU, q_AuU, q_RuU, q_LuU, q_JuU, q_NuX, q_FuX, q_PuX, q_OuX, q_AuX, q_RuX, q_LuX, q_JuX, q_NuR4, q_FuR4, q_PuR4, q_OuR4, q_AuR4, q_RuR4, q_LuR4, q_JuR4, Nat.reduceEqDiff, reduceIte, and_true, true_and, and_false, false_and, and_self, if_true, if_false, not_true_eq_false, not_false_eq_true]]
              generalize hrr : qch (zgF s 10 0 13) (zgA (zuA s 61 a.toNatClampNeg b.toNatClampNeg c) 61 a.toNatClampNeg 0) (zgA (zuA s 61 a.toNatClampNeg b.toNatClampNeg c) 61 a.toNatClampNeg 1) (qbr (zgA s 40 0) (zgA s 55 (zgP s 21 a.toNatClampNeg 0)) 0 1) (zgA s 41 0) zfu (-1) 0 = r at hr
              intro ez
              refine Z _ r (by repeat (first | exact qmc_rf | apply qmc_F0 | (refine qmc_F ?_ (by decide)) | (refine qmc_A ?_ (by decide)) | apply qmc_O | apply qmc_R | apply qmc_W | (refine qmc_V ?_ (by decide)) | apply qmc_U)) hrr.symm (fun z => absurd z ez) (fun _ => ?_)
              refine ⟨by show qth _ = _; simp (disch := decide) only [qth_uF, qth_uF100, qth_uP, qth_uO, qth_uA, qth_uB, qth_uR, qth_uL, qth_uW, qth_uV, qth_uU, qth_uX, qth_set], fun _ => by first | rfl | lia, ?_⟩; simp (disch := decide) only [qR, GD_uF, GD_uF10, GD_uF100, GD_uP, GD_uO, GD_uA, GD_uB, GD_uR, GD_uJ, GD_uL, GD_uW, GD_uV, GD_uU, GD_uX, GD_uR4, GO_uF, GO_uF10, GO_uF100, GO_uP, GO_uO, GO_uA, GO_uB, GO_uR, GO_uJ, GO_uL, GO_uW, GO_uV, GO_uU, GO_uX, GO_uR4, GT_uF, GT_uF10, GT_uF100, GT_uP, GT_uO, GT_uA, GT_uB, GT_uR, GT_uJ, GT_uL, GT_uW, GT_uV, GT_uU, GT_uX, GT_uR4, GP_uF, GP_uF13, GP_uF100, GP_uP, GP_uO, GP_uA, GP_uB, GP_uR, GP_uJ, GP_uL, GP_uW, GP_uV, GP_uU, GP_uX, GP_uR4, GW_uF, GW_uF100, GW_uP, GW_uO, GW_uA, GW_uB, GW_uR, GW_uJ, GW_uL, GW_uW, GW_uV, GW_uU, GW_uX, GW_uR4, GC_uF, GC_uF10, GC_uP, GC_uO, GC_uA, GC_uB, GC_uR, GC_uJ, GC_uL, GC_uW, GC_uV, GC_uU, GC_uX, GC_uR4, GR_uF, GR_uF100, GR_uP, GR_uO, GR_uA, GR_uB, GR_uR, GR_uJ, GR_uL, GR_uW, GR_uV, GR_uU, GR_uX, GK_uF, GK_uF10, GK_uF100, GK_uP, GK_uO, GK_uA, GK_uB, GK_uR, GK_uJ, GK_uL, GK_uW, GK_uV, GK_uU, GK_uX, GK_uR4, GS_uF, GS_uF10, GS_uF100, GS_uP, GS_uO, GS_uA, GS_uB, GS_uR, GS_uJ, GS_uL, GS_uW, GS_uV, GS_uU, GS_uX, GS_uR4, GB_uF, GB_uF100, GB_uP, GB_uO, GB_uA, GB_uB, GB_uR, GB_uJ, GB_uL, GB_uW, GB_uV, GB_uU, GB_uX, GB_uR4, GH_uF, GH_uF10, GH_uF100, GH_uP, GH_uO, GH_uA, GH_uB, GH_uR, GH_uJ, GH_uL, GH_uW, GH_uV, GH_uU, GH_uX, GH_uR4, GG_uF, GG_uF100, GG_uP, GG_uO, GG_uA, GG_uB, GG_uR, GG_uJ, GG_uL, GG_uW, GG_uV, GG_uU, GG_uX, GG_uR4]; refine ⟨?_, ?_, ?_, ?_, ?_, ?_, ?_, ?_, ?_, ?_, ?_, ?_⟩ <;> try with_reducible assumption
              · refine GK_up hK hk (by simp only [q_NuF, q_FuF, q_PuF, q_OuF, q_AuF, q_RuF, q_LuF, q_JuF, q_NuP, q_FuP, q_PuP, q_OuP, q_AuP, q_RuP, q_LuP, q_JuP, q_NuO, q_FuO, q_PuO, q_OuO, q_AuO, q_RuO, q_LuO, q_JuO, q_NuA, q_FuA, q_PuA, q_OuA, q_AuA, q_RuA, q_LuA, q_JuA, q_NuR, q_FuR, q_PuR, q_OuR, q_AuR, q_RuR, q_LuR, q_JuR, q_NuJ, q_FuJ, q_PuJ, q_OuJ, q_AuJ, q_RuJ, q_LuJ, q_JuJ, q_NuL, q_FuL, q_PuL, q_OuL, q_AuL, q_RuL, q_LuL, q_JuL, q_NuB, q_FuB, q_PuB, q_OuB, q_AuB, q_RuB, q_LuB, q_JuB, q_NuW, q_FuW, q_PuW, q_OuW, q_AuW, q_RuW, q_LuW, q_JuW, q_NuV, q_FuV, q_PuV, q_OuV, q_AuV, q_RuV, q_LuV, q_JuV, q_NuU, q_FuU, q_PuU, q_OuU, q_AuU, q_RuU, q_LuU, q_JuU, q_NuX, q_FuX, q_PuX, q_OuX, q_AuX, q_RuX, q_LuX, q_JuX, q_NuR4, q_FuR4, q_PuR4, q_OuR4, q_AuR4, q_RuR4, q_LuR4, q_JuR4, Nat.reduceEqDiff, reduceIte, and_true, true_and, and_false, false_and, and_self, if_true, if_false, not_true_eq_false, not_false_eq_true]) (by simp (disch := decide) only [GKh_uF, GKh_uF100, GKh_uP, GKh_uO, GKh_uA, GKh_uB, GKh_uR, GKh_uL, GKh_uW, GKh_uV, GKh_uU, GKh_uX]) (fun w hw => by simp (disch := first | decide | assumption) only [GK5_uF, GK5_uF10, GK5_uP, GK5_uO, GK5_uA, GK5_uB, GK5_uR, GK5_uL, GK5_uW, GK5_uV, GK5_uU, GK5_uX, GK5_oA61, GK5_oA3]) (fun w hw => by simp (disch := first | decide | assumption) only [GKz_uF, GKz_uP, GKz_uO, GKz_uA, GKz_uB, GKz_uR, GKz_uL, GKz_uW, GKz_uV, GKz_uU, GKz_uX]) ?_
                refine ⟨by simpa only [GKr, q_NuF, q_FuF, q_PuF, q_OuF, q_AuF, q_RuF, q_LuF, q_JuF, q_NuP, q_FuP, q_PuP, q_OuP, q_AuP, q_RuP, q_LuP, q_JuP, q_NuO, q_FuO, q_PuO, q_OuO, q_AuO, q_RuO, q_LuO, q_JuO, q_NuA, q_FuA, q_PuA, q_OuA, q_AuA, q_RuA, q_LuA, q_JuA, q_NuR, q_FuR, q_PuR, q_OuR, q_AuR, q_RuR, q_LuR, q_JuR, q_NuJ, q_FuJ, q_PuJ, q_OuJ, q_AuJ, q_RuJ, q_LuJ, q_JuJ, q_NuL, q_FuL, q_PuL, q_OuL, q_AuL, q_RuL, q_LuL, q_JuL, q_NuB, q_FuB, q_PuB, q_OuB, q_AuB, q_RuB, q_LuB, q_JuB, q_NuW, q_FuW, q_PuW, q_OuW, q_AuW, q_RuW, q_LuW, q_JuW, q_NuV, q_FuV, q_PuV, q_OuV, q_AuV, q_RuV, q_LuV, q_JuV, q_NuU, q_FuU, q_PuU, q_OuU, q_AuU, q_RuU, q_LuU, q_JuU, q_NuX, q_FuX, q_PuX, q_OuX, q_AuX, q_RuX, q_LuX, q_JuX, q_NuR4, q_FuR4, q_PuR4, q_OuR4, q_AuR4, q_RuR4, q_LuR4, q_JuR4, Nat.reduceEqDiff, reduceIte, and_true, true_and, and_false, false_and, and_self, if_true, if_false, not_true_eq_false, not_false_eq_true] using g1, by simpa only [GKa, q_NuF, q_FuF, q_PuF, q_OuF, q_AuF, q_RuF, q_LuF, q_JuF, q_NuP, q_FuP, q_PuP, q_OuP, q_AuP, q_RuP, q_LuP, q_JuP, q_NuO, q_FuO, q_PuO, q_OuO, q_AuO, q_RuO, q_LuO, q_JuO, q_NuA, q_FuA, q_PuA, q_OuA, q_AuA, q_RuA, q_LuA, q_JuA, q_NuR, q_FuR, q_PuR, q_OuR, q_AuR, q_RuR, q_LuR, q_JuR, q_NuJ, q_FuJ, q_PuJ, q_OuJ, q_AuJ, q_RuJ, q_LuJ, q_JuJ, q_NuL, q_FuL, q_PuL, q_OuL, q_AuL, q_RuL, q_LuL, q_JuL, q_NuB, q_FuB, q_PuB, q_OuB, q_AuB, q_RuB, q_LuB, q_JuB, q_NuW, q_FuW, q_PuW, q_OuW, q_AuW, q_RuW, q_LuW, q_JuW, q_NuV, q_FuV, q_PuV, q_OuV, q_AuV, q_RuV, q_LuV, q_JuV, q_NuU, q_FuU, q_PuU, q_OuU, q_AuU, q_RuU, q_LuU, q_JuU, q_NuX, q_FuX, q_PuX, q_OuX, q_AuX, q_RuX, q_LuX, q_JuX, q_NuR4, q_FuR4, q_PuR4, q_OuR4, q_AuR4, q_RuR4, q_LuR4, q_JuR4, Nat.reduceEqDiff, reduceIte, and_true, true_and, and_false, false_and, and_self, if_true, if_false, not_true_eq_false, not_false_eq_true] using g2, ?_, by simpa only [GKv, q_NuF, q_FuF, q_PuF, q_OuF, q_AuF, q_RuF, q_LuF, q_JuF, q_NuP, q_FuP, q_PuP, q_OuP, q_AuP, q_RuP, q_LuP, q_JuP, q_NuO, q_FuO, q_PuO, q_OuO, q_AuO, q_RuO, q_LuO, q_JuO, q_NuA, q_FuA, q_PuA, q_OuA, q_AuA, q_RuA, q_LuA, q_JuA, q_NuR, q_FuR, q_PuR, q_OuR, q_AuR, q_RuR, q_LuR, q_JuR, q_NuJ, q_FuJ, q_PuJ, q_OuJ, q_AuJ, q_RuJ, q_LuJ, q_JuJ, q_NuL, q_FuL, q_PuL, q_OuL, q_AuL, q_RuL, q_LuL, q_JuL, q_NuB, q_FuB, q_PuB, q_OuB, q_AuB, q_RuB, q_LuB, q_JuB, q_NuW, q_FuW, q_PuW, q_OuW, q_AuW, q_RuW, q_LuW, q_JuW, q_NuV, q_FuV, q_PuV, q_OuV, q_AuV, q_RuV, q_LuV, q_JuV, q_NuU, q_FuU, q_PuU, q_OuU, q_AuU, q_RuU, q_LuU, q_JuU, q_NuX, q_FuX, q_PuX, q_OuX, q_AuX, q_RuX, q_LuX, q_JuX, q_NuR4, q_FuR4, q_PuR4, q_OuR4, q_AuR4, q_RuR4, q_LuR4, q_JuR4, Nat.reduceEqDiff, reduceIte, and_true, true_and, and_false, false_and, and_self, if_true, if_false, not_true_eq_false, not_false_eq_true] using g4, by simpa only [GKs, qla, q_NuF, q_FuF, q_PuF, q_OuF, q_AuF, q_RuF, q_LuF, q_JuF, q_NuP, q_FuP, q_PuP, q_OuP, q_AuP, q_RuP, q_LuP, q_JuP, q_NuO, q_FuO, q_PuO, q_OuO, q_AuO, q_RuO, q_LuO, q_JuO, q_NuA, q_FuA, q_PuA, q_OuA, q_AuA, q_RuA, q_LuA, q_JuA, q_NuR, q_FuR, q_PuR, q_OuR, q_AuR, q_RuR, q_LuR, q_JuR, q_NuJ, q_FuJ, q_PuJ, q_OuJ, q_AuJ, q_RuJ, q_LuJ, q_JuJ, q_NuL, q_FuL, q_PuL, q_OuL, q_AuL, q_RuL, q_LuL, q_JuL, q_NuB, q_FuB, q_PuB, q_OuB, q_AuB, q_RuB, q_LuB, q_JuB, q_NuW, q_FuW, q_PuW, q_OuW, q_AuW, q_RuW, q_LuW, q_JuW, q_NuV, q_FuV, q_PuV, q_OuV, q_AuV, q_RuV, q_LuV, q_JuV, q_NuU, q_FuU, q_PuU, q_OuU, q_AuU, q_RuU, q_LuU, q_JuU, q_NuX, q_FuX, q_PuX, q_OuX, q_AuX, q_RuX, q_LuX, q_JuX, q_NuR4, q_FuR4, q_PuR4, q_OuR4, q_AuR4, q_RuR4, q_LuR4, q_JuR4, Nat.reduceEqDiff, reduceIte, and_true, true_and, and_false, false_and, and_self, if_true, if_false, not_true_eq_false, not_false_eq_true] using g5⟩
                intro w hw
                obtain ⟨y1, y2, y3, y4⟩ := g3 w hw
                simp only [q_NuF, q_FuF, q_PuF, q_OuF, q_AuF, q_RuF, q_LuF, q_JuF, q_NuP, q_FuP, q_PuP, q_OuP, q_AuP, q_RuP, q_LuP, q_JuP, q_NuO, q_FuO, q_PuO, q_OuO, q_AuO, q_RuO, q_LuO, q_JuO, q_NuA, q_FuA, q_PuA, q_OuA, q_AuA, q_RuA, q_LuA, q_JuA, q_NuR, q_FuR, q_PuR, q_OuR, q_AuR, q_RuR, q_LuR, q_JuR, q_NuJ, q_FuJ, q_PuJ, q_OuJ, q_AuJ, q_RuJ, q_LuJ, q_JuJ, q_NuL, q_FuL, q_PuL, q_OuL, q_AuL, q_RuL, q_LuL, q_JuL, q_NuB, q_FuB, q_PuB, q_OuB, q_AuB, q_RuB, q_LuB, q_JuB, q_NuW, q_FuW, q_PuW, q_OuW, q_AuW, q_RuW, q_LuW, q_JuW, q_NuV, q_FuV, q_PuV, q_OuV, q_AuV, q_RuV, q_LuV, q_JuV, q_NuU, q_FuU, q_PuU, q_OuU, q_AuU, q_RuU, q_LuU, q_JuU, q_NuX, q_FuX, q_PuX, q_OuX, q_AuX, q_RuX, q_LuX, q_JuX, q_NuR4, q_FuR4, q_PuR4, q_OuR4, q_AuR4, q_RuR4, q_LuR4, q_JuR4, Nat.reduceEqDiff, reduceIte, and_true, true_and, and_false, false_and, and_self, if_true, if_false, not_true_eq_false, not_false_eq_true, Nat.add_left_cancel_iff]
                by_cases e3 : w = 2
                · simp only [e3, Nat.reduceEqDiff, reduceIte, and_true, true_and, and_false, false_and, and_self, if_true, if_false, not_true_eq_false, not_false_eq_true]
                  exact ⟨by lia, by lia, by rw [e3] at y4; exact y4⟩
                · by_cases ew : w = b.toNatClampNeg
                  · simp only [e3, Nat.reduceEqDiff, reduceIte, and_true, true_and, and_false, false_and, and_self, if_true, if_false, not_true_eq_false, not_false_eq_true]
                    simp only [ew, Nat.reduceEqDiff, reduceIte, and_true, true_and, and_false, false_and, and_self, if_true, if_false, not_true_eq_false, not_false_eq_true]
                    exact ⟨by lia, by lia, by rw [← ew]; exact y4⟩
                  · simp only [e3, ew, Nat.reduceEqDiff, reduceIte, and_true, true_and, and_false, false_and, and_self, if_true, if_false, not_true_eq_false, not_false_eq_true]
                    exact ⟨y1, y2, y3, y4⟩
              · simp only [GS, q_NuF, q_FuF, q_PuF, q_OuF, q_AuF, q_RuF, q_LuF, q_JuF, q_NuP, q_FuP, q_PuP, q_OuP, q_AuP, q_RuP, q_LuP, q_JuP, q_NuO, q_FuO, q_PuO, q_OuO, q_AuO, q_RuO, q_LuO, q_JuO, q_NuA, q_FuA, q_PuA, q_OuA, q_AuA, q_RuA, q_LuA, q_JuA, q_NuR, q_FuR, q_PuR, q_OuR, q_AuR, q_RuR, q_LuR, q_JuR, q_NuJ, q_FuJ, q_PuJ, q_OuJ, q_AuJ, q_RuJ, q_LuJ, q_JuJ, q_NuL, q_FuL, q_PuL, q_OuL, q_AuL, q_RuL, q_LuL, q_JuL, q_NuB, q_FuB, q_PuB, q_OuB, q_AuB, q_RuB, q_LuB, q_JuB, q_NuW, q_FuW, q_PuW, q_OuW, q_AuW, q_RuW, q_LuW, q_JuW, q_NuV, q_FuV, q_PuV, q_OuV, q_AuV, q_RuV, q_LuV, q_JuV, q_NuU, q_FuU, q_PuU, q_OuU, q_AuU, q_RuU, q_LuU, q_JuU, q_NuX, q_FuX, q_PuX, q_OuX, q_AuX, q_RuX, q_LuX, q_JuX, q_NuR4, q_FuR4, q_PuR4, q_OuR4, q_AuR4, q_RuR4, q_LuR4, q_JuR4, Nat.reduceEqDiff, reduceIte, and_true, true_and, and_false, false_and, and_self, if_true, if_false, not_true_eq_false, not_false_eq_true]
                refine ⟨s1, s2, s3, s4, fun j => ?_⟩
                rw [s5 j]
        refine ⟨fun z => S (.inl z), fun z => i_appointBy g e ⟨fun y => S (.inr y), fun y => ?_⟩⟩
        have eD : zgF (zuF s 100 0 0 0) 100 0 3 = zgF s 10 0 15 := d1
        refine K _ _ qmc_rf (i_bad0 ⟨fun _ => im_stateOf (s := s) (by repeat (first | exact qmc_rf | apply qmc_F0 | (refine qmc_F ?_ (by decide)) | (refine qmc_A ?_ (by decide)) | apply qmc_O | apply qmc_R | apply qmc_W | (refine qmc_V ?_ (by decide)) | apply qmc_U)) hv hD g hh ⟨fun _ => ⟨v9, fun _ => ⟨fun z' => absurd z' z, fun _ => im_disputeFrom (s := s) (by repeat (first | exact qmc_rf | apply qmc_F0 | (refine qmc_F ?_ (by decide)) | (refine qmc_A ?_ (by decide)) | apply qmc_O | apply qmc_R | apply qmc_W | (refine qmc_V ?_ (by decide)) | apply qmc_U)) hv hD g e (im_keptOf (W := 8) hv v15_8 rfl (im_keptOf (W := 5) hv v15_5 rfl ?_))⟩, fun z' => ?_⟩, fun z => absurd e z⟩, fun z => absurd rfl z⟩)
        · obtain ⟨⟨n1, e4, e5, e6, e7⟩, ⟨e8, -⟩, ⟨p0, p1, r0, r1, y0, y1, z0, z1, x0, x1⟩, -⟩ := GKr_un g1
          have hr : zgF s 24 (zgP s 21 a.toNatClampNeg 3) 4 < 127 := by have := g1.2.2; lia
          obtain ⟨u1, u2, u3, u4, u5, u6, u7, u8, -⟩ := GKs_disp g5 e
          simp only [q_NuF, q_FuF, q_PuF, q_OuF, q_AuF, q_RuF, q_LuF, q_JuF, q_NuP, q_FuP, q_PuP, q_OuP, q_AuP, q_RuP, q_LuP, q_JuP, q_NuO, q_FuO, q_PuO, q_OuO, q_AuO, q_RuO, q_LuO, q_JuO, q_NuA, q_FuA, q_PuA, q_OuA, q_AuA, q_RuA, q_LuA, q_JuA, q_NuR, q_FuR, q_PuR, q_OuR, q_AuR, q_RuR, q_LuR, q_JuR, q_NuJ, q_FuJ, q_PuJ, q_OuJ, q_AuJ, q_RuJ, q_LuJ, q_JuJ, q_NuL, q_FuL, q_PuL, q_OuL, q_AuL, q_RuL, q_LuL, q_JuL, q_NuB, q_FuB, q_PuB, q_OuB, q_AuB, q_RuB, q_LuB, q_JuB, q_NuW, q_FuW, q_PuW, q_OuW, q_AuW, q_RuW, q_LuW, q_JuW, q_NuV, q_FuV, q_PuV, q_OuV, q_AuV, q_RuV, q_LuV, q_JuV, q_NuU, q_FuU, q_PuU, q_OuU, q_AuU, q_RuU, q_LuU, q_JuU, q_NuX, q_FuX, q_PuX, q_OuX, q_AuX, q_RuX, q_LuX, q_JuX, q_NuR4, q_FuR4, q_PuR4, q_OuR4, q_AuR4, q_RuR4, q_LuR4, q_JuR4, Nat.reduceEqDiff, reduceIte, and_true, true_and, and_false, false_and, and_self, if_true, if_false, not_true_eq_false, not_false_eq_true]
          refine im_countedFrom (by rw [e5]; exact r0) (by rw [e5]; exact r1) (Or.inl (by rw [e5]; exact hr)) u7 (by lia) (by rw [e8]; exact z1) ?_
          rw [d1]
          exact ⟨fun x => absurd x y, fun _ => zOK_0 hs rfl⟩
        · exfalso
          have z2 : ¬ zgA s 131 0 (3 * a + b).toNatClampNeg < 0 := z'
          rw [e9, ← q1] at z2
          exact z2 (by rw [show zgA s 61 a.toNatClampNeg b.toNatClampNeg = -1 from e1]; decide)
      · have q1 := (g3 _ nb0).1
        have q2 := (g3 _ nb0).2.1
        refine K _ _ qmc_rf (i_bad0 ⟨fun _ => im_stateOf (s := s) (by repeat (first | exact qmc_rf | apply qmc_F0 | (refine qmc_F ?_ (by decide)) | (refine qmc_A ?_ (by decide)) | apply qmc_O | apply qmc_R | apply qmc_W | (refine qmc_V ?_ (by decide)) | apply qmc_U)) hv hD g hh ⟨fun _ => ⟨v9, fun z => ?_, fun _ => zOK_0 hs rfl⟩, fun z => absurd e z⟩, fun z => absurd rfl z⟩)
        exfalso
        have z2 : zgA s 131 0 (3 * a + b).toNatClampNeg < 0 := z
        rw [e9, ← q1] at z2
        lia
      · exact K _ _ qmc_rf (i_bad0 ⟨fun _ => im_stateOf (s := s) (by repeat (first | exact qmc_rf | apply qmc_F0 | (refine qmc_F ?_ (by decide)) | (refine qmc_A ?_ (by decide)) | apply qmc_O | apply qmc_R | apply qmc_W | (refine qmc_V ?_ (by decide)) | apply qmc_U)) hv hD g hh ⟨fun z => absurd z e, fun _ => zOK_0 hs rfl⟩, fun z => absurd rfl z⟩)

/-! a condition's reading: what class and model say of one piece of it; the pieces in a row -/
abbrev ySt : Type := Int32 × Int32 × Int32
def yst (x : ySt) (a b : Nat) : Prop := (x.1 = -1 ∧ x.2.1 = 1 ∧ 1 ≤ a ∧ b = a) ∨ (x.1 = -2 ∧ x.2.1 = 2 ∧ 2 ≤ a ∧ b + 1 = a) ∨ (x.1 = -3 ∧ x.2.1 = 3 ∧ 2 ≤ a ∧ b + 1 = a) ∨ (∃ m c v : Nat, m < 3 ∧ c < 2 ∧ v ≤ 9999 ∧ x.1 = Int32.ofNat ((2 * m + c) * 10000 + v) ∧ x.2.1 = Int32.ofNat (4 + c) ∧ x.2.2 = Int32.ofNat (3 * v + m) ∧ b = a + 1)
def ywf (u : Nat) (l : List ySt) : Prop := ∀ k, ∃ dp : Nat → Nat, dp 0 = k ∧ dp l.length = k + 1 ∧ ∀ j, ∀ h : j < l.length, dp j ≤ k + u ∧ yst l[j] (dp j) (dp (j + 1))
theorem ywf_mo {u v : Nat} {l : List ySt} (h : u ≤ v) (a : ywf u l) : ywf v l := by
  intro k
  obtain ⟨dp, h1, h2, h3⟩ := a k
  exact ⟨dp, h1, h2, fun j hj => ⟨by have := (h3 j hj).1; omega, (h3 j hj).2⟩⟩
theorem ywf_not {u : Nat} {l : List ySt} (hu : 1 ≤ u) (a : ywf u l) : ywf u (l ++ [(-1, 1, 0)]) := by
  intro k
  obtain ⟨dp, h1, h2, h3⟩ := a k
  refine ⟨fun j => if j ≤ l.length then dp j else k + 1, ?_, ?_, ?_⟩
  · dsimp only
    rw [if_pos (Nat.zero_le _)]; exact h1
  · dsimp only
    rw [List.length_append, List.length_singleton, if_neg (by omega)]
  · intro j hj
    rw [List.length_append, List.length_singleton] at hj
    dsimp only
    by_cases c : j < l.length
    · rw [if_pos (by omega), if_pos (by omega), List.getElem_append_left c]
      exact h3 j c
    · have e : j = l.length := by omega
      subst e
      rw [if_pos (Nat.le_refl _), if_neg (by omega), h2]
      refine ⟨by omega, .inl ?_⟩
      rw [List.getElem_append_right (Nat.le_refl _)]
      simp only [Nat.sub_self, List.getElem_singleton]
      exact ⟨trivial, trivial, by omega, trivial⟩
theorem ywf_op {u : Nat} {l m : List ySt} {x : ySt} (hx : ∀ a b, 2 ≤ a → b + 1 = a → yst x a b) (hu : 1 ≤ u) (a : ywf (u + 1) l) (b : ywf u m) : ywf (u + 1) (l ++ m ++ [x]) := by
  intro k
  obtain ⟨dp, h1, h2, h3⟩ := a k
  obtain ⟨dq, g1, g2, g3⟩ := b (k + 1)
  refine ⟨fun j => if j ≤ l.length then dp j else if j ≤ l.length + m.length then dq (j - l.length) else k + 1, ?_, ?_, ?_⟩
  · dsimp only
    rw [if_pos (Nat.zero_le _)]; exact h1
  · dsimp only
    rw [List.length_append, List.length_append, List.length_singleton, if_neg (by omega), if_neg (by omega)]
  · intro j hj
    have hj' := hj
    rw [List.length_append, List.length_append, List.length_singleton] at hj'
    dsimp only
    by_cases c : j < l.length
    · have e2 : (l ++ m ++ [x])[j] = l[j] := by
        rw [List.getElem_append_left (by rw [List.length_append]; omega), List.getElem_append_left c]
      rw [if_pos (by omega), if_pos (by omega), e2]
      have := h3 j c
      exact ⟨by omega, this.2⟩
    · have q1 : (if j ≤ l.length then dp j else if j ≤ l.length + m.length then dq (j - l.length) else k + 1) = if j ≤ l.length + m.length then dq (j - l.length) else k + 1 := by
        by_cases e : j ≤ l.length
        · have e' : j = l.length := by omega
          rw [if_pos e, if_pos (by omega), e', Nat.sub_self, h2, g1]
        · rw [if_neg e]
      rw [q1]
      by_cases c2 : j < l.length + m.length
      · rw [if_pos (by omega), if_neg (by omega), if_pos (by omega)]
        have e2 : (l ++ m ++ [x])[j] = m[j - l.length]'(by omega) := by
          rw [List.getElem_append_left (by rw [List.length_append]; exact c2), List.getElem_append_right (by omega)]
        rw [e2, show j + 1 - l.length = j - l.length + 1 by omega]
        have := g3 (j - l.length) (by omega)
        exact ⟨by omega, this.2⟩
      · have e : j = l.length + m.length := by omega
        rw [if_pos (by omega), if_neg (by omega), if_neg (by omega), show j - l.length = m.length by omega, g2]
        refine ⟨by omega, ?_⟩
        have e2 : (l ++ m ++ [x])[j] = x := by
          rw [List.getElem_append_right (by rw [List.length_append]; omega)]
          simp only [List.getElem_singleton]
        rw [e2]
        exact hx _ _ (by omega) rfl
def yar (g : ySt → Int32) (A A' : Nat → Int32) (k : Nat) (l : List ySt) : Prop := (∀ j, j < k → A' j = A j) ∧ ∀ j, ∀ h : j < l.length, A' (k + j) = g l[j]
theorem yar_nil {g : ySt → Int32} {A : Nat → Int32} {k : Nat} : yar g A A k [] := ⟨fun _ _ => rfl, fun j h => absurd h (by simp only [List.length_nil]; omega)⟩
theorem yar_one {g : ySt → Int32} {A : Nat → Int32} {k : Nat} {x : ySt} {y : Int32} (e : y = g x) : yar g A (qst1 A k y) k [x] := by
  refine ⟨fun j hj => qst1_ne (by omega), fun j h => ?_⟩
  rw [List.length_singleton] at h
  have e0 : j = 0 := by omega
  subst e0
  rw [Nat.add_zero, qst1_at, e]
  rfl
theorem yar_app {g : ySt → Int32} {A A1 A2 : Nat → Int32} {k k1 : Nat} {l m : List ySt} (e : k1 = k + l.length) (a : yar g A A1 k l) (b : yar g A1 A2 k1 m) : yar g A A2 k (l ++ m) := by
  subst e
  refine ⟨fun j hj => (b.1 j (by omega)).trans (a.1 j hj), fun j h => ?_⟩
  rw [List.length_append] at h
  by_cases c : j < l.length
  · rw [List.getElem_append_left c, b.1 (k + j) (by omega)]
    exact a.2 j c
  · rw [List.getElem_append_right (by omega), ← b.2 (j - l.length) (by omega), show k + l.length + (j - l.length) = k + j by omega]
/-- the model reads one piece at q, well, up to e -/
def YOK (B : Nat → Int32) (L : Nat) (mo : zTs → (zTs → Prop) → Prop) (q e d : Nat) (l : List ySt) : Prop := ∀ (t : zTs) (g A4 A6 A9 A10 : Nat → Int32) (P : zTs → Prop) (p k : Nat), YB t B L → g 7 = Int32.ofNat L → g 8 = Int32.ofNat p → g 9 = 0 → g 12 = Int32.ofNat d → g 21 = Int32.ofNat k → ysk B L p q → k + L ≤ 799 + q → (∀ g' A9' A10', g' 8 = Int32.ofNat e → g' 21 = Int32.ofNat (k + l.length) → yag [8, 21] g g' → yar (fun x => x.2.1) A9 A9' k l → yar (fun x => x.2.2) A10 A10' k l → P (YM t g' A4 A6 A9' A10')) → mo (YM t g A4 A6 A9 A10) P
/-- the model finds a fault in the piece at q -/
def YER (B : Nat → Int32) (L : Nat) (mo : zTs → (zTs → Prop) → Prop) (q d : Nat) (kd pl : Int32) : Prop := ∀ (t : zTs) (g A4 A6 A9 A10 : Nat → Int32) (P : zTs → Prop) (p k : Nat), YB t B L → g 7 = Int32.ofNat L → g 8 = Int32.ofNat p → g 9 = 0 → g 12 = Int32.ofNat d → g 21 = Int32.ofNat k → ysk B L p q → k + L ≤ 799 + q → (∀ g' A9' A10', YF L kd pl g' → yag [8, 9, 10, 12, 21] g g' → P (YM t g' A4 A6 A9' A10')) → mo (YM t g A4 A6 A9 A10) P
/-- the model, a fault told, passes by -/
def YDR (B : Nat → Int32) (L : Nat) (mo : zTs → (zTs → Prop) → Prop) : Prop := ∀ (t : zTs) (g A4 A6 A9 A10 : Nat → Int32) (P : zTs → Prop) (kd pl : Int32), YB t B L → YF L kd pl g → (∀ g', YF L kd pl g' → yag [8, 12] g g' → P (YM t g' A4 A6 A9 A10)) → mo (YM t g A4 A6 A9 A10) P
def YCS (B : Nat → Int32) (L d u : Nat) (co : zTs → Int32 → (Int32 → zTs → Prop) → Prop) (mo : zTs → (zTs → Prop) → Prop) : Prop := ∀ (s : zTs) (w : Nat) (f S : Nat → Int32) (q p n : Nat) (P : Int32 → zTs → Prop), yTB (zgA s 43 0) B L → YT B L w f q p → f 2 = Int32.ofNat n → n < q →
  (∀ w' f' S' q' p' e l, YT B L w' f' q' p' → ysk B L e q' → f' 2 = Int32.ofNat (n + l.length) → yag [2, 4, 5, 7, 8, 9] f f' → yar (fun x => x.1) S S' n l → q + l.length ≤ q' → ywf u l → YOK B L mo q e d l → P 1 (YC s w' f' S')) →
  (∀ w' f' S' m kd pl, f' 2 = Int32.ofNat m → m < 400 → f' 11 = kd → f' 12 = pl → 0 < kd → yag [2, 4, 5, 7, 8, 9, 11, 12] f f' → YER B L mo q d kd pl → P 0 (YC s w' f' S')) →
  co (YC s w f S) (Int32.ofNat d) P
theorem i_addStep {P : Int32 → zTs → Prop} {s : zTs} {w n : Nat} {f S : Nat → Int32} {x : Int32} (h2 : f 2 = Int32.ofNat n) (hn : n < 400) (h : P 1 (YC s w (qst1 f 2 (Int32.ofNat (n + 1))) (qst1 S n x))) : w_X6_addStep (YC s w f S) x P := by
  unfold w_X6_addStep
  rw [YC_gf, h2, show (400 : Int32) = Int32.ofNat 400 from rfl, q_on (by omega)]
  refine ⟨fun z => ?_, fun _ => ⟨q_nv (by omega) (by omega), fun a ea b eb => ?_⟩⟩
  · rw [q_nle (by omega) (by omega)] at z; omega
  · rw [YC_S] at ea
    subst ea
    rw [YC_gf, h2, YC_f, q_os (by omega)] at eb
    subst eb
    exact h
theorem i_fail {P : Int32 → zTs → Prop} {s : zTs} {w : Nat} {f S : Nat → Int32} {k : Int32} (h : P 0 (YC s w (qst1 (qst1 f 11 k) 12 (f 4)) S)) : w_X6_fail (YC s w f S) k P := by
  intro a ea b eb
  rw [YC_f] at ea
  subst ea
  rw [YC_gf, YC_f, qst1_ne (by decide)] at eb
  subst eb
  exact h
/-- pieces in a row, with one word between them -/
theorem y_row {B : Nat → Int32} {L d u v : Nat} {x y : Int32} {one : zTs → Int32 → (Int32 → zTs → Prop) → Prop} {mone mo : zTs → (zTs → Prop) → Prop} {F : (Int32 → zTs → Prop) → Nat → zTs → Int32 → Int32 → Int32 → Prop} {G : (zTs → Prop) → Nat → zTs → Prop} {co : zTs → Int32 → (Int32 → zTs → Prop) → Prop}
    (h0 : ∀ j, L ≤ j → B j = 0) (hv1 : 1 ≤ v) (hv : v < 24) (hu : 1 ≤ u) (hx : ∀ a b, 2 ≤ a → b + 1 = a → yst (x, y, 0) a b)
    (hF : ∀ (P : Int32 → zTs → Prop) n9 st a1 a2 a3, ((zgF st 13 0 3) ≤ a3 → (a2 = 0 ∨ a2 = 1) ∧ (P a2 st)) ∧ (¬ (zgF st 13 0 3) ≤ a3 → (a2 = 0 → (a2 = 0 ∨ a2 = 1) ∧ (P a2 st)) ∧ (¬ a2 = 0 → (zgP st 13 0 6 < 24) ∧ ((((zgP st 13 0 6) : Nat) = v → w_X6_advance st (fun (s31 : zTs) => (one s31 a1 (fun (r36 : Int32) (s36 : zTs) => ((r36 = 0 → ∀ x57 : Int32, x57 = a3 + 1 → F P n9 s36 a1 0 x57) ∧ (¬ r36 = 0 → w_X6_addStep s36 x (fun (r45 : Int32) (s45 : zTs) => ((r45 = 0 → ∀ x57 : Int32, x57 = a3 + 1 → F P n9 s45 a1 0 x57) ∧ (¬ r45 = 0 → ∀ x57 : Int32, x57 = a3 + 1 → F P n9 s45 a1 1 x57))))))))) ∧ (¬ ((zgP st 13 0 6) : Nat) = v → (a2 = 0 ∨ a2 = 1) ∧ (P a2 st))))) → F P (n9 + 1) st a1 a2 a3)
    (hco : ∀ st a1 P, one st a1 (fun (r2 : Int32) (s2 : zTs) => (F P zfu s2 a1 r2 0)) → co st a1 P)
    (hG : ∀ (P : zTs → Prop) n9 st, w_X12_eat st v (fun (r8 : Int32) (s8 : zTs) => ((r8 = 0 → P s8) ∧ (¬ r8 = 0 → mone s8 (fun (s15 : zTs) => (w_X12_emits s15 y 0 (fun (s21 : zTs) => (G P n9 s21))))))) → G P (n9 + 1) st)
    (hmo : ∀ st P, mone st (fun (s1 : zTs) => (G P zfu s1)) → mo st P)
    (hd : YDR B L mone) (h1 : YCS B L d u one mone) : YCS B L d (u + 1) co mo ∧ YDR B L mo := by
  have GF : ∀ (P : zTs → Prop) n9 t g A4 A6 A9 A10 kd pl, YF L kd pl g → P (YM t g A4 A6 A9 A10) → G P (n9 + 1) (YM t g A4 A6 A9 A10) := fun P n9 t g A4 A6 A9 A10 kd pl hf h => hG _ _ _ (im_eatF hf ⟨fun _ => h, fun z => absurd rfl z⟩)
  constructor
  · intro s w0 f0 S0 q0 p0 n P hT hY0 hn hnq ok er
    have l4 := hT.1
    -- the loop, with what is read
    have loop : ∀ (fu it : Nat) (w : Nat) (f S : Nat → Int32) (q p e : Nat) (l : List ySt), YT B L w f q p → ysk B L e q → f 2 = Int32.ofNat (n + l.length) → yag [2, 4, 5, 7, 8, 9] f0 f → yar (fun x => x.1) S0 S n l → q0 + l.length ≤ q → q0 + it ≤ q → ywf (u + 1) l → L - it < fu →
        (∀ (t : zTs) (g A4 A6 A9 A10 : Nat → Int32) (P : zTs → Prop) (p k : Nat), YB t B L → g 7 = Int32.ofNat L → g 8 = Int32.ofNat p → g 9 = 0 → g 12 = Int32.ofNat d → g 21 = Int32.ofNat k → ysk B L p q0 → k + L ≤ 799 + q0 → (∀ g' A9' A10' v', zfu ≤ v' + it → g' 8 = Int32.ofNat e → g' 21 = Int32.ofNat (k + l.length) → yag [8, 21] g g' → yar (fun x => x.2.1) A9 A9' k l → yar (fun x => x.2.2) A10 A10' k l → G P v' (YM t g' A4 A6 A9' A10')) → mo (YM t g A4 A6 A9 A10) P) →
        F P fu (YC s w f S) (Int32.ofNat d) 1 (Int32.ofNat it) := by
      intro fu
      induction fu with
      | zero => intro it w f S q p e l hY hs h2 ha hr hl hi hw hfu; omega
      | succ fu ih =>
        intro it w f S q p e l hY hs h2 ha hr hl hi hw hfu acc
        have qL := hY.2.2.2.1
        have pL := hY.2.2.2.2.1
        obtain ⟨wm, wp⟩ := YT_w hY h0 hv1 hv
        refine hF _ _ _ _ _ _ ⟨fun z => ?_, fun _ => ⟨fun z => absurd z (by decide), fun _ => ?_⟩⟩
        · exfalso
          rw [YC_gf, hY.1, q_nle (by omega) (by omega)] at z
          omega
        rw [YC_gw]
        refine ⟨YT_w24 hY, fun z => ?_, fun z => ⟨.inr rfl, ?_⟩⟩
        · have pe := wp z
          have l2 : 2 ≤ zlen.getD v 0 := y_l1 ⟨v, hv⟩ hv1
          refine i_adv hT hY.1 hY.2.2.1 pL (fun w2 f2 q2 p2 hs2 hY2 ha2 => ?_)
          have q2p := hs2.1
          have f22 : f2 2 = Int32.ofNat (n + l.length) := (ha2 2 (by decide)).trans h2
          refine h1 s w2 f2 S q2 p2 (n + l.length) _ hT hY2 f22 (by omega) ?_ ?_
          · intro w3 f3 S3 q3 p3 e3 l3 hY3 hs3 h32 ha3 hr3 hl3 hw3 ok3
            have q3L := hY3.2.2.2.1
            refine ⟨fun z => absurd z (by decide), fun _ => i_addStep h32 (by omega) ⟨fun z => absurd z (by decide), fun _ x57 hx57 => ?_⟩⟩
            subst hx57
            rw [q_os (by omega)]
            have len : (l ++ l3 ++ [((x, y, 0) : ySt)]).length = l.length + l3.length + 1 := by rw [List.length_append, List.length_append, List.length_singleton]
            refine ih (it + 1) w3 _ _ q3 p3 e3 (l ++ l3 ++ [(x, y, 0)]) ⟨(qst1_ne (by decide)).trans hY3.1, (qst1_ne (by decide)).trans hY3.2.1, (qst1_ne (by decide)).trans hY3.2.2.1, hY3.2.2.2.1, hY3.2.2.2.2.1, hY3.2.2.2.2.2.1, ?_⟩ hs3 (qst1_at.trans ?_) ?_ ?_ ?_ (by omega) (ywf_op hx hu hw hw3) (by omega) ?_
            · have := hY3.2.2.2.2.2.2
              unfold yTok at this ⊢
              rw [qst1_ne (by decide), qst1_ne (by decide)]
              exact this
            · rw [len]; congr 1; omega
            · exact yag_st (by decide) (yag_tr (yag_tr ha (yag_mo (by decide) ha2)) ha3)
            · exact yar_app (k1 := n + l.length + l3.length) (by rw [List.length_append]; omega) (yar_app rfl hr hr3) (yar_one rfl)
            · rw [len]; omega
            · intro t g A4 A6 A9 A10 P' p' k hB g7 g8 g9 g12 g21 hs' hk kk
              refine acc t g A4 A6 A9 A10 P' p' k hB g7 g8 g9 g12 g21 hs' hk (fun g1 B9 B10 v' hv' i8 i21 ia r9 r10 => ?_)
              obtain ⟨v2, rfl⟩ : ∃ v2, v' = v2 + 1 := ⟨v' - 1, by have : zfu = 100000 := rfl; omega⟩
              have j7 : g1 7 = Int32.ofNat L := (ia 7 (by decide)).trans g7
              have j9 : g1 9 = 0 := (ia 9 (by decide)).trans g9
              refine hG _ _ _ (im_eat hB j7 i8 j9 (by have := hs.1; omega) hv (fun g2 q' hq' m k8 ka => ⟨fun z => absurd z (by decide), fun _ => ?_⟩) (fun g2 q' hq' m k8 ka => ?_))
              · have qe := ysk_u hq' hs
                subst qe
                rw [← pe] at k8
                refine ok3 t g2 A4 A6 B9 B10 _ p (k + l.length) hB ((ka 7 (by decide)).trans j7) k8 ((ka 9 (by decide)).trans j9) ((ka 12 (by decide)).trans ((ia 12 (by decide)).trans g12)) ((ka 21 (by decide)).trans i21) hs2 (by omega) (fun g3 C9 C10 m8 m21 ma s9 s10 => ?_)
                refine im_emits ((ma 9 (by decide)).trans ((ka 9 (by decide)).trans j9)) m21 (by omega) ?_
                refine kk _ _ _ v2 (by omega) ((qst1_ne (by decide)).trans m8) (qst1_at.trans (by rw [len]; congr 1; omega)) (yag_st (by decide) (yag_tr (yag_tr ia (yag_mo (by decide) ka)) ma)) ?_ ?_
                · exact yar_app (k1 := k + l.length + l3.length) (by rw [List.length_append]; omega) (yar_app rfl r9 s9) (yar_one rfl)
                · exact yar_app (k1 := k + l.length + l3.length) (by rw [List.length_append]; omega) (yar_app rfl r10 s10) (yar_one rfl)
              · exfalso
                have qe := ysk_u hq' hs
                subst qe
                exact m (wm.mpr z)
          · intro w3 f3 S3 m kd pl h32 hm h11 h12 hk ha3 er3
            refine ⟨fun _ x57 hx57 => ?_, fun z => absurd rfl z⟩
            subst hx57
            obtain ⟨fu', rfl⟩ : ∃ fu', fu = fu' + 1 := ⟨fu - 1, by omega⟩
            have done : P 0 (YC s w3 f3 S3) := by
              refine er w3 f3 S3 m kd pl h32 hm h11 h12 hk (yag_tr (yag_tr (yag_mo (by decide) ha) (yag_mo (by decide) ha2)) ha3) ?_
              intro t g A4 A6 A9 A10 P' p' k hB g7 g8 g9 g12 g21 hs' hk' kk
              refine acc t g A4 A6 A9 A10 P' p' k hB g7 g8 g9 g12 g21 hs' hk' (fun g1 B9 B10 v' hv' i8 i21 ia r9 r10 => ?_)
              obtain ⟨v2, rfl⟩ : ∃ v2, v' = v2 + 1 + 1 := ⟨v' - 2, by have : zfu = 100000 := rfl; omega⟩
              have j7 : g1 7 = Int32.ofNat L := (ia 7 (by decide)).trans g7
              have j9 : g1 9 = 0 := (ia 9 (by decide)).trans g9
              refine hG _ _ _ (im_eat hB j7 i8 j9 (by have := hs.1; omega) hv (fun g2 q' hq' m k8 ka => ⟨fun z => absurd z (by decide), fun _ => ?_⟩) (fun g2 q' hq' m k8 ka => ?_))
              · have qe := ysk_u hq' hs
                subst qe
                rw [← pe] at k8
                refine er3 t g2 A4 A6 B9 B10 _ p (k + l.length) hB ((ka 7 (by decide)).trans j7) k8 ((ka 9 (by decide)).trans j9) ((ka 12 (by decide)).trans ((ia 12 (by decide)).trans g12)) ((ka 21 (by decide)).trans i21) hs2 (by omega) (fun g3 C9 C10 hf ma => ?_)
                exact im_emitsF hf (GF _ _ _ _ _ _ _ _ _ _ hf (kk _ _ _ hf (yag_tr (yag_tr (yag_mo (by decide) ia) (yag_mo (by decide) ka)) ma)))
              · exfalso
                have qe := ysk_u hq' hs
                subst qe
                exact m (wm.mpr z)
            exact hF _ _ _ _ _ _ ⟨fun _ => ⟨.inl rfl, done⟩, fun _ => ⟨fun _ => ⟨.inl rfl, done⟩, fun z => absurd rfl z⟩⟩
        · refine ok w f S q p q l hY (YT_sk hY) h2 ha hr hl hw ?_
          intro t g A4 A6 A9 A10 P' p' k hB g7 g8 g9 g12 g21 hs' hk kk
          refine acc t g A4 A6 A9 A10 P' p' k hB g7 g8 g9 g12 g21 hs' hk (fun g1 B9 B10 v' hv' i8 i21 ia r9 r10 => ?_)
          obtain ⟨v2, rfl⟩ : ∃ v2, v' = v2 + 1 := ⟨v' - 1, by have : zfu = 100000 := rfl; omega⟩
          have j7 : g1 7 = Int32.ofNat L := (ia 7 (by decide)).trans g7
          have j9 : g1 9 = 0 := (ia 9 (by decide)).trans g9
          refine hG _ _ _ (im_eat hB j7 i8 j9 (by have := hs.1; omega) hv (fun g2 q' hq' m k8 ka => ?_) (fun g2 q' hq' m k8 ka => ⟨fun _ => ?_, fun z => absurd rfl z⟩))
          · exfalso
            have qe := ysk_u hq' hs
            subst qe
            exact z (wm.mp m)
          · have qe := ysk_u hq' hs
            subst qe
            exact kk g2 _ _ k8 ((ka 21 (by decide)).trans i21) (yag_tr ia (yag_mo (by decide) ka)) r9 r10
    refine hco _ _ _ (h1 s w0 f0 S0 q0 p0 n _ hT hY0 hn hnq ?_ ?_)
    · intro w1 f1 S1 q1 p1 e1 l1 hY1 hs1 h12 ha1 hr1 hl1 hw1 ok1
      refine loop zfu 0 w1 f1 S1 q1 p1 e1 l1 hY1 hs1 h12 ha1 hr1 hl1 (by omega) (ywf_mo (by omega) hw1) (by unfold zfu; omega) ?_
      intro t g A4 A6 A9 A10 P' p' k hB g7 g8 g9 g12 g21 hs' hk kk
      exact hmo _ _ (ok1 t g A4 A6 A9 A10 _ p' k hB g7 g8 g9 g12 g21 hs' hk (fun g' A9' A10' i8 i21 ia r9 r10 => kk g' A9' A10' zfu (by omega) i8 i21 ia r9 r10))
    · intro w1 f1 S1 m kd pl h12 hm h11 h12' hk ha1 er1
      have done : P 0 (YC s w1 f1 S1) := by
        refine er w1 f1 S1 m kd pl h12 hm h11 h12' hk ha1 ?_
        intro t g A4 A6 A9 A10 P' p' k hB g7 g8 g9 g12 g21 hs' hk' kk
        refine hmo _ _ (er1 t g A4 A6 A9 A10 _ p' k hB g7 g8 g9 g12 g21 hs' hk' (fun g' A9' A10' hf ia => ?_))
        rw [show zfu = 99999 + 1 from rfl]
        exact GF _ _ _ _ _ _ _ _ _ _ hf (kk _ _ _ hf ia)
      rw [show zfu = 99999 + 1 from rfl]
      exact hF _ _ _ _ _ _ ⟨fun _ => ⟨.inl rfl, done⟩, fun _ => ⟨fun _ => ⟨.inl rfl, done⟩, fun z => absurd rfl z⟩⟩
  · intro t g A4 A6 A9 A10 P kd pl hB hf k
    refine hmo _ _ (hd t g A4 A6 A9 A10 _ kd pl hB hf (fun g' hf' ha' => ?_))
    rw [show zfu = 99999 + 1 from rfl]
    exact GF _ _ _ _ _ _ _ _ _ _ hf' (k g' hf' ha')

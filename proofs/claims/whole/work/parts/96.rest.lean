/-! the clause of the days of rest -/
def yM139 (F : zTs → Int32 → Int32 → Prop) (st : zTs) (a1 : Int32) : Prop := w_X12_blanks st (fun (s140 : zTs) => (((zgF s140 100 0 9) = 0 → w_X12_byteAt s140 (zgF s140 100 0 8) (fun (r155 : Int32) => (w_X12_isDigit s140 r155 (fun (r158 : Int32) => ((r158 = 0 → F s140 a1 0) ∧ (¬ r158 = 0 → F s140 a1 1)))))) ∧ (¬ (zgF s140 100 0 9) = 0 → F s140 a1 0)))
def yM108 (K : zTs → Prop) : Nat → zTs → Int32 → Int32 → Prop
  | 0, _, _, _ => False
  | n9 + 1, st, a1, a2 => (a2 = 0 → K st) ∧ (¬ a2 = 0 → w_X12_number st 0 6 (fun (r116 : Int32) (s116 : zTs) => (((zgF s116 100 0 9) = 0 → vp_in a1 15 ∧ (vp_in a1 15 ∧ (∀ s138 : zTs, s138 = zuA s116 104 0 (a1 : Int32).toNatClampNeg ((zgA s116 104 0 (a1 : Int32).toNatClampNeg) ||| (1 <<< (r116 &&& 31))) → (yM139 (yM108 K n9) s138 a1)))) ∧ (¬ (zgF s116 100 0 9) = 0 → yM139 (yM108 K n9) s116 a1))))
theorem yM108_eq {P : zTs → Prop} : ∀ u, w_X12_clause_108 P u = yM108 (w_X12_clause_307 P) u := by
  intro u
  induction u with
  | zero => rfl
  | succ u ih =>
    funext st a b
    rw [w_X12_clause_108, yM108, ih]
    rfl
def MBr : zTs → (zTs → Prop) → Prop := fun st K => vp_in 5 15 ∧ (∀ s105 : zTs, s105 = zuA st 104 0 (5 : Int32).toNatClampNeg 0 → (yM108 K zfu s105 5 1))
theorem y_bit {X v : Int32} (x0 : 0 ≤ X) (x1 : X ≤ 127) (v0 : 0 ≤ v) (v1 : v ≤ 6) : 0 ≤ (X ||| ((1 : Int32) <<< (v &&& 31))) ∧ (X ||| ((1 : Int32) <<< (v &&& 31))) ≤ 127 := by
  have k : ∀ a : Fin 16, ∀ b : Fin 8, ∀ c : Fin 7, 0 ≤ (Int32.ofNat (8 * a.1 + b.1) ||| ((1 : Int32) <<< (Int32.ofNat c.1 &&& 31))) ∧ (Int32.ofNat (8 * a.1 + b.1) ||| ((1 : Int32) <<< (Int32.ofNat c.1 &&& 31))) ≤ 127 := by decide
  have ex := q_of_toInt (q_t0 x0)
  have ev := q_of_toInt (q_t0 v0)
  have lx : X.toNatClampNeg < 128 := by
    have := q_t0 x0
    rw [Int32.le_iff_toInt_le, show (127 : Int32).toInt = 127 from rfl] at x1
    omega
  have lv : v.toNatClampNeg < 7 := by
    have := q_t0 v0
    rw [Int32.le_iff_toInt_le, show (6 : Int32).toInt = 6 from rfl] at v1
    omega
  have k2 := k ⟨X.toNatClampNeg / 8, by omega⟩ ⟨X.toNatClampNeg % 8, by omega⟩ ⟨v.toNatClampNeg, lv⟩
  rw [show 8 * (X.toNatClampNeg / 8) + X.toNatClampNeg % 8 = X.toNatClampNeg by omega, ← ex, ← ev] at k2
  exact k2
theorem GRr_r {A4 F A F' : Nat → Int32} {x : Int32} (x0 : 0 ≤ x) (x1 : x ≤ 127) (hF : ∀ i, F' i = qst1 F 4 x i) (h : GRr A4 F A) : GRr (qst1 A4 5 x) F' A := by
  have eF : F' = qst1 F 4 x := funext hF
  subst eF
  obtain ⟨⟨g1, g2, g3, g4, g5⟩, ⟨g6, g7, g8, g9, ga, gb, gc⟩, ⟨b1, b2, b3, b4, b5, b6, b7, b8, b9, c0⟩, ⟨c1, c2, c3, c4, c5, c6, c7, c8, c9, d0⟩⟩ := h
  refine ⟨⟨fun j hj => ?_, ?_⟩, ?_⟩
  · rw [qst1_ne (by omega)]; exact g1 j hj
  · simp only [qst1, Nat.reduceEqDiff, reduceIte, g2, g3, g4, g5, and_self]
  · simp only [qst1, Nat.reduceEqDiff, reduceIte, g6, g7, g8, g9, ga, gb, gc, b1, b2, b5, b6, b7, b8, b9, c0, c1, c2, c3, c4, c5, c6, c7, c8, c9, d0, x0, x1, and_self]
theorem y_rest {B : Nat → Int32} {L o : Nat} (h0 : ∀ j, L ≤ j → B j = 0) : YBS B L o (fun st P => w_X6_readRestDays st P) MBr := by
  intro s w0 f0 S q0 p0 P hT hY0 ho hq1 ok er
  have l4 := hT.1
  have v5 : vp_in 5 15 := v15_5
  have n5 : (5 : Int32).toNatClampNeg = 5 := rfl
  have hTx : ∀ x, yTB (zgA (zuF s 24 o 4 x) 43 0) B L := fun x => hT
  have bx : ∀ x, YBF o s (zuF s 24 o 4 x) := fun x => YBF_F YBF_rf
  have gx : ∀ x w f, zgF (YC (zuF s 24 o 4 x) w f S) 24 o 4 = x := fun x w f => by rw [YC_gF (by decide), q_FuF, if_pos ⟨rfl, rfl, rfl⟩]
  have px : ∀ x w f, zgP (YC (zuF s 24 o 4 x) w f S) 13 0 10 = o := fun x w f => by rw [YC_go]; exact ho
  have fx : ∀ x y w f, zuF (YC (zuF s 24 o 4 x) w f S) 24 o 4 y = YC (zuF s 24 o 4 y) w f S := fun x y w f => by rw [YC_oF, zuF_fuse]
  have mdr : ∀ (t : zTs) (g A4 A6 A9 A10 : Nat → Int32) (K : zTs → Prop) (kd pl : Int32) (u : Nat), YB t B L → YF L kd pl g → (∀ g', YF L kd pl g' → yag [8] g g' → K (YM t g' A4 A6 A9 A10)) → yM139 (yM108 K (u + 1)) (YM t g A4 A6 A9 A10) 5 := by
    intro t g A4 A6 A9 A10 K kd pl u hB hf kk
    refine im_blanksF hB hf (fun g' hf' ha => ⟨fun z => ?_, fun _ => ?_⟩)
    · rw [YM_gf, hf'.2.1] at z
      have := hf'.2.2.2.1
      exfalso; lia
    · rw [yM108]
      exact ⟨fun _ => kk g' hf' ha, fun z => absurd rfl z⟩
  have loop : ∀ (fu it : Nat) (w : Nat) (f : Nat → Int32) (q p : Nat) (X : Int32), YT B L w f q p → yag [2, 4, 5, 7, 8, 9] f0 f → q0 + it ≤ q → 0 ≤ X → X ≤ 127 → L + 2 - it ≤ fu →
      (∀ (t : zTs) (g A4 A6 A9 A10 : Nat → Int32) (K : zTs → Prop) (k : Nat), YMS B L t g q0 k → (∀ g' u, zfu ≤ u + it → (∃ e, g' 8 = Int32.ofNat e ∧ ysk B L e q) → yag [8] g g' → yM108 K u (YM t g' (qst1 A4 5 X) A6 A9 A10) 5 1) → MBr (YM t g A4 A6 A9 A10) K) →
      w_X6_readRestDays_14 P fu (YC (zuF s 24 o 4 X) w f S) 1 1 (Int32.ofNat it) := by
    intro fu
    induction fu with
    | zero => intro it w f q p X hY ha hi x0 x1 hfu; have := hY.2.2.2.1; omega
    | succ fu ih =>
      intro it w f q p X hY ha hi x0 x1 hfu acc
      have qL := hY.2.2.2.1
      rw [w_X6_readRestDays_14]
      refine ⟨fun z => ?_, fun _ => ⟨fun z => absurd z (by decide), fun _ => ⟨fun z => absurd z (by decide), fun _ => ?_⟩⟩⟩
      · exfalso
        rw [YC_gf, hY.1, q_nle (by omega) (by omega)] at z
        omega
      obtain ⟨fu', rfl⟩ : ∃ fu', fu = fu' + 1 := ⟨fu - 1, by omega⟩
      -- a fault at this number
      have bad : ∀ (f1 : Nat → Int32) (kd : Int32), f1 11 = kd → f1 12 = Int32.ofNat q → 0 < kd → yag [11, 12] f f1 → YBE B L MBr q0 kd (Int32.ofNat q) → ∀ s53 : zTs, s53 = zuF (YC (zuF s 24 o 4 X) w f1 S) 24 (zgP (YC (zuF s 24 o 4 X) w f1 S) 13 0 10) 4 ((zgF (YC (zuF s 24 o 4 X) w f1 S) 24 (zgP (YC (zuF s 24 o 4 X) w f1 S) 13 0 10) 4) ||| (1 <<< ((zgF (YC (zuF s 24 o 4 X) w f1 S) 13 0 9) &&& 31))) → (((zgF s53 13 0 7) = (-1) → w_X6_readRestDays_69 P (w_X6_readRestDays_14 P (fu' + 1)) s53 0 (Int32.ofNat it) 0) ∧ (¬ (zgF s53 13 0 7) = (-1) → w_X6_readRestDays_69 P (w_X6_readRestDays_14 P (fu' + 1)) s53 0 (Int32.ofNat it) 1)) := by
        intro f1 kd e11 e12 hk ha1 hE s53 e53
        rw [px, fx] at e53
        subst e53
        have done := fun x => er (zuF s 24 o 4 x) w f1 S kd (Int32.ofNat q) (bx x) e11 e12 hk (yag_tr (yag_mo (by decide) ha) (yag_mo (by decide) ha1)) hE
        have go : ∀ x b, w_X6_readRestDays_69 P (w_X6_readRestDays_14 P (fu' + 1)) (YC (zuF s 24 o 4 x) w f1 S) 0 (Int32.ofNat it) b := by
          intro x b y hy
          rw [w_X6_readRestDays_14]
          exact ⟨fun _ => ⟨.inl rfl, done x⟩, fun _ => ⟨fun _ => ⟨.inl rfl, done x⟩, fun z => absurd rfl z⟩⟩
        exact ⟨fun _ => go _ _, fun _ => go _ _⟩
      refine i_takeNumber (hTx X) hY (fun w1 f1 q1 p1 n1 n2 n3 n4 m5 n6 hs1 hY1 h91 ha1 => ?_) (fun f1 n1 e11 e12 ha1 => bad f1 1 e11 e12 (by decide) ha1 ?_) (fun f1 n1 n2 n3 n4 m5 e11 e12 ha1 => bad f1 2 e11 e12 (by decide) ha1 ?_)
      · intro s53 e53
        rw [px, gx, fx, YC_gf, h91] at e53
        subst e53
        obtain ⟨X0, X1⟩ := y_bit x0 x1 m5 n6
        have q1p := hs1.1
        have yall : yag [2, 4, 5, 7, 8, 9] f0 f1 := yag_tr ha (yag_mo (by decide) ha1)
        have sq1 := YT_sk hY1
        have step : ∀ (t : zTs) (g A4 A6 A9 A10 : Nat → Int32) (K : zTs → Prop) (k : Nat), YMS B L t g q0 k → (ydig (B q1) → ∀ g' u, zfu ≤ u + (it + 1) → g' 8 = Int32.ofNat q1 → yag [8] g g' → yM108 K u (YM t g' (qst1 A4 5 (X ||| (1 <<< (ynm B q (p - q) &&& 31)))) A6 A9 A10) 5 1) → (¬ ydig (B q1) → ∀ g', g' 8 = Int32.ofNat q1 → yag [8] g g' → K (YM t g' (qst1 A4 5 (X ||| (1 <<< (ynm B q (p - q) &&& 31)))) A6 A9 A10)) → MBr (YM t g A4 A6 A9 A10) K := by
          intro t g A4 A6 A9 A10 K k hM yes no
          refine acc t g A4 A6 A9 A10 K k hM (fun g1 u hu ⟨e0, i8, hs⟩ ia => ?_)
          obtain ⟨u', rfl⟩ : ∃ u', u = u' + 1 + 1 := ⟨u - 2, by have : zfu = 100000 := rfl; omega⟩
          obtain ⟨hB, g7, g9, g12, g21, p', g8, hs'⟩ := id hM
          rw [yM108]
          refine ⟨fun z => absurd z (by decide), fun _ => ?_⟩
          refine im_number hB ((ia 7 (by decide)).trans g7) i8 ((ia 9 (by decide)).trans g9) (by have := hs.1; omega) (by decide) (fun g2 q' hq' hd' hf ja => ?_) (fun g2 q' e' v' hq' x1 x2 x3 x4 x5 hf ja => ?_) (fun g2 q' e' hq' x1 x2 x3 x4 x5 x6 j8 ja => ?_)
          · have e := ysk_u hq' hs
            subst e
            exact absurd n1 hd'
          · have e := ysk_u hq' hs
            subst e
            have e := ydg_u x1 x3 x4 n2 n3 n4
            subst e
            exact absurd ⟨m5, n6⟩ x5
          · have e := ysk_u hq' hs
            subst e
            have e := ydg_u x1 x3 x4 n2 n3 n4
            subst e
            have k9 : g2 9 = 0 := (ja 9 (by decide)).trans ((ia 9 (by decide)).trans g9)
            refine ⟨fun _ => ⟨v5, v5, fun s138 e138 => ?_⟩, fun z => absurd (YM_gf.trans k9) z⟩
            rw [n5, YM_g4, qst1_at, YM_4, qst1_2] at e138
            subst e138
            refine im_blanks hB ((ja 7 (by decide)).trans ((ia 7 (by decide)).trans g7)) j8 (by have := hs1.2.1; omega) (fun g3 q3 hs3 k8 ka => ⟨fun _ => ?_, fun z => absurd (YM_gf.trans ((ka 9 (by decide)).trans k9)) z⟩)
            have e := ysk_u hs3 hs1
            subst e
            have all : yag [8] g g3 := yag_tr (yag_tr ia ja) ka
            rw [YM_gf, k8]
            have q3L := hs3.2.1
            have noK : ¬ ydig (B q3) → yM108 K (u' + 1) (YM t g3 (qst1 A4 5 (X ||| (1 <<< (ynm B q' (e' - q') &&& 31)))) A6 A9 A10) 5 0 := by
              intro hn
              rw [yM108]
              exact ⟨fun _ => no hn g3 k8 all, fun z => absurd rfl z⟩
            refine im_byteAt hB ((all 7 (by decide)).trans g7) (by omega) ⟨fun z => ⟨fun _ => noK (fun y => by have := y.1; lia), fun y => absurd rfl y⟩, fun z => ⟨fun z2 => ⟨fun _ => noK (fun y => by have := y.2; lia), fun y => absurd rfl y⟩, fun z2 => ⟨fun y => absurd y (by decide), fun _ => yes ⟨by lia, by lia⟩ g3 (u' + 1) (by omega) k8 all⟩⟩⟩
        rw [YC_gf]
        rcases YT_n hY1 h0 with ⟨e7, hn⟩ | ⟨d1, d2, d3, d4, d5, d6⟩
        · refine ⟨fun _ y hy => ?_, fun z => absurd e7 z⟩
          have done : P 1 (YC (zuF s 24 o 4 (X ||| (1 <<< (ynm B q (p - q) &&& 31)))) w1 f1 S) := by
            refine ok _ w1 f1 S q1 p1 (bx _) hY1 yall (by omega) (by rw [q_FuF, if_neg (fun z => absurd z.2.2 (by decide))]) ?_
            intro t g A4 A6 A9 A10 K k hM hk hI kk
            refine step t g A4 A6 A9 A10 K k hM (fun y => absurd y hn) (fun _ g' h8 hag => ?_)
            refine kk g' _ _ _ _ k (YMS_e hM h8 hag (by decide) (by decide) (by decide) ((hag 21 (by decide)).trans hM.2.2.2.2.1) sq1) (by omega) (yag_mo (by decide) hag) ⟨GRr_r X0 X1 (fun i => ?_) hI.1, hI.2⟩
            show zgF (zuF s 24 o 4 _) 24 o i = _
            rw [q_FuF]
            unfold qst1
            by_cases e : i = 4
            · rw [if_pos ⟨rfl, rfl, e⟩, if_pos e]
            · rw [if_neg (fun z => e z.2.2), if_neg e]
          rw [w_X6_readRestDays_14]
          exact ⟨fun _ => ⟨.inr rfl, done⟩, fun _ => ⟨fun _ => ⟨.inr rfl, done⟩, fun _ => ⟨fun _ => ⟨.inr rfl, done⟩, fun z => absurd rfl z⟩⟩⟩
        · refine ⟨fun z => by exfalso; rw [z] at d6; revert d6; decide, fun _ y hy => ?_⟩
          subst hy
          rw [q_os (by omega)]
          refine ih (it + 1) w1 f1 q1 p1 _ hY1 yall (by omega) X0 X1 (by omega) ?_
          intro t g A4 A6 A9 A10 K k hM kk
          exact step t g A4 A6 A9 A10 K k hM (fun _ g' u hu h8 hag => kk g' u hu ⟨q1, h8, sq1⟩ hag) (fun y => absurd d1 y)
      · intro t g A4 A6 A9 A10 K k hM hk kk
        refine acc t g A4 A6 A9 A10 K k hM (fun g1 u hu ⟨e0, i8, hs⟩ ia => ?_)
        obtain ⟨u', rfl⟩ : ∃ u', u = u' + 1 + 1 := ⟨u - 2, by have : zfu = 100000 := rfl; omega⟩
        obtain ⟨hB, g7, g9, g12, g21, p', g8, hs'⟩ := id hM
        rw [yM108]
        refine ⟨fun z => absurd z (by decide), fun _ => ?_⟩
        refine im_number hB ((ia 7 (by decide)).trans g7) i8 ((ia 9 (by decide)).trans g9) (by have := hs.1; omega) (by decide) (fun g2 q' hq' hd' hf ja => ?_) (fun g2 q' e' v' hq' x1 x2 x3 x4 x5 hf ja => ?_) (fun g2 q' e' hq' x1 x2 x3 x4 x5 x6 j8 ja => ?_)
        · have e := ysk_u hq' hs
          subst e
          refine ⟨fun z => ?_, fun _ => mdr t g2 _ A6 A9 A10 K 1 _ u' hB hf (fun g3 hf3 ka => kk _ _ _ _ _ hf3 (yag_tr (yag_tr (yag_mo (by decide) ia) (yag_mo (by decide) ja)) (yag_mo (by decide) ka)))⟩
          rw [YM_gf, hf.2.1] at z
          exact absurd z (by decide)
        · have e := ysk_u hq' hs
          subst e
          exact absurd (x3 q' (Nat.le_refl _) x1) n1
        · have e := ysk_u hq' hs
          subst e
          exact absurd (x3 q' (Nat.le_refl _) x1) n1
      · intro t g A4 A6 A9 A10 K k hM hk kk
        refine acc t g A4 A6 A9 A10 K k hM (fun g1 u hu ⟨e0, i8, hs⟩ ia => ?_)
        obtain ⟨u', rfl⟩ : ∃ u', u = u' + 1 + 1 := ⟨u - 2, by have : zfu = 100000 := rfl; omega⟩
        obtain ⟨hB, g7, g9, g12, g21, p', g8, hs'⟩ := id hM
        rw [yM108]
        refine ⟨fun z => absurd z (by decide), fun _ => ?_⟩
        refine im_number hB ((ia 7 (by decide)).trans g7) i8 ((ia 9 (by decide)).trans g9) (by have := hs.1; omega) (by decide) (fun g2 q' hq' hd' hf ja => ?_) (fun g2 q' e' v' hq' x1 x2 x3 x4 x5 hf ja => ?_) (fun g2 q' e' hq' x1 x2 x3 x4 x5 x6 j8 ja => ?_)
        · have e := ysk_u hq' hs
          subst e
          exact absurd n1 hd'
        · have e := ysk_u hq' hs
          subst e
          refine ⟨fun z => ?_, fun _ => mdr t g2 _ A6 A9 A10 K 2 _ u' hB hf (fun g3 hf3 ka => kk _ _ _ _ _ hf3 (yag_tr (yag_tr (yag_mo (by decide) ia) (yag_mo (by decide) ja)) (yag_mo (by decide) ka)))⟩
          rw [YM_gf, hf.2.1] at z
          exact absurd z (by decide)
        · have e := ysk_u hq' hs
          subst e
          have e := ydg_u x1 x3 x4 n2 n3 n4
          subst e
          exact absurd ⟨x5, x6⟩ m5
  show w_X6_readRestDays (YC s w0 f0 S) P
  intro s5 e5
  rw [YC_go, ho, YC_oF] at e5
  subst e5
  refine loop zfu 0 w0 f0 q0 p0 0 hY0 yag_rf (by omega) (by decide) (by decide) (by unfold zfu; omega) ?_
  intro t g A4 A6 A9 A10 K k hM kk
  refine ⟨v5, fun x hx => ?_⟩
  rw [n5, YM_4] at hx
  subst hx
  exact kk g zfu (by omega) hM.2.2.2.2.2 yag_rf

/-! the clause of hours -/
def MBh : zTs → (zTs → Prop) → Prop := fun st K => w_X12_number st 0 24 (fun (r247 : Int32) (s247 : zTs) => (vp_in 13 15 ∧ (∀ s250 : zTs, s250 = zuA s247 104 0 (13 : Int32).toNatClampNeg r247 → (w_X12_sign s250 45 (fun (s254 : zTs) => (vp_in 13 15 ∧ (w_X12_number s254 ((zgA s254 104 0 (13 : Int32).toNatClampNeg) + 1) 24 (fun (r275 : Int32) (s275 : zTs) => (vp_in 14 15 ∧ (∀ s278 : zTs, s278 = zuA s275 104 0 (14 : Int32).toNatClampNeg r275 → (K s278)))))))))))
theorem GRr_h {A4 F A F' : Nat → Int32} {x y : Int32} (x0 : 0 ≤ x) (x1 : x ≤ 24) (y0 : 0 ≤ y) (y1 : y ≤ 24) (hF : ∀ i, F' i = qst1 (qst1 F 12 x) 13 y i) (h : GRr A4 F A) : GRr (qst1 (qst1 A4 13 x) 14 y) F' A := by
  have eF : F' = qst1 (qst1 F 12 x) 13 y := funext hF
  subst eF
  obtain ⟨⟨g1, g2, g3, g4, g5⟩, ⟨g6, g7, g8, g9, ga, gb, gc⟩, ⟨b1, b2, b3, b4, b5, b6, b7, b8, b9, c0⟩, ⟨c1, c2, c3, c4, c5, c6, c7, c8, c9, d0⟩⟩ := h
  refine ⟨⟨fun j hj => ?_, ?_⟩, ?_⟩
  · rw [qst1_ne (by omega), qst1_ne (by omega)]; exact g1 j hj
  · simp only [qst1, Nat.reduceEqDiff, reduceIte, g2, g3, g4, g5, and_self]
  · simp only [qst1, Nat.reduceEqDiff, reduceIte, g6, g7, g8, g9, ga, gb, gc, b1, b2, b3, b4, b5, b6, b7, b8, b9, c0, c1, c2, c3, c4, c5, c6, x0, x1, y0, y1, and_self]
theorem y_hours {B : Nat → Int32} {L o : Nat} (h0 : ∀ j, L ≤ j → B j = 0) : YBS B L o (fun st P => w_X6_readHours st P) MBh := by
  intro s w f S q p P hT hY ho hq1 ok er
  have l4 := hT.1
  have v13 : vp_in 13 15 := v15_13
  have v14 : vp_in 14 15 := v15_14
  have n13 : (13 : Int32).toNatClampNeg = 13 := rfl
  have n14 : (14 : Int32).toNatClampNeg = 14 := rfl
  -- the model in a fault, from the first number on
  have drain : ∀ (t : zTs) (g A4 A6 A9 A10 : Nat → Int32) (K : zTs → Prop) (kd pl v : Int32), YF L kd pl g → (∀ A4', K (YM t g A4' A6 A9 A10)) → vp_in 13 15 ∧ (∀ s250 : zTs, s250 = zuA (YM t g A4 A6 A9 A10) 104 0 (13 : Int32).toNatClampNeg v → (w_X12_sign s250 45 (fun (s254 : zTs) => (vp_in 13 15 ∧ (w_X12_number s254 ((zgA s254 104 0 (13 : Int32).toNatClampNeg) + 1) 24 (fun (r275 : Int32) (s275 : zTs) => (vp_in 14 15 ∧ (∀ s278 : zTs, s278 = zuA s275 104 0 (14 : Int32).toNatClampNeg r275 → (K s278))))))))) := by
    intro t g A4 A6 A9 A10 K kd pl v hf kk
    refine ⟨v13, fun a ea => ?_⟩
    rw [n13, YM_4] at ea
    subst ea
    refine im_signF hf ⟨v13, im_numberF hf ⟨v14, fun b eb => ?_⟩⟩
    rw [n14, YM_4] at eb
    subst eb
    exact kk _
  show w_X6_readHours (YC s w f S) P
  unfold w_X6_readHours
  refine i_takeNumber hT hY (fun w1 f1 q1 p1 n1 n2 n3 n4 n5 n6 hs1 hY1 h91 ha1 => ⟨fun y => absurd y (by decide), fun _ s20 e20 => ?_⟩) (fun f1 n1 e11 e12 ha1 => ⟨fun _ => ?_, fun y => absurd rfl y⟩) (fun f1 n1 n2 n3 n4 n5 e11 e12 ha1 => ⟨fun _ => ?_, fun y => absurd rfl y⟩)
  · rw [YC_go, YC_gf, h91, ho, YC_oF] at e20
    subst e20
    have q1p := hs1.1
    have hT1 : yTB (zgA (zuF s 24 o 12 (ynm B q (p - q))) 43 0) B L := hT
    have b1f : YBF o s (zuF s 24 o 12 (ynm B q (p - q))) := YBF_F YBF_rf
    -- the model after the first number
    have first : ∀ (t : zTs) (g A4 A6 A9 A10 : Nat → Int32) (K : zTs → Prop) (k : Nat), YMS B L t g q k → (∀ g', g' 8 = Int32.ofNat p → yag [8] g g' → w_X12_sign (YM t g' (qst1 A4 13 (ynm B q (p - q))) A6 A9 A10) 45 (fun (s254 : zTs) => (vp_in 13 15 ∧ (w_X12_number s254 ((zgA s254 104 0 (13 : Int32).toNatClampNeg) + 1) 24 (fun (r275 : Int32) (s275 : zTs) => (vp_in 14 15 ∧ (∀ s278 : zTs, s278 = zuA s275 104 0 (14 : Int32).toNatClampNeg r275 → (K s278)))))))) → MBh (YM t g A4 A6 A9 A10) K := by
      intro t g A4 A6 A9 A10 K k hM kk
      obtain ⟨hB, g7, g9, g12, g21, p', g8, hs'⟩ := hM
      unfold MBh
      refine im_number hB g7 g8 g9 (by have := hs'.1; have := hs'.2.1; omega) (by decide) (fun g2 q' hq' hd' hf ja => ?_) (fun g2 q' e' v' hq' x1 x2 x3 x4 x5 hf ja => ?_) (fun g2 q' e' hq' x1 x2 x3 x4 x5 x6 j8 ja => ⟨v13, fun s53 e53 => ?_⟩)
      · have e := ysk_u hq' hs'
        subst e
        exact absurd n1 hd'
      · have e := ysk_u hq' hs'
        subst e
        have e := ydg_u x1 x3 x4 n2 n3 n4
        subst e
        exact absurd ⟨n5, n6⟩ x5
      · have e := ysk_u hq' hs'
        subst e
        have e := ydg_u x1 x3 x4 n2 n3 n4
        subst e
        rw [n13, YM_4] at e53
        subst e53
        exact kk g2 j8 ja
    refine i_takeSign hT1 hY1 (by decide) (by unfold ylet; decide) (by unfold ydig; decide) (fun w2 f2 q2 p2 b45 hs2 hY2 ha2 => ⟨fun y => absurd y (by decide), fun _ => ?_⟩) (fun f2 b45 e11 e12 ha2 => ⟨fun _ => ?_, fun y => absurd rfl y⟩)
    · have q2p := hs2.1
      have eg : zgF (YC (zuF s 24 o 12 (ynm B q (p - q))) w2 f2 S) 24 (zgP (YC (zuF s 24 o 12 (ynm B q (p - q))) w2 f2 S) 13 0 10) 12 = ynm B q (p - q) := by
        rw [YC_go, show zgP (zuF s 24 o 12 (ynm B q (p - q))) 13 0 10 = o from ho, YC_gF (by decide), q_FuF, if_pos ⟨rfl, rfl, rfl⟩]
      rw [eg]
      -- the model after the sign
      have second : ∀ (t : zTs) (g A4 A6 A9 A10 : Nat → Int32) (K : zTs → Prop) (k : Nat), YMS B L t g q k → (∀ g', g' 8 = Int32.ofNat (q1 + 1) → yag [8] g g' → w_X12_number (YM t g' (qst1 A4 13 (ynm B q (p - q))) A6 A9 A10) (ynm B q (p - q) + 1) 24 (fun (r275 : Int32) (s275 : zTs) => (vp_in 14 15 ∧ (∀ s278 : zTs, s278 = zuA s275 104 0 (14 : Int32).toNatClampNeg r275 → (K s278))))) → MBh (YM t g A4 A6 A9 A10) K := by
        intro t g A4 A6 A9 A10 K k hM kk
        refine first t g A4 A6 A9 A10 K k hM (fun g1 i8 ia => ?_)
        obtain ⟨hB, g7, g9, g12, g21, p', g8, hs'⟩ := id hM
        refine im_sign hB ((ia 7 (by decide)).trans g7) i8 ((ia 9 (by decide)).trans g9) (by have := hY1.2.2.2.1; omega) (by decide) (fun g3 q' hq' b' k8 ka => ⟨v13, ?_⟩) (fun g3 q' hq' b' hf ka => ?_)
        · have e := ysk_u hq' hs1
          subst e
          rw [n13, YM_g4, qst1_at]
          exact kk g3 k8 (yag_tr ia ka)
        · have e := ysk_u hq' hs1
          subst e
          exact absurd b45 b'
      refine i_takeNumber hT1 hY2 (fun w3 f3 q3 p3 m1 m2 m3 m4 m5 m6 hs3 hY3 h93 ha3 => ⟨fun y => absurd y (by decide), fun _ s60 e60 => ?_⟩) (fun f3 m1 e11 e12 ha3 => ⟨fun _ => ?_, fun y => absurd rfl y⟩) (fun f3 m1 m2 m3 m4 m5 e11 e12 ha3 => ⟨fun _ => ?_, fun y => absurd rfl y⟩)
      · rw [YC_go, YC_gf, h93, show zgP (zuF s 24 o 12 (ynm B q (p - q))) 13 0 10 = o from ho, YC_oF] at e60
        subst e60
        have q3p := hs3.1
        refine ok _ w3 f3 S q3 p3 (YBF_F b1f) hY3 (yag_tr (yag_tr (yag_mo (by decide) ha1) (yag_mo (by decide) ha2)) (yag_mo (by decide) ha3)) (by omega) (by rw [q_FuF, if_neg (fun z => absurd z.2.2 (by decide)), q_FuF, if_neg (fun z => absurd z.2.2 (by decide))]) ?_
        intro t g A4 A6 A9 A10 K k hM hk hI kk
        refine second t g A4 A6 A9 A10 K k hM (fun g1 i8 ia => ?_)
        obtain ⟨hB, g7, g9, g12, g21, p', g8, hs'⟩ := id hM
        refine im_number hB ((ia 7 (by decide)).trans g7) i8 ((ia 9 (by decide)).trans g9) (by have := hs2.2.1; omega) (by decide) (fun g2 q' hq' hd' hf ja => ?_) (fun g2 q' e' v' hq' x1 x2 x3 x4 x5 hf ja => ?_) (fun g2 q' e' hq' x1 x2 x3 x4 x5 x6 j8 ja => ⟨v14, fun s53 e53 => ?_⟩)
        · have e := ysk_u hq' hs2
          subst e
          exact absurd m1 hd'
        · have e := ysk_u hq' hs2
          subst e
          have e := ydg_u x1 x3 x4 m2 m3 m4
          subst e
          exact absurd ⟨m5, m6⟩ x5
        · have e := ysk_u hq' hs2
          subst e
          have e := ydg_u x1 x3 x4 m2 m3 m4
          subst e
          rw [n14, YM_4] at e53
          subst e53
          have all : yag [8] g g2 := yag_tr ia ja
          refine kk g2 _ _ _ _ k (YMS_e hM j8 all (by decide) (by decide) (by decide) ((all 21 (by decide)).trans g21) hs3) (by omega) (yag_mo (by decide) all) ⟨GRr_h n5 n6 (by lia) m6 (fun i => ?_) hI.1, hI.2⟩
          show zgF (zuF (zuF s 24 o 12 _) 24 o 13 _) 24 o i = _
          rw [q_FuF, q_FuF]
          unfold qst1
          by_cases e : i = 13
          · rw [if_pos ⟨rfl, rfl, e⟩, if_pos e]
          · rw [if_neg (fun z => e z.2.2), if_neg e]
            by_cases e2 : i = 12
            · rw [if_pos ⟨rfl, rfl, e2⟩, if_pos e2]
            · rw [if_neg (fun z => e2 z.2.2), if_neg e2]
      · refine er _ w2 f3 S 1 (Int32.ofNat q2) b1f e11 e12 (by decide) (yag_tr (yag_tr (yag_mo (by decide) ha1) (yag_mo (by decide) ha2)) (yag_mo (by decide) ha3)) ?_
        intro t g A4 A6 A9 A10 K k hM hk kk
        refine second t g A4 A6 A9 A10 K k hM (fun g1 i8 ia => ?_)
        obtain ⟨hB, g7, g9, g12, g21, p', g8, hs'⟩ := id hM
        refine im_number hB ((ia 7 (by decide)).trans g7) i8 ((ia 9 (by decide)).trans g9) (by have := hs2.2.1; omega) (by decide) (fun g2 q' hq' hd' hf ja => ⟨v14, fun s53 e53 => ?_⟩) (fun g2 q' e' v' hq' x1 x2 x3 x4 x5 hf ja => ?_) (fun g2 q' e' hq' x1 x2 x3 x4 x5 x6 j8 ja => ?_)
        · have e := ysk_u hq' hs2
          subst e
          rw [n14, YM_4] at e53
          subst e53
          exact kk _ _ _ _ _ hf (yag_tr (yag_mo (by decide) ia) (yag_mo (by decide) ja))
        · have e := ysk_u hq' hs2
          subst e
          exact absurd (x3 q' (Nat.le_refl _) x1) m1
        · have e := ysk_u hq' hs2
          subst e
          exact absurd (x3 q' (Nat.le_refl _) x1) m1
      · refine er _ w2 f3 S 2 (Int32.ofNat q2) b1f e11 e12 (by decide) (yag_tr (yag_tr (yag_mo (by decide) ha1) (yag_mo (by decide) ha2)) (yag_mo (by decide) ha3)) ?_
        intro t g A4 A6 A9 A10 K k hM hk kk
        refine second t g A4 A6 A9 A10 K k hM (fun g1 i8 ia => ?_)
        obtain ⟨hB, g7, g9, g12, g21, p', g8, hs'⟩ := id hM
        refine im_number hB ((ia 7 (by decide)).trans g7) i8 ((ia 9 (by decide)).trans g9) (by have := hs2.2.1; omega) (by decide) (fun g2 q' hq' hd' hf ja => ?_) (fun g2 q' e' v' hq' x1 x2 x3 x4 x5 hf ja => ⟨v14, fun s53 e53 => ?_⟩) (fun g2 q' e' hq' x1 x2 x3 x4 x5 x6 j8 ja => ?_)
        · have e := ysk_u hq' hs2
          subst e
          exact absurd m1 hd'
        · have e := ysk_u hq' hs2
          subst e
          rw [n14, YM_4] at e53
          subst e53
          exact kk _ _ _ _ _ hf (yag_tr (yag_mo (by decide) ia) (yag_mo (by decide) ja))
        · have e := ysk_u hq' hs2
          subst e
          have e := ydg_u x1 x3 x4 m2 m3 m4
          subst e
          exact absurd ⟨x5, x6⟩ m5
    · refine er _ w1 f2 S 1 (Int32.ofNat q1) b1f e11 e12 (by decide) (yag_tr (yag_mo (by decide) ha1) (yag_mo (by decide) ha2)) ?_
      intro t g A4 A6 A9 A10 K k hM hk kk
      refine first t g A4 A6 A9 A10 K k hM (fun g1 i8 ia => ?_)
      obtain ⟨hB, g7, g9, g12, g21, p', g8, hs'⟩ := id hM
      refine im_sign hB ((ia 7 (by decide)).trans g7) i8 ((ia 9 (by decide)).trans g9) (by have := hY1.2.2.2.1; omega) (by decide) (fun g3 q' hq' b' k8 ka => ?_) (fun g3 q' hq' b' hf ka => ⟨v13, im_numberF hf ⟨v14, fun b eb => ?_⟩⟩)
      · have e := ysk_u hq' hs1
        subst e
        exact absurd b' b45
      · have e := ysk_u hq' hs1
        subst e
        rw [n14, YM_4] at eb
        subst eb
        exact kk _ _ _ _ _ hf (yag_tr (yag_mo (by decide) ia) (yag_mo (by decide) ka))
  · refine er s w f1 S 1 (Int32.ofNat q) YBF_rf e11 e12 (by decide) (yag_mo (by decide) ha1) ?_
    intro t g A4 A6 A9 A10 K k hM hk kk
    obtain ⟨hB, g7, g9, g12, g21, p', g8, hs'⟩ := id hM
    unfold MBh
    refine im_number hB g7 g8 g9 (by have := hs'.1; have := hs'.2.1; omega) (by decide) (fun g2 q' hq' hd' hf ja => ?_) (fun g2 q' e' v' hq' x1 x2 x3 x4 x5 hf ja => ?_) (fun g2 q' e' hq' x1 x2 x3 x4 x5 x6 j8 ja => ?_)
    · have e := ysk_u hq' hs'
      subst e
      exact drain t g2 A4 A6 A9 A10 K 1 _ 0 hf (fun A4' => kk _ _ _ _ _ hf (yag_mo (by decide) ja))
    · have e := ysk_u hq' hs'
      subst e
      exact absurd (x3 q' (Nat.le_refl _) x1) n1
    · have e := ysk_u hq' hs'
      subst e
      exact absurd (x3 q' (Nat.le_refl _) x1) n1
  · refine er s w f1 S 2 (Int32.ofNat q) YBF_rf e11 e12 (by decide) (yag_mo (by decide) ha1) ?_
    intro t g A4 A6 A9 A10 K k hM hk kk
    obtain ⟨hB, g7, g9, g12, g21, p', g8, hs'⟩ := id hM
    unfold MBh
    refine im_number hB g7 g8 g9 (by have := hs'.1; have := hs'.2.1; omega) (by decide) (fun g2 q' hq' hd' hf ja => ?_) (fun g2 q' e' v' hq' x1 x2 x3 x4 x5 hf ja => ?_) (fun g2 q' e' hq' x1 x2 x3 x4 x5 x6 j8 ja => ?_)
    · have e := ysk_u hq' hs'
      subst e
      exact absurd n1 hd'
    · have e := ysk_u hq' hs'
      subst e
      exact drain t g2 A4 A6 A9 A10 K 2 _ v' hf (fun A4' => kk _ _ _ _ _ hf (yag_mo (by decide) ja))
    · have e := ysk_u hq' hs'
      subst e
      have e := ydg_u x1 x3 x4 n2 n3 n4
      subst e
      exact absurd ⟨x5, x6⟩ n5

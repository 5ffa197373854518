/-! clauses of one number, of silence, of hours -/
def MBs (r : Nat) (hi : Int32) : zTs → (zTs → Prop) → Prop := fun st K => w_X12_number st 0 hi (fun (r303 : Int32) (s303 : zTs) => (vp_in (Int32.ofNat r) 15 ∧ (∀ s306 : zTs, s306 = zuA s303 104 0 (Int32.ofNat r).toNatClampNeg r303 → (K s306))))
def yhi (v : Nat) : Int32 := if v = 11 then 100 else 400
def yse (v : Nat) : Prop := v = 5 ∨ v = 7 ∨ v = 9 ∨ v = 10 ∨ v = 11 ∨ v = 12 ∨ v = 13
theorem GRr_s {A4 F A F' : Nat → Int32} {v : Nat} {x : Int32} (hv : yse v) (h0 : 0 ≤ x) (h1 : x ≤ yhi v) (hF : ∀ i, F' i = qst1 F (v - 2) x i) (h : GRr A4 F A) : GRr (qst1 A4 (v - 1) x) F' A := by
  have eF : F' = qst1 F (v - 2) x := funext hF
  subst eF
  obtain ⟨⟨g1, g2, g3, g4, g5⟩, ⟨g6, g7, g8, g9, ga, gb, gc⟩, ⟨b1, b2, b3, b4, b5, b6, b7, b8, b9, c0⟩, ⟨c1, c2, c3, c4, c5, c6, c7, c8, c9, d0⟩⟩ := h
  have g1' : ∀ j, j < 4 → qst1 A4 (v - 1) x j = A j ∧ 0 ≤ A j ∧ A j ≤ 400 := by
    intro j hj
    rw [qst1_ne (by unfold yse at hv; omega)]
    exact g1 j hj
  unfold yhi at h1
  refine ⟨⟨g1', ?_⟩, ?_⟩
  · rcases hv with rfl | rfl | rfl | rfl | rfl | rfl | rfl <;> simp only [qst1, Nat.reduceSub, Nat.reduceEqDiff, reduceIte, g2, g3, g4, g5, and_self]
  · rcases hv with rfl | rfl | rfl | rfl | rfl | rfl | rfl <;> simp only [qst1, Nat.reduceSub, Nat.reduceEqDiff, reduceIte] at h1 ⊢ <;> simp only [g6, g7, g8, g9, ga, gb, gc, b1, b2, b3, b4, b5, b6, b7, b8, b9, c0, c1, c2, c3, c4, c5, c6, c7, c8, c9, d0, h0, h1, and_self]
theorem i_set {P : Int32 → zTs → Prop} {s : zTs} {v : Nat} (hv : yse v) (h : P 1 (zuF s 24 (zgP s 13 0 10) (v - 2) (zgF s 13 0 9))) : (v < 24) ∧ (w_Jx29ce0_ordinal_8abf5_w s v (fun (r29 : Int32) => (vp_in r29 24 ∧ (((zsm.getD ((r29 : Int32).toNatClampNeg) 0) = 8 → ∀ s80 : zTs, s80 = zuF s 24 (zgP s 13 0 10) 3 (zgF s 13 0 9) → (P 1 s80)) ∧ ((zsm.getD ((r29 : Int32).toNatClampNeg) 0) = 9 → ∀ s93 : zTs, s93 = zuF s 24 (zgP s 13 0 10) 5 (zgF s 13 0 9) → (P 1 s93)) ∧ ((zsm.getD ((r29 : Int32).toNatClampNeg) 0) = 10 → ∀ s106 : zTs, s106 = zuF s 24 (zgP s 13 0 10) 7 (zgF s 13 0 9) → (P 1 s106)) ∧ ((zsm.getD ((r29 : Int32).toNatClampNeg) 0) = 11 → ∀ s119 : zTs, s119 = zuF s 24 (zgP s 13 0 10) 8 (zgF s 13 0 9) → (P 1 s119)) ∧ ((zsm.getD ((r29 : Int32).toNatClampNeg) 0) = 12 → ∀ s132 : zTs, s132 = zuF s 24 (zgP s 13 0 10) 9 (zgF s 13 0 9) → (P 1 s132)) ∧ ((zsm.getD ((r29 : Int32).toNatClampNeg) 0) = 13 → ∀ s145 : zTs, s145 = zuF s 24 (zgP s 13 0 10) 10 (zgF s 13 0 9) → (P 1 s145)) ∧ (¬ (zsm.getD ((r29 : Int32).toNatClampNeg) 0) = 8 ∧ ¬ (zsm.getD ((r29 : Int32).toNatClampNeg) 0) = 9 ∧ ¬ (zsm.getD ((r29 : Int32).toNatClampNeg) 0) = 10 ∧ ¬ (zsm.getD ((r29 : Int32).toNatClampNeg) 0) = 11 ∧ ¬ (zsm.getD ((r29 : Int32).toNatClampNeg) 0) = 12 ∧ ¬ (zsm.getD ((r29 : Int32).toNatClampNeg) 0) = 13 → ∀ s158 : zTs, s158 = zuF s 24 (zgP s 13 0 10) 11 (zgF s 13 0 9) → (P 1 s158)))))) := by
  rcases hv with rfl | rfl | rfl | rfl | rfl | rfl | rfl
  all_goals refine ⟨by omega, by omega, by unfold vp_in; decide, ?_, ?_, ?_, ?_, ?_, ?_, ?_⟩
  all_goals intro z t ht
  all_goals first | (exfalso; revert z; decide) | (subst ht; exact h)
theorem y_setting {B : Nat → Int32} {L o v : Nat} (h0 : ∀ j, L ≤ j → B j = 0) (hv : yse v) : YBS B L o (fun st P => w_X6_readSetting st v P) (MBs (v - 1) (yhi v)) := by
  intro s w f S q p P hT hY ho hq1 ok er
  have l4 := hT.1
  have v24 : v < 24 := by unfold yse at hv; omega
  have v2 : 5 ≤ v ∧ v ≤ 13 := by unfold yse at hv; omega
  have v15 : vp_in (Int32.ofNat (v - 1)) 15 := q_nv (by omega) (by omega)
  have vn : (Int32.ofNat (v - 1)).toNatClampNeg = v - 1 := q_on (by omega)
  have hi9 : yhi v ≤ 9999 := by unfold yhi; split <;> decide
  have core : w_X6_readSetting_17 P (YC s w f S) v (yhi v) 0 := by
    unfold w_X6_readSetting_17
    refine i_takeNumber hT hY (fun w1 f1 q1 p1 n1 n2 n3 n4 n5 n6 hs1 hY1 h91 ha1 => ⟨fun y => absurd y (by decide), fun _ => i_set hv ?_⟩) (fun f1 n1 e11 e12 ha1 => ⟨fun _ => ?_, fun y => absurd rfl y⟩) (fun f1 n1 n2 n3 n4 n5 e11 e12 ha1 => ⟨fun _ => ?_, fun y => absurd rfl y⟩)
    · rw [YC_go, YC_gf, h91, ho, YC_oF]
      have q1p := hs1.1
      refine ok _ w1 f1 S q1 p1 (YBF_F YBF_rf) hY1 (yag_mo (by decide) ha1) (by omega) (by rw [q_FuF, if_neg (fun z => by have := z.2.2; omega)]) ?_
      intro t g A4 A6 A9 A10 K k hM hk hI kk
      obtain ⟨hB, g7, g9, g12, g21, p', g8, hs'⟩ := id hM
      unfold MBs
      refine im_number hB g7 g8 g9 (by have := hs'.1; have := hs'.2.1; omega) hi9 (fun g2 q' hq' hd' hf ja => ?_) (fun g2 q' e' v' hq' x1 x2 x3 x4 x5 hf ja => ?_) (fun g2 q' e' hq' x1 x2 x3 x4 x5 x6 j8 ja => ⟨v15, fun s53 e53 => ?_⟩)
      · have e := ysk_u hq' hs'
        subst e
        exact absurd n1 hd'
      · have e := ysk_u hq' hs'
        subst e
        have e := ydg_u x1 x3 x4 n2 n3 n4
        subst e
        exact absurd ⟨n5, n6⟩ x5
      · have e := ysk_u hq' hs'
        subst e
        have e := ydg_u x1 x3 x4 n2 n3 n4
        subst e
        rw [vn, YM_4] at e53
        subst e53
        refine kk g2 _ _ _ _ k (YMS_e hM j8 ja (by decide) (by decide) (by decide) ((ja 21 (by decide)).trans g21) hs1) (by omega) (yag_mo (by decide) ja) ⟨GRr_s hv n5 n6 (fun i => ?_) hI.1, hI.2⟩
        show zgF (zuF s 24 o (v - 2) _) 24 o i = _
        rw [q_FuF]
        unfold qst1
        by_cases e : i = v - 2
        · rw [if_pos ⟨rfl, rfl, e⟩, if_pos e]
        · rw [if_neg (fun z => e z.2.2), if_neg e]
    · refine er s w f1 S 1 (Int32.ofNat q) YBF_rf e11 e12 (by decide) (yag_mo (by decide) ha1) ?_
      intro t g A4 A6 A9 A10 K k hM hk kk
      obtain ⟨hB, g7, g9, g12, g21, p', g8, hs'⟩ := id hM
      unfold MBs
      refine im_number hB g7 g8 g9 (by have := hs'.1; have := hs'.2.1; omega) hi9 (fun g2 q' hq' hd' hf ja => ⟨v15, fun s53 e53 => ?_⟩) (fun g2 q' e' v' hq' x1 x2 x3 x4 x5 hf ja => ?_) (fun g2 q' e' hq' x1 x2 x3 x4 x5 x6 j8 ja => ?_)
      · have e := ysk_u hq' hs'
        subst e
        rw [vn, YM_4] at e53
        subst e53
        exact kk _ _ _ _ _ hf (yag_mo (by decide) ja)
      · have e := ysk_u hq' hs'
        subst e
        exact absurd (x3 q' (Nat.le_refl _) x1) n1
      · have e := ysk_u hq' hs'
        subst e
        exact absurd (x3 q' (Nat.le_refl _) x1) n1
    · refine er s w f1 S 2 (Int32.ofNat q) YBF_rf e11 e12 (by decide) (yag_mo (by decide) ha1) ?_
      intro t g A4 A6 A9 A10 K k hM hk kk
      obtain ⟨hB, g7, g9, g12, g21, p', g8, hs'⟩ := id hM
      unfold MBs
      refine im_number hB g7 g8 g9 (by have := hs'.1; have := hs'.2.1; omega) hi9 (fun g2 q' hq' hd' hf ja => ?_) (fun g2 q' e' v' hq' x1 x2 x3 x4 x5 hf ja => ⟨v15, fun s53 e53 => ?_⟩) (fun g2 q' e' hq' x1 x2 x3 x4 x5 x6 j8 ja => ?_)
      · have e := ysk_u hq' hs'
        subst e
        exact absurd n1 hd'
      · have e := ysk_u hq' hs'
        subst e
        rw [vn, YM_4] at e53
        subst e53
        exact kk _ _ _ _ _ hf (yag_mo (by decide) ja)
      · have e := ysk_u hq' hs'
        subst e
        have e := ydg_u x1 x3 x4 n2 n3 n4
        subst e
        exact absurd ⟨x5, x6⟩ n5
  unfold yhi at core
  refine ⟨v24, fun z => ?_, fun z => ?_⟩
  · rw [if_pos z] at core; exact core
  · rw [if_neg z] at core; exact core
/-- silence -/
def MBq : zTs → (zTs → Prop) → Prop := fun st K => w_X12_eat st 16 (fun (r186 : Int32) (s186 : zTs) => ((r186 = 0 → w_X12_eat s186 17 (fun (r198 : Int32) (s198 : zTs) => ((r198 = 0 → w_X12_wrong s198 1 (zgF s198 100 0 8) (fun (s210 : zTs) => ((r186 = 0 → vp_in 7 15 ∧ (∀ s227 : zTs, s227 = zuA s210 104 0 (7 : Int32).toNatClampNeg 1 → (K s227))) ∧ (¬ r186 = 0 → vp_in 7 15 ∧ (∀ s227 : zTs, s227 = zuA s210 104 0 (7 : Int32).toNatClampNeg 0 → (K s227)))))) ∧ (¬ r198 = 0 → ((r186 = 0 → vp_in 7 15 ∧ (∀ s227 : zTs, s227 = zuA s198 104 0 (7 : Int32).toNatClampNeg 1 → (K s227))) ∧ (¬ r186 = 0 → vp_in 7 15 ∧ (∀ s227 : zTs, s227 = zuA s198 104 0 (7 : Int32).toNatClampNeg 0 → (K s227)))))))) ∧ (¬ r186 = 0 → ((r186 = 0 → vp_in 7 15 ∧ (∀ s227 : zTs, s227 = zuA s186 104 0 (7 : Int32).toNatClampNeg 1 → (K s227))) ∧ (¬ r186 = 0 → vp_in 7 15 ∧ (∀ s227 : zTs, s227 = zuA s186 104 0 (7 : Int32).toNatClampNeg 0 → (K s227)))))))
theorem GRr_q {A4 F A F' : Nat → Int32} {x y : Int32} (hx : (x = 0 ∧ y = 1) ∨ (x = 1 ∧ y = 0)) (hF : ∀ i, F' i = qst1 F 6 y i) (h : GRr A4 F A) : GRr (qst1 A4 7 x) F' A := by
  have eF : F' = qst1 F 6 y := funext hF
  subst eF
  obtain ⟨⟨g1, g2, g3, g4, g5⟩, g6⟩ := h
  refine ⟨⟨fun j hj => ?_, ?_⟩, ?_⟩
  · rw [qst1_ne (by omega)]; exact g1 j hj
  · simp only [qst1, Nat.reduceEqDiff, reduceIte, g2, g3, g4, true_and]
    exact hx
  · simp only [qst1, Nat.reduceEqDiff, reduceIte]
    exact g6
theorem y_silence {B : Nat → Int32} {L o : Nat} (h0 : ∀ j, L ≤ j → B j = 0) : YBS B L o (fun st P => w_X6_readSilence st P) MBq := by
  intro s w f S q p P hT hY ho hq1 ok er
  have l4 := hT.1
  have sq := YT_sk hY
  have qL := hY.2.2.2.1
  obtain ⟨a1, a2⟩ := YT_w (v := 16) hY h0 (by omega) (by omega)
  obtain ⟨b1, b2⟩ := YT_w (v := 17) hY h0 (by omega) (by omega)
  have v7 : vp_in 7 15 := v15_7
  have n7 : (7 : Int32).toNatClampNeg = 7 := rfl
  have put : ∀ x y : Int32, (x = 0 ∧ y = 1) ∨ (x = 1 ∧ y = 0) → (∀ (t : zTs) (g A4 A6 A9 A10 : Nat → Int32) (K : zTs → Prop) (k : Nat), YMS B L t g q k → (∀ g', g' 8 = Int32.ofNat p → yag [8] g g' → K (YM t g' (qst1 A4 7 x) A6 A9 A10)) → MBq (YM t g A4 A6 A9 A10) K) → ∀ t, t = zuF (YC s w f S) 24 o 6 y → w_X6_advance t (fun (s49 : zTs) => (P 1 s49)) := by
    intro x y hxy mod t ht
    rw [YC_oF] at ht
    subst ht
    refine i_adv hT hY.1 hY.2.2.1 hY.2.2.2.2.1 (fun w1 f1 q1 p1 hs1 hY1 ha1 => ?_)
    have q1p := hs1.1
    have pq : q ≤ p := by
      obtain ⟨-, -, -, -, -, -, ht⟩ := hY
      rcases ht with ⟨e1, e2, -⟩ | ⟨e1, e2, -⟩ | ⟨e1, e2, -⟩ | ⟨e1, e2, -⟩ <;> omega
    refine ok _ w1 f1 S q1 p1 (YBF_F YBF_rf) hY1 (yag_mo (by decide) ha1) (by omega) (by rw [q_FuF, if_neg (fun z => absurd z.2.2 (by decide))]) ?_
    intro t g A4 A6 A9 A10 K k hM hk hI kk
    refine mod t g A4 A6 A9 A10 K k hM (fun g' h8 ha => ?_)
    refine kk g' _ _ _ _ k (YMS_e hM h8 ha (by decide) (by decide) (by decide) ((ha 21 (by decide)).trans hM.2.2.2.2.1) hs1) (by omega) (yag_mo (by decide) ha) ⟨GRr_q hxy (fun i => ?_) hI.1, hI.2⟩
    show zgF (zuF s 24 o 6 _) 24 o i = _
    rw [q_FuF]
    unfold qst1
    by_cases e : i = 6
    · rw [if_pos ⟨rfl, rfl, e⟩, if_pos e]
    · rw [if_neg (fun z => e z.2.2), if_neg e]
  show w_X6_readSilence (YC s w f S) P
  unfold w_X6_readSilence w_X6_readSilence_26 w_X6_readSilence_45
  rw [YC_gw, YC_go, ho]
  have w24 := YT_w24 hY
  have yes : w = 16 → ∀ t, t = zuF (YC s w f S) 24 o 6 1 → w_X6_advance t (fun (s49 : zTs) => (P 1 s49)) := by
    intro e
    refine put 0 1 (.inl ⟨rfl, rfl⟩) (fun t g A4 A6 A9 A10 K k hM kk => ?_)
    obtain ⟨hB, g7, g9, g12, g21, p', g8, hs'⟩ := id hM
    refine im_eat hB g7 g8 g9 (by have := hs'.1; omega) (by omega) (fun g2 q' hq' m k8 ka => ⟨fun z => absurd z (by decide), fun _ => ⟨fun z => absurd z (by decide), fun _ => ⟨v7, fun s2 e2 => ?_⟩⟩⟩) (fun g2 q' hq' m k8 ka => ?_)
    · have e' := ysk_u hq' hs'
      subst e'
      rw [← a2 e] at k8
      rw [n7, YM_4] at e2
      subst e2
      exact kk g2 k8 ka
    · have e' := ysk_u hq' hs'
      subst e'
      exact absurd (a1.mpr e) m
  have no : ¬ w = 16 → w = 17 → ∀ t, t = zuF (YC s w f S) 24 o 6 0 → w_X6_advance t (fun (s49 : zTs) => (P 1 s49)) := by
    intro e6 e
    refine put 1 0 (.inr ⟨rfl, rfl⟩) (fun t g A4 A6 A9 A10 K k hM kk => ?_)
    obtain ⟨hB, g7, g9, g12, g21, p', g8, hs'⟩ := id hM
    refine im_eat hB g7 g8 g9 (by have := hs'.1; omega) (by omega) (fun g2 q' hq' m k8 ka => ?_) (fun g2 q' hq' m k8 ka => ⟨fun _ => ?_, fun z => absurd rfl z⟩)
    · have e' := ysk_u hq' hs'
      subst e'
      exact absurd (a1.mp m) e6
    · have e' := ysk_u hq' hs'
      subst e'
      refine im_eat hB ((ka 7 (by decide)).trans g7) k8 ((ka 9 (by decide)).trans g9) qL (by omega) (fun g3 q3 hq3 m3 j8 ja => ⟨fun z => absurd z (by decide), fun _ => ⟨fun _ => ⟨v7, fun s2 e2 => ?_⟩, fun z => absurd rfl z⟩⟩) (fun g3 q3 hq3 m3 j8 ja => ?_)
      · have e' := ysk_u hq3 sq
        subst e'
        rw [← b2 e] at j8
        rw [n7, YM_4] at e2
        subst e2
        exact kk g3 j8 (yag_tr ka ja)
      · have e' := ysk_u hq3 sq
        subst e'
        exact absurd (b1.mpr e) m3
  refine ⟨w24, fun z => ⟨w24, fun _ => ⟨.inr rfl, yes z⟩, fun z2 => absurd z z2⟩, fun z => ⟨w24, fun z2 => ⟨w24, fun z3 => absurd z3 z, fun _ => ⟨.inl rfl, no z z2⟩⟩, fun z2 => i_fail ⟨.inl rfl, ?_⟩⟩⟩
  refine er s w _ S 1 (Int32.ofNat q) YBF_rf ((qst1_ne (by decide)).trans qst1_at) (qst1_at.trans hY.2.1) (by decide) (yag_st (by decide) (yag_st (by decide) yag_rf)) ?_
  intro t g A4 A6 A9 A10 K k hM hk kk
  obtain ⟨hB, g7, g9, g12, g21, p', g8, hs'⟩ := id hM
  refine im_eat hB g7 g8 g9 (by have := hs'.1; omega) (by omega) (fun g2 q' hq' m k8 ka => ?_) (fun g2 q' hq' m k8 ka => ⟨fun _ => ?_, fun z => absurd rfl z⟩)
  · have e' := ysk_u hq' hs'
    subst e'
    exact absurd (a1.mp m) z
  · have e' := ysk_u hq' hs'
    subst e'
    refine im_eat hB ((ka 7 (by decide)).trans g7) k8 ((ka 9 (by decide)).trans g9) qL (by omega) (fun g3 q3 hq3 m3 j8 ja => ?_) (fun g3 q3 hq3 m3 j8 ja => ⟨fun _ => ?_, fun z => absurd rfl z⟩)
    · have e' := ysk_u hq3 sq
      subst e'
      exact absurd (b1.mp m3) z2
    · have e' := ysk_u hq3 sq
      subst e'
      rw [YM_gf, j8]
      refine im_wrong ((ja 7 (by decide)).trans ((ka 7 (by decide)).trans g7)) j8 (by omega) ((ja 9 (by decide)).trans ((ka 9 (by decide)).trans g9)) (by decide) (fun g4 hf la => ⟨fun _ => ⟨v7, fun s2 e2 => ?_⟩, fun y => absurd rfl y⟩)
      rw [n7, YM_4] at e2
      subst e2
      exact kk _ _ _ _ _ hf (yag_tr (yag_mo (by decide) (yag_tr ka ja)) (yag_mo (by decide) la))

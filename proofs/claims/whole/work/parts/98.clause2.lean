/-! a clause, class and model -/
theorem y_opens : ∀ v : Fin 24, (zwp.getD v.1 0 = 0 → v.1 = 0 ∨ 14 < v.1) ∧ (¬ zwp.getD v.1 0 = 0 → ¬ v.1 = 0 ∧ v.1 ≤ 14) := by decide
def YBX (B : Nat → Int32) (L : Nat) (mb : zTs → (zTs → Prop) → Prop) (o : Nat) (s : zTs) (q : Nat) (kd pl : Int32) : Prop := ∀ (t : zTs) (g A4 A6 A9 A10 : Nat → Int32) (K : zTs → Prop) (k : Nat), YMS B L t g q k → k + L ≤ 799 + q → YRI s o A4 A6 A9 A10 k → (∀ g' A4' A6' A9' A10', YF L kd pl g' → yag [8, 9, 10, 12, 21] g g' → K (YM t g' A4' A6' A9' A10')) → mb (YM t g A4 A6 A9 A10) K
theorem y_clause {B : Nat → Int32} {L o : Nat} (h0 : ∀ j, L ≤ j → B j = 0) {s : zTs} {w q p c : Nat} {f S : Nat → Int32} {P : Int32 → zTs → Prop} (hT : yTB (zgA s 43 0) B L) (hY : YT B L w f q p) (ho : zgP s 13 0 10 = o) (hc : zgF s 24 o 0 = Int32.ofNat c) (c20 : c ≤ 20)
    (none : (w = 0 ∨ 14 < w) → ∀ f', f' 11 = 1 → f' 12 = Int32.ofNat q → yag [11, 12] f f' → P 0 (YC s w f' S))
    (many : ∀ r, r < 14 → w = r + 1 → c = 20 → ∀ f', f' 11 = 3 → f' 12 = Int32.ofNat q → yag [11, 12] f f' → P 0 (YC s w f' S))
    (ok : ∀ s' w' f' S' q' p', c < 20 → YBF o s s' → YT B L w' f' q' p' → yag [2, 4, 5, 7, 8, 9] f f' → q < q' → zgF s' 24 o 0 = Int32.ofNat (c + 1) → YBO B L w_X12_clause o s s' q q' → P 1 (YC s' w' f' S'))
    (er : ∀ s' w' f' S' kd pl, c < 20 → YBF o s s' → f' 11 = kd → f' 12 = pl → 0 < kd → yag [2, 4, 5, 7, 8, 9, 11, 12] f f' → YBX B L w_X12_clause o s q kd pl → P 0 (YC s' w' f' S')) : w_X6_readClause (YC s w f S) P := by
  have w24 := YT_w24 hY
  have l4 := hT.1
  have qL := hY.2.2.2.1
  have pL := hY.2.2.2.2.1
  obtain ⟨o1, o2⟩ := y_opens ⟨w, w24⟩
  have c2 : Int32.ofNat c < 20 ↔ c < 20 := by
    rw [← Int32.not_le, show (20 : Int32) = Int32.ofNat 20 from rfl, q_nle (by omega) (by omega)]
    omega
  unfold w_X6_readClause
  rw [YC_gw, YC_go, ho, YC_gF (by decide), hc]
  refine ⟨w24, fun z => i_fail ⟨.inl rfl, none (o1 z) _ ((qst1_ne (by decide)).trans qst1_at) (qst1_at.trans hY.2.1) (yag_st (by decide) (yag_st (by decide) yag_rf))⟩, fun z => ?_⟩
  obtain ⟨z1, z2⟩ := o2 z
  have z1' : ¬ w = 0 := z1
  have z2' : w ≤ 14 := z2
  obtain ⟨r, hr, hw⟩ : ∃ r, r < 14 ∧ w = r + 1 := ⟨w - 1, by omega, by omega⟩
  refine ⟨fun y => ?_, fun y => i_fail ⟨.inl rfl, many r hr hw (by rw [c2] at y; omega) _ ((qst1_ne (by decide)).trans qst1_at) (qst1_at.trans hY.2.1) (yag_st (by decide) (yag_st (by decide) yag_rf))⟩⟩
  rw [c2] at y
  intro s46 e46
  rw [YC_oF, q_os (by omega)] at e46
  subst e46
  have pq : q < p := by
    obtain ⟨x1, x2⟩ := YT_w (v := w) hY h0 (by omega) (by omega)
    have := x2 rfl
    have : 2 ≤ zlen.getD w 0 := y_l1 ⟨w, w24⟩ (by show 1 ≤ w; omega)
    omega
  have hT1 : yTB (zgA (zuF s 24 o 0 (Int32.ofNat (c + 1))) 43 0) B L := hT
  refine i_adv hT1 hY.1 hY.2.2.1 pL (fun w1 f1 q1 p1 hs1 hY1 ha1 => ⟨w24, ?_⟩)
  have q1p := hs1.1
  have body : ∀ (co : zTs → (Int32 → zTs → Prop) → Prop) (mb : zTs → (zTs → Prop) → Prop), YBS B L o co mb → (∀ K st, mb st K → yMX r K st) → co (YC (zuF s 24 o 0 (Int32.ofNat (c + 1))) w1 f1 S) (fun (r106 : Int32) (s106 : zTs) => (w_X6_readClause_170 P s106 r106)) := by
    intro co mb hS md
    have b1 : YBF o s (zuF s 24 o 0 (Int32.ofNat (c + 1))) := YBF_F YBF_rf
    have hI1 : ∀ A4 A6 A9 A10 k, YRI s o A4 A6 A9 A10 k → YRI (zuF s 24 o 0 (Int32.ofNat (c + 1))) o A4 A6 A9 A10 k := by
      intro A4 A6 A9 A10 k hI
      refine ⟨GRr_0 (fun i hi => ?_) hI.1, hI.2⟩
      rw [q_FuF, if_neg (fun z => hi z.2.2)]
    refine hS _ w1 f1 S q1 p1 _ hT1 hY1 ho (by omega) ?_ ?_
    · intro s' w' f' S' q' p' hb hY' ha' hq' hF0 mO
      have hT' : yTB (zgA s' 43 0) B L := by
        rw [show zgA s' 43 0 = zgA (zuF s 24 o 0 (Int32.ofNat (c + 1))) 43 0 from funext fun i => hb.2.2.2.2.2.1 43 0 i (fun z => absurd z.1 (by decide)) (fun z => absurd z.1 (by decide))]
        exact hT1
      refine ⟨fun z => absurd z (by decide), fun _ => i_takeSign hT' hY' (by decide) (by unfold ylet; decide) (by unfold ydig; decide) (fun w2 f2 q2 p2 b59 hs2 hY2 ha2 => ⟨fun z => absurd z (by decide), fun _ => ?_⟩) (fun f2 b59 e11 e12 ha2 => ⟨fun _ => ?_, fun z => absurd rfl z⟩)⟩
      · have q2p := hs2.1
        refine ok s' w2 f2 S' q2 p2 y (YBF_tr b1 hb) hY2 (yag_tr (yag_tr (yag_mo (by decide) ha1) ha') (yag_mo (by decide) ha2)) (by omega) (hF0.trans (by rw [q_FuF, if_pos ⟨rfl, rfl, rfl⟩])) ?_
        intro t g A4 A6 A9 A10 K k hM hk hI kk
        refine im_clause h0 hY hM hr hw (fun g1 i8 ia => md _ _ (mO t g1 A4 A6 A9 A10 _ k (YMS_e hM i8 ia (by decide) (by decide) (by decide) ((ia 21 (by decide)).trans hM.2.2.2.2.1) hs1) (by omega) (hI1 _ _ _ _ _ hI) (fun g2 B4 B6 B9 B10 k2 hM2 hk2 ja hI2 => ?_)))
        obtain ⟨hB, j7, j9, j12, j21, e2, j8, hse⟩ := id hM2
        refine im_sign hB j7 j8 j9 (by have := hse.1; have := hse.2.1; omega) (by decide) (fun g3 q3 hq3 b' k8 ka => ?_) (fun g3 q3 hq3 b' hf ka => ?_)
        · have e := ysk_u hq3 hse
          subst e
          exact kk g3 _ _ _ _ k2 (YMS_e hM2 k8 ka (by decide) (by decide) (by decide) ((ka 21 (by decide)).trans j21) hs2) (by omega) (yag_tr (yag_tr (yag_mo (by decide) ia) ja) (yag_mo (by decide) ka)) hI2
        · have e := ysk_u hq3 hse
          subst e
          exact absurd b59 b'
      · refine er s' w' f2 S' 1 (Int32.ofNat q') y (YBF_tr b1 hb) e11 e12 (by decide) (yag_tr (yag_tr (yag_mo (by decide) ha1) (yag_mo (by decide) ha')) (yag_mo (by decide) ha2)) ?_
        intro t g A4 A6 A9 A10 K k hM hk hI kk
        refine im_clause h0 hY hM hr hw (fun g1 i8 ia => md _ _ (mO t g1 A4 A6 A9 A10 _ k (YMS_e hM i8 ia (by decide) (by decide) (by decide) ((ia 21 (by decide)).trans hM.2.2.2.2.1) hs1) (by omega) (hI1 _ _ _ _ _ hI) (fun g2 B4 B6 B9 B10 k2 hM2 hk2 ja hI2 => ?_)))
        obtain ⟨hB, j7, j9, j12, j21, e2, j8, hse⟩ := id hM2
        refine im_sign hB j7 j8 j9 (by have := hse.1; have := hse.2.1; omega) (by decide) (fun g3 q3 hq3 b' k8 ka => ?_) (fun g3 q3 hq3 b' hf ka => ?_)
        · have e := ysk_u hq3 hse
          subst e
          exact absurd b' b59
        · have e := ysk_u hq3 hse
          subst e
          exact kk g3 _ _ _ _ hf (yag_tr (yag_tr (yag_mo (by decide) ia) (yag_mo (by decide) ja)) (yag_mo (by decide) ka))
    · intro s' w' f' S' kd pl hb e11 e12 hk ha' mE
      refine ⟨fun _ => er s' w' f' S' kd pl y (YBF_tr b1 hb) e11 e12 hk (yag_tr (yag_mo (by decide) ha1) ha') ?_, fun z => absurd rfl z⟩
      intro t g A4 A6 A9 A10 K k hM hk' _ kk
      refine im_clause h0 hY hM hr hw (fun g1 i8 ia => md _ _ (mE t g1 A4 A6 A9 A10 _ k (YMS_e hM i8 ia (by decide) (by decide) (by decide) ((ia 21 (by decide)).trans hM.2.2.2.2.1) hs1) (by omega) (fun g2 B4 B6 B9 B10 hf ja => ?_)))
      exact im_signF hf (kk _ _ _ _ _ hf (yag_tr (yag_mo (by decide) ia) ja))
  subst hw
  clear o1 o2 z z1 z2 z1' z2'
  revert body
  match r, hr with
  | 0, _ =>
      intro body
      refine ⟨by omega, by unfold vp_in; decide, ?_, ?_, ?_, ?_, ?_, ?_, ?_, ?_⟩
      all_goals intro z
      all_goals first | (exfalso; revert z; decide) | (exact body _ _ (y_notice (j := 0) h0 (by omega)) (fun _ _ h => h))
  | 1, _ =>
      intro body
      refine ⟨by omega, by unfold vp_in; decide, ?_, ?_, ?_, ?_, ?_, ?_, ?_, ?_⟩
      all_goals intro z
      all_goals first | (exfalso; revert z; decide) | (exact body _ _ (y_notice (j := 1) h0 (by omega)) (fun _ _ h => h))
  | 2, _ =>
      intro body
      refine ⟨by omega, by unfold vp_in; decide, ?_, ?_, ?_, ?_, ?_, ?_, ?_, ?_⟩
      all_goals intro z
      all_goals first | (exfalso; revert z; decide) | (exact body _ _ (y_notice (j := 2) h0 (by omega)) (fun _ _ h => h))
  | 3, _ =>
      intro body
      refine ⟨by omega, by unfold vp_in; decide, ?_, ?_, ?_, ?_, ?_, ?_, ?_, ?_⟩
      all_goals intro z
      all_goals first | (exfalso; revert z; decide) | (exact body _ _ (y_notice (j := 3) h0 (by omega)) (fun _ _ h => h))
  | 4, _ =>
      intro body
      refine ⟨by omega, by unfold vp_in; decide, ?_, ?_, ?_, ?_, ?_, ?_, ?_, ?_⟩
      all_goals intro z
      all_goals first | (exfalso; revert z; decide) | (exact body _ _ (y_setting (v := 5) h0 (by unfold yse; omega)) (fun _ _ h => h))
  | 5, _ =>
      intro body
      refine ⟨by omega, by unfold vp_in; decide, ?_, ?_, ?_, ?_, ?_, ?_, ?_, ?_⟩
      all_goals intro z
      all_goals first | (exfalso; revert z; decide) | (exact body _ _ (y_rest h0) (fun _ _ h => h))
  | 6, _ =>
      intro body
      refine ⟨by omega, by unfold vp_in; decide, ?_, ?_, ?_, ?_, ?_, ?_, ?_, ?_⟩
      all_goals intro z
      all_goals first | (exfalso; revert z; decide) | (exact body _ _ (y_setting (v := 7) h0 (by unfold yse; omega)) (fun _ _ h => h))
  | 7, _ =>
      intro body
      refine ⟨by omega, by unfold vp_in; decide, ?_, ?_, ?_, ?_, ?_, ?_, ?_, ?_⟩
      all_goals intro z
      all_goals first | (exfalso; revert z; decide) | (exact body _ _ (y_silence h0) (fun _ _ h => h))
  | 8, _ =>
      intro body
      refine ⟨by omega, by unfold vp_in; decide, ?_, ?_, ?_, ?_, ?_, ?_, ?_, ?_⟩
      all_goals intro z
      all_goals first | (exfalso; revert z; decide) | (exact body _ _ (y_setting (v := 9) h0 (by unfold yse; omega)) (fun _ _ h => h))
  | 9, _ =>
      intro body
      refine ⟨by omega, by unfold vp_in; decide, ?_, ?_, ?_, ?_, ?_, ?_, ?_, ?_⟩
      all_goals intro z
      all_goals first | (exfalso; revert z; decide) | (exact body _ _ (y_setting (v := 10) h0 (by unfold yse; omega)) (fun _ _ h => h))
  | 10, _ =>
      intro body
      refine ⟨by omega, by unfold vp_in; decide, ?_, ?_, ?_, ?_, ?_, ?_, ?_, ?_⟩
      all_goals intro z
      all_goals first | (exfalso; revert z; decide) | (exact body _ _ (y_setting (v := 11) h0 (by unfold yse; omega)) (fun _ _ h => h))
  | 11, _ =>
      intro body
      refine ⟨by omega, by unfold vp_in; decide, ?_, ?_, ?_, ?_, ?_, ?_, ?_, ?_⟩
      all_goals intro z
      all_goals first | (exfalso; revert z; decide) | (exact body _ _ (y_setting (v := 12) h0 (by unfold yse; omega)) (fun _ _ h => h))
  | 12, _ =>
      intro body
      refine ⟨by omega, by unfold vp_in; decide, ?_, ?_, ?_, ?_, ?_, ?_, ?_, ?_⟩
      all_goals intro z
      all_goals first | (exfalso; revert z; decide) | (exact body _ _ (y_setting (v := 13) h0 (by unfold yse; omega)) (fun _ _ h => h))
  | 13, _ =>
      intro body
      refine ⟨by omega, by unfold vp_in; decide, ?_, ?_, ?_, ?_, ?_, ?_, ?_, ?_⟩
      all_goals intro z
      all_goals first | (exfalso; revert z; decide) | (exact body _ _ (y_hours h0) (fun _ _ h => h))

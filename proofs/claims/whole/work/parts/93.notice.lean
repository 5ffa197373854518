/-! a clause of notice -/
theorem YT_2 {B f : Nat → Int32} {L w q p j : Nat} {x : Int32} (hj : j = 2 ∨ j = 9) (h : YT B L w f q p) : YT B L w (qst1 f j x) q p := by
  obtain ⟨h3, h4, h5, h6, h7, h8, h9⟩ := h
  refine ⟨(qst1_ne (by omega)).trans h3, (qst1_ne (by omega)).trans h4, (qst1_ne (by omega)).trans h5, h6, h7, h8, ?_⟩
  unfold yTok at h9 ⊢
  rw [qst1_ne (by omega), qst1_ne (by omega)]
  exact h9
def YMS (B : Nat → Int32) (L : Nat) (t : zTs) (g : Nat → Int32) (q k : Nat) : Prop := YB t B L ∧ g 7 = Int32.ofNat L ∧ g 9 = 0 ∧ g 12 = Int32.ofNat 0 ∧ g 21 = Int32.ofNat k ∧ ∃ p, g 8 = Int32.ofNat p ∧ ysk B L p q
def YBO (B : Nat → Int32) (L : Nat) (mb : zTs → (zTs → Prop) → Prop) (o : Nat) (s s' : zTs) (q q' : Nat) : Prop := ∀ (t : zTs) (g A4 A6 A9 A10 : Nat → Int32) (K : zTs → Prop) (k : Nat), YMS B L t g q k → k + L ≤ 799 + q → YRI s o A4 A6 A9 A10 k → (∀ g' A4' A6' A9' A10' k', YMS B L t g' q' k' → k' + L ≤ 799 + q' → yag [8, 21] g g' → YRI s' o A4' A6' A9' A10' k' → K (YM t g' A4' A6' A9' A10')) → mb (YM t g A4 A6 A9 A10) K
def YBE (B : Nat → Int32) (L : Nat) (mb : zTs → (zTs → Prop) → Prop) (q : Nat) (kd pl : Int32) : Prop := ∀ (t : zTs) (g A4 A6 A9 A10 : Nat → Int32) (K : zTs → Prop) (k : Nat), YMS B L t g q k → k + L ≤ 799 + q → (∀ g' A4' A6' A9' A10', YF L kd pl g' → yag [8, 9, 10, 12, 21] g g' → K (YM t g' A4' A6' A9' A10')) → mb (YM t g A4 A6 A9 A10) K
def YBS (B : Nat → Int32) (L o : Nat) (co : zTs → (Int32 → zTs → Prop) → Prop) (mb : zTs → (zTs → Prop) → Prop) : Prop := ∀ (s : zTs) (w : Nat) (f S : Nat → Int32) (q p : Nat) (P : Int32 → zTs → Prop), yTB (zgA s 43 0) B L → YT B L w f q p → zgP s 13 0 10 = o → 1 ≤ q →
  (∀ s' w' f' S' q' p', YBF o s s' → YT B L w' f' q' p' → yag [2, 4, 5, 7, 8, 9] f f' → q ≤ q' → zgF s' 24 o 0 = zgF s 24 o 0 → YBO B L mb o s s' q q' → P 1 (YC s' w' f' S')) →
  (∀ s' w' f' S' kd pl, YBF o s s' → f' 11 = kd → f' 12 = pl → 0 < kd → yag [2, 4, 5, 7, 8, 9, 11, 12] f f' → YBE B L mb q kd pl → P 0 (YC s' w' f' S')) → co (YC s w f S) P
theorem YMS_e {B g g' : Nat → Int32} {L q e k : Nat} {t : zTs} {l : List Nat} (h : YMS B L t g q k) (h8 : g' 8 = Int32.ofNat e) (a : yag l g g') (n7 : ¬ 7 ∈ l) (n9 : ¬ 9 ∈ l) (n12 : ¬ 12 ∈ l) {k' q' : Nat} (h21 : g' 21 = Int32.ofNat k') (hs : ysk B L e q') : YMS B L t g' q' k' := by
  obtain ⟨h1, h2, h3, h4, h5, -⟩ := h
  exact ⟨h1, (a 7 n7).trans h2, (a 9 n9).trans h3, (a 12 n12).trans h4, h21, e, h8, hs⟩
theorem GRr_n {A4 F A F' A' : Nat → Int32} {j : Nat} {v : Int32} (hj : j < 4) (h0 : 0 ≤ v) (h1 : v ≤ 400) (hF : F' = F) (hA : ∀ i, A' i = qst1 A j v i) (h : GRr A4 F A) : GRr (qst1 A4 j v) F' A' := by
  subst hF
  obtain ⟨⟨g1, g2⟩, g3⟩ := h
  refine ⟨⟨fun i hi => ?_, ?_⟩, ?_⟩
  · rw [hA i]
    by_cases e : i = j
    · rw [e, qst1_at, qst1_at]; exact ⟨rfl, h0, h1⟩
    · rw [qst1_ne e, qst1_ne e]; exact g1 i hi
  · rw [qst1_ne (by omega), qst1_ne (by omega), qst1_ne (by omega), qst1_ne (by omega)]
    exact g2
  · rw [qst1_ne (by omega), qst1_ne (by omega), qst1_ne (by omega), qst1_ne (by omega), qst1_ne (by omega), qst1_ne (by omega), qst1_ne (by omega)]
    exact g3
def MBn (j : Nat) : zTs → (zTs → Prop) → Prop := fun st K => w_X12_number st 0 400 (fun (r50 : Int32) (s50 : zTs) => (vp_in (Int32.ofNat j) 15 ∧ (∀ s53 : zTs, s53 = zuA s50 104 0 (Int32.ofNat j).toNatClampNeg r50 → (vp_in (Int32.ofNat j) 4 ∧ (∀ s60 : zTs, s60 = zuA s53 106 0 (Int32.ofNat j).toNatClampNeg (-1) → (w_X12_eat s60 15 (fun (r65 : Int32) (s65 : zTs) => ((r65 = 0 → K s65) ∧ (¬ r65 = 0 → vp_in (Int32.ofNat j) 4 ∧ (∀ s80 : zTs, s80 = zuA s65 106 0 (Int32.ofNat j).toNatClampNeg (zgF s65 100 0 21) → (w_X12_ors_L0 s80 (fun (s82 : zTs) => (w_X12_emits s82 0 0 (fun (s88 : zTs) => (K s88)))))))))))))))
theorem y_notice {B : Nat → Int32} {L o j : Nat} (h0 : ∀ j, L ≤ j → B j = 0) (hj : j < 4) : YBS B L o (fun st P => w_X6_readNotice st (Int32.ofNat j) P) (MBn j) := by
  intro s w f S q p P hT hY ho hq1 ok er
  have l4 := hT.1
  have sq := YT_sk hY
  have v4 : vp_in (Int32.ofNat j) 4 := q_nv hj (by omega)
  have v15 : vp_in (Int32.ofNat j) 15 := q_nv (by omega) (by omega)
  have jn : (Int32.ofNat j).toNatClampNeg = j := q_on (by omega)
  show w_X6_readNotice (YC s w f S) (Int32.ofNat j) P
  unfold w_X6_readNotice
  refine i_takeNumber hT hY (fun w1 f1 q1 p1 n1 n2 n3 n4 n5 n6 hs1 hY1 h91 ha1 => ⟨fun y => absurd y (by decide), fun _ => ⟨v4, fun s25 e25 s28 e28 => ?_⟩⟩) (fun f1 n1 e11 e12 ha1 => ⟨fun _ => ?_, fun y => absurd rfl y⟩) (fun f1 n1 n2 n3 n4 n5 e11 e12 ha1 => ⟨fun _ => ?_, fun y => absurd rfl y⟩)
  · rw [YC_go, YC_gf, h91, jn, ho, YC_oA] at e25
    subst e25
    rw [YC_f] at e28
    subst e28
    have q1p := hs1.1
    -- the model, up to the word after the days
    have days : ∀ (t : zTs) (g A4 A6 A9 A10 : Nat → Int32) (K : zTs → Prop) (k : Nat), YMS B L t g q k → (∀ g', g' 8 = Int32.ofNat p → yag [8] g g' → w_X12_eat (YM t g' (qst1 A4 j (ynm B q (p - q))) (qst1 A6 j (-1)) A9 A10) 15 (fun (r65 : Int32) (s65 : zTs) => ((r65 = 0 → K s65) ∧ (¬ r65 = 0 → vp_in (Int32.ofNat j) 4 ∧ (∀ s80 : zTs, s80 = zuA s65 106 0 (Int32.ofNat j).toNatClampNeg (zgF s65 100 0 21) → (w_X12_ors_L0 s80 (fun (s82 : zTs) => (w_X12_emits s82 0 0 (fun (s88 : zTs) => (K s88)))))))))) → MBn j (YM t g A4 A6 A9 A10) K := by
      intro t g A4 A6 A9 A10 K k hM kk
      obtain ⟨hB, g7, g9, g12, g21, p', g8, hs'⟩ := hM
      unfold MBn
      refine im_number hB g7 g8 g9 (by have := hs'.1; have := hs'.2.1; omega) (by decide) (fun g2 q' hq' hd' hf ja => ?_) (fun g2 q' e' v' hq' x1 x2 x3 x4 x5 hf ja => ?_) (fun g2 q' e' hq' x1 x2 x3 x4 x5 x6 j8 ja => ⟨v15, fun s53 e53 => ⟨v4, fun s60 e60 => ?_⟩⟩)
      · have e := ysk_u hq' hs'
        subst e
        exact absurd n1 hd'
      · have e := ysk_u hq' hs'
        subst e
        have e := ydg_u x1 x3 x4 n2 n3 n4
        subst e
        exact absurd ⟨n5, n6⟩ x5
      · have e := ysk_u hq' hs'
        subst e
        have e := ydg_u x1 x3 x4 n2 n3 n4
        subst e
        rw [jn, YM_4] at e53
        subst e53
        rw [jn, YM_6] at e60
        subst e60
        exact kk g2 j8 ja
    obtain ⟨w15a, w15b⟩ := YT_w (v := 15) hY1 h0 (by omega) (by omega)
    have hT1 : yTB (zgA (zuA s 66 o j (ynm B q (p - q))) 43 0) B L := by
      rw [show zgA (zuA s 66 o j (ynm B q (p - q))) 43 0 = zgA s 43 0 from funext fun i => by rw [q_AuA, if_neg (fun z => absurd z.1 (by decide))]]
      exact hT
    have hA : ∀ i, zgA (zuA s 66 o j (ynm B q (p - q))) 66 o i = qst1 (fun i => zgA s 66 o i) j (ynm B q (p - q)) i := by
      intro i
      rw [q_AuA]
      unfold qst1
      by_cases e : i = j
      · rw [if_pos ⟨rfl, rfl, e⟩, if_pos e]
      · rw [if_neg (fun z => e z.2.2), if_neg e]
    -- the rule kept, when a condition of n steps has been written
    have keep : ∀ (s' : zTs) (n : Nat) (c : Int32) (A4 A6 A9 A10 A9' A10' : Nat → Int32) (k k' : Nat), YBF o (zuA s 66 o j (ynm B q (p - q))) s' → zgN s' 69 = zgN s 69 + 1 → zgL s' 69 (zgN s 69) = n → zgF s' = zgF s → zgR s' = zgR s → (∀ i j', zgA s' 66 i j' = zgA (zuA s 66 o j (ynm B q (p - q))) 66 i j') → YRI s o A4 A6 A9 A10 k → k ≤ k' → (∀ i, i < k → A9' i = A9 i ∧ A10' i = A10 i) → GRc c A9' A10' n (zgA s' 69 (zgN s 69)) → (c = -1 ∨ c.toNatClampNeg + n < k') → YRI (zuR s' 68 o j (some (zgN s 69))) o (qst1 A4 j (ynm B q (p - q))) (qst1 A6 j c) A9' A10' k' := by
      intro s' n c A4 A6 A9 A10 A9' A10' k k' hb hN hL hF hR hA66 hI hk he hc hc'
      obtain ⟨i1, i2⟩ := hI
      obtain ⟨b1, b2, b3, b4, b5, b6, b7, b8, b9⟩ := hb
      refine ⟨GRr_n hj n5 n6 (by funext i; show zgF s' 24 o i = _; rw [hF]) (fun i => ?_) i1, fun i hi => ?_⟩
      · show zgA s' 66 o i = _
        rw [hA66]
        exact hA i
      · by_cases e : i = j
        · subst e
          refine ⟨zgN s 69, by rw [q_RuR, if_pos ⟨rfl, rfl, rfl⟩], by show _ < zgN s' 69; omega, ?_, ?_⟩
          · show GRc (qst1 A6 i c i) A9' A10' (zgL s' 69 (zgN s 69)) (zgA s' 69 (zgN s 69))
            rw [qst1_at, hL]
            exact hc
          · show qst1 A6 i c i = -1 ∨ (qst1 A6 i c i).toNatClampNeg + zgL s' 69 (zgN s 69) < k'
            rw [qst1_at, hL]
            exact hc'
        · obtain ⟨y, y1, y2, y3, y4⟩ := i2 i hi
          have hL' : zgL s' 69 y = zgL s 69 y := (b8 69 y (fun z => by have := z.2; have e1 : zgN (zuA s 66 o j (ynm B q (p - q))) 69 = zgN s 69 := rfl; omega))
          have hA' : zgA s' 69 y = zgA s 69 y := by
            funext i'
            refine (b6 69 y i' (fun z => absurd z.1 (by decide)) (fun z => by have := z.2; have e1 : zgN (zuA s 66 o j (ynm B q (p - q))) 69 = zgN s 69 := rfl; omega)).trans ?_
            rw [q_AuA, if_neg (fun z => absurd z.1 (by decide))]
          refine ⟨y, by rw [q_RuR, if_neg (fun z => e z.2.2), hR]; exact y1, by show y < zgN s' 69; omega, ?_, ?_⟩
          · show GRc (qst1 A6 j c i) A9' A10' (zgL s' 69 y) (zgA s' 69 y)
            rw [qst1_ne e, hL', hA']
            exact GRc_ex he y4 y3
          · show qst1 A6 j c i = -1 ∨ (qst1 A6 j c i).toNatClampNeg + zgL s' 69 y < k'
            rw [qst1_ne e, hL']
            exact y4.imp id (fun z => by omega)
    have hF0 : ∀ s' : zTs, zgF s' = zgF s → ∀ x, zgF (zuR s' 68 o j x) 24 o 0 = zgF s 24 o 0 := fun s' e x => by show zgF s' 24 o 0 = _; rw [e]
    have bf1 : YBF o s (zuA s 66 o j (ynm B q (p - q))) := YBF_A YBF_rf
    rw [YC_gw]
    refine ⟨YT_w24 hY1, fun z => ?_, fun z => ?_⟩
    · have pe := w15b z
      have z2 : zlen.getD 15 0 = 2 := rfl
      rw [z2] at pe
      refine i_adv hT1 ((qst1_ne (by decide)).trans hY1.1) ((qst1_ne (by decide)).trans hY1.2.2.1) hY1.2.2.2.2.1 (fun w2 f2 q2 p2 hs2 hY2 ha2 => ?_)
      have q2p := hs2.1
      refine (yl_any0 h0).1 _ w2 f2 S q2 p2 0 _ hT1 hY2 ((ha2 2 (by decide)).trans qst1_at) (by omega) ?_ ?_
      · intro w3 f3 S3 q3 p3 e3 l hY3 hs3 h32 ha3 hr3 hl3 hw3 ok3
        have q3L := hY3.2.2.2.1
        unfold w_X6_readNotice_53
        rw [YC_gf, h32, Nat.zero_add]
        refine i_copy (by omega) (fun s' hb hN hL hS hF hR hA6 => ⟨v4, fun s72 e72 => ⟨.inr rfl, ?_⟩⟩)
        rw [YC_go, jn, YC_oR, show zgP (zuA s 66 o j (ynm B q (p - q))) 13 0 10 = o from ho] at e72
        subst e72
        refine ok _ w3 f3 S3 q3 p3 (YBF_R (YBF_tr bf1 (hb o))) hY3 (yag_tr (yag_tr (yag_st (by decide) (yag_mo (by decide) ha1)) (yag_mo (by decide) ha2)) ha3) (by omega) (hF0 s' hF _) ?_
        intro t g A4 A6 A9 A10 K k hM hk hI kk
        refine days t g A4 A6 A9 A10 K k hM (fun g1 i8 ia => ?_)
        obtain ⟨hB, g7, g9, g12, g21, p', g8, hs'⟩ := id hM
        refine im_eat hB ((ia 7 (by decide)).trans g7) i8 ((ia 9 (by decide)).trans g9) (by have := hY1.2.2.2.1; omega) (by omega) (fun g2 q' hq' m k8 ka => ⟨fun y => absurd y (by decide), fun _ => ⟨v4, fun s80 e80 => ?_⟩⟩) (fun g2 q' hq' m k8 ka => ?_)
        · have e := ysk_u hq' hs1
          subst e
          have k21 : g2 21 = Int32.ofNat k := (ka 21 (by decide)).trans ((ia 21 (by decide)).trans g21)
          rw [jn, YM_gf, k21, YM_6, qst1_2] at e80
          subst e80
          rw [z2, ← pe] at k8
          refine ok3 t g2 _ _ A9 A10 _ p1 k hB ((ka 7 (by decide)).trans ((ia 7 (by decide)).trans g7)) k8 ((ka 9 (by decide)).trans ((ia 9 (by decide)).trans g9)) ((ka 12 (by decide)).trans ((ia 12 (by decide)).trans g12)) k21 hs2 (by omega) (fun g3 B9 B10 j8 j21 ja r9 r10 => ?_)
          refine im_emits (k := k + l.length) ((ja 9 (by decide)).trans ((ka 9 (by decide)).trans ((ia 9 (by decide)).trans g9))) j21 (by omega) ?_
          have all : yag [8, 21] g (qst1 g3 21 (Int32.ofNat (k + l.length + 1))) := yag_st (by decide) (yag_tr (yag_tr (yag_mo (by decide) ia) (yag_mo (by decide) ka)) ja)
          refine kk _ _ _ _ _ (k + l.length + 1) (YMS_e hM ((qst1_ne (by decide)).trans j8) all (by decide) (by decide) (by decide) qst1_at hs3) (by omega) all ?_
          refine keep s' l.length (Int32.ofNat k) A4 A6 A9 A10 _ _ k _ (hb o) hN hL hF hR (fun i j' => hA6 i j') hI (by omega) (fun i hi => ⟨(qst1_ne (by omega)).trans (r9.1 i hi), (qst1_ne (by omega)).trans (r10.1 i hi)⟩) ?_ (.inr (by rw [q_on (by omega)]; omega))
          refine GRc_new (co := A9) (li := A10) hw3 (by omega) (by omega) ⟨fun i hi => (qst1_ne (by omega)).trans (r9.1 i hi), fun i hi => (qst1_ne (by omega)).trans (r9.2 i hi)⟩ ⟨fun i hi => (qst1_ne (by omega)).trans (r10.1 i hi), fun i hi => (qst1_ne (by omega)).trans (r10.2 i hi)⟩ qst1_at (fun i hi => ?_)
          have := hr3.2 i hi
          rw [Nat.zero_add] at this
          exact (hS i hi).trans this
        · exfalso
          have e := ysk_u hq' hs1
          subst e
          exact m (w15a.mpr z)
      · intro w3 f3 S3 m kd pl h32 hm h11 h12 hk ha3 er3
        unfold w_X6_readNotice_53
        rw [YC_gf, h32]
        refine i_copy hm (fun s' hb hN hL hS hF hR hA6 => ⟨v4, fun s72 e72 => ⟨.inl rfl, ?_⟩⟩)
        rw [YC_go, jn, YC_oR, show zgP (zuA s 66 o j (ynm B q (p - q))) 13 0 10 = o from ho] at e72
        subst e72
        refine er _ w3 f3 S3 kd pl (YBF_R (YBF_tr bf1 (hb o))) h11 h12 hk (yag_tr (yag_tr (yag_st (by decide) (yag_mo (by decide) ha1)) (yag_mo (by decide) ha2)) ha3) ?_
        intro t g A4 A6 A9 A10 K k hM hk' kk
        refine days t g A4 A6 A9 A10 K k hM (fun g1 i8 ia => ?_)
        obtain ⟨hB, g7, g9, g12, g21, p', g8, hs'⟩ := id hM
        refine im_eat hB ((ia 7 (by decide)).trans g7) i8 ((ia 9 (by decide)).trans g9) (by have := hY1.2.2.2.1; omega) (by omega) (fun g2 q' hq' m k8 ka => ⟨fun y => absurd y (by decide), fun _ => ⟨v4, fun s80 e80 => ?_⟩⟩) (fun g2 q' hq' m k8 ka => ?_)
        · have e := ysk_u hq' hs1
          subst e
          have k21 : g2 21 = Int32.ofNat k := (ka 21 (by decide)).trans ((ia 21 (by decide)).trans g21)
          rw [jn, YM_gf, k21, YM_6, qst1_2] at e80
          subst e80
          rw [z2, ← pe] at k8
          refine er3 t g2 _ _ A9 A10 _ p1 k hB ((ka 7 (by decide)).trans ((ia 7 (by decide)).trans g7)) k8 ((ka 9 (by decide)).trans ((ia 9 (by decide)).trans g9)) ((ka 12 (by decide)).trans ((ia 12 (by decide)).trans g12)) k21 hs2 (by omega) (fun g3 B9 B10 hf ja => ?_)
          exact im_emitsF hf (kk _ _ _ _ _ hf (yag_tr (yag_tr (yag_mo (by decide) ia) (yag_mo (by decide) ka)) ja))
        · exfalso
          have e := ysk_u hq' hs1
          subst e
          exact m (w15a.mpr z)
    · unfold w_X6_readNotice_53
      rw [YC_gf, qst1_at, show (0 : Int32) = Int32.ofNat 0 from rfl]
      refine i_copy (by omega) (fun s' hb hN hL hS hF hR hA6 => ⟨v4, fun s72 e72 => ⟨.inr rfl, ?_⟩⟩)
      rw [YC_go, jn, YC_oR, show zgP (zuA s 66 o j (ynm B q (p - q))) 13 0 10 = o from ho] at e72
      subst e72
      refine ok _ w1 _ S q1 p1 (YBF_R (YBF_tr bf1 (hb o))) (YT_2 (.inl rfl) hY1) (yag_st (by decide) (yag_mo (by decide) ha1)) (by omega) (hF0 s' hF _) ?_
      intro t g A4 A6 A9 A10 K k hM hk hI kk
      refine days t g A4 A6 A9 A10 K k hM (fun g1 i8 ia => ?_)
      obtain ⟨hB, g7, g9, g12, g21, p', g8, hs'⟩ := id hM
      refine im_eat hB ((ia 7 (by decide)).trans g7) i8 ((ia 9 (by decide)).trans g9) (by have := hY1.2.2.2.1; omega) (by omega) (fun g2 q' hq' m k8 ka => ?_) (fun g2 q' hq' m k8 ka => ⟨fun _ => ?_, fun y => absurd rfl y⟩)
      · exfalso
        have e := ysk_u hq' hs1
        subst e
        exact z (w15a.mp m)
      · have e := ysk_u hq' hs1
        subst e
        have all : yag [8, 21] g g2 := yag_tr (yag_mo (by decide) ia) (yag_mo (by decide) ka)
        refine kk g2 _ _ _ _ k (YMS_e hM k8 all (by decide) (by decide) (by decide) ((ka 21 (by decide)).trans ((ia 21 (by decide)).trans g21)) (YT_sk hY1)) (by omega) all ?_
        exact keep s' 0 (-1) A4 A6 A9 A10 A9 A10 k k (hb o) hN hL hF hR (fun i j' => hA6 i j') hI (Nat.le_refl _) (fun i hi => ⟨rfl, rfl⟩) (.inl ⟨rfl, rfl⟩) (.inl rfl)
  · refine er s w f1 S 1 (Int32.ofNat q) YBF_rf e11 e12 (by decide) (yag_mo (by decide) ha1) ?_
    intro t g A4 A6 A9 A10 K k hM hk kk
    obtain ⟨hB, g7, g9, g12, g21, p', g8, hs'⟩ := id hM
    unfold MBn
    refine im_number hB g7 g8 g9 (by have := hs'.1; have := hs'.2.1; omega) (by decide) (fun g2 q' hq' hd' hf ja => ⟨v15, fun s53 e53 => ⟨v4, fun s60 e60 => ?_⟩⟩) (fun g2 q' e' v' hq' x1 x2 x3 x4 x5 hf ja => ?_) (fun g2 q' e' hq' x1 x2 x3 x4 x5 x6 j8 ja => ?_)
    · have e := ysk_u hq' hs'
      subst e
      rw [jn, YM_4] at e53
      subst e53
      rw [jn, YM_6] at e60
      subst e60
      exact im_eatF hf ⟨fun _ => kk _ _ _ _ _ hf (yag_mo (by decide) ja), fun y => absurd rfl y⟩
    · have e := ysk_u hq' hs'
      subst e
      exact absurd (x3 q' (Nat.le_refl _) x1) n1
    · have e := ysk_u hq' hs'
      subst e
      exact absurd (x3 q' (Nat.le_refl _) x1) n1
  · refine er s w f1 S 2 (Int32.ofNat q) YBF_rf e11 e12 (by decide) (yag_mo (by decide) ha1) ?_
    intro t g A4 A6 A9 A10 K k hM hk kk
    obtain ⟨hB, g7, g9, g12, g21, p', g8, hs'⟩ := id hM
    unfold MBn
    refine im_number hB g7 g8 g9 (by have := hs'.1; have := hs'.2.1; omega) (by decide) (fun g2 q' hq' hd' hf ja => ?_) (fun g2 q' e' v' hq' x1 x2 x3 x4 x5 hf ja => ⟨v15, fun s53 e53 => ⟨v4, fun s60 e60 => ?_⟩⟩) (fun g2 q' e' hq' x1 x2 x3 x4 x5 x6 j8 ja => ?_)
    · have e := ysk_u hq' hs'
      subst e
      exact absurd n1 hd'
    · have e := ysk_u hq' hs'
      subst e
      rw [jn, YM_4] at e53
      subst e53
      rw [jn, YM_6] at e60
      subst e60
      exact im_eatF hf ⟨fun _ => kk _ _ _ _ _ hf (yag_mo (by decide) ja), fun y => absurd rfl y⟩
    · have e := ysk_u hq' hs'
      subst e
      have e := ydg_u x1 x3 x4 n2 n3 n4
      subst e
      exact absurd ⟨x5, x6⟩ n5

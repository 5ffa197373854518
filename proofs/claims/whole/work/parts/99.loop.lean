/-! the clauses one after another -/
def YLO (B : Nat → Int32) (L o : Nat) (s s' : zTs) (q c c' : Nat) : Prop := ∀ (t : zTs) (g A4 A6 A9 A10 : Nat → Int32) (K : Int32 → zTs → Prop) (k u : Nat), YMS B L t g q k → g 8 = Int32.ofNat q → k + L ≤ 799 + q → zfu ≤ u + c → YRI s o A4 A6 A9 A10 k → (∀ g' A4' A6' A9' A10' k', g' 21 = Int32.ofNat k' → k' ≤ 799 → g' 9 = 0 → yag [8, 21] g g' → YRI s' o A4' A6' A9' A10' k' → w_X12_rule_128 K (YM t g' A4' A6' A9' A10') (Int32.ofNat c')) → w_X12_rule_67 K u (YM t g A4 A6 A9 A10) (Int32.ofNat c)
def YLE (B : Nat → Int32) (L o : Nat) (s : zTs) (q c : Nat) (kd pl : Int32) : Prop := ∀ (t : zTs) (g A4 A6 A9 A10 : Nat → Int32) (K : Int32 → zTs → Prop) (k u : Nat), YMS B L t g q k → g 8 = Int32.ofNat q → k + L ≤ 799 + q → zfu ≤ u + c → YRI s o A4 A6 A9 A10 k → (∀ g' A4' A6' A9' A10' c', YF L kd pl g' → yag [8, 9, 10, 12, 21] g g' → w_X12_rule_128 K (YM t g' A4' A6' A9' A10') c') → w_X12_rule_67 K u (YM t g A4 A6 A9 A10) (Int32.ofNat c)
theorem y_loop {B : Nat → Int32} {L o : Nat} (h0 : ∀ j, L ≤ j → B j = 0) {P : Option Nat → zTs → Prop} : ∀ (fu c : Nat) (s : zTs) (w q p : Nat) (f S : Nat → Int32), c + fu = 22 → c ≤ 20 → c ≤ q → yTB (zgA s 43 0) B L → YT B L w f q p → zgP s 13 0 10 = o → zgF s 24 o 0 = Int32.ofNat c →
    (∀ s' w' f' S' c', c' ≤ 20 → zgF s' 24 o 0 = Int32.ofNat c' → YBF o s s' → yag [2, 4, 5, 7, 8, 9] f f' → YLO B L o s s' q c c' → P (some o) (YC s' w' f' S')) →
    (∀ s' w' f' S' kd pl, YBF o s s' → f' 11 = kd → f' 12 = pl → 0 < kd → yag [2, 4, 5, 7, 8, 9, 11, 12] f f' → YLE B L o s q c kd pl → P none (YC s' w' f' S')) →
    w_X6_readRule_47 P fu (YC s w f S) 1 (Int32.ofNat c) := by
  intro fu
  induction fu with
  | zero => intro c s w q p f S h1 h2; omega
  | succ fu ih =>
    intro c s w q p f S hcf c20 cq hT hY ho hF0 ok er
    have l4 := hT.1
    have qL := hY.2.2.2.1
    have cN : Int32.ofNat c = 20 ↔ c = 20 := by
      refine ⟨fun z => ?_, fun z => by rw [z]; rfl⟩
      have := congrArg Int32.toNatClampNeg z
      rwa [q_on (by omega), show (20 : Int32).toNatClampNeg = 20 from rfl] at this
    -- the loop of the model, a fault told
    have told : ∀ (t : zTs) (g A4 A6 A9 A10 : Nat → Int32) (K : Int32 → zTs → Prop) (kd pl x : Int32) (u : Nat), YF L kd pl g → w_X12_rule_128 K (YM t g A4 A6 A9 A10) x → w_X12_rule_67 K (u + 1) (YM t g A4 A6 A9 A10) x := by
      intro t g A4 A6 A9 A10 K kd pl x u hf h
      rw [w_X12_rule_67]
      refine ⟨fun z => ?_, fun _ => h⟩
      rw [YM_gf, hf.2.1] at z
      have := hf.2.2.2.1
      exfalso; lia
    have stop : q = L → w_X6_readRule_81 P (YC s w f S) 1 := by
      intro e
      refine ⟨fun z => absurd z (by decide), fun _ => ?_⟩
      rw [YC_go, ho]
      refine ok s w f S c c20 hF0 YBF_rf yag_rf ?_
      intro t g A4 A6 A9 A10 K k u hM g8 hk hu hI kk
      obtain ⟨u', rfl⟩ : ∃ u', u = u' + 1 := ⟨u - 1, by have : zfu = 100000 := rfl; omega⟩
      obtain ⟨hB, g7, g9, g12, g21, -⟩ := id hM
      rw [w_X12_rule_67, YM_gf, YM_gf, YM_gf, g9, g7, g8]
      exact ⟨fun _ => ⟨fun _ => kk g _ _ _ _ k g21 (by omega) g9 yag_rf hI, fun z => by exfalso; rw [q_nle (by omega) (by omega)] at z; omega⟩, fun z => absurd rfl z⟩
    rw [w_X6_readRule_47]
    refine ⟨fun z => ?_, fun _ => ⟨fun z => absurd z (by decide), fun _ => ⟨fun z => ?_, fun z => ?_⟩⟩⟩
    · rw [YC_gf, hY.1, q_nle (by omega) (by omega)] at z
      exact stop (by omega)
    · rw [YC_gf, YC_gf, hY.1, hY.2.1, q_nle (by omega) (by omega)] at z
      exact stop (by omega)
    · rw [YC_gf, YC_gf, hY.1, hY.2.1, q_nle (by omega) (by omega)] at z
      obtain ⟨fu', rfl⟩ : ∃ fu', fu = fu' + 1 := ⟨fu - 1, by omega⟩
      -- the model's loop, at a clause
      have enter : ∀ (t : zTs) (g A4 A6 A9 A10 : Nat → Int32) (K : Int32 → zTs → Prop) (k u : Nat), YMS B L t g q k → g 8 = Int32.ofNat q → (c < 20 → w_X12_clause (YM t g A4 A6 A9 A10) (fun (s115 : zTs) => (∀ x118 : Int32, x118 = Int32.ofNat c + 1 → (w_X12_blanks s115 (fun (s122 : zTs) => ((w_X12_rule_67 K u) s122 x118)))))) → (c = 20 → w_X12_wordHere (YM t g A4 A6 A9 A10) (fun (r93 : Int32) (s93 : zTs) => ((r93 < 0 → w_X12_rule_104 K (w_X12_rule_67 K u) s93 (Int32.ofNat c) 1) ∧ (¬ r93 < 0 → w_X12_rule_104 K (w_X12_rule_67 K u) s93 (Int32.ofNat c) 3)))) → w_X12_rule_67 K (u + 1) (YM t g A4 A6 A9 A10) (Int32.ofNat c) := by
        intro t g A4 A6 A9 A10 K k u hM g8 a b
        obtain ⟨hB, g7, g9, g12, g21, -⟩ := id hM
        rw [w_X12_rule_67, YM_gf, YM_gf, YM_gf, g9, g7, g8]
        refine ⟨fun _ => ⟨fun y => ?_, fun _ => ⟨fun y => b (cN.mp y), fun y => a ?_⟩⟩, fun y => absurd rfl y⟩
        · exfalso
          rw [q_nle (by omega) (by omega)] at y
          omega
        · rw [cN] at y
          omega
      -- what the class does after a fault
      have quit : ∀ st : zTs, P none st → ∀ x75 : Int32, x75 = Int32.ofNat c + 1 → ((w_X6_readRule_47 P (fu' + 1)) st 0 x75) := by
        intro st h x hx
        rw [w_X6_readRule_47]
        have d : w_X6_readRule_81 P st 0 := ⟨fun _ => h, fun y => absurd rfl y⟩
        exact ⟨fun _ => d, fun _ => ⟨fun _ => d, fun y => absurd rfl y⟩⟩
      refine y_clause h0 hT hY ho hF0 c20 ?_ ?_ ?_ ?_
      · intro hw f' e11 e12 ha
        refine quit _ (er s w f' S 1 (Int32.ofNat q) YBF_rf e11 e12 (by decide) (yag_mo (by decide) ha) ?_)
        intro t g A4 A6 A9 A10 K k u hM g8 hk hu hI kk
        obtain ⟨u', rfl⟩ : ∃ u', u = u' + 1 + 1 := ⟨u - 2, by have : zfu = 100000 := rfl; omega⟩
        obtain ⟨hB, g7, g9, g12, g21, -⟩ := id hM
        refine enter t g A4 A6 A9 A10 K k _ hM g8 (fun _ => im_wordHere h0 hY hM (fun g' r hr hwr k8 ka => by exfalso; omega) (fun g' _ k8 ka => ⟨fun y => absurd y (by decide), fun _ => ?_⟩)) (fun _ => im_wordHere h0 hY hM (fun g' r hr hwr k8 ka => by exfalso; omega) (fun g' _ k8 ka => ⟨fun _ => ?_, fun y => absurd (by decide) y⟩))
        · rw [YM_gf, k8]
          refine im_wrong ((ka 7 (by decide)).trans g7) k8 (by omega) ((ka 9 (by decide)).trans g9) (by decide) (fun g2 hf ja x hx => im_blanksF hB hf (fun g3 hf3 la => told _ _ _ _ _ _ _ _ _ _ _ hf3 (kk _ _ _ _ _ _ hf3 (yag_tr (yag_tr (yag_mo (by decide) ka) (yag_mo (by decide) ja)) (yag_mo (by decide) la)))))
        · unfold w_X12_rule_104
          rw [YM_gf, k8]
          exact im_wrong ((ka 7 (by decide)).trans g7) k8 (by omega) ((ka 9 (by decide)).trans g9) (by decide) (fun g2 hf ja => told _ _ _ _ _ _ _ _ _ _ _ hf (kk _ _ _ _ _ _ hf (yag_tr (yag_mo (by decide) ka) (yag_mo (by decide) ja))))
      · intro r hr hwr hc f' e11 e12 ha
        refine quit _ (er s w f' S 3 (Int32.ofNat q) YBF_rf e11 e12 (by decide) (yag_mo (by decide) ha) ?_)
        intro t g A4 A6 A9 A10 K k u hM g8 hk hu hI kk
        obtain ⟨u', rfl⟩ : ∃ u', u = u' + 1 + 1 := ⟨u - 2, by have : zfu = 100000 := rfl; omega⟩
        obtain ⟨hB, g7, g9, g12, g21, -⟩ := id hM
        refine enter t g A4 A6 A9 A10 K k _ hM g8 (fun y => by exfalso; omega) (fun _ => im_wordHere h0 hY hM (fun g' r' hr' hwr' k8 ka => ⟨fun y => absurd y (q_n0 (by omega)), fun _ => ?_⟩) (fun g' y k8 ka => by exfalso; omega))
        unfold w_X12_rule_104
        rw [YM_gf, k8]
        exact im_wrong ((ka 7 (by decide)).trans g7) k8 (by omega) ((ka 9 (by decide)).trans g9) (by decide) (fun g2 hf ja => told _ _ _ _ _ _ _ _ _ _ _ hf (kk _ _ _ _ _ _ hf (yag_tr (yag_mo (by decide) ka) (yag_mo (by decide) ja))))
      · intro s' w' f' S' q' p' hc hb hY' ha hq' hF' mO x hx
        subst hx
        rw [q_os (by omega)]
        have hT' : yTB (zgA s' 43 0) B L := by
          rw [show zgA s' 43 0 = zgA s 43 0 from funext fun i => hb.2.2.2.2.2.1 43 0 i (fun z => absurd z.1 (by decide)) (fun z => absurd z.1 (by decide))]
          exact hT
        have sq' := YT_sk hY'
        have step : ∀ (t : zTs) (g A4 A6 A9 A10 : Nat → Int32) (K : Int32 → zTs → Prop) (k u : Nat), YMS B L t g q k → g 8 = Int32.ofNat q → k + L ≤ 799 + q → zfu ≤ u + c → YRI s o A4 A6 A9 A10 k → (∀ g' A4' A6' A9' A10' k' u', YMS B L t g' q' k' → g' 8 = Int32.ofNat q' → k' + L ≤ 799 + q' → zfu ≤ u' + (c + 1) → yag [8, 21] g g' → YRI s' o A4' A6' A9' A10' k' → w_X12_rule_67 K u' (YM t g' A4' A6' A9' A10') (Int32.ofNat (c + 1))) → w_X12_rule_67 K u (YM t g A4 A6 A9 A10) (Int32.ofNat c) := by
          intro t g A4 A6 A9 A10 K k u hM g8 hk hu hI kk
          obtain ⟨u', rfl⟩ : ∃ u', u = u' + 1 := ⟨u - 1, by have : zfu = 100000 := rfl; omega⟩
          refine enter t g A4 A6 A9 A10 K k _ hM g8 (fun _ => mO t g A4 A6 A9 A10 _ k hM hk hI (fun g2 B4 B6 B9 B10 k2 hM2 hk2 ja hI2 x hx => ?_)) (fun y => by exfalso; omega)
          subst hx
          rw [q_os (by omega)]
          obtain ⟨hB, j7, j9, j12, j21, e2, j8, hse⟩ := id hM2
          refine im_blanks hB j7 j8 (by have := hse.1; have := hse.2.1; omega) (fun g3 q3 hq3 k8 ka => ?_)
          have e := ysk_u hq3 hse
          subst e
          exact kk g3 _ _ _ _ k2 u' (YMS_e hM2 k8 ka (by decide) (by decide) (by decide) ((ka 21 (by decide)).trans j21) sq') k8 hk2 (by omega) (yag_tr ja (yag_mo (by decide) ka)) hI2
        refine ih (c + 1) s' w' q' p' f' S' (by omega) (by omega) (by omega) hT' hY' ((congrFun (congrFun (congrFun hb.2.2.2.1 13) 0) 10).trans ho) hF' ?_ ?_
        · intro s2 w2 f2 S2 c2 hc2 hF2 hb2 ha2 mL
          refine ok s2 w2 f2 S2 c2 hc2 hF2 (YBF_tr hb hb2) (yag_tr ha ha2) ?_
          intro t g A4 A6 A9 A10 K k u hM g8 hk hu hI kk
          refine step t g A4 A6 A9 A10 K k u hM g8 hk hu hI (fun g' A4' A6' A9' A10' k' u' hM' h8' hk' hu' ag hI' => mL t g' A4' A6' A9' A10' K k' u' hM' h8' hk' hu' hI' (fun g2 C4 C6 C9 C10 k2 h21 h799 h9 ag2 hI2 => kk g2 C4 C6 C9 C10 k2 h21 h799 h9 (yag_tr ag ag2) hI2))
        · intro s2 w2 f2 S2 kd pl hb2 e11 e12 hk2 ha2 mL
          refine er s2 w2 f2 S2 kd pl (YBF_tr hb hb2) e11 e12 hk2 (yag_tr (yag_mo (by decide) ha) ha2) ?_
          intro t g A4 A6 A9 A10 K k u hM g8 hk hu hI kk
          refine step t g A4 A6 A9 A10 K k u hM g8 hk hu hI (fun g' A4' A6' A9' A10' k' u' hM' h8' hk' hu' ag hI' => mL t g' A4' A6' A9' A10' K k' u' hM' h8' hk' hu' hI' (fun g2 C4 C6 C9 C10 c2 hf ag2 => kk g2 C4 C6 C9 C10 c2 hf (yag_tr (yag_mo (by decide) ag) ag2)))
      · intro s' w' f' S' kd pl hc hb e11 e12 hk ha mX
        refine quit _ (er s' w' f' S' kd pl hb e11 e12 hk ha ?_)
        intro t g A4 A6 A9 A10 K k u hM g8 hk' hu hI kk
        obtain ⟨u', rfl⟩ : ∃ u', u = u' + 1 + 1 := ⟨u - 2, by have : zfu = 100000 := rfl; omega⟩
        refine enter t g A4 A6 A9 A10 K k _ hM g8 (fun _ => mX t g A4 A6 A9 A10 _ k hM hk' hI (fun g2 B4 B6 B9 B10 hf ja x hx => im_blanksF hM.1 hf (fun g3 hf3 la => told _ _ _ _ _ _ _ _ _ _ _ hf3 (kk _ _ _ _ _ _ hf3 (yag_tr ja (yag_mo (by decide) la)))))) (fun y => by exfalso; omega)

/-! one piece of a condition, class and model -/
theorem im_meas {P : Nat → Prop} {t : zTs} {j : Nat} (hj : j < 3) (h : P (21 + j)) : w_X12_measureOf t (Int32.ofNat j) P := by
  match j, hj with
  | 0, _ => exact ⟨fun _ => h, fun z => absurd rfl z⟩
  | 1, _ => exact ⟨fun z => absurd z (by decide), fun _ => ⟨fun _ => h, fun z => absurd rfl z⟩⟩
  | 2, _ => exact ⟨fun z => absurd z (by decide), fun _ => ⟨fun z => absurd z (by decide), fun _ => h⟩⟩
theorem y_ofn {x : Int32} (h0 : 0 ≤ x) (h1 : x ≤ 9999) : ∃ v : Nat, v ≤ 9999 ∧ x = Int32.ofNat v := by
  refine ⟨x.toNatClampNeg, ?_, q_of_toInt (q_t0 h0)⟩
  have := q_t0 h0
  rw [Int32.le_iff_toInt_le, show (9999 : Int32).toInt = 9999 from rfl] at h1
  omega
theorem y_leafn {m c v : Nat} (hm : m < 3) (hc : c < 2) (hv : v ≤ 9999) : (2 * Int32.ofNat m + Int32.ofNat c) * 10000 + Int32.ofNat v = Int32.ofNat ((2 * m + c) * 10000 + v) ∧ 3 * Int32.ofNat v + Int32.ofNat m = Int32.ofNat (3 * v + m) := by
  have ev := q_of (n := v) (by omega)
  have e2 : ∀ x y : Int32, x.toInt = y.toInt → x = y := fun x y h => Int32.toInt_inj.mp h
  refine ⟨?_, ?_⟩
  · have k : ∀ m c : Nat, m < 3 → c < 2 → (2 * Int32.ofNat m + Int32.ofNat c) * 10000 = Int32.ofNat ((2 * m + c) * 10000) := by
      have k' : ∀ m : Fin 3, ∀ c : Fin 2, (2 * Int32.ofNat m.1 + Int32.ofNat c.1) * 10000 = Int32.ofNat ((2 * m.1 + c.1) * 10000) := by decide
      exact fun m c hm hc => k' ⟨m, hm⟩ ⟨c, hc⟩
    rw [k m c hm hc, q_nadd (by omega)]
  · have e3 : 3 * Int32.ofNat v = Int32.ofNat (3 * v) := by
      have := (q_c21e (i := 0) (j := 0) (by omega) (by omega))
      apply e2
      rw [q_of (by omega)]
      have h3 : (Int32.ofNat v).toInt = (v : Int) := ev
      simp only [q_ti] at h3 ⊢
      lia
    rw [e3, q_nadd (by omega)]
theorem y_one {B : Nat → Int32} {L d : Nat} {one any co : zTs → Int32 → (Int32 → zTs → Prop) → Prop} {mone mors mo : zTs → (zTs → Prop) → Prop} {C15 C29 C137 : (Int32 → zTs → Prop) → zTs → Int32 → Int32 → Prop} {C159 C188 : (Int32 → zTs → Prop) → zTs → Int32 → Int32 → Prop} {M91 : (zTs → Prop) → Nat → zTs → Int32 → Int32 → Prop} {M119 : (zTs → Prop) → zTs → Int32 → Prop} {M158 : (zTs → Prop) → zTs → Int32 → Int32 → Prop} {M148 : (zTs → Prop) → zTs → Prop}
    (hd : d ≤ 8) (h0 : ∀ j, L ≤ j → B j = 0)
    (hco : ∀ st a1 P, (zgP st 13 0 6 < 24) ∧ ((((zgP st 13 0 6) : Nat) = 20 → C15 P st a1 1) ∧ (¬ ((zgP st 13 0 6) : Nat) = 20 → C15 P st a1 0)) → co st a1 P)
    (h15 : ∀ (P : Int32 → zTs → Prop) st a1 b0, (b0 = 0 → ((zgF st 13 0 8) = 40 → C29 P st a1 b0) ∧ (¬ (zgF st 13 0 8) = 40 → w_X6_measureOf st (zgP st 13 0 6) (fun (r104 : Int32) => ((r104 = (-1) → w_X6_fail st 1 (fun (r115 : Int32) (s115 : zTs) => ((r115 = 0 ∨ r115 = 1) ∧ (P r115 s115)))) ∧ (¬ r104 = (-1) → w_X6_advance st (fun (s120 : zTs) => (((zgF s120 13 0 8) = 62 → C137 P s120 r104 1) ∧ (¬ (zgF s120 13 0 8) = 62 → C137 P s120 r104 0)))))))) ∧ (¬ b0 = 0 → C29 P st a1 b0) → C15 P st a1 b0)
    (h29 : ∀ (P : Int32 → zTs → Prop) st a1 a2, (a1 < 8 → w_X6_advance st (fun (s42 : zTs) => ((a2 = 0 → any s42 (a1 + 1) (fun (r79 : Int32) (s79 : zTs) => ((r79 = 0 → P 0 s79) ∧ (¬ r79 = 0 → w_X6_takeSign s79 41 (fun (r88 : Int32) (s88 : zTs) => ((r88 = 0 → P 0 s88) ∧ (¬ r88 = 0 → P 1 s88))))))) ∧ (¬ a2 = 0 → one s42 (a1 + 1) (fun (r53 : Int32) (s53 : zTs) => ((r53 = 0 → P 0 s53) ∧ (¬ r53 = 0 → w_X6_addStep s53 (-1) (fun (r61 : Int32) (s61 : zTs) => ((r61 = 0 → P 0 s61) ∧ (¬ r61 = 0 → P 1 s61)))))))))) ∧ (¬ a1 < 8 → w_X6_fail st 3 (fun (r37 : Int32) (s37 : zTs) => ((r37 = 0 ∨ r37 = 1) ∧ (P r37 s37)))) → C29 P st a1 a2)
    (h137 : ∀ (P : Int32 → zTs → Prop) st a3 b0, (b0 = 0 → ((zgF st 13 0 8) = 60 → C159 P st a3 b0) ∧ (¬ (zgF st 13 0 8) = 60 → w_X6_fail st 1 (fun (r155 : Int32) (s155 : zTs) => ((r155 = 0 ∨ r155 = 1) ∧ (P r155 s155))))) ∧ (¬ b0 = 0 → C159 P st a3 b0) → C137 P st a3 b0)
    (h159 : ∀ (P : Int32 → zTs → Prop) st a3 a4, w_X6_advance st (fun (s160 : zTs) => (w_X6_takeNumber s160 0 9999 (fun (r168 : Int32) (s168 : zTs) => ((r168 = 0 → P 0 s168) ∧ (¬ r168 = 0 → (a4 = 0 → C188 P s168 0 (2 * a3)) ∧ (¬ a4 = 0 → C188 P s168 1 (2 * a3))))))) → C159 P st a3 a4)
    (h188 : ∀ (P : Int32 → zTs → Prop) st b0 b1, w_X6_addStep st (((b1 + b0) * 10000) + (zgF st 13 0 9)) (fun (r198 : Int32) (s198 : zTs) => ((r198 = 0 → P 0 s198) ∧ (¬ r198 = 0 → P 1 s198))) → C188 P st b0 b1)
    (hmo : ∀ st P, ((zgF st 100 0 9) ≤ 0 → w_X12_blanks st (fun (s9 : zTs) => (w_X12_isWord s9 20 (fun (r16 : Int32) (s16 : zTs) => ((r16 = 0 → w_X12_byteAt s16 (zgF s16 100 0 8) (fun (r53 : Int32) => ((r53 = 40 → w_X12_opens s16 1 (fun (s63 : zTs) => (mors s63 (fun (s67 : zTs) => (w_X12_sign s67 41 (fun (s73 : zTs) => (∀ s83 : zTs, s83 = zuF s73 100 0 12 ((zgF s73 100 0 12) - 1) → (P s83)))))))) ∧ (¬ r53 = 40 → M91 P zfu s16 (-1) 0)))) ∧ (¬ r16 = 0 → w_X12_opens s16 3 (fun (s24 : zTs) => (mone s24 (fun (s28 : zTs) => (∀ s38 : zTs, s38 = zuF s28 100 0 12 ((zgF s28 100 0 12) - 1) → (w_X12_emits s38 1 0 (fun (s44 : zTs) => (P s44))))))))))))) ∧ (¬ (zgF st 100 0 9) ≤ 0 → P st) → mo st P)
    (h91 : ∀ (P : zTs → Prop) n9 st a1 a2, (3 ≤ a2 → M119 P st a1) ∧ (¬ 3 ≤ a2 → (0 ≤ a1 → M119 P st a1) ∧ (¬ 0 ≤ a1 → w_X12_measureOf st a2 (fun (r102 : Nat) => (w_X12_eat st r102 (fun (r105 : Int32) (s105 : zTs) => ((r105 = 0 → ∀ x113 : Int32, x113 = a2 + 1 → M91 P n9 s105 a1 x113) ∧ (¬ r105 = 0 → ∀ x113 : Int32, x113 = a2 + 1 → M91 P n9 s105 a2 x113))))))) → M91 P (n9 + 1) st a1 a2)
    (h119 : ∀ (P : zTs → Prop) st a1, w_X12_blanks st (fun (s120 : zTs) => (w_X12_byteAt s120 (zgF s120 100 0 8) (fun (r128 : Int32) => ((a1 < 0 → M148 P s120) ∧ (¬ a1 < 0 → (r128 = 60 → M158 P s120 a1 r128) ∧ (¬ r128 = 60 → (r128 = 62 → M158 P s120 a1 r128) ∧ (¬ r128 = 62 → M148 P s120))))))) → M119 P st a1)
    (h158 : ∀ (P : zTs → Prop) st a1 a2, (∀ s165 : zTs, s165 = zuF st 100 0 8 ((zgF st 100 0 8) + 1) → (w_X12_number s165 0 9999 (fun (r173 : Int32) (s173 : zTs) => ((a2 = 60 → w_X12_emits s173 4 ((3 * r173) + a1) (fun (s194 : zTs) => (P s194))) ∧ (¬ a2 = 60 → w_X12_emits s173 5 ((3 * r173) + a1) (fun (s194 : zTs) => (P s194))))))) → M158 P st a1 a2)
    (h148 : ∀ (P : zTs → Prop) st, w_X12_wrong st 1 (zgF st 100 0 8) (fun (s154 : zTs) => (P s154)) → M148 P st)
    (d1 : YDR B L mone) (d2 : YDR B L mors) (s1 : d < 8 → YCS B L (d + 1) (17 - 2 * (d + 1)) one mone) (s2 : d < 8 → YCS B L (d + 1) (19 - 2 * (d + 1)) any mors) : YCS B L d (17 - 2 * d) co mo ∧ YDR B L mo := by
  constructor
  case right =>
    intro t g A4 A6 A9 A10 P kd pl hB hf k
    refine hmo _ _ ⟨fun z => ?_, fun _ => k g hf (yag_rf)⟩
    rw [YM_gf, hf.2.1] at z
    have := hf.2.2.2.1
    exfalso; lia
  intro s w f S q p n P hT hY hn hnq ok er
  have l4 := hT.1
  have qL := hY.2.2.2.1
  have pL := hY.2.2.2.2.1
  have w4 := YT_w24 hY
  have sq := YT_sk hY
  obtain ⟨n1, n2⟩ := YT_w (v := 20) hY h0 (by omega) (by omega)
  -- the model's first look at the piece
  have look : ∀ (t : zTs) (g A4 A6 A9 A10 : Nat → Int32) (P : zTs → Prop) (p' : Nat), YB t B L → g 7 = Int32.ofNat L → g 8 = Int32.ofNat p' → g 9 = 0 → ysk B L p' q →
      (∀ g', g' 8 = Int32.ofNat q → yag [8] g g' → (w = 20 → w_X12_opens (YM t g' A4 A6 A9 A10) 3 (fun (s24 : zTs) => (mone s24 (fun (s28 : zTs) => (∀ s38 : zTs, s38 = zuF s28 100 0 12 ((zgF s28 100 0 12) - 1) → (w_X12_emits s38 1 0 (fun (s44 : zTs) => (P s44)))))))) ∧ (¬ w = 20 → B q = 40 → w_X12_opens (YM t g' A4 A6 A9 A10) 1 (fun (s63 : zTs) => (mors s63 (fun (s67 : zTs) => (w_X12_sign s67 41 (fun (s73 : zTs) => (∀ s83 : zTs, s83 = zuF s73 100 0 12 ((zgF s73 100 0 12) - 1) → (P s83)))))))) ∧ (¬ w = 20 → ¬ B q = 40 → M91 P zfu (YM t g' A4 A6 A9 A10) (-1) 0)) → mo (YM t g A4 A6 A9 A10) P := by
    intro t g A4 A6 A9 A10 P p' hB g7 g8 g9 hs k
    refine hmo _ _ ⟨fun _ => im_blanks hB g7 g8 (by have := hs.1; omega) (fun g1 q1 hs1 k8 ka => ?_), fun z => absurd (by rw [YM_gf, g9]; decide) z⟩
    have e1 := ysk_u hs1 hs
    subst e1
    refine im_isWord hB ((ka 7 (by decide)).trans g7) k8 qL (by omega) (fun g2 q2 hs2 j8 ja => ?_)
    have e2 := ysk_u hs2 sq
    subst e2
    obtain ⟨k1, k2, k3⟩ := k g2 j8 (yag_tr ka ja)
    refine ⟨fun m => ⟨fun z => absurd z (by decide), fun _ => k1 (n1.mp m)⟩, fun m => ⟨fun _ => ?_, fun z => absurd rfl z⟩⟩
    rw [YM_gf, j8]
    have nw : ¬ w = 20 := fun e => m (n1.mpr e)
    exact im_byteAt hB ((ja 7 (by decide)).trans ((ka 7 (by decide)).trans g7)) (by omega) ⟨fun z => k2 nw z, fun z => k3 nw z⟩
  have deep : d = 8 → ∀ (c : Nat), c = 1 ∨ c = 3 → ∀ (t : zTs) (g A4 A6 A9 A10 : Nat → Int32) (K : zTs → Prop), g 7 = Int32.ofNat L → g 8 = Int32.ofNat q → g 9 = 0 → g 12 = Int32.ofNat d → (∀ g', YF L 3 (Int32.ofNat q) g' → yag [8, 9, 10, 12] g g' → K (YM t g' A4 A6 A9 A10)) → w_X12_opens (YM t g A4 A6 A9 A10) (Int32.ofNat c) K := by
    intro e c hc t g A4 A6 A9 A10 K g7 g8 g9 g12 k
    exact im_opensF g7 g8 g9 (by rw [g12, e]) (by omega) k
  have tooDeep : ¬ d < 8 → (∀ g' : Nat → Int32, g' 11 = 3 → g' 12 = Int32.ofNat q → yag [11, 12] f g' → YER B L mo q d 3 (Int32.ofNat q) → P 0 (YC s w g' S)) := by
    intro _ g' e1 e2 e3 e4
    exact er w g' S n 3 (Int32.ofNat q) ((e3 2 (by decide)).trans hn) (by omega) e1 e2 (by decide) (yag_mo (by decide) e3) e4
  have lt8 : Int32.ofNat d < 8 ↔ d < 8 := by
    rw [← Int32.not_le, show (8 : Int32) = Int32.ofNat 8 from rfl, q_nle (by omega) (by omega)]
    omega
  have s12 : ∀ x : Nat, x < 8 → Int32.ofNat (x + 1) - 1 = Int32.ofNat x := by
    have : ∀ x : Fin 8, Int32.ofNat (x.1 + 1) - 1 = Int32.ofNat x.1 := by decide
    exact fun x hx => this ⟨x, hx⟩
  have m91 : ∀ (u j : Nat) (t : zTs) (g A4 A6 A9 A10 : Nat → Int32) (P : zTs → Prop), YB t B L → g 7 = Int32.ofNat L → g 8 = Int32.ofNat q → g 9 = 0 → j ≤ 3 → (∀ i, i < j → ¬ w = 21 + i) → 5 - j ≤ u → (∀ k g', k < 3 → w = 21 + k → g' 8 = Int32.ofNat p → yag [8] g g' → M119 P (YM t g' A4 A6 A9 A10) (Int32.ofNat k)) → (∀ g', (∀ i, i < 3 → ¬ w = 21 + i) → g' 8 = Int32.ofNat q → yag [8] g g' → M119 P (YM t g' A4 A6 A9 A10) (-1)) → M91 P u (YM t g A4 A6 A9 A10) (-1) (Int32.ofNat j) := by
    intro u
    induction u with
    | zero => intro j t g A4 A6 A9 A10 P hB g7 g8 g9 h0 h1 h2; omega
    | succ u ih =>
      intro j t g A4 A6 A9 A10 P hB g7 g8 g9 hj hi hu yes no
      refine h91 _ _ _ _ _ ⟨fun c => ?_, fun c => ⟨fun c2 => absurd c2 (by decide), fun _ => ?_⟩⟩
      · rw [show (3 : Int32) = Int32.ofNat 3 from rfl, q_nle (by omega) (by omega)] at c
        exact no g (fun i h => hi i (by omega)) g8 yag_rf
      · rw [show (3 : Int32) = Int32.ofNat 3 from rfl, q_nle (by omega) (by omega)] at c
        obtain ⟨x1, x2⟩ := YT_w (v := 21 + j) hY h0 (by omega) (by omega)
        refine im_meas (by omega) (im_eat hB g7 g8 g9 qL (by omega) (fun g1 q1 hs1 m k8 ka => ⟨fun y => absurd y (by decide), fun _ x hx => ?_⟩) (fun g1 q1 hs1 m k8 ka => ⟨fun _ x hx => ?_, fun y => absurd rfl y⟩))
        · have e := ysk_u hs1 sq
          subst e
          have ww := x1.mp m
          rw [← x2 ww] at k8
          have Y := yes j g1 (by omega) ww k8 ka
          obtain ⟨u', rfl⟩ : ∃ u', u = u' + 1 := ⟨u - 1, by omega⟩
          exact h91 _ _ _ _ _ ⟨fun _ => Y, fun _ => ⟨fun _ => Y, fun y => absurd (Int32.not_lt.mp (q_n0 (by omega))) y⟩⟩
        · have e := ysk_u hs1 sq
          subst e
          subst hx
          rw [q_os (by omega)]
          refine ih (j + 1) t g1 A4 A6 A9 A10 P hB ((ka 7 (by decide)).trans g7) k8 ((ka 9 (by decide)).trans g9) (by omega) (fun i h => ?_) (by omega) (fun k g' hk hw h8 ha => yes k g' hk hw h8 (yag_tr ka ha)) (fun g' hw h8 ha => no g' hw h8 (yag_tr ka ha))
          by_cases e : i = j
          · subst e; exact fun y => m (x1.mpr y)
          · exact hi i (by omega)
  have m119 : ∀ (m q2 : Nat) (t : zTs) (g A4 A6 A9 A10 : Nat → Int32) (P : zTs → Prop), m < 3 → YB t B L → g 7 = Int32.ofNat L → g 8 = Int32.ofNat p → g 9 = 0 → ysk B L p q2 → ((B q2 = 60 ∨ B q2 = 62) → ∀ g', g' 8 = Int32.ofNat (q2 + 1) → yag [8] g g' → w_X12_number (YM t g' A4 A6 A9 A10) 0 9999 (fun (r173 : Int32) (s173 : zTs) => ((B q2 = 60 → w_X12_emits s173 4 ((3 * r173) + Int32.ofNat m) (fun (s194 : zTs) => (P s194))) ∧ (¬ B q2 = 60 → w_X12_emits s173 5 ((3 * r173) + Int32.ofNat m) (fun (s194 : zTs) => (P s194)))))) → (¬ (B q2 = 60 ∨ B q2 = 62) → ∀ g', YF L 1 (Int32.ofNat q2) g' → yag [8, 9, 10] g g' → P (YM t g' A4 A6 A9 A10)) → M119 P (YM t g A4 A6 A9 A10) (Int32.ofNat m) := by
    intro m q2 t g A4 A6 A9 A10 P hm hB g7 g8 g9 hs yes no
    refine h119 _ _ _ (im_blanks hB g7 g8 pL (fun g1 q1 hs1 k8 ka => ?_))
    have e := ysk_u hs1 hs
    subst e
    have q1L := hs1.2.1
    rw [YM_gf, k8]
    have go : (B q1 = 60 ∨ B q1 = 62) → M158 P (YM t g1 A4 A6 A9 A10) (Int32.ofNat m) (B q1) := by
      intro hb
      refine h158 _ _ _ _ (fun x hx => ?_)
      rw [YM_gf, k8, YM_f, q_os (by omega)] at hx
      subst hx
      exact yes hb _ qst1_at (yag_st (by decide) ka)
    have stop : ¬ (B q1 = 60 ∨ B q1 = 62) → M148 P (YM t g1 A4 A6 A9 A10) := by
      intro hb
      refine h148 _ _ ?_
      rw [YM_gf, k8]
      exact im_wrong ((ka 7 (by decide)).trans g7) k8 (by omega) ((ka 9 (by decide)).trans g9) (by decide) (fun g2 hf ja => no hb g2 hf (yag_tr (yag_mo (by decide) ka) (yag_mo (by decide) ja)))
    exact im_byteAt hB ((ka 7 (by decide)).trans g7) (by omega) ⟨fun y => absurd y (q_n0 (by omega)), fun _ => ⟨fun y => go (.inl y), fun y => ⟨fun y2 => go (.inr y2), fun y2 => stop (fun c => c.elim y y2)⟩⟩⟩
  refine hco _ _ _ ?_
  rw [YC_gw]
  refine ⟨w4, fun z => h15 _ _ _ _ ⟨fun y => absurd y (by decide), fun _ => h29 _ _ _ _ ⟨fun dz => ?_, fun dz => i_fail ⟨.inl rfl, ?_⟩⟩⟩, fun z => ?_⟩
  · -- not
    have d8 := lt8.mp dz
    have pe := n2 z
    have z3 : zlen.getD 20 0 = 3 := rfl
    rw [z3] at pe
    refine i_adv hT hY.1 hY.2.2.1 pL (fun w2 f2 q2 p2 hs2 hY2 ha2 => ⟨fun y => absurd y (by decide), fun _ => ?_⟩)
    rw [q_os (by omega)]
    have q2p := hs2.1
    refine s1 d8 s w2 f2 S q2 p2 n _ hT hY2 ((ha2 2 (by decide)).trans hn) (by omega) ?_ ?_
    · intro w3 f3 S3 q3 p3 e3 l3 hY3 hs3 h32 ha3 hr3 hl3 hw3 ok3
      have q3L := hY3.2.2.2.1
      refine ⟨fun y => absurd y (by decide), fun _ => i_addStep h32 (by omega) ⟨fun y => absurd y (by decide), fun _ => ?_⟩⟩
      have len : (l3 ++ [((-1, 1, 0) : ySt)]).length = l3.length + 1 := by rw [List.length_append, List.length_singleton]
      refine ok w3 _ _ q3 p3 e3 (l3 ++ [(-1, 1, 0)]) ⟨(qst1_ne (by decide)).trans hY3.1, (qst1_ne (by decide)).trans hY3.2.1, (qst1_ne (by decide)).trans hY3.2.2.1, hY3.2.2.2.1, hY3.2.2.2.2.1, hY3.2.2.2.2.2.1, ?_⟩ hs3 (qst1_at.trans (by rw [len]; congr 1)) (yag_st (by decide) (yag_tr (yag_mo (by decide) ha2) ha3)) (yar_app rfl hr3 (yar_one rfl)) (by rw [len]; omega) (ywf_not (by omega) (ywf_mo (by omega) hw3)) ?_
      · have := hY3.2.2.2.2.2.2
        unfold yTok at this ⊢
        rw [qst1_ne (by decide), qst1_ne (by decide)]
        exact this
      · intro t g A4 A6 A9 A10 P' p' k hB g7 g8 g9 g12 g21 hs' hk kk
        refine look t g A4 A6 A9 A10 P' p' hB g7 g8 g9 hs' (fun g1 i8 ia => ⟨fun _ => ?_, fun y => absurd z y, fun y => absurd z y⟩)
        refine im_opens (a := 3) i8 ((ia 12 (by decide)).trans g12) (by omega) d8 ?_
        refine ok3 t _ A4 A6 A9 A10 _ p k hB ((qst1_ne (by decide)).trans ((qst1_ne (by decide)).trans ((ia 7 (by decide)).trans g7))) ((qst1_ne (by decide)).trans (qst1_at.trans (by rw [pe]))) ((qst1_ne (by decide)).trans ((qst1_ne (by decide)).trans ((ia 9 (by decide)).trans g9))) qst1_at ((qst1_ne (by decide)).trans ((qst1_ne (by decide)).trans ((ia 21 (by decide)).trans g21))) hs2 (by omega) (fun g2 B9 B10 j8 j21 ja r9 r10 x hx => ?_)
        have j12 : g2 12 = Int32.ofNat (d + 1) := (ja 12 (by decide)).trans qst1_at
        rw [YM_gf, j12, YM_f, s12 d d8] at hx
        subst hx
        have back : ∀ j, ¬ j ∈ [8, 21] → qst1 g2 12 (Int32.ofNat d) j = g j := by
          intro j hj
          by_cases e : j = 12
          · subst e; rw [qst1_at]; exact g12.symm
          · have h8j : ¬ j = 8 := fun e' => hj (by rw [e']; decide)
            rw [qst1_ne e, ja j hj, qst1_ne e, qst1_ne h8j]
            exact ia j (by simp only [List.mem_singleton]; exact h8j)
        refine im_emits (k := k + l3.length) ((back 9 (by decide)).trans g9) ((qst1_ne (by decide)).trans j21) (by omega) ?_
        refine kk _ _ _ ((qst1_ne (by decide)).trans ((qst1_ne (by decide)).trans j8)) (qst1_at.trans (by rw [len]; congr 1)) (yag_st (by decide) back) ?_ ?_
        · exact yar_app rfl r9 (yar_one rfl)
        · exact yar_app rfl r10 (yar_one rfl)
    · intro w3 f3 S3 m kd pl h32 hm h11 h12 hk ha3 er3
      refine ⟨fun _ => er w3 f3 S3 m kd pl h32 hm h11 h12 hk (yag_tr (yag_mo (by decide) ha2) ha3) ?_, fun y => absurd rfl y⟩
      intro t g A4 A6 A9 A10 P' p' k hB g7 g8 g9 g12 g21 hs' hk' kk
      refine look t g A4 A6 A9 A10 P' p' hB g7 g8 g9 hs' (fun g1 i8 ia => ⟨fun _ => ?_, fun y => absurd z y, fun y => absurd z y⟩)
      refine im_opens (a := 3) i8 ((ia 12 (by decide)).trans g12) (by omega) d8 ?_
      refine er3 t _ A4 A6 A9 A10 _ p k hB ((qst1_ne (by decide)).trans ((qst1_ne (by decide)).trans ((ia 7 (by decide)).trans g7))) ((qst1_ne (by decide)).trans (qst1_at.trans (by rw [pe]))) ((qst1_ne (by decide)).trans ((qst1_ne (by decide)).trans ((ia 9 (by decide)).trans g9))) qst1_at ((qst1_ne (by decide)).trans ((qst1_ne (by decide)).trans ((ia 21 (by decide)).trans g21))) hs2 (by omega) (fun g2 B9 B10 hf ja x hx => ?_)
      rw [YM_f] at hx
      subst hx
      exact im_emitsF (YF_12 hf) (kk _ _ _ (YF_12 hf) (yag_st (by decide) (yag_tr (yag_st (by decide) (yag_st (by decide) (yag_mo (by decide) ia))) ja)))
  · refine tooDeep (fun y => dz (lt8.mpr y)) _ ((qst1_ne (by decide)).trans qst1_at) (qst1_at.trans hY.2.1) (yag_st (by decide) (yag_st (by decide) yag_rf)) ?_
    have d8 : d = 8 := by
      have : ¬ d < 8 := fun y => dz (lt8.mpr y)
      omega
    intro t g A4 A6 A9 A10 P' p' k hB g7 g8 g9 g12 g21 hs' hk' kk
    refine look t g A4 A6 A9 A10 P' p' hB g7 g8 g9 hs' (fun g1 i8 ia => ⟨fun _ => ?_, fun y => absurd z y, fun y => absurd z y⟩)
    refine deep d8 3 (.inr rfl) t g1 A4 A6 A9 A10 _ ((ia 7 (by decide)).trans g7) i8 ((ia 9 (by decide)).trans g9) ((ia 12 (by decide)).trans g12) (fun g2 hf ja => d1 t g2 A4 A6 A9 A10 _ 3 (Int32.ofNat q) hB hf (fun g3 hf3 ka x hx => ?_))
    rw [YM_f] at hx
    subst hx
    exact im_emitsF (YF_12 hf3) (kk _ _ _ (YF_12 hf3) (yag_st (by decide) (yag_tr (yag_tr (yag_mo (by decide) ia) (yag_mo (by decide) ja)) (yag_mo (by decide) ka))))
  · refine h15 _ _ _ _ ⟨fun _ => ?_, fun y => absurd rfl y⟩
    rw [YC_gf, YC_gw]
    obtain ⟨b1, b2⟩ := YT_s (c := 40) hY h0 (by decide) (by unfold ylet; decide) (by unfold ydig; decide)
    refine ⟨fun y8 => h29 _ _ _ _ ⟨fun dz => ?_, fun dz => i_fail ⟨.inl rfl, ?_⟩⟩, fun y8 => i_measure w4 (fun m hm wm => ⟨fun y => ?_, fun _ => ?_⟩) (fun z1 z2 z3 => ⟨fun _ => i_fail ⟨.inl rfl, ?_⟩, fun y => absurd rfl y⟩)⟩
    · -- a bracket
      have d8 := lt8.mp dz
      have pe := b2 y8
      have b40 := b1.mp y8
      refine i_adv hT hY.1 hY.2.2.1 pL (fun w2 f2 q2 p2 hs2 hY2 ha2 => ⟨fun _ => ?_, fun y => absurd rfl y⟩)
      rw [q_os (by omega)]
      have q2p := hs2.1
      refine s2 d8 s w2 f2 S q2 p2 n _ hT hY2 ((ha2 2 (by decide)).trans hn) (by omega) ?_ ?_
      · intro w3 f3 S3 q3 p3 e3 l3 hY3 hs3 h32 ha3 hr3 hl3 hw3 ok3
        have q3L := hY3.2.2.2.1
        -- the model up to the closing sign
        have mid : ∀ (t : zTs) (g A4 A6 A9 A10 : Nat → Int32) (P : zTs → Prop) (p' k : Nat), YB t B L → g 7 = Int32.ofNat L → g 8 = Int32.ofNat p' → g 9 = 0 → g 12 = Int32.ofNat d → g 21 = Int32.ofNat k → ysk B L p' q → k + L ≤ 799 + q → (∀ g' A9' A10', g' 8 = Int32.ofNat e3 → g' 21 = Int32.ofNat (k + l3.length) → g' 12 = Int32.ofNat (d + 1) → yag [8, 12, 21] g g' → yar (fun x => x.2.1) A9 A9' k l3 → yar (fun x => x.2.2) A10 A10' k l3 → w_X12_sign (YM t g' A4 A6 A9' A10') 41 (fun (s73 : zTs) => (∀ s83 : zTs, s83 = zuF s73 100 0 12 ((zgF s73 100 0 12) - 1) → (P s83)))) → mo (YM t g A4 A6 A9 A10) P := by
          intro t g A4 A6 A9 A10 P' p' k hB g7 g8 g9 g12 g21 hs' hk kk
          refine look t g A4 A6 A9 A10 P' p' hB g7 g8 g9 hs' (fun g1 i8 ia => ⟨fun y => absurd y z, fun _ _ => ?_, fun _ y => absurd b40 y⟩)
          refine im_opens (a := 1) i8 ((ia 12 (by decide)).trans g12) (by omega) d8 ?_
          refine ok3 t _ A4 A6 A9 A10 _ p k hB ((qst1_ne (by decide)).trans ((qst1_ne (by decide)).trans ((ia 7 (by decide)).trans g7))) ((qst1_ne (by decide)).trans (qst1_at.trans (by rw [pe]))) ((qst1_ne (by decide)).trans ((qst1_ne (by decide)).trans ((ia 9 (by decide)).trans g9))) qst1_at ((qst1_ne (by decide)).trans ((qst1_ne (by decide)).trans ((ia 21 (by decide)).trans g21))) hs2 (by omega) (fun g2 B9 B10 j8 j21 ja r9 r10 => ?_)
          exact kk g2 B9 B10 j8 j21 ((ja 12 (by decide)).trans qst1_at) (yag_tr (yag_st (by decide) (yag_st (by decide) (yag_mo (by decide) ia))) (yag_mo (by decide) ja)) r9 r10
        refine ⟨fun y => absurd y (by decide), fun _ => i_takeSign hT hY3 (by decide) (by unfold ylet; decide) (by unfold ydig; decide) (fun w4' f4 q4 p4 b41 hs4 hY4 ha4 => ⟨fun y => absurd y (by decide), fun _ => ?_⟩) (fun f4 b41 e11 e12 ha4 => ⟨fun _ => ?_, fun y => absurd rfl y⟩)⟩
        · have q4p := hs4.1
          refine ok w4' f4 S3 q4 p4 (q3 + 1) l3 hY4 hs4 ((ha4 2 (by decide)).trans h32) (yag_tr (yag_tr (yag_mo (by decide) ha2) ha3) (yag_mo (by decide) ha4)) hr3 (by omega) (ywf_mo (by omega) hw3) ?_
          intro t g A4 A6 A9 A10 P' p' k hB g7 g8 g9 g12 g21 hs' hk kk
          refine mid t g A4 A6 A9 A10 P' p' k hB g7 g8 g9 g12 g21 hs' hk (fun g2 B9 B10 j8 j21 j12 ja r9 r10 => ?_)
          refine im_sign hB ((ja 7 (by decide)).trans g7) j8 ((ja 9 (by decide)).trans g9) (by have := hs3.1; omega) (by decide) (fun g3 q' hq' b' k8 ka x hx => ?_) (fun g3 q' hq' b' hf ka => ?_)
          · have e := ysk_u hq' hs3
            subst e
            have k12 : g3 12 = Int32.ofNat (d + 1) := (ka 12 (by decide)).trans j12
            rw [YM_gf, k12, YM_f, s12 d d8] at hx
            subst hx
            refine kk _ _ _ ((qst1_ne (by decide)).trans k8) ((qst1_ne (by decide)).trans ((ka 21 (by decide)).trans j21)) (fun j hj => ?_) r9 r10
            by_cases e : j = 12
            · subst e; rw [qst1_at]; exact g12.symm
            · have h8j : ¬ j = 8 := fun e' => hj (by rw [e']; decide)
              have h21j : ¬ j = 21 := fun e' => hj (by rw [e']; decide)
              rw [qst1_ne e, ka j (by simp only [List.mem_singleton]; exact h8j)]
              exact ja j (by simp only [List.mem_cons, List.not_mem_nil, or_false]; exact fun c => c.elim h8j (fun c => c.elim e h21j))
          · have e := ysk_u hq' hs3
            subst e
            exact absurd b41 b'
        · refine er w3 f4 S3 (n + l3.length) 1 (Int32.ofNat q3) ((ha4 2 (by decide)).trans h32) (by omega) e11 e12 (by decide) (yag_tr (yag_tr (yag_mo (by decide) ha2) (yag_mo (by decide) ha3)) (yag_mo (by decide) ha4)) ?_
          intro t g A4 A6 A9 A10 P' p' k hB g7 g8 g9 g12 g21 hs' hk kk
          refine mid t g A4 A6 A9 A10 P' p' k hB g7 g8 g9 g12 g21 hs' hk (fun g2 B9 B10 j8 j21 j12 ja r9 r10 => ?_)
          refine im_sign hB ((ja 7 (by decide)).trans g7) j8 ((ja 9 (by decide)).trans g9) (by have := hs3.1; omega) (by decide) (fun g3 q' hq' b' k8 ka x hx => ?_) (fun g3 q' hq' b' hf ka x hx => ?_)
          · have e := ysk_u hq' hs3
            subst e
            exact absurd b' b41
          · have e := ysk_u hq' hs3
            subst e
            rw [YM_f] at hx
            subst hx
            exact kk _ _ _ (YF_12 hf) (yag_st (by decide) (yag_tr (yag_mo (by decide) ja) (yag_mo (by decide) ka)))
      · intro w3 f3 S3 m kd pl h32 hm h11 h12 hk ha3 er3
        refine ⟨fun _ => er w3 f3 S3 m kd pl h32 hm h11 h12 hk (yag_tr (yag_mo (by decide) ha2) ha3) ?_, fun y => absurd rfl y⟩
        intro t g A4 A6 A9 A10 P' p' k hB g7 g8 g9 g12 g21 hs' hk' kk
        refine look t g A4 A6 A9 A10 P' p' hB g7 g8 g9 hs' (fun g1 i8 ia => ⟨fun y => absurd y z, fun _ _ => ?_, fun _ y => absurd b40 y⟩)
        refine im_opens (a := 1) i8 ((ia 12 (by decide)).trans g12) (by omega) d8 ?_
        refine er3 t _ A4 A6 A9 A10 _ p k hB ((qst1_ne (by decide)).trans ((qst1_ne (by decide)).trans ((ia 7 (by decide)).trans g7))) ((qst1_ne (by decide)).trans (qst1_at.trans (by rw [pe]))) ((qst1_ne (by decide)).trans ((qst1_ne (by decide)).trans ((ia 9 (by decide)).trans g9))) qst1_at ((qst1_ne (by decide)).trans ((qst1_ne (by decide)).trans ((ia 21 (by decide)).trans g21))) hs2 (by omega) (fun g2 B9 B10 hf ja => im_signF hf (fun x hx => ?_))
        rw [YM_f] at hx
        subst hx
        exact kk _ _ _ (YF_12 hf) (yag_st (by decide) (yag_tr (yag_st (by decide) (yag_st (by decide) (yag_mo (by decide) ia))) ja))
    · refine tooDeep (fun y => dz (lt8.mpr y)) _ ((qst1_ne (by decide)).trans qst1_at) (qst1_at.trans hY.2.1) (yag_st (by decide) (yag_st (by decide) yag_rf)) ?_
      have d8 : d = 8 := by
        have : ¬ d < 8 := fun y => dz (lt8.mpr y)
        omega
      have b40 := b1.mp y8
      intro t g A4 A6 A9 A10 P' p' k hB g7 g8 g9 g12 g21 hs' hk' kk
      refine look t g A4 A6 A9 A10 P' p' hB g7 g8 g9 hs' (fun g1 i8 ia => ⟨fun y => absurd y z, fun _ _ => ?_, fun _ y => absurd b40 y⟩)
      refine deep d8 1 (.inl rfl) t g1 A4 A6 A9 A10 _ ((ia 7 (by decide)).trans g7) i8 ((ia 9 (by decide)).trans g9) ((ia 12 (by decide)).trans g12) (fun g2 hf ja => d2 t g2 A4 A6 A9 A10 _ 3 (Int32.ofNat q) hB hf (fun g3 hf3 ka => im_signF hf3 (fun x hx => ?_)))
      rw [YM_f] at hx
      subst hx
      exact kk _ _ _ (YF_12 hf3) (yag_st (by decide) (yag_tr (yag_tr (yag_mo (by decide) ia) (yag_mo (by decide) ja)) (yag_mo (by decide) ka)))
    · exact absurd y (fun e => absurd (show Int32.ofNat m < 0 by rw [e]; decide) (q_n0 (by omega)))
    · -- a measure
      refine i_adv hT hY.1 hY.2.2.1 pL (fun w2 f2 q2 p2 hs2 hY2 ha2 => ?_)
      have q2L := hY2.2.2.2.1
      have p2L := hY2.2.2.2.2.1
      have qp : q < p := by
        obtain ⟨x1, x2⟩ := YT_w (v := 21 + m) hY h0 (by omega) (by omega)
        have := x2 wm
        have : 2 ≤ zlen.getD (21 + m) 0 := y_l1 ⟨21 + m, by omega⟩ (by show 1 ≤ 21 + m; omega)
        omega
      have q2p := hs2.1
      obtain ⟨c1, c2⟩ := YT_s (c := 60) hY2 h0 (by decide) (by unfold ylet; decide) (by unfold ydig; decide)
      obtain ⟨e1, e2⟩ := YT_s (c := 62) hY2 h0 (by decide) (by unfold ylet; decide) (by unfold ydig; decide)
      -- the model up to the sign
      have upto : ∀ (t : zTs) (g A4 A6 A9 A10 : Nat → Int32) (P : zTs → Prop) (p' : Nat), YB t B L → g 7 = Int32.ofNat L → g 8 = Int32.ofNat p' → g 9 = 0 → ysk B L p' q → ((B q2 = 60 ∨ B q2 = 62) → ∀ g', g' 8 = Int32.ofNat (q2 + 1) → yag [8] g g' → w_X12_number (YM t g' A4 A6 A9 A10) 0 9999 (fun (r173 : Int32) (s173 : zTs) => ((B q2 = 60 → w_X12_emits s173 4 ((3 * r173) + Int32.ofNat m) (fun (s194 : zTs) => (P s194))) ∧ (¬ B q2 = 60 → w_X12_emits s173 5 ((3 * r173) + Int32.ofNat m) (fun (s194 : zTs) => (P s194)))))) → (¬ (B q2 = 60 ∨ B q2 = 62) → ∀ g', YF L 1 (Int32.ofNat q2) g' → yag [8, 9, 10] g g' → P (YM t g' A4 A6 A9 A10)) → mo (YM t g A4 A6 A9 A10) P := by
        intro t g A4 A6 A9 A10 P' p' hB g7 g8 g9 hs' yes no
        refine look t g A4 A6 A9 A10 P' p' hB g7 g8 g9 hs' (fun g1 i8 ia => ⟨fun y => absurd y z, fun _ y => absurd (b1.mpr y) y8, fun _ _ => ?_⟩)
        refine m91 zfu 0 t g1 A4 A6 A9 A10 P' hB ((ia 7 (by decide)).trans g7) i8 ((ia 9 (by decide)).trans g9) (by omega) (fun i h => by omega) (by unfold zfu; omega) (fun k g2 hk hw j8 ja => ?_) (fun g2 hw j8 ja => absurd wm (hw m hm))
        have ek : k = m := by omega
        subst ek
        exact m119 k q2 t g2 A4 A6 A9 A10 P' hk hB ((ja 7 (by decide)).trans ((ia 7 (by decide)).trans g7)) j8 ((ja 9 (by decide)).trans ((ia 9 (by decide)).trans g9)) hs2 (fun hb g3 k8 ka => yes hb g3 k8 (yag_tr (yag_tr ia ja) ka)) (fun hb g3 hf ka => no hb g3 hf (yag_tr (yag_mo (by decide) (yag_tr ia ja)) ka))
      have leaf : ∀ c : Nat, c < 2 → B q2 = Int32.ofNat (60 + 2 * c) → p2 = q2 + 1 → C159 P (YC s w2 f2 S) (Int32.ofNat m) (Int32.ofNat c) := by
        intro c hc hb ep
        have hb2 : B q2 = 60 ∨ B q2 = 62 := by
          match c, hc with
          | 0, _ => exact .inl hb
          | 1, _ => exact .inr hb
        refine h159 _ _ _ _ (i_adv hT hY2.1 hY2.2.2.1 p2L (fun w3 f3 q3 p3 hs3 hY3 ha3 => ?_))
        have q3p := hs3.1
        have hs3' := hs3
        rw [ep] at hs3'
        refine i_takeNumber hT hY3 (fun w5 f5 q5 p5 n1 n2 n3 n4 n5 n6 hs5 hY5 h95 ha5 => ⟨fun y => absurd y (by decide), fun _ => ?_⟩) (fun f5 n1 e11 e12 ha5 => ⟨fun _ => ?_, fun y => absurd rfl y⟩) (fun f5 n1 n2 n3 n4 n5 e11 e12 ha5 => ⟨fun _ => ?_, fun y => absurd rfl y⟩)
        · obtain ⟨v, v9, ev⟩ := y_ofn n5 n6
          have q5p := hs5.1
          have q5L := hY5.2.2.2.1
          obtain ⟨l1, l2⟩ := y_leafn hm hc v9
          have fin : ∀ b0, b0 = Int32.ofNat c → C188 P (YC s w5 f5 S) b0 (2 * Int32.ofNat m) := by
            intro b0 hb0
            subst hb0
            refine h188 _ _ _ _ ?_
            rw [YC_gf, h95, ev, l1]
            refine i_addStep (n := n) ((ha5 2 (by decide)).trans ((ha3 2 (by decide)).trans ((ha2 2 (by decide)).trans hn))) (by omega) ⟨fun y => absurd y (by decide), fun _ => ?_⟩
            refine ok w5 _ _ q5 p5 p3 [(Int32.ofNat ((2 * m + c) * 10000 + v), Int32.ofNat (4 + c), Int32.ofNat (3 * v + m))] ⟨(qst1_ne (by decide)).trans hY5.1, (qst1_ne (by decide)).trans hY5.2.1, (qst1_ne (by decide)).trans hY5.2.2.1, hY5.2.2.2.1, hY5.2.2.2.2.1, hY5.2.2.2.2.2.1, ?_⟩ hs5 qst1_at (yag_st (by decide) (yag_tr (yag_tr (yag_mo (by decide) ha2) (yag_mo (by decide) ha3)) (yag_mo (by decide) ha5))) (yar_one rfl) (by rw [List.length_singleton]; omega) ?_ ?_
            · have := hY5.2.2.2.2.2.2
              unfold yTok at this ⊢
              rw [qst1_ne (by decide), qst1_ne (by decide)]
              exact this
            · intro k
              refine ⟨fun j => k + j, rfl, rfl, fun j hj => ?_⟩
              rw [List.length_singleton] at hj
              have e0 : j = 0 := by omega
              subst e0
              exact ⟨by show k + 0 ≤ _; omega, .inr (.inr (.inr ⟨m, c, v, hm, hc, v9, rfl, rfl, rfl, rfl⟩))⟩
            · intro t g A4 A6 A9 A10 P' p' k hB g7 g8 g9 g12 g21 hs' hk kk
              refine upto t g A4 A6 A9 A10 P' p' hB g7 g8 g9 hs' (fun _ g1 i8 ia => ?_) (fun y => absurd hb2 y)
              refine im_number hB ((ia 7 (by decide)).trans g7) i8 ((ia 9 (by decide)).trans g9) (by omega) (by decide) (fun g2 q' hq' hd' => ?_) (fun g2 q' e' v' hq' x1 x2 x3 x4 x5 => ?_) (fun g2 q' e' hq' x1 x2 x3 x4 x5 x6 j8 ja => ?_)
              · have e := ysk_u hq' hs3'
                subst e
                exact absurd n1 hd'
              · have e := ysk_u hq' hs3'
                subst e
                have e := ydg_u x1 x3 x4 n2 n3 n4
                subst e
                exact absurd ⟨n5, n6⟩ x5
              · have e := ysk_u hq' hs3'
                subst e
                have e := ydg_u x1 x3 x4 n2 n3 n4
                subst e
                rw [ev, l2]
                have em : ∀ cd, cd = Int32.ofNat (4 + c) → w_X12_emits (YM t g2 A4 A6 A9 A10) cd (Int32.ofNat (3 * v + m)) (fun (s194 : zTs) => (P' s194)) := by
                  intro cd hcd
                  refine im_emits (k := k) ((ja 9 (by decide)).trans ((ia 9 (by decide)).trans g9)) ((ja 21 (by decide)).trans ((ia 21 (by decide)).trans g21)) (by omega) ?_
                  exact kk _ _ _ ((qst1_ne (by decide)).trans j8) qst1_at (yag_st (by decide) (yag_mo (by decide) (yag_tr ia ja))) (yar_one hcd) (yar_one rfl)
                by_cases c0 : c = 0
                · have hb0 : B q2 = 60 := by rw [hb, c0]; rfl
                  exact ⟨fun _ => em 4 (by rw [c0]; rfl), fun y => absurd hb0 y⟩
                · have c1' : c = 1 := by omega
                  have hb1 : ¬ B q2 = 60 := by rw [hb, c1']; decide
                  exact ⟨fun y => absurd y hb1, fun _ => em 5 (by rw [c1']; rfl)⟩
          by_cases c0 : c = 0
          · exact ⟨fun _ => fin 0 (by rw [c0]; rfl), fun y => absurd (by rw [c0]; rfl) y⟩
          · have c1' : c = 1 := by omega
            exact ⟨fun y => absurd y (by rw [c1']; decide), fun _ => fin 1 (by rw [c1']; rfl)⟩
        · refine er w3 f5 S n 1 (Int32.ofNat q3) ((ha5 2 (by decide)).trans ((ha3 2 (by decide)).trans ((ha2 2 (by decide)).trans hn))) (by omega) e11 e12 (by decide) (yag_tr (yag_tr (yag_mo (by decide) ha2) (yag_mo (by decide) ha3)) (yag_mo (by decide) ha5)) ?_
          intro t g A4 A6 A9 A10 P' p' k hB g7 g8 g9 g12 g21 hs' hk kk
          refine upto t g A4 A6 A9 A10 P' p' hB g7 g8 g9 hs' (fun _ g1 i8 ia => ?_) (fun y => absurd hb2 y)
          refine im_number hB ((ia 7 (by decide)).trans g7) i8 ((ia 9 (by decide)).trans g9) (by omega) (by decide) (fun g2 q' hq' hd' hf ja => ?_) (fun g2 q' e' v' hq' x1 x2 x3 x4 x5 => ?_) (fun g2 q' e' hq' x1 x2 x3 x4 x5 x6 j8 ja => ?_)
          · have e := ysk_u hq' hs3'
            subst e
            have K := kk g2 A9 A10 hf (yag_tr (yag_mo (by decide) ia) (yag_mo (by decide) ja))
            exact ⟨fun _ => im_emitsF hf K, fun _ => im_emitsF hf K⟩
          · have e := ysk_u hq' hs3'
            subst e
            exact absurd (x3 q' (Nat.le_refl _) x1) n1
          · have e := ysk_u hq' hs3'
            subst e
            exact absurd (x3 q' (Nat.le_refl _) x1) n1
        · refine er w3 f5 S n 2 (Int32.ofNat q3) ((ha5 2 (by decide)).trans ((ha3 2 (by decide)).trans ((ha2 2 (by decide)).trans hn))) (by omega) e11 e12 (by decide) (yag_tr (yag_tr (yag_mo (by decide) ha2) (yag_mo (by decide) ha3)) (yag_mo (by decide) ha5)) ?_
          intro t g A4 A6 A9 A10 P' p' k hB g7 g8 g9 g12 g21 hs' hk kk
          refine upto t g A4 A6 A9 A10 P' p' hB g7 g8 g9 hs' (fun _ g1 i8 ia => ?_) (fun y => absurd hb2 y)
          refine im_number hB ((ia 7 (by decide)).trans g7) i8 ((ia 9 (by decide)).trans g9) (by omega) (by decide) (fun g2 q' hq' hd' hf ja => ?_) (fun g2 q' e' v' hq' x1 x2 x3 x4 x5 hf ja => ?_) (fun g2 q' e' hq' x1 x2 x3 x4 x5 x6 j8 ja => ?_)
          · have e := ysk_u hq' hs3'
            subst e
            exact absurd n1 hd'
          · have e := ysk_u hq' hs3'
            subst e
            have K := kk g2 A9 A10 hf (yag_tr (yag_mo (by decide) ia) (yag_mo (by decide) ja))
            exact ⟨fun _ => im_emitsF hf K, fun _ => im_emitsF hf K⟩
          · have e := ysk_u hq' hs3'
            subst e
            have e := ydg_u x1 x3 x4 n2 n3 n4
            subst e
            exact absurd ⟨x5, x6⟩ n5
      rw [YC_gf]
      refine ⟨fun y => h137 _ _ _ _ ⟨fun y' => absurd y' (by decide), fun _ => leaf 1 (by omega) (e1.mp y) (e2 y)⟩, fun y => h137 _ _ _ _ ⟨fun _ => ?_, fun y' => absurd rfl y'⟩⟩
      rw [YC_gf]
      refine ⟨fun y6 => leaf 0 (by omega) (c1.mp y6) (c2 y6), fun y6 => i_fail ⟨.inl rfl, ?_⟩⟩
      refine er w2 _ S n 1 (Int32.ofNat q2) ((qst1_ne (by decide)).trans ((qst1_ne (by decide)).trans ((ha2 2 (by decide)).trans hn))) (by omega) ((qst1_ne (by decide)).trans qst1_at) (qst1_at.trans hY2.2.1) (by decide) (yag_st (by decide) (yag_st (by decide) (yag_mo (by decide) ha2))) ?_
      intro t g A4 A6 A9 A10 P' p' k hB g7 g8 g9 g12 g21 hs' hk kk
      exact upto t g A4 A6 A9 A10 P' p' hB g7 g8 g9 hs' (fun hb => absurd (hb.elim (fun h => y6 (c1.mpr h)) (fun h => y (e1.mpr h))) id) (fun _ g1 hf ia => kk g1 A9 A10 hf (yag_mo (by decide) ia))
    · -- nothing known
      refine er w _ S n 1 (Int32.ofNat q) ((qst1_ne (by decide)).trans ((qst1_ne (by decide)).trans hn)) (by omega) ((qst1_ne (by decide)).trans qst1_at) (qst1_at.trans hY.2.1) (by decide) (yag_st (by decide) (yag_st (by decide) yag_rf)) ?_
      intro t g A4 A6 A9 A10 P' p' k hB g7 g8 g9 g12 g21 hs' hk kk
      refine look t g A4 A6 A9 A10 P' p' hB g7 g8 g9 hs' (fun g1 i8 ia => ⟨fun y => absurd y z, fun _ y => absurd (b1.mpr y) y8, fun _ _ => ?_⟩)
      refine m91 zfu 0 t g1 A4 A6 A9 A10 P' hB ((ia 7 (by decide)).trans g7) i8 ((ia 9 (by decide)).trans g9) (by omega) (fun i h => by omega) (by unfold zfu; omega) (fun k g2 hk hw j8 ja => by exfalso; omega) (fun g2 hw j8 ja => ?_)
      refine h119 _ _ _ (im_blanks hB ((ja 7 (by decide)).trans ((ia 7 (by decide)).trans g7)) j8 qL (fun g3 q3 hs3 k8 ka => ?_))
      have e := ysk_u hs3 sq
      subst e
      rw [YM_gf, k8]
      refine im_byteAt hB ((ka 7 (by decide)).trans ((ja 7 (by decide)).trans ((ia 7 (by decide)).trans g7))) (by omega) ⟨fun _ => h148 _ _ ?_, fun y => absurd (by decide) y⟩
      rw [YM_gf, k8]
      exact im_wrong ((ka 7 (by decide)).trans ((ja 7 (by decide)).trans ((ia 7 (by decide)).trans g7))) k8 (by omega) ((ka 9 (by decide)).trans ((ja 9 (by decide)).trans ((ia 9 (by decide)).trans g9))) (by decide) (fun g4 hf la => kk g4 A9 A10 hf (yag_tr (yag_mo (by decide) (yag_tr (yag_tr ia ja) ka)) (yag_mo (by decide) la)))

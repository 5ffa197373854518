/-! one piece of a condition, class and model -/
theorem im_meas {P : Nat → Prop} {t : zTs} {j : Nat} (hj : j < 3) (h : P (21 + j)) : w_X12_measureOf t (Int32.ofNat j) P := by
  match j, hj with
  | 0, _ => exact ⟨fun _ => h, fun z => absurd rfl z⟩
  | 1, _ => exact ⟨fun z => absurd z (by decide), fun _ => ⟨fun _ => h, fun z => absurd rfl z⟩⟩
  | 2, _ => exact ⟨fun z => absurd z (by decide), fun _ => ⟨fun z => absurd z (by decide), fun _ => h⟩⟩
theorem y_ofn {x : Int32} (h0 : 0 ≤ x) (h1 : x ≤ 9999) : ∃ v : Nat, v ≤ 9999 ∧ x = Int32.ofNat v := by
  refine ⟨x.toNatClampNeg, ?_, q_of_toInt (q_t0 h0)⟩
  have := q_t0 h0
  rw [Int32.le_iff_toInt_le, show (9999 : Int32).toInt = 9999 from rfl] at h1
  omega
theorem y_leafn {m c v : Nat} (hm : m < 3) (hc : c < 2) (hv : v ≤ 9999) : (2 * Int32.ofNat m + Int32.ofNat c) * 10000 + Int32.ofNat v = Int32.ofNat ((2 * m + c) * 10000 + v) ∧ 3 * Int32.ofNat v + Int32.ofNat m = Int32.ofNat (3 * v + m) := by
  have ev := q_of (n := v) (by omega)
  have e2 : ∀ x y : Int32, x.toInt = y.toInt → x = y := fun x y h => Int32.toInt_inj.mp h
  refine ⟨?_, ?_⟩
  · have k : ∀ m c : Nat, m < 3 → c < 2 → (2 * Int32.ofNat m + Int32.ofNat c) * 10000 = Int32.ofNat ((2 * m + c) * 10000) := by
      have k' : ∀ m : Fin 3, ∀ c : Fin 2, (2 * Int32.ofNat m.1 + Int32.ofNat c.1) * 10000 = Int32.ofNat ((2 * m.1 + c.1) * 10000) := by decide
      exact fun m c hm hc => k' ⟨m, hm⟩ ⟨c, hc⟩
    rw [k m c hm hc, q_nadd (by omega)]
  · have e3 : 3 * Int32.ofNat v = Int32.ofNat (3 * v) := by
      have := (q_c21e (i := 0) (j := 0) (by omega) (by omega))
      apply e2
      rw [q_of (by omega)]
      have h3 : (Int32.ofNat v).toInt = (v : Int) := ev
      simp only [q_ti] at h3 ⊢
      lia
    rw [e3, q_nadd (by omega)]
theorem y_one {B : Nat → Int32} {L d : Nat} {one any co : zTs → Int32 → (Int32 → zTs → Prop) → Prop} {mone mors mo : zTs → (zTs → Prop) → Prop} {C15 C29 C137 : (Int32 → zTs → Prop) → zTs → Int32 → Int32 → Prop} {C159 C188 : (Int32 → zTs → Prop) → zTs → Int32 → Int32 → Prop} {M91 : (zTs → Prop) → Nat → zTs → Int32 → Int32 → Prop} {M119 : (zTs → Prop) → zTs → Int32 → Prop} {M158 : (zTs → Prop) → zTs → Int32 → Int32 → Prop} {M148 : (zTs → Prop) → zTs → Prop}
    (hd : d ≤ 8) (h0 : ∀ j, L ≤ j → B j = 0)
    (hco : ∀ st a1 P, (zgP st 13 0 6 < 24) ∧ ((((zgP st 13 0 6) : Nat) = 20 → C15 P st a1 1) ∧ (¬ ((zgP st 13 0 6) : Nat) = 20 → C15 P st a1 0)) → co st a1 P)
    (h15 : ∀ (P : Int32 → zTs → Prop) st a1 b0, (b0 = 0 → ((zgF st 13 0 8) = 40 → C29 P st a1 b0) ∧ (¬ (zgF st 13 0 8) = 40 → w_X6_measureOf st (zgP st 13 0 6) (fun (r104 : Int32) => ((r104 = (-1) → w_X6_fail st 1 (fun (r115 : Int32) (s115 : zTs) => ((r115 = 0 ∨ r115 = 1) ∧ (P r115 s115)))) ∧ (¬ r104 = (-1) → w_X6_advance st (fun (s120 : zTs) => (((zgF s120 13 0 8) = 62 → C137 P s120 r104 1) ∧ (¬ (zgF s120 13 0 8) = 62 → C137 P s120 r104 0)))))))) ∧ (¬ b0 = 0 → C29 P st a1 b0) → C15 P st a1 b0)
    (h29 : ∀ (P : Int32 → zTs → Prop) st a1 a2, (a1 < 8 → w_X6_advance st (fun (s42 : zTs) => ((a2 = 0 → any s42 (a1 + 1) (fun (r79 : Int32) (s79 : zTs) => ((r79 = 0 → P 0 s79) ∧ (¬ r79 = 0 → w_X6_takeSign s79 41 (fun (r88 : Int32) (s88 : zTs) => ((r88 = 0 → P 0 s88) ∧ (¬ r88 = 0 → P 1 s88))))))) ∧ (¬ a2 = 0 → one s42 (a1 + 1) (fun (r53 : Int32) (s53 : zTs) => ((r53 = 0 → P 0 s53) ∧ (¬ r53 = 0 → w_X6_addStep s53 (-1) (fun (r61 : Int32) (s61 : zTs) => ((r61 = 0 → P 0 s61) ∧ (¬ r61 = 0 → P 1 s61)))))))))) ∧ (¬ a1 < 8 → w_X6_fail st 3 (fun (r37 : Int32) (s37 : zTs) => ((r37 = 0 ∨ r37 = 1) ∧ (P r37 s37)))) → C29 P st a1 a2)
    (h137 : ∀ (P : Int32 → zTs → Prop) st a3 b0, (b0 = 0 → ((zgF st 13 0 8) = 60 → C159 P st a3 b0) ∧ (¬ (zgF st 13 0 8) = 60 → w_X6_fail st 1 (fun (r155 : Int32) (s155 : zTs) => ((r155 = 0 ∨ r155 = 1) ∧ (P r155 s155))))) ∧ (¬ b0 = 0 → C159 P st a3 b0) → C137 P st a3 b0)
    (h159 : ∀ (P : Int32 → zTs → Prop) st a3 a4, w_X6_advance st (fun (s160 : zTs) => (w_X6_takeNumber s160 0 9999 (fun (r168 : Int32) (s168 : zTs) => ((r168 = 0 → P 0 s168) ∧ (¬ r168 = 0 → (a4 = 0 → C188 P s168 0 (2 * a3)) ∧ (¬ a4 = 0 → C188 P s168 1 (2 * a3))))))) → C159 P st a3 a4)
    (h188 : ∀ (P : Int32 → zTs → Prop) st b0 b1, w_X6_addStep st (((b1 + b0) * 10000) + (zgF st 13 0 9)) (fun (r198 : Int32) (s198 : zTs) => ((r198 = 0 → P 0 s198) ∧ (¬ r198 = 0 → P 1 s198))) → C188 P st b0 b1)
    (hmo : ∀ st P, ((zgF st 100 0 9) ≤ 0 → w_X12_blanks st (fun (s9 : zTs) => (w_X12_isWord s9 20 (fun (r16 : Int32) (s16 : zTs) => ((r16 = 0 → w_X12_byteAt s16 (zgF s16 100 0 8) (fun (r53 : Int32) => ((r53 = 40 → w_X12_opens s16 1 (fun (s63 : zTs) => (mors s63 (fun (s67 : zTs) => (w_X12_sign s67 41 (fun (s73 : zTs) => (∀ s83 : zTs, s83 = zuF s73 100 0 12 ((zgF s73 100 0 12) - 1) → (P s83)))))))) ∧ (¬ r53 = 40 → M91 P zfu s16 (-1) 0)))) ∧ (¬ r16 = 0 → w_X12_opens s16 3 (fun (s24 : zTs) => (mone s24 (fun (s28 : zTs) => (∀ s38 : zTs, s38 = zuF s28 100 0 12 ((zgF s28 100 0 12) - 1) → (w_X12_emits s38 1 0 (fun (s44 : zTs) => (P s44))))))))))))) ∧ (¬ (zgF st 100 0 9) ≤ 0 → P st) → mo st P)
    (h91 : ∀ (P : zTs → Prop) n9 st a1 a2, (3 ≤ a2 → M119 P st a1) ∧ (¬ 3 ≤ a2 → (0 ≤ a1 → M119 P st a1) ∧ (¬ 0 ≤ a1 → w_X12_measureOf st a2 (fun (r102 : Nat) => (w_X12_eat st r102 (fun (r105 : Int32) (s105 : zTs) => ((r105 = 0 → ∀ x113 : Int32, x113 = a2 + 1 → M91 P n9 s105 a1 x113) ∧ (¬ r105 = 0 → ∀ x113 : Int32, x113 = a2 + 1 → M91 P n9 s105 a2 x113))))))) → M91 P (n9 + 1) st a1 a2)
    (h119 : ∀ (P : zTs → Prop) st a1, w_X12_blanks st (fun (s120 : zTs) => (w_X12_byteAt s120 (zgF s120 100 0 8) (fun (r128 : Int32) => ((a1 < 0 → M148 P s120) ∧ (¬ a1 < 0 → (r128 = 60 → M158 P s120 a1 r128) ∧ (¬ r128 = 60 → (r128 = 62 → M158 P s120 a1 r128) ∧ (¬ r128 = 62 → M148 P s120))))))) → M119 P st a1)
    (h158 : ∀ (P : zTs → Prop) st a1 a2, (∀ s165 : zTs, s165 = zuF st 100 0 8 ((zgF st 100 0 8) + 1) → (w_X12_number s165 0 9999 (fun (r173 : Int32) (s173 : zTs) => ((a2 = 60 → w_X12_emits s173 4 ((3 * r173) + a1) (fun (s194 : zTs) => (P s194))) ∧ (¬ a2 = 60 → w_X12_emits s173 5 ((3 * r173) + a1) (fun (s194 : zTs) => (P s194))))))) → M158 P st a1 a2)
    (h148 : ∀ (P : zTs → Prop) st, w_X12_wrong st 1 (zgF st 100 0 8) (fun (s154 : zTs) => (P s154)) → M148 P st)
    (d1 : YDR B L mone) (d2 : YDR B L mors) (s1 : d < 8 → YCS B L (d + 1) (17 - 2 * (d + 1)) one mone) (s2 : d < 8 → YCS B L (d + 1) (19 - 2 * (d + 1)) any mors) : YCS B L d (17 - 2 * d) co mo ∧ YDR B L mo := by
  constructor
  case right =>
    intro t g A4 A6 A9 A10 P kd pl hB hf k
    refine hmo _ _ ⟨fun z => ?_, fun _ => k g hf (yag_rf)⟩
    rw [YM_gf, hf.2.1] at z
    have := hf.2.2.2.1
    exfalso; lia
  intro s w f S q p n P hT hY hn hnq ok er
  have l4 := hT.1
  have qL := hY.2.2.2.1
  have pL := hY.2.2.2.2.1
  have w4 := YT_w24 hY
  have sq := YT_sk hY
  obtain ⟨n1, n2⟩ := YT_w (v := 20) hY h0 (by omega) (by omega)
  -- the model's first look at the piece
  have look : ∀ (t : zTs) (g A4 A6 A9 A10 : Nat → Int32) (P : zTs → Prop) (p' : Nat), YB t B L → g 7 = Int32.ofNat L → g 8 = Int32.ofNat p' → g 9 = 0 → ysk B L p' q →
      (∀ g', g' 8 = Int32.ofNat q → yag [8] g g' → (w = 20 → w_X12_opens (YM t g' A4 A6 A9 A10) 3 (fun (s24 : zTs) => (mone s24 (fun (s28 : zTs) => (∀ s38 : zTs, s38 = zuF s28 100 0 12 ((zgF s28 100 0 12) - 1) → (w_X12_emits s38 1 0 (fun (s44 : zTs) => (P s44)))))))) ∧ (¬ w = 20 → B q = 40 → w_X12_opens (YM t g' A4 A6 A9 A10) 1 (fun (s63 : zTs) => (mors s63 (fun (s67 : zTs) => (w_X12_sign s67 41 (fun (s73 : zTs) => (∀ s83 : zTs, s83 = zuF s73 100 0 12 ((zgF s73 100 0 12) - 1) → (P s83)))))))) ∧ (¬ w = 20 → ¬ B q = 40 → M91 P zfu (YM t g' A4 A6 A9 A10) (-1) 0)) → mo (YM t g A4 A6 A9 A10) P := by
    intro t g A4 A6 A9 A10 P p' hB g7 g8 g9 hs k
    refine hmo _ _ ⟨fun _ => im_blanks hB g7 g8 (by have := hs.1; omega) (fun g1 q1 hs1 k8 ka => ?_), fun z => absurd (by rw [YM_gf, g9]; decide) z⟩
    have e1 := ysk_u hs1 hs
    subst e1
    refine im_isWord hB ((ka 7 (by decide)).trans g7) k8 qL (by omega) (fun g2 q2 hs2 j8 ja => ?_)
    have e2 := ysk_u hs2 sq
    subst e2
    obtain ⟨k1, k2, k3⟩ := k g2 j8 (yag_tr ka ja)
    refine ⟨fun m => ⟨fun z => absurd z (by decide), fun _ => k1 (n1.mp m)⟩, fun m => ⟨fun _ => ?_, fun z => absurd rfl z⟩⟩
    rw [YM_gf, j8]
    have nw : ¬ w = 20 := fun e => m (n1.mpr e)
    exact im_byteAt hB ((ja 7 (by decide)).trans ((ka 7 (by decide)).trans g7)) (by omega) ⟨fun z => k2 nw z, fun z => k3 nw z⟩
  have deep : d = 8 → ∀ (c : Nat), c = 1 ∨ c = 3 → ∀ (t : zTs) (g A4 A6 A9 A10 : Nat → Int32) (K : zTs → Prop), g 7 = Int32.ofNat L → g 8 = Int32.ofNat q → g 9 = 0 → g 12 = Int32.ofNat d → (∀ g', YF L 3 (Int32.ofNat q) g' → yag [8, 9, 10, 12] g g' → K (YM t g' A4 A6 A9 A10)) → w_X12_opens (YM t g A4 A6 A9 A10) (Int32.ofNat c) K := by
    intro e c hc t g A4 A6 A9 A10 K g7 g8 g9 g12 k
    exact im_opensF g7 g8 g9 (by rw [g12, e]) (by omega) k
  have tooDeep : ¬ d < 8 → (∀ g' : Nat → Int32, g' 11 = 3 → g' 12 = Int32.ofNat q → yag [11, 12] f g' → YER B L mo q d 3 (Int32.ofNat q) → P 0 (YC s w g' S)) := by
    intro _ g' e1 e2 e3 e4
    exact er w g' S n 3 (Int32.ofNat q) ((e3 2 (by decide)).trans hn) (by omega) e1 e2 (by decide) (yag_mo (by decide) e3) e4
  have lt8 : Int32.ofNat d < 8 ↔ d < 8 := by
    rw [← Int32.not_le, show (8 : Int32) = Int32.ofNat 8 from rfl, q_nle (by omega) (by omega)]
    omega
  have s12 : ∀ x : Nat, x < 8 → Int32.ofNat (x + 1) - 1 = Int32.ofNat x := by
    have : ∀ x : Fin 8, Int32.ofNat (x.1 + 1) - 1 = Int32.ofNat x.1 := by decide
    exact fun x hx => this ⟨x, hx⟩
  refine hco _ _ _ ?_
  rw [YC_gw]
  refine ⟨w4, fun z => h15 _ _ _ _ ⟨fun y => absurd y (by decide), fun _ => h29 _ _ _ _ ⟨fun dz => ?_, fun dz => i_fail ⟨.inl rfl, ?_⟩⟩⟩, fun z => ?_⟩
  · -- not
    have d8 := lt8.mp dz
    have pe := n2 z
    have z3 : zlen.getD 20 0 = 3 := rfl
    rw [z3] at pe
    refine i_adv hT hY.1 hY.2.2.1 pL (fun w2 f2 q2 p2 hs2 hY2 ha2 => ⟨fun y => absurd y (by decide), fun _ => ?_⟩)
    rw [q_os (by omega)]
    have q2p := hs2.1
    refine s1 d8 s w2 f2 S q2 p2 n _ hT hY2 ((ha2 2 (by decide)).trans hn) (by omega) ?_ ?_
    · intro w3 f3 S3 q3 p3 e3 l3 hY3 hs3 h32 ha3 hr3 hl3 hw3 ok3
      have q3L := hY3.2.2.2.1
      refine ⟨fun y => absurd y (by decide), fun _ => i_addStep h32 (by omega) ⟨fun y => absurd y (by decide), fun _ => ?_⟩⟩
      have len : (l3 ++ [((-1, 1, 0) : ySt)]).length = l3.length + 1 := by rw [List.length_append, List.length_singleton]
      refine ok w3 _ _ q3 p3 e3 (l3 ++ [(-1, 1, 0)]) ⟨(qst1_ne (by decide)).trans hY3.1, (qst1_ne (by decide)).trans hY3.2.1, (qst1_ne (by decide)).trans hY3.2.2.1, hY3.2.2.2.1, hY3.2.2.2.2.1, hY3.2.2.2.2.2.1, ?_⟩ hs3 (qst1_at.trans (by rw [len]; congr 1)) (yag_st (by decide) (yag_tr (yag_mo (by decide) ha2) ha3)) (yar_app rfl hr3 (yar_one rfl)) (by rw [len]; omega) (ywf_not (by omega) (ywf_mo (by omega) hw3)) ?_
      · have := hY3.2.2.2.2.2.2
        unfold yTok at this ⊢
        rw [qst1_ne (by decide), qst1_ne (by decide)]
        exact this
      · intro t g A4 A6 A9 A10 P' p' k hB g7 g8 g9 g12 g21 hs' hk kk
        refine look t g A4 A6 A9 A10 P' p' hB g7 g8 g9 hs' (fun g1 i8 ia => ⟨fun _ => ?_, fun y => absurd z y, fun y => absurd z y⟩)
        refine im_opens (a := 3) i8 ((ia 12 (by decide)).trans g12) (by omega) d8 ?_
        refine ok3 t _ A4 A6 A9 A10 _ p k hB ((qst1_ne (by decide)).trans ((qst1_ne (by decide)).trans ((ia 7 (by decide)).trans g7))) ((qst1_ne (by decide)).trans (qst1_at.trans (by rw [pe]))) ((qst1_ne (by decide)).trans ((qst1_ne (by decide)).trans ((ia 9 (by decide)).trans g9))) qst1_at ((qst1_ne (by decide)).trans ((qst1_ne (by decide)).trans ((ia 21 (by decide)).trans g21))) hs2 (by omega) (fun g2 B9 B10 j8 j21 ja r9 r10 x hx => ?_)
        have j12 : g2 12 = Int32.ofNat (d + 1) := (ja 12 (by decide)).trans qst1_at
        rw [YM_gf, j12, YM_f, s12 d d8] at hx
        subst hx
        have back : ∀ j, ¬ j ∈ [8, 21] → qst1 g2 12 (Int32.ofNat d) j = g j := by
          intro j hj
          by_cases e : j = 12
          · subst e; rw [qst1_at]; exact g12.symm
          · have h8j : ¬ j = 8 := fun e' => hj (by rw [e']; decide)
            rw [qst1_ne e, ja j hj, qst1_ne e, qst1_ne h8j]
            exact ia j (by simp only [List.mem_singleton]; exact h8j)
        refine im_emits (k := k + l3.length) ((back 9 (by decide)).trans g9) ((qst1_ne (by decide)).trans j21) (by omega) ?_
        refine kk _ _ _ ((qst1_ne (by decide)).trans ((qst1_ne (by decide)).trans j8)) (qst1_at.trans (by rw [len]; congr 1)) (yag_st (by decide) back) ?_ ?_
        · exact yar_app rfl r9 (yar_one rfl)
        · exact yar_app rfl r10 (yar_one rfl)
    · intro w3 f3 S3 m kd pl h32 hm h11 h12 hk ha3 er3
      refine ⟨fun _ => er w3 f3 S3 m kd pl h32 hm h11 h12 hk (yag_tr (yag_mo (by decide) ha2) ha3) ?_, fun y => absurd rfl y⟩
      intro t g A4 A6 A9 A10 P' p' k hB g7 g8 g9 g12 g21 hs' hk' kk
      refine look t g A4 A6 A9 A10 P' p' hB g7 g8 g9 hs' (fun g1 i8 ia => ⟨fun _ => ?_, fun y => absurd z y, fun y => absurd z y⟩)
      refine im_opens (a := 3) i8 ((ia 12 (by decide)).trans g12) (by omega) d8 ?_
      refine er3 t _ A4 A6 A9 A10 _ p k hB ((qst1_ne (by decide)).trans ((qst1_ne (by decide)).trans ((ia 7 (by decide)).trans g7))) ((qst1_ne (by decide)).trans (qst1_at.trans (by rw [pe]))) ((qst1_ne (by decide)).trans ((qst1_ne (by decide)).trans ((ia 9 (by decide)).trans g9))) qst1_at ((qst1_ne (by decide)).trans ((qst1_ne (by decide)).trans ((ia 21 (by decide)).trans g21))) hs2 (by omega) (fun g2 B9 B10 hf ja x hx => ?_)
      rw [YM_f] at hx
      subst hx
      exact im_emitsF (YF_12 hf) (kk _ _ _ (YF_12 hf) (yag_st (by decide) (yag_tr (yag_st (by decide) (yag_st (by decide) (yag_mo (by decide) ia))) ja)))
  · refine tooDeep (fun y => dz (lt8.mpr y)) _ ((qst1_ne (by decide)).trans qst1_at) (qst1_at.trans hY.2.1) (yag_st (by decide) (yag_st (by decide) yag_rf)) ?_
    have d8 : d = 8 := by
      have : ¬ d < 8 := fun y => dz (lt8.mpr y)
      omega
    intro t g A4 A6 A9 A10 P' p' k hB g7 g8 g9 g12 g21 hs' hk' kk
    refine look t g A4 A6 A9 A10 P' p' hB g7 g8 g9 hs' (fun g1 i8 ia => ⟨fun _ => ?_, fun y => absurd z y, fun y => absurd z y⟩)
    refine deep d8 3 (.inr rfl) t g1 A4 A6 A9 A10 _ ((ia 7 (by decide)).trans g7) i8 ((ia 9 (by decide)).trans g9) ((ia 12 (by decide)).trans g12) (fun g2 hf ja => d1 t g2 A4 A6 A9 A10 _ 3 (Int32.ofNat q) hB hf (fun g3 hf3 ka x hx => ?_))
    rw [YM_f] at hx
    subst hx
    exact im_emitsF (YF_12 hf3) (kk _ _ _ (YF_12 hf3) (yag_st (by decide) (yag_tr (yag_tr (yag_mo (by decide) ia) (yag_mo (by decide) ja)) (yag_mo (by decide) ka))))
  · refine h15 _ _ _ _ ⟨fun _ => ?_, fun y => absurd rfl y⟩
    rw [YC_gf, YC_gw]
    obtain ⟨b1, b2⟩ := YT_s (c := 40) hY h0 (by decide) (by unfold ylet; decide) (by unfold ydig; decide)
    refine ⟨fun y8 => h29 _ _ _ _ ⟨fun dz => ?_, fun dz => i_fail ⟨.inl rfl, ?_⟩⟩, fun y8 => i_measure w4 (fun m hm wm => ⟨fun y => ?_, fun _ => ?_⟩) (fun z1 z2 z3 => ⟨fun _ => i_fail ⟨.inl rfl, ?_⟩, fun y => absurd rfl y⟩)⟩
    · -- a bracket
      have d8 := lt8.mp dz
      have pe := b2 y8
      have b40 := b1.mp y8
      refine i_adv hT hY.1 hY.2.2.1 pL (fun w2 f2 q2 p2 hs2 hY2 ha2 => ⟨fun _ => ?_, fun y => absurd rfl y⟩)
      rw [q_os (by omega)]
      have q2p := hs2.1
      refine s2 d8 s w2 f2 S q2 p2 n _ hT hY2 ((ha2 2 (by decide)).trans hn) (by omega) ?_ ?_
      · intro w3 f3 S3 q3 p3 e3 l3 hY3 hs3 h32 ha3 hr3 hl3 hw3 ok3
        have q3L := hY3.2.2.2.1
        -- the model up to the closing sign
        have mid : ∀ (t : zTs) (g A4 A6 A9 A10 : Nat → Int32) (P : zTs → Prop) (p' k : Nat), YB t B L → g 7 = Int32.ofNat L → g 8 = Int32.ofNat p' → g 9 = 0 → g 12 = Int32.ofNat d → g 21 = Int32.ofNat k → ysk B L p' q → k + L ≤ 799 + q → (∀ g' A9' A10', g' 8 = Int32.ofNat e3 → g' 21 = Int32.ofNat (k + l3.length) → g' 12 = Int32.ofNat (d + 1) → yag [8, 12, 21] g g' → yar (fun x => x.2.1) A9 A9' k l3 → yar (fun x => x.2.2) A10 A10' k l3 → w_X12_sign (YM t g' A4 A6 A9' A10') 41 (fun (s73 : zTs) => (∀ s83 : zTs, s83 = zuF s73 100 0 12 ((zgF s73 100 0 12) - 1) → (P s83)))) → mo (YM t g A4 A6 A9 A10) P := by
          intro t g A4 A6 A9 A10 P' p' k hB g7 g8 g9 g12 g21 hs' hk kk
          refine look t g A4 A6 A9 A10 P' p' hB g7 g8 g9 hs' (fun g1 i8 ia => ⟨fun y => absurd y z, fun _ _ => ?_, fun _ y => absurd b40 y⟩)
          refine im_opens (a := 1) i8 ((ia 12 (by decide)).trans g12) (by omega) d8 ?_
          refine ok3 t _ A4 A6 A9 A10 _ p k hB ((qst1_ne (by decide)).trans ((qst1_ne (by decide)).trans ((ia 7 (by decide)).trans g7))) ((qst1_ne (by decide)).trans (qst1_at.trans (by rw [pe]))) ((qst1_ne (by decide)).trans ((qst1_ne (by decide)).trans ((ia 9 (by decide)).trans g9))) qst1_at ((qst1_ne (by decide)).trans ((qst1_ne (by decide)).trans ((ia 21 (by decide)).trans g21))) hs2 (by omega) (fun g2 B9 B10 j8 j21 ja r9 r10 => ?_)
          exact kk g2 B9 B10 j8 j21 ((ja 12 (by decide)).trans qst1_at) (yag_tr (yag_st (by decide) (yag_st (by decide) (yag_mo (by decide) ia))) (yag_mo (by decide) ja)) r9 r10
        refine ⟨fun y => absurd y (by decide), fun _ => i_takeSign hT hY3 (by decide) (by unfold ylet; decide) (by unfold ydig; decide) (fun w4' f4 q4 p4 b41 hs4 hY4 ha4 => ⟨fun y => absurd y (by decide), fun _ => ?_⟩) (fun f4 b41 e11 e12 ha4 => ⟨fun _ => ?_, fun y => absurd rfl y⟩)⟩
        · have q4p := hs4.1
          refine ok w4' f4 S3 q4 p4 (q3 + 1) l3 hY4 hs4 ((ha4 2 (by decide)).trans h32) (yag_tr (yag_tr (yag_mo (by decide) ha2) ha3) (yag_mo (by decide) ha4)) hr3 (by omega) (ywf_mo (by omega) hw3) ?_
          intro t g A4 A6 A9 A10 P' p' k hB g7 g8 g9 g12 g21 hs' hk kk
          refine mid t g A4 A6 A9 A10 P' p' k hB g7 g8 g9 g12 g21 hs' hk (fun g2 B9 B10 j8 j21 j12 ja r9 r10 => ?_)
          refine im_sign hB ((ja 7 (by decide)).trans g7) j8 ((ja 9 (by decide)).trans g9) (by have := hs3.1; omega) (by decide) (fun g3 q' hq' b' k8 ka x hx => ?_) (fun g3 q' hq' b' hf ka => ?_)
          · have e := ysk_u hq' hs3
            subst e
            have k12 : g3 12 = Int32.ofNat (d + 1) := (ka 12 (by decide)).trans j12
            rw [YM_gf, k12, YM_f, s12 d d8] at hx
            subst hx
            refine kk _ _ _ ((qst1_ne (by decide)).trans k8) ((qst1_ne (by decide)).trans ((ka 21 (by decide)).trans j21)) (fun j hj => ?_) r9 r10
            by_cases e : j = 12
            · subst e; rw [qst1_at]; exact g12.symm
            · have h8j : ¬ j = 8 := fun e' => hj (by rw [e']; decide)
              have h21j : ¬ j = 21 := fun e' => hj (by rw [e']; decide)
              rw [qst1_ne e, ka j (by simp only [List.mem_singleton]; exact h8j)]
              exact ja j (by simp only [List.mem_cons, List.not_mem_nil, or_false]; exact fun c => c.elim h8j (fun c => c.elim e h21j))
          · have e := ysk_u hq' hs3
            subst e
            exact absurd b41 b'
        · refine er w3 f4 S3 (n + l3.length) 1 (Int32.ofNat q3) ((ha4 2 (by decide)).trans h32) (by omega) e11 e12 (by decide) (yag_tr (yag_tr (yag_mo (by decide) ha2) (yag_mo (by decide) ha3)) (yag_mo (by decide) ha4)) ?_
          intro t g A4 A6 A9 A10 P' p' k hB g7 g8 g9 g12 g21 hs' hk kk
          refine mid t g A4 A6 A9 A10 P' p' k hB g7 g8 g9 g12 g21 hs' hk (fun g2 B9 B10 j8 j21 j12 ja r9 r10 => ?_)
          refine im_sign hB ((ja 7 (by decide)).trans g7) j8 ((ja 9 (by decide)).trans g9) (by have := hs3.1; omega) (by decide) (fun g3 q' hq' b' k8 ka x hx => ?_) (fun g3 q' hq' b' hf ka x hx => ?_)
          · have e := ysk_u hq' hs3
            subst e
            exact absurd b' b41
          · have e := ysk_u hq' hs3
            subst e
            rw [YM_f] at hx
            subst hx
            exact kk _ _ _ (YF_12 hf) (yag_st (by decide) (yag_tr (yag_mo (by decide) ja) (yag_mo (by decide) ka)))
      · intro w3 f3 S3 m kd pl h32 hm h11 h12 hk ha3 er3
        refine ⟨fun _ => er w3 f3 S3 m kd pl h32 hm h11 h12 hk (yag_tr (yag_mo (by decide) ha2) ha3) ?_, fun y => absurd rfl y⟩
        intro t g A4 A6 A9 A10 P' p' k hB g7 g8 g9 g12 g21 hs' hk' kk
        refine look t g A4 A6 A9 A10 P' p' hB g7 g8 g9 hs' (fun g1 i8 ia => ⟨fun y => absurd y z, fun _ _ => ?_, fun _ y => absurd b40 y⟩)
        refine im_opens (a := 1) i8 ((ia 12 (by decide)).trans g12) (by omega) d8 ?_
        refine er3 t _ A4 A6 A9 A10 _ p k hB ((qst1_ne (by decide)).trans ((qst1_ne (by decide)).trans ((ia 7 (by decide)).trans g7))) ((qst1_ne (by decide)).trans (qst1_at.trans (by rw [pe]))) ((qst1_ne (by decide)).trans ((qst1_ne (by decide)).trans ((ia 9 (by decide)).trans g9))) qst1_at ((qst1_ne (by decide)).trans ((qst1_ne (by decide)).trans ((ia 21 (by decide)).trans g21))) hs2 (by omega) (fun g2 B9 B10 hf ja => im_signF hf (fun x hx => ?_))
        rw [YM_f] at hx
        subst hx
        exact kk _ _ _ (YF_12 hf) (yag_st (by decide) (yag_tr (yag_st (by decide) (yag_st (by decide) (yag_mo (by decide) ia))) ja))
    · refine tooDeep (fun y => dz (lt8.mpr y)) _ ((qst1_ne (by decide)).trans qst1_at) (qst1_at.trans hY.2.1) (yag_st (by decide) (yag_st (by decide) yag_rf)) ?_
      have d8 : d = 8 := by
        have : ¬ d < 8 := fun y => dz (lt8.mpr y)
        omega
      have b40 := b1.mp y8
      intro t g A4 A6 A9 A10 P' p' k hB g7 g8 g9 g12 g21 hs' hk' kk
      refine look t g A4 A6 A9 A10 P' p' hB g7 g8 g9 hs' (fun g1 i8 ia => ⟨fun y => absurd y z, fun _ _ => ?_, fun _ y => absurd b40 y⟩)
      refine deep d8 1 (.inl rfl) t g1 A4 A6 A9 A10 _ ((ia 7 (by decide)).trans g7) i8 ((ia 9 (by decide)).trans g9) ((ia 12 (by decide)).trans g12) (fun g2 hf ja => d2 t g2 A4 A6 A9 A10 _ 3 (Int32.ofNat q) hB hf (fun g3 hf3 ka => im_signF hf3 (fun x hx => ?_)))
      rw [YM_f] at hx
      subst hx
      exact kk _ _ _ (YF_12 hf3) (yag_st (by decide) (yag_tr (yag_tr (yag_mo (by decide) ia) (yag_mo (by decide) ja)) (yag_mo (by decide) ka)))
    · exact absurd y (fun e => absurd (show Int32.ofNat m < 0 by rw [e]; decide) (q_n0 (by omega)))
    · sorry
    · sorry

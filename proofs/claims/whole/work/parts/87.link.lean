/-! numbers of the model; a token, class and model -/
theorem im_number {P : Int32 → zTs → Prop} {t : zTs} {B g A4 A6 A9 A10 : Nat → Int32} {L p : Nat} {lo hi : Int32} (hB : YB t B L) (h7 : g 7 = Int32.ofNat L) (h8 : g 8 = Int32.ofNat p) (h9 : g 9 = 0) (hp : p ≤ L) (hh : hi ≤ 9999)
    (no : ∀ g' q, ysk B L p q → ¬ ydig (B q) → YF L 1 (Int32.ofNat q) g' → yag [8, 9, 10] g g' → P 0 (YM t g' A4 A6 A9 A10))
    (bad : ∀ g' q e v, ysk B L p q → q < e → e ≤ L → (∀ j, q ≤ j → j < e → ydig (B j)) → ¬ ydig (B e) → ¬ (lo ≤ ynm B q (e - q) ∧ ynm B q (e - q) ≤ hi) → YF L 2 (Int32.ofNat q) g' → yag [8, 9, 10] g g' → P v (YM t g' A4 A6 A9 A10))
    (yes : ∀ g' q e, ysk B L p q → q < e → e ≤ L → (∀ j, q ≤ j → j < e → ydig (B j)) → ¬ ydig (B e) → lo ≤ ynm B q (e - q) → ynm B q (e - q) ≤ hi → g' 8 = Int32.ofNat e → yag [8] g g' → P (ynm B q (e - q)) (YM t g' A4 A6 A9 A10)) : w_X12_number (YM t g A4 A6 A9 A10) lo hi P := by
  have l4 := hB.1
  refine ⟨fun _ => im_blanks hB h7 h8 hp (fun g1 q hs k8 ka x hx => ?_), fun z => absurd (by rw [YM_gf, h9]; decide) z⟩
  have qL := hs.2.1
  have k7 : g1 7 = Int32.ofNat L := (ka 7 (by decide)).trans h7
  have k9 : g1 9 = 0 := (ka 9 (by decide)).trans h9
  rw [YM_gf, k8] at hx
  subst hx
  rw [YM_gf, k8]
  have loop : ydig (B q) → ∀ (u e : Nat) (m : Int32) (g2 : Nat → Int32), yag [8] g1 g2 → g2 8 = Int32.ofNat e → q ≤ e → e ≤ L → (∀ j, q ≤ j → j < e → ydig (B j)) → 0 ≤ m → m ≤ 1000009 → (m ≤ 10000 → ynm B q (e - q) = m) → (10000 ≤ m → ynm B q (e - q) = 10000) → L - e < u → w_X12_number_46 P u (YM t g2 A4 A6 A9 A10) lo hi (Int32.ofNat q) m := by
    intro dq u
    induction u with
    | zero => intro e m g2 a h8 h0 h1 h2 h3 h4 h5 h6 hu; omega
    | succ u ih =>
      intro e m g2 a h8' h0 h1 h2 h3 h4 h5 h6 hu
      have m7 : g2 7 = Int32.ofNat L := (a 7 (by decide)).trans k7
      have m9 : g2 9 = 0 := (a 9 (by decide)).trans k9
      have ab : yag [8] g g2 := yag_tr ka a
      rw [w_X12_number_46, YM_gf, h8']
      have ends : ¬ ydig (B e) → (m < lo → w_X12_number_117 P (YM t g2 A4 A6 A9 A10) (Int32.ofNat q) m) ∧ (¬ m < lo → (m ≤ hi → P m (YM t g2 A4 A6 A9 A10)) ∧ (¬ m ≤ hi → w_X12_number_117 P (YM t g2 A4 A6 A9 A10) (Int32.ofNat q) m)) := by
        intro hn
        have lt : q < e := by
          refine Nat.lt_of_le_of_ne h0 (fun z => hn ?_)
          rw [← z]; exact dq
        have w : ¬ (lo ≤ ynm B q (e - q) ∧ ynm B q (e - q) ≤ hi) → w_X12_number_117 P (YM t g2 A4 A6 A9 A10) (Int32.ofNat q) m := fun hb => im_wrong m7 h8' (by omega) m9 (by decide) (fun g3 hf ha => bad g3 q e m hs lt h1 h2 hn hb hf (yag_tr (yag_mo (by decide) ab) (yag_mo (by decide) ha)))
        by_cases c : m ≤ 10000
        · have em := h5 c
          refine ⟨fun z => w (fun y => ?_), fun z => ⟨fun z2 => ?_, fun z2 => w (fun y => ?_)⟩⟩
          · rw [em] at y; lia
          · have Y := yes g2 q e hs lt h1 h2 hn (by rw [em]; lia) (by rw [em]; exact z2) h8' ab
            rw [em] at Y
            exact Y
          · rw [em] at y; lia
        · have em := h6 (by lia)
          have nb : ¬ (lo ≤ ynm B q (e - q) ∧ ynm B q (e - q) ≤ hi) := by rw [em]; lia
          exact ⟨fun _ => w nb, fun _ => ⟨fun z2 => by exfalso; lia, fun _ => w nb⟩⟩
      refine im_byteAt hB m7 (by omega) ⟨fun z => ⟨fun _ => ends (fun y => by have := y.1; lia), fun y => absurd rfl y⟩, fun z => ⟨fun z2 => ⟨fun _ => ends (fun y => by have := y.2; lia), fun y => absurd rfl y⟩, fun z2 => ⟨fun y => absurd y (by decide), fun _ => ?_⟩⟩⟩
      have de : ydig (B e) := ⟨by lia, by lia⟩
      have eL : e < L := by
        refine Nat.lt_of_le_of_ne h1 (fun y => ?_)
        have := hB.2.1 e (by omega)
        lia
      have e1 : e + 1 - q = (e - q) + 1 := by omega
      have e2 : q + (e - q) = e := by omega
      have hm := y_nm (B := B) (q := q) (e - q) (fun j hj => h2 (q + j) (by omega) (by omega))
      have st : ∀ m', 0 ≤ m' → m' ≤ 1000009 → (m' ≤ 10000 → ynm B q (e + 1 - q) = m') → (10000 ≤ m' → ynm B q (e + 1 - q) = 10000) → w_X12_number_90 P (w_X12_number_46 P u) (YM t g2 A4 A6 A9 A10) lo hi (Int32.ofNat q) m' := by
        intro m' i1 i2 i3 i4 s es
        rw [YM_gf, h8', YM_f, q_os (by omega)] at es
        subst es
        refine ih (e + 1) m' _ (yag_st (by decide) a) qst1_at (by omega) (by omega) (fun j j1 j2 => ?_) i1 i2 i3 i4 (by omega)
        by_cases c : j = e
        · rw [c]; exact de
        · exact h2 j j1 (by omega)
      obtain ⟨d1, d2⟩ := de
      refine ⟨fun c => im_byteAt hB m7 (by omega) (st _ (by lia) (by lia) (fun c2 => ?_) (fun c2 => ?_)), fun c => st _ h3 h4 (fun c2 => by exfalso; lia) (fun c2 => ?_)⟩
      · rw [e1, ynm, e2]
        have em := h5 (by lia)
        rw [em, if_neg (by lia)]
      · rw [e1, ynm, e2]
        by_cases c3 : m ≤ 10000
        · rw [h5 c3]
          by_cases c4 : 10000 < 10 * m + B e - 48
          · rw [if_pos c4]
          · rw [if_neg c4]; lia
        · rw [h6 (by lia), if_pos (by lia)]
      · rw [e1, ynm, e2, h6 (by lia), if_pos (by lia)]
  refine im_byteAt hB k7 (by omega) ⟨fun z => ⟨fun _ => ?_, fun y => absurd rfl y⟩, fun z => ⟨fun z2 => ⟨fun _ => ?_, fun y => absurd rfl y⟩, fun z2 => ⟨fun y => absurd y (by decide), fun _ => ?_⟩⟩⟩
  · exact im_wrong k7 k8 (by omega) k9 (by decide) (fun g3 hf ha => no g3 q hs (fun y => by have := y.1; lia) hf (yag_tr (yag_mo (by decide) ka) (yag_mo (by decide) ha)))
  · exact im_wrong k7 k8 (by omega) k9 (by decide) (fun g3 hf ha => no g3 q hs (fun y => by have := y.2; lia) hf (yag_tr (yag_mo (by decide) ka) (yag_mo (by decide) ha)))
  · refine loop ⟨by lia, by lia⟩ zfu q 0 g1 yag_rf k8 (Nat.le_refl _) qL (fun j j1 j2 => by omega) (by decide) (by decide) (fun _ => ?_) (fun c => absurd c (by decide)) (by unfold zfu; omega)
    rw [Nat.sub_self]
    rfl
theorem y_inj : ∀ v w : Fin 24, zlen.getD v.1 0 = zlen.getD w.1 0 → (∀ j : Fin 8, j.1 < zlen.getD v.1 0 → (zbyt.getD v.1 []).getD j.1 0 = (zbyt.getD w.1 []).getD j.1 0) → v = w := by decide
theorem YT_w {B f : Nat → Int32} {L w q p v : Nat} (h : YT B L w f q p) (h0 : ∀ j, L ≤ j → B j = 0) (v1 : 1 ≤ v) (v2 : v < 24) : (ymt B q v ↔ w = v) ∧ (w = v → p = q + zlen.getD v 0) := by
  obtain ⟨-, -, -, qL, pL, hn, ht⟩ := h
  have l2 : 2 ≤ zlen.getD v 0 := y_l1 ⟨v, v2⟩ v1
  have l8 : zlen.getD v 0 < 8 := y_l8 ⟨v, v2⟩
  have nl : ¬ ylet (B q) → ¬ ymt B q v := by
    intro hl hm
    have e := hm.1 0 (by omega)
    have lt : 97 ≤ (zbyt.getD v []).getD 0 0 ∧ (zbyt.getD v []).getD 0 0 ≤ 122 := y_let ⟨v, v2⟩ ⟨0, by omega⟩ (by show 0 < zlen.getD v 0; omega)
    rw [e] at lt
    exact hl lt
  have nw : ¬ ylet (B q) → w = 0 → (ymt B q v ↔ w = v) ∧ (w = v → p = q + zlen.getD v 0) := fun hl hw => ⟨⟨fun m => absurd m (nl hl), fun e => by omega⟩, fun e => by omega⟩
  rcases ht with ⟨e1, e2, e3, -⟩ | ⟨e1, e2, e3, e4, ⟨w1, w2, w3⟩, -⟩ | ⟨e1, e2, e3, e4, e5, -⟩ | ⟨e1, e2, e3, e4, e5, -⟩
  · refine nw (fun hl => ?_) e3
    have := h0 q (by omega)
    have := hl.1
    lia
  · refine ⟨⟨fun hm => ?_, fun e => ?_⟩, fun e => ?_⟩
    · have pe : p = q + zlen.getD v 0 := by
        rcases Nat.lt_trichotomy (q + zlen.getD v 0) p with c | c | c
        · exact absurd (e3 _ (by omega) c) hm.2
        · exact c.symm
        · exfalso
          have e := hm.1 (p - q) (by omega)
          have lt : 97 ≤ (zbyt.getD v []).getD (p - q) 0 ∧ (zbyt.getD v []).getD (p - q) 0 ≤ 122 := y_let ⟨v, v2⟩ ⟨p - q, by omega⟩ (by show p - q < zlen.getD v 0; omega)
          rw [e, show q + (p - q) = p by omega] at lt
          exact e4 lt
      have mw : ymw B q p v := ⟨pe, hm.1⟩
      by_cases c : w = 0
      · exact absurd mw (w3 c v v1 v2)
      · have ww := w2 c
        have := y_inj ⟨w, w1⟩ ⟨v, v2⟩ (by show zlen.getD w 0 = zlen.getD v 0; have := ww.1; omega) (fun j hj => (ww.2 j.1 hj).trans (mw.2 j.1 (by have := ww.1; have : j.1 < zlen.getD w 0 := hj; omega)).symm)
        exact congrArg Fin.val this
    · have ww := w2 (by omega)
      rw [e] at ww
      refine ⟨ww.2, ?_⟩
      rw [← ww.1]
      exact e4
    · have ww := w2 (by omega)
      rw [e] at ww
      exact ww.1
  · exact nw (fun hl => by have := hl.1; have := e1.2; lia) e5
  · exact nw e3 e5
theorem YT_w24 {B f : Nat → Int32} {L w q p : Nat} (h : YT B L w f q p) : w < 24 := by
  obtain ⟨-, -, -, qL, pL, hn, ht⟩ := h
  rcases ht with ⟨e1, e2, e3, -⟩ | ⟨e1, e2, e3, e4, ⟨w1, w2, w3⟩, -⟩ | ⟨e1, e2, e3, e4, e5, -⟩ | ⟨e1, e2, e3, e4, e5, -⟩ <;> omega
theorem YT_sk {B f : Nat → Int32} {L w q p : Nat} (h : YT B L w f q p) : ysk B L q q := ⟨Nat.le_refl _, h.2.2.2.1, fun j j1 j2 => by omega, h.2.2.2.2.2.1⟩
/-- the token is a number, or none -/
theorem YT_n {B f : Nat → Int32} {L w q p : Nat} (h : YT B L w f q p) (h0 : ∀ j, L ≤ j → B j = 0) : (f 7 = -1 ∧ ¬ ydig (B q)) ∨ (ydig (B q) ∧ q < p ∧ (∀ j, q ≤ j → j < p → ydig (B j)) ∧ ¬ ydig (B p) ∧ f 7 = ynm B q (p - q) ∧ 0 ≤ f 7) := by
  obtain ⟨-, -, -, qL, pL, hn, ht⟩ := h
  rcases ht with ⟨e1, e2, e3, e4, -⟩ | ⟨e1, e2, e3, e4, -, e5, -⟩ | ⟨e1, e2, e3, e4, e5, e6, -⟩ | ⟨e1, e2, e3, e4, e5, e6, -⟩
  · refine .inl ⟨e4, fun z => ?_⟩
    have := h0 q (by omega)
    have := z.1
    lia
  · exact .inl ⟨e5, fun z => by have := z.2; have := e1.1; lia⟩
  · refine .inr ⟨e1, e2, e3, e4, e6, ?_⟩
    rw [e6]
    exact (y_nm (B := B) (q := q) (p - q) (fun j hj => e3 (q + j) (by omega) (by omega))).1
  · exact .inl ⟨e6, e4⟩
/-- the token is the sign c, or not -/
theorem YT_s {B f : Nat → Int32} {L w q p : Nat} {c : Int32} (h : YT B L w f q p) (h0 : ∀ j, L ≤ j → B j = 0) (hc : ¬ c = 0) (hl : ¬ ylet c) (hd : ¬ ydig c) : (f 8 = c ↔ B q = c) ∧ (f 8 = c → p = q + 1) := by
  obtain ⟨-, -, -, qL, pL, hn, ht⟩ := h
  rcases ht with ⟨e1, e2, e3, e4, e5⟩ | ⟨e1, e2, e3, e4, -, e5, e6⟩ | ⟨e1, e2, e3, e4, e5, e6, e7⟩ | ⟨e1, e2, e3, e4, e5, e6, e7⟩
  · rw [e5, h0 q (by omega)]
    exact ⟨Iff.rfl, fun z => absurd z.symm hc⟩
  · rw [e6]
    exact ⟨⟨fun z => absurd z.symm hc, fun z => absurd (by rw [← z]; exact e1) hl⟩, fun z => absurd z.symm hc⟩
  · rw [e7]
    exact ⟨⟨fun z => absurd z.symm hc, fun z => absurd (by rw [← z]; exact e1) hd⟩, fun z => absurd z.symm hc⟩
  · rw [e7]
    exact ⟨Iff.rfl, fun _ => e2⟩
theorem ysk_u {B : Nat → Int32} {L p q r : Nat} (a : ysk B L p q) (b : ysk B L p r) : q = r := by
  obtain ⟨a1, a2, a3, a4⟩ := a
  obtain ⟨b1, b2, b3, b4⟩ := b
  rcases Nat.lt_trichotomy q r with c | c | c
  · exact absurd (b3 q a1 c) a4
  · exact c
  · exact absurd (a3 r b1 c) b4
theorem ydg_u {B : Nat → Int32} {q e p : Nat} (e1 : q < e) (e2 : ∀ j, q ≤ j → j < e → ydig (B j)) (e3 : ¬ ydig (B e)) (p1 : q < p) (p2 : ∀ j, q ≤ j → j < p → ydig (B j)) (p3 : ¬ ydig (B p)) : e = p := by
  rcases Nat.lt_trichotomy e p with c | c | c
  · exact absurd (p2 e (by omega) c) e3
  · exact c
  · exact absurd (e2 p (by omega) c) p3

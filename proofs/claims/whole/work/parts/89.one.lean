/-! one piece of a condition -/
theorem i_takeSign {P : Int32 → zTs → Prop} {s : zTs} {L w q p : Nat} {f S B : Nat → Int32} {c : Int32} (hB : yTB (zgA s 43 0) B L) (hY : YT B L w f q p) (hc : ¬ c = 0) (hl : ¬ ylet c) (hd : ¬ ydig c)
    (yes : ∀ w' f' q' p', B q = c → ysk B L (q + 1) q' → YT B L w' f' q' p' → yag [4, 5, 7, 8] f f' → P 1 (YC s w' f' S))
    (no : ∀ f', ¬ B q = c → f' 11 = 1 → f' 12 = Int32.ofNat q → yag [11, 12] f f' → P 0 (YC s w f' S)) : w_X6_takeSign (YC s w f S) c P := by
  obtain ⟨e1, e2⟩ := YT_s hY hB.2.1 hc hl hd
  unfold w_X6_takeSign
  rw [YC_gf]
  refine ⟨fun z => ?_, fun z => i_fail ⟨.inl rfl, ?_⟩⟩
  · have pe := e2 z
    refine i_adv hB hY.1 hY.2.2.1 hY.2.2.2.2.1 (fun w' f' q' p' h1 h2 h3 => yes w' f' q' p' (e1.mp z) ?_ h2 h3)
    rw [← pe]; exact h1
  · exact no _ (fun y => z (e1.mpr y)) ((qst1_ne (by decide)).trans qst1_at) (qst1_at.trans hY.2.1) (yag_st (by decide) (yag_st (by decide) yag_rf))
theorem i_takeNumber {P : Int32 → zTs → Prop} {s : zTs} {L w q p : Nat} {f S B : Nat → Int32} {lo hi : Int32} (hB : yTB (zgA s 43 0) B L) (hY : YT B L w f q p)
    (yes : ∀ w' f' q' p', ydig (B q) → q < p → (∀ j, q ≤ j → j < p → ydig (B j)) → ¬ ydig (B p) → lo ≤ ynm B q (p - q) → ynm B q (p - q) ≤ hi → ysk B L p q' → YT B L w' f' q' p' → f' 9 = ynm B q (p - q) → yag [4, 5, 7, 8, 9] f f' → P 1 (YC s w' f' S))
    (no : ∀ f', ¬ ydig (B q) → f' 11 = 1 → f' 12 = Int32.ofNat q → yag [11, 12] f f' → P 0 (YC s w f' S))
    (bad : ∀ f', ydig (B q) → q < p → (∀ j, q ≤ j → j < p → ydig (B j)) → ¬ ydig (B p) → ¬ (lo ≤ ynm B q (p - q) ∧ ynm B q (p - q) ≤ hi) → f' 11 = 2 → f' 12 = Int32.ofNat q → yag [11, 12] f f' → P 0 (YC s w f' S)) : w_X6_takeNumber (YC s w f S) lo hi P := by
  unfold w_X6_takeNumber
  rw [YC_gf]
  rcases YT_n hY hB.2.1 with ⟨e, hn⟩ | ⟨d1, d2, d3, d4, d5, d6⟩
  · exact ⟨fun _ => i_fail ⟨.inl rfl, no _ hn ((qst1_ne (by decide)).trans qst1_at) (qst1_at.trans hY.2.1) (yag_st (by decide) (yag_st (by decide) yag_rf))⟩, fun z => absurd e z⟩
  · have F : ¬ (lo ≤ ynm B q (p - q) ∧ ynm B q (p - q) ≤ hi) → w_X6_takeNumber_30 P (YC s w f S) := fun hb => i_fail ⟨.inl rfl, bad _ d1 d2 d3 d4 hb ((qst1_ne (by decide)).trans qst1_at) (qst1_at.trans hY.2.1) (yag_st (by decide) (yag_st (by decide) yag_rf))⟩
    rw [d5]
    refine ⟨fun z => by exfalso; rw [d5, z] at d6; revert d6; decide, fun _ => ⟨fun z => F (by lia), fun z => ⟨fun z2 t ht => ?_, fun z2 => F (by lia)⟩⟩⟩
    rw [YC_f] at ht
    subst ht
    refine i_adv hB ((qst1_ne (by decide)).trans hY.1) ((qst1_ne (by decide)).trans hY.2.2.1) hY.2.2.2.2.1 (fun w' f' q' p' h1 h2 h3 => yes w' f' q' p' d1 d2 d3 d4 (by lia) z2 h1 h2 ((h3 9 (by decide)).trans qst1_at) (yag_tr (yag_st (by decide) yag_rf) (yag_mo (by decide) h3)))
theorem im_opens {P : zTs → Prop} {t : zTs} {g A4 A6 A9 A10 : Nat → Int32} {p a d : Nat} (h8 : g 8 = Int32.ofNat p) (h12 : g 12 = Int32.ofNat d) (hp : p + a ≤ 1000) (hd : d < 8) (h : P (YM t (qst1 (qst1 g 8 (Int32.ofNat (p + a))) 12 (Int32.ofNat (d + 1))) A4 A6 A9 A10)) : w_X12_opens (YM t g A4 A6 A9 A10) (Int32.ofNat a) P := by
  refine ⟨fun z => ?_, fun _ x ex y ey => ?_⟩
  · exfalso
    rw [YM_gf, h12] at z
    have := congrArg Int32.toNatClampNeg z
    rw [q_on (by omega), show (8 : Int32).toNatClampNeg = 8 from rfl] at this
    omega
  · rw [YM_gf, h8, YM_f, q_nadd (by omega)] at ex
    subst ex
    rw [YM_gf, YM_f, qst1_ne (by decide), h12, q_os (by omega)] at ey
    subst ey
    exact h
theorem im_opensF {P : zTs → Prop} {t : zTs} {g A4 A6 A9 A10 : Nat → Int32} {L p a : Nat} (h7 : g 7 = Int32.ofNat L) (h8 : g 8 = Int32.ofNat p) (h9 : g 9 = 0) (h12 : g 12 = Int32.ofNat 8) (hp : p + a ≤ 1000) (h : ∀ g', YF L 3 (Int32.ofNat p) g' → yag [8, 9, 10, 12] g g' → P (YM t g' A4 A6 A9 A10)) : w_X12_opens (YM t g A4 A6 A9 A10) (Int32.ofNat a) P := by
  refine ⟨fun _ => ?_, fun z => absurd (YM_gf.trans h12) z⟩
  rw [YM_gf, h8]
  refine im_wrong h7 h8 (by omega) h9 (by decide) (fun g' hf ha x ex y ey => ?_)
  have k8 : g' 8 = Int32.ofNat p := (ha 8 (by decide)).trans h8
  obtain ⟨f7, f9, f10, fk, -⟩ := hf
  rw [YM_gf, k8, YM_f, q_nadd (by omega)] at ex
  subst ex
  rw [YM_f] at ey
  subst ey
  exact h _ ⟨(qst1_ne (by decide)).trans ((qst1_ne (by decide)).trans f7), (qst1_ne (by decide)).trans ((qst1_ne (by decide)).trans f9), (qst1_ne (by decide)).trans ((qst1_ne (by decide)).trans f10), fk, p + a, (qst1_ne (by decide)).trans qst1_at, hp⟩ (yag_st (by decide) (yag_st (by decide) (yag_mo (by decide) ha)))
theorem YF_12 {L : Nat} {kd pl x : Int32} {g : Nat → Int32} (h : YF L kd pl g) : YF L kd pl (qst1 g 12 x) := by
  obtain ⟨f7, f9, f10, fk, p, f8, hp⟩ := h
  exact ⟨(qst1_ne (by decide)).trans f7, (qst1_ne (by decide)).trans f9, (qst1_ne (by decide)).trans f10, fk, p, (qst1_ne (by decide)).trans f8, hp⟩
theorem i_measure {P : Int32 → Prop} {s : zTs} {w : Nat} (hw : w < 24) (m : ∀ k, k < 3 → w = 21 + k → P (Int32.ofNat k)) (no : ¬ w = 21 → ¬ w = 22 → ¬ w = 23 → P (-1)) : w_X6_measureOf s w P := by
  have tab : ∀ v : Fin 24, vp_in (zwo.getD v.1 0) 24 ∧ (zsm.getD ((zwo.getD v.1 0).toNatClampNeg) 0 = 14 → v.1 = 21) ∧ (zsm.getD ((zwo.getD v.1 0).toNatClampNeg) 0 = 15 → v.1 = 22) ∧ (zsm.getD ((zwo.getD v.1 0).toNatClampNeg) 0 = 16 → v.1 = 23) ∧ (¬ zsm.getD ((zwo.getD v.1 0).toNatClampNeg) 0 = 14 ∧ ¬ zsm.getD ((zwo.getD v.1 0).toNatClampNeg) 0 = 15 ∧ ¬ zsm.getD ((zwo.getD v.1 0).toNatClampNeg) 0 = 16 → ¬ v.1 = 21 ∧ ¬ v.1 = 22 ∧ ¬ v.1 = 23) := by
    unfold vp_in
    decide
  obtain ⟨t1, t2, t3, t4, t5⟩ := tab ⟨w, hw⟩
  refine ⟨hw, hw, t1, fun z => m 0 (by omega) (t2 z), fun z => m 1 (by omega) (t3 z), fun z => m 2 (by omega) (t4 z), fun z => ?_⟩
  obtain ⟨x1, x2, x3⟩ := t5 z
  exact no x1 x2 x3

/-! the model starts to read a rule -/
theorem im_rule {s : zTs} {B : Nat → Int32} {L q : Nat} {P : Int32 → zTs → Prop} (hB : YB s B L) (hl : Int32.ofNat L ≤ zgF s 100 0 6) (hs : ysk B L 0 q)
    (h : ∀ g A4 A6, YMS B L s g q 0 → g 8 = Int32.ofNat q → g 10 = -1 → g 6 = 0 → g 0 = 0 → yag [0, 6, 7, 8, 9, 10, 12, 21] (zgF s 100 0) g → (∀ j, j < 15 → A4 j = ytb j) → (∀ j, j < 4 → A6 j = -1) → w_X12_rule_67 P zfu (YM s g A4 A6 (zgA s 109 0) (zgA s 110 0)) 0) : w_X12_rule s (Int32.ofNat L) P := by
  have l4 := hB.1
  intro a ea
  rw [← YM_self (t := s), YM_f] at ea
  subst ea
  rw [YM_gf, qst1_ne (by decide)]
  refine ⟨fun z => absurd z (q_n0 (by omega)), fun _ => ⟨fun _ => i_bad0 ⟨fun _ b eb c ec d ed e ee f ef => ?_, fun z => absurd rfl z⟩, fun z => absurd hl z⟩⟩
  rw [YM_f] at eb
  subst eb
  rw [YM_f] at ec
  subst ec
  rw [YM_f] at ed
  subst ed
  rw [YM_f] at ee
  subst ee
  rw [YM_f] at ef
  subst ef
  refine im_starts (fun g' A4' A6' k21 k12 ka h4 h6 => ?_)
  have g7 : g' 7 = Int32.ofNat L := (ka 7 (by decide)).trans rfl
  have g8 : g' 8 = Int32.ofNat 0 := (ka 8 (by decide)).trans rfl
  have g9 : g' 9 = 0 := (ka 9 (by decide)).trans rfl
  refine im_blanks hB g7 g8 (Nat.zero_le _) (fun g2 q2 hs2 j8 ja => ?_)
  have e := ysk_u hs2 hs
  subst e
  have sq : ysk B L q2 q2 := ⟨Nat.le_refl _, hs.2.1, fun j j1 j2 => by omega, hs.2.2.2⟩
  refine h g2 A4' A6' ⟨hB, (ja 7 (by decide)).trans g7, (ja 9 (by decide)).trans g9, (ja 12 (by decide)).trans k12, (ja 21 (by decide)).trans k21, q2, j8, sq⟩ j8 ((ja 10 (by decide)).trans ((ka 10 (by decide)).trans rfl)) ((ja 6 (by decide)).trans ((ka 6 (by decide)).trans rfl)) ((ja 0 (by decide)).trans ((ka 0 (by decide)).trans rfl)) ?_ h4 h6
  exact yag_tr (yag_tr (yag_st (by decide) (yag_st (by decide) (yag_st (by decide) (yag_st (by decide) (yag_st (by decide) (yag_st (by decide) yag_rf)))))) (yag_mo (by decide) ka)) (yag_mo (by decide) ja)

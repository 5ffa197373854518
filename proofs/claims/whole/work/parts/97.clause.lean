/-! a clause -/
theorem im_wordOf {P : Nat → Prop} {t : zTs} {r : Nat} (hr : r < 14) (h : P (r + 1)) : w_X12_wordOf t (Int32.ofNat r) P := by
  match r, hr with
  | 0, _ => exact ⟨fun _ => h, fun z => by exfalso; revert z; decide, fun z => by exfalso; revert z; decide, fun z => by exfalso; revert z; decide, fun z => by exfalso; revert z; decide, fun z => by exfalso; revert z; decide, fun z => by exfalso; revert z; decide, fun z => by exfalso; revert z; decide, fun z => by exfalso; revert z; decide, fun z => by exfalso; revert z; decide, fun z => by exfalso; revert z; decide, fun z => by exfalso; revert z; decide, fun z => by exfalso; revert z; decide, fun z => by exfalso; revert z; decide⟩
  | 1, _ => exact ⟨fun z => by exfalso; revert z; decide, fun _ => h, fun z => by exfalso; revert z; decide, fun z => by exfalso; revert z; decide, fun z => by exfalso; revert z; decide, fun z => by exfalso; revert z; decide, fun z => by exfalso; revert z; decide, fun z => by exfalso; revert z; decide, fun z => by exfalso; revert z; decide, fun z => by exfalso; revert z; decide, fun z => by exfalso; revert z; decide, fun z => by exfalso; revert z; decide, fun z => by exfalso; revert z; decide, fun z => by exfalso; revert z; decide⟩
  | 2, _ => exact ⟨fun z => by exfalso; revert z; decide, fun z => by exfalso; revert z; decide, fun _ => h, fun z => by exfalso; revert z; decide, fun z => by exfalso; revert z; decide, fun z => by exfalso; revert z; decide, fun z => by exfalso; revert z; decide, fun z => by exfalso; revert z; decide, fun z => by exfalso; revert z; decide, fun z => by exfalso; revert z; decide, fun z => by exfalso; revert z; decide, fun z => by exfalso; revert z; decide, fun z => by exfalso; revert z; decide, fun z => by exfalso; revert z; decide⟩
  | 3, _ => exact ⟨fun z => by exfalso; revert z; decide, fun z => by exfalso; revert z; decide, fun z => by exfalso; revert z; decide, fun _ => h, fun z => by exfalso; revert z; decide, fun z => by exfalso; revert z; decide, fun z => by exfalso; revert z; decide, fun z => by exfalso; revert z; decide, fun z => by exfalso; revert z; decide, fun z => by exfalso; revert z; decide, fun z => by exfalso; revert z; decide, fun z => by exfalso; revert z; decide, fun z => by exfalso; revert z; decide, fun z => by exfalso; revert z; decide⟩
  | 4, _ => exact ⟨fun z => by exfalso; revert z; decide, fun z => by exfalso; revert z; decide, fun z => by exfalso; revert z; decide, fun z => by exfalso; revert z; decide, fun _ => h, fun z => by exfalso; revert z; decide, fun z => by exfalso; revert z; decide, fun z => by exfalso; revert z; decide, fun z => by exfalso; revert z; decide, fun z => by exfalso; revert z; decide, fun z => by exfalso; revert z; decide, fun z => by exfalso; revert z; decide, fun z => by exfalso; revert z; decide, fun z => by exfalso; revert z; decide⟩
  | 5, _ => exact ⟨fun z => by exfalso; revert z; decide, fun z => by exfalso; revert z; decide, fun z => by exfalso; revert z; decide, fun z => by exfalso; revert z; decide, fun z => by exfalso; revert z; decide, fun _ => h, fun z => by exfalso; revert z; decide, fun z => by exfalso; revert z; decide, fun z => by exfalso; revert z; decide, fun z => by exfalso; revert z; decide, fun z => by exfalso; revert z; decide, fun z => by exfalso; revert z; decide, fun z => by exfalso; revert z; decide, fun z => by exfalso; revert z; decide⟩
  | 6, _ => exact ⟨fun z => by exfalso; revert z; decide, fun z => by exfalso; revert z; decide, fun z => by exfalso; revert z; decide, fun z => by exfalso; revert z; decide, fun z => by exfalso; revert z; decide, fun z => by exfalso; revert z; decide, fun _ => h, fun z => by exfalso; revert z; decide, fun z => by exfalso; revert z; decide, fun z => by exfalso; revert z; decide, fun z => by exfalso; revert z; decide, fun z => by exfalso; revert z; decide, fun z => by exfalso; revert z; decide, fun z => by exfalso; revert z; decide⟩
  | 7, _ => exact ⟨fun z => by exfalso; revert z; decide, fun z => by exfalso; revert z; decide, fun z => by exfalso; revert z; decide, fun z => by exfalso; revert z; decide, fun z => by exfalso; revert z; decide, fun z => by exfalso; revert z; decide, fun z => by exfalso; revert z; decide, fun _ => h, fun z => by exfalso; revert z; decide, fun z => by exfalso; revert z; decide, fun z => by exfalso; revert z; decide, fun z => by exfalso; revert z; decide, fun z => by exfalso; revert z; decide, fun z => by exfalso; revert z; decide⟩
  | 8, _ => exact ⟨fun z => by exfalso; revert z; decide, fun z => by exfalso; revert z; decide, fun z => by exfalso; revert z; decide, fun z => by exfalso; revert z; decide, fun z => by exfalso; revert z; decide, fun z => by exfalso; revert z; decide, fun z => by exfalso; revert z; decide, fun z => by exfalso; revert z; decide, fun _ => h, fun z => by exfalso; revert z; decide, fun z => by exfalso; revert z; decide, fun z => by exfalso; revert z; decide, fun z => by exfalso; revert z; decide, fun z => by exfalso; revert z; decide⟩
  | 9, _ => exact ⟨fun z => by exfalso; revert z; decide, fun z => by exfalso; revert z; decide, fun z => by exfalso; revert z; decide, fun z => by exfalso; revert z; decide, fun z => by exfalso; revert z; decide, fun z => by exfalso; revert z; decide, fun z => by exfalso; revert z; decide, fun z => by exfalso; revert z; decide, fun z => by exfalso; revert z; decide, fun _ => h, fun z => by exfalso; revert z; decide, fun z => by exfalso; revert z; decide, fun z => by exfalso; revert z; decide, fun z => by exfalso; revert z; decide⟩
  | 10, _ => exact ⟨fun z => by exfalso; revert z; decide, fun z => by exfalso; revert z; decide, fun z => by exfalso; revert z; decide, fun z => by exfalso; revert z; decide, fun z => by exfalso; revert z; decide, fun z => by exfalso; revert z; decide, fun z => by exfalso; revert z; decide, fun z => by exfalso; revert z; decide, fun z => by exfalso; revert z; decide, fun z => by exfalso; revert z; decide, fun _ => h, fun z => by exfalso; revert z; decide, fun z => by exfalso; revert z; decide, fun z => by exfalso; revert z; decide⟩
  | 11, _ => exact ⟨fun z => by exfalso; revert z; decide, fun z => by exfalso; revert z; decide, fun z => by exfalso; revert z; decide, fun z => by exfalso; revert z; decide, fun z => by exfalso; revert z; decide, fun z => by exfalso; revert z; decide, fun z => by exfalso; revert z; decide, fun z => by exfalso; revert z; decide, fun z => by exfalso; revert z; decide, fun z => by exfalso; revert z; decide, fun z => by exfalso; revert z; decide, fun _ => h, fun z => by exfalso; revert z; decide, fun z => by exfalso; revert z; decide⟩
  | 12, _ => exact ⟨fun z => by exfalso; revert z; decide, fun z => by exfalso; revert z; decide, fun z => by exfalso; revert z; decide, fun z => by exfalso; revert z; decide, fun z => by exfalso; revert z; decide, fun z => by exfalso; revert z; decide, fun z => by exfalso; revert z; decide, fun z => by exfalso; revert z; decide, fun z => by exfalso; revert z; decide, fun z => by exfalso; revert z; decide, fun z => by exfalso; revert z; decide, fun z => by exfalso; revert z; decide, fun _ => h, fun z => by exfalso; revert z; decide⟩
  | 13, _ => exact ⟨fun z => by exfalso; revert z; decide, fun z => by exfalso; revert z; decide, fun z => by exfalso; revert z; decide, fun z => by exfalso; revert z; decide, fun z => by exfalso; revert z; decide, fun z => by exfalso; revert z; decide, fun z => by exfalso; revert z; decide, fun z => by exfalso; revert z; decide, fun z => by exfalso; revert z; decide, fun z => by exfalso; revert z; decide, fun z => by exfalso; revert z; decide, fun z => by exfalso; revert z; decide, fun z => by exfalso; revert z; decide, fun _ => h⟩
theorem im_wordHere {P : Int32 → zTs → Prop} {t : zTs} {B f g A4 A6 A9 A10 : Nat → Int32} {L w q p k : Nat} (h0 : ∀ j, L ≤ j → B j = 0) (hY : YT B L w f q p) (hM : YMS B L t g q k)
    (yes : ∀ g' r, r < 14 → w = r + 1 → g' 8 = Int32.ofNat q → yag [8] g g' → P (Int32.ofNat r) (YM t g' A4 A6 A9 A10))
    (no : ∀ g', (w = 0 ∨ 14 < w) → g' 8 = Int32.ofNat q → yag [8] g g' → P (-1) (YM t g' A4 A6 A9 A10)) : w_X12_wordHere (YM t g A4 A6 A9 A10) P := by
  obtain ⟨hB, g7, g9, g12, g21, p', g8, hs'⟩ := hM
  have l4 := hB.1
  have w24 := YT_w24 hY
  have key : ∀ (u r : Nat) (g1 : Nat → Int32) (e : Nat), r ≤ 14 → 15 - r ≤ u → (∀ i, i < r → ¬ w = i + 1) → g1 8 = Int32.ofNat e → ysk B L e q → yag [8] g g1 → (r = 14 → e = q) → w_X12_wordHere_2 P u (YM t g1 A4 A6 A9 A10) (Int32.ofNat r) := by
    intro u
    induction u with
    | zero => intro r g1 e h1 h2; omega
    | succ u ih =>
      intro r g1 e h1 h2 h3 h8 hs ha h14
      rw [w_X12_wordHere_2]
      have c13 : (13 : Int32) < Int32.ofNat r ↔ 13 < r := by
        rw [← Int32.not_le, show (13 : Int32) = Int32.ofNat 13 from rfl, q_nle (by omega) (by omega)]
        omega
      refine ⟨fun z => ?_, fun z => ?_⟩
      · rw [c13] at z
        refine no g1 ?_ (by rw [h8, h14 (by omega)]) ha
        by_cases c : w = 0
        · exact .inl c
        · refine .inr (Nat.lt_of_not_le (fun y => h3 (w - 1) (by omega) (by omega)))
      · rw [c13] at z
        obtain ⟨n1, n2⟩ := YT_w (v := r + 1) hY h0 (by omega) (by omega)
        refine im_wordOf (by omega) (im_isWord hB ((ha 7 (by decide)).trans g7) h8 (by have := hs.1; have := hs.2.1; omega) (by omega) (fun g2 q2 hs2 k8 ka => ?_))
        have e' := ysk_u hs2 hs
        subst e'
        refine ⟨fun m => ⟨fun y => absurd y (by decide), fun _ => yes g2 r (by omega) (n1.mp m) k8 (yag_tr ha ka)⟩, fun m => ⟨fun _ x hx => ?_, fun y => absurd rfl y⟩⟩
        subst hx
        rw [q_os (by omega)]
        refine ih (r + 1) g2 q2 (by omega) (by omega) (fun i hi => ?_) k8 (YT_sk hY) (yag_tr ha ka) (fun _ => rfl)
        by_cases c : i = r
        · subst c; exact fun y => m (n1.mpr y)
        · exact h3 i (by omega)
  exact key zfu 0 g p' (by omega) (by unfold zfu; omega) (fun i hi => by omega) g8 hs' yag_rf (fun y => by omega)
theorem GRr_0 {A4 F A F' : Nat → Int32} (hF : ∀ i, ¬ i = 0 → F' i = F i) (h : GRr A4 F A) : GRr A4 F' A := by
  unfold GRr at h ⊢
  rw [hF 3 (by decide), hF 4 (by decide), hF 5 (by decide), hF 6 (by decide), hF 7 (by decide), hF 8 (by decide), hF 9 (by decide), hF 10 (by decide), hF 11 (by decide), hF 12 (by decide), hF 13 (by decide)]
  exact h
/-- the body of the clause of the word r + 1, in the model -/
def yMX (r : Nat) (K : zTs → Prop) (st : zTs) : Prop := if r < 4 then MBn r st K else if r = 5 then MBr st K else if r = 7 then MBq st K else if r = 13 then MBh st K else MBs r (yhi (r + 1)) st K
theorem im_clause {P : zTs → Prop} {t : zTs} {B f g A4 A6 A9 A10 : Nat → Int32} {L w q p k r : Nat} (h0 : ∀ j, L ≤ j → B j = 0) (hY : YT B L w f q p) (hM : YMS B L t g q k) (hr : r < 14) (hw : w = r + 1) (h : ∀ g', g' 8 = Int32.ofNat p → yag [8] g g' → yMX r (w_X12_clause_307 P) (YM t g' A4 A6 A9 A10)) : w_X12_clause (YM t g A4 A6 A9 A10) P := by
  refine im_wordHere h0 hY hM (fun g1 r1 hr1 hw1 k8 ka => ⟨fun _ => ?_, fun y => absurd (Int32.not_lt.mp (q_n0 (by omega))) y⟩) (fun g1 hw1 k8 ka => by exfalso; omega)
  have e : r1 = r := by omega
  subst e
  have l4 := hM.1.1
  have qL := hY.2.2.2.1
  obtain ⟨n1, n2⟩ := YT_w (v := r1 + 1) hY h0 (by omega) (by omega)
  have pe := n2 hw
  have pL := hY.2.2.2.2.1
  refine im_wordOf hr ⟨by omega, i_len (by omega) (fun s32 e32 => ?_)⟩
  rw [YM_gf, k8, q_nadd (by omega), YM_f, ← pe] at e32
  subst e32
  have H := h _ qst1_at (yag_st (by decide) ka)
  have c4 : (4 : Int32) ≤ Int32.ofNat r1 ↔ 4 ≤ r1 := by
    rw [show (4 : Int32) = Int32.ofNat 4 from rfl, q_nle (by omega) (by omega)]
  have inj : ∀ m : Nat, m < 100 → (Int32.ofNat r1 = Int32.ofNat m ↔ r1 = m) := by
    intro m hm
    refine ⟨fun z => ?_, fun z => by rw [z]⟩
    have := congrArg Int32.toNatClampNeg z
    rwa [q_on (by omega), q_on (by omega)] at this
  have i5 : Int32.ofNat r1 = 5 ↔ r1 = 5 := inj 5 (by omega)
  have i7 : Int32.ofNat r1 = 7 ↔ r1 = 7 := inj 7 (by omega)
  have i13 : Int32.ofNat r1 = 13 ↔ r1 = 13 := inj 13 (by omega)
  have i10 : Int32.ofNat r1 = 10 ↔ r1 = 10 := inj 10 (by omega)
  unfold yMX at H
  refine ⟨fun z => ?_, fun z => ?_⟩
  · rw [c4] at z
    rw [if_neg (by omega)] at H
    refine ⟨fun y => ?_, fun y => ⟨fun y2 => ?_, fun y2 => ⟨fun y3 => ?_, fun y3 => ⟨fun y4 => ?_, fun y4 => ?_⟩⟩⟩⟩
    · rw [i5] at y
      rw [if_pos y] at H
      subst y
      obtain ⟨v, H⟩ := H
      refine ⟨v, fun s e => ?_⟩
      rw [yM108_eq]
      exact H s e
    · rw [i5] at y
      rw [i7] at y2
      rw [if_neg y, if_pos y2] at H
      subst y2
      exact H
    · rw [i5] at y
      rw [i7] at y2
      rw [i13] at y3
      rw [if_neg y, if_neg y2, if_pos y3] at H
      exact H
    · rw [i5] at y
      rw [i7] at y2
      rw [i13] at y3
      rw [i10] at y4
      rw [if_neg y, if_neg y2, if_neg y3] at H
      subst y4
      exact H
    · rw [i5] at y
      rw [i7] at y2
      rw [i13] at y3
      rw [i10] at y4
      rw [if_neg y, if_neg y2, if_neg y3, show yhi (r1 + 1) = 400 from if_neg (by omega)] at H
      exact H
  · rw [c4] at z
    rw [if_pos (by omega)] at H
    exact H

/-! the model's reading, its small steps -/
def YB (t : zTs) (B : Nat → Int32) (L : Nat) : Prop := L ≤ 400 ∧ (∀ q, L ≤ q → B q = 0) ∧ (∀ q, q < L → (zgA t 102 0 q &&& 255) = B q) ∧ ∀ q, 0 ≤ B q ∧ B q ≤ 255
def ymt (B : Nat → Int32) (q v : Nat) : Prop := (∀ j, j < zlen.getD v 0 → (zbyt.getD v []).getD j 0 = B (q + j)) ∧ ¬ ylet (B (q + zlen.getD v 0))
/-- a fault told: its kind, its place -/
def YF (L : Nat) (kd pl : Int32) (g : Nat → Int32) : Prop := g 7 = Int32.ofNat L ∧ g 9 = kd ∧ g 10 = pl ∧ 0 < kd ∧ ∃ p, g 8 = Int32.ofNat p ∧ p ≤ 1000
theorem im_byteAt {P : Int32 → Prop} {t : zTs} {B g A4 A6 A9 A10 : Nat → Int32} {L p : Nat} (hB : YB t B L) (h7 : g 7 = Int32.ofNat L) (hp : p ≤ 2000) (h : P (B p)) : w_X12_byteAt (YM t g A4 A6 A9 A10) (Int32.ofNat p) P := by
  obtain ⟨l4, hz, ht, -⟩ := hB
  unfold w_X12_byteAt
  rw [YM_gf, h7, q_on (by omega), YM_ga (k := 102) (by decide) (by decide) (by decide) (by decide)]
  refine ⟨fun z => ?_, fun z => ?_⟩
  · rw [q_nle (by omega) (by omega)] at z
    rw [← hz p z]; exact h
  · rw [q_nle (by omega) (by omega)] at z
    refine ⟨q_nv (by omega) (by omega), ?_⟩
    rw [ht p (by omega)]; exact h
theorem im_blanks0 {P : zTs → Prop} {t : zTs} {B g0 A4 A6 A9 A10 : Nat → Int32} {L p0 : Nat} (hB : YB t B L)
    (h : ∀ g' q, p0 ≤ q → q ≤ 1000 → (p0 ≤ L → ysk B L p0 q) → g' 8 = Int32.ofNat q → yag [8] g0 g' → P (YM t g' A4 A6 A9 A10)) : ∀ (u p : Nat) (g : Nat → Int32), g 7 = Int32.ofNat L → g 8 = Int32.ofNat p → yag [8] g0 g → p0 ≤ p → p ≤ 1000 → (p0 ≤ L → p ≤ L) → (∀ j, p0 ≤ j → j < p → B j = 32) → L - p < u → w_X12_blanks_0 P u (YM t g A4 A6 A9 A10) := by
  obtain ⟨l4, hz, ht, h2⟩ := id hB
  intro u
  induction u with
  | zero => intro p g h7 h8 ha h0 h1 h2 h3 h9; omega
  | succ u ih =>
    intro p g h7 h8 ha h0 h1 h2 h3 h9
    rw [w_X12_blanks_0, YM_gf, YM_gf, h7, h8]
    have fin : ¬ B p = 32 → P (YM t g A4 A6 A9 A10) := fun hn => h g p h0 h1 (fun l => ⟨h0, h2 l, h3, hn⟩) h8 ha
    refine ⟨fun z => ?_, fun z => im_byteAt hB h7 (by omega) ⟨fun y s e => ?_, fun y => fin y⟩⟩
    · rw [q_nle (by omega) (by omega)] at z
      exact fin (by rw [hz p z]; decide)
    · rw [q_nle (by omega) (by omega)] at z
      rw [YM_f, q_os (by omega)] at e
      subst e
      refine ih (p + 1) _ ((qst1_ne (by decide)).trans h7) qst1_at (yag_st (by decide) ha) (by omega) (by omega) (by omega) (fun j j1 j2 => ?_) (by omega)
      by_cases e : j = p
      · rw [e]; exact y
      · exact h3 j j1 (by omega)
theorem im_blanks {P : zTs → Prop} {t : zTs} {B g A4 A6 A9 A10 : Nat → Int32} {L p : Nat} (hB : YB t B L) (h7 : g 7 = Int32.ofNat L) (h8 : g 8 = Int32.ofNat p) (hp : p ≤ L)
    (h : ∀ g' q, ysk B L p q → g' 8 = Int32.ofNat q → yag [8] g g' → P (YM t g' A4 A6 A9 A10)) : w_X12_blanks (YM t g A4 A6 A9 A10) P :=
  im_blanks0 hB (fun g' q _ _ k k8 ka => h g' q (k hp) k8 ka) zfu p g h7 h8 yag_rf (Nat.le_refl _) (by have := hB.1; omega) (fun z => z) (fun j j1 j2 => by omega) (by have := hB.1; unfold zfu; omega)
theorem im_blanksF {P : zTs → Prop} {t : zTs} {B g A4 A6 A9 A10 : Nat → Int32} {L : Nat} {kd pl : Int32} (hB : YB t B L) (hf : YF L kd pl g)
    (h : ∀ g', YF L kd pl g' → yag [8] g g' → P (YM t g' A4 A6 A9 A10)) : w_X12_blanks (YM t g A4 A6 A9 A10) P := by
  obtain ⟨h7, h9, h10, hk, p, h8, hp⟩ := hf
  exact im_blanks0 hB (fun g' q _ q1 _ k8 ka => h g' ⟨(ka 7 (by decide)).trans h7, (ka 9 (by decide)).trans h9, (ka 10 (by decide)).trans h10, hk, q, k8, q1⟩ ka) zfu p g h7 h8 yag_rf (Nat.le_refl _) hp (fun z => z) (fun j j1 j2 => by omega) (by have := hB.1; unfold zfu; omega)
theorem im_isWord {P : Int32 → zTs → Prop} {t : zTs} {B g A4 A6 A9 A10 : Nat → Int32} {L p v : Nat} (hB : YB t B L) (h7 : g 7 = Int32.ofNat L) (h8 : g 8 = Int32.ofNat p) (hp : p ≤ L) (hv : v < 24)
    (h : ∀ g' q, ysk B L p q → g' 8 = Int32.ofNat q → yag [8] g g' → (ymt B q v → P 1 (YM t g' A4 A6 A9 A10)) ∧ (¬ ymt B q v → P 0 (YM t g' A4 A6 A9 A10))) : w_X12_isWord (YM t g A4 A6 A9 A10) v P := by
  have l8 : zlen.getD v 0 < 8 := y_l8 ⟨v, hv⟩
  have v4 : v < 34 := by omega
  have l4 := hB.1
  refine im_blanks hB h7 h8 hp (fun g' q hs k8 ka => ?_)
  obtain ⟨yes, no⟩ := h g' q hs k8 ka
  have k7 : g' 7 = Int32.ofNat L := (ka 7 (by decide)).trans h7
  have qL := hs.2.1
  have key : ∀ (u j : Nat), j ≤ zlen.getD v 0 → (∀ i, i < j → (zbyt.getD v []).getD i 0 = B (q + i)) → zlen.getD v 0 - j < u → w_X12_isWord_6 P u (YM t g' A4 A6 A9 A10) v (Int32.ofNat j) := by
    intro u
    induction u with
    | zero => intro j h0 h1 h2; omega
    | succ u ih =>
      intro j h0 h1 h2
      rw [w_X12_isWord_6, YM_gf, k8, q_nadd (by omega)]
      refine ⟨v4, i_len hv ⟨fun z => ⟨v4, i_len hv ?_⟩, fun z => im_byteAt hB k7 (by omega) ⟨v4, ?_⟩⟩⟩
      · rw [q_nle (by omega) (by omega)] at z
        rw [q_nadd (by omega)]
        have m : ∀ i, i < zlen.getD v 0 → (zbyt.getD v []).getD i 0 = B (q + i) := fun i hi => h1 i (by omega)
        exact im_byteAt hB k7 (by omega) ⟨fun c => yes ⟨m, fun l => by have := l.1; lia⟩, fun c => ⟨fun c2 => no (fun l => l.2 ⟨by lia, c2⟩), fun c2 => yes ⟨m, fun l => c2 l.2⟩⟩⟩
      · rw [q_nle (by omega) (by omega)] at z
        refine i_char hv (by omega) ⟨fun c x hx => ?_, fun c => no (fun l => c (l.1 j (by omega)).symm)⟩
        subst hx
        rw [q_os (by omega)]
        refine ih (j + 1) (by omega) (fun i hi => ?_) (by omega)
        by_cases e : i = j
        · rw [e]; exact c.symm
        · exact h1 i (by omega)
  exact key zfu 0 (by omega) (fun i hi => by omega) (by unfold zfu; omega)
theorem im_eat {P : Int32 → zTs → Prop} {t : zTs} {B g A4 A6 A9 A10 : Nat → Int32} {L p v : Nat} (hB : YB t B L) (h7 : g 7 = Int32.ofNat L) (h8 : g 8 = Int32.ofNat p) (h9 : g 9 = 0) (hp : p ≤ L) (hv : v < 24)
    (yes : ∀ g' q, ysk B L p q → ymt B q v → g' 8 = Int32.ofNat (q + zlen.getD v 0) → yag [8] g g' → P 1 (YM t g' A4 A6 A9 A10))
    (no : ∀ g' q, ysk B L p q → ¬ ymt B q v → g' 8 = Int32.ofNat q → yag [8] g g' → P 0 (YM t g' A4 A6 A9 A10)) : w_X12_eat (YM t g A4 A6 A9 A10) v P := by
  have l8 : zlen.getD v 0 < 8 := y_l8 ⟨v, hv⟩
  have v4 : v < 34 := by omega
  have l4 := hB.1
  refine ⟨fun _ => im_isWord hB h7 h8 hp hv (fun g' q hs k8 ka => ⟨fun m => ⟨fun z => absurd z (by decide), fun _ => ⟨fun z => absurd z (by decide), fun _ => ⟨v4, i_len hv (fun s e => ⟨.inr rfl, ?_⟩)⟩⟩⟩, fun m => ⟨fun _ => ⟨fun _ => ⟨.inl rfl, no g' q hs m k8 ka⟩, fun z => absurd rfl z⟩, fun z => absurd rfl z⟩⟩), fun z => absurd (YM_gf.trans h9) z⟩
  have qL := hs.2.1
  rw [YM_gf, k8, q_nadd (by omega), YM_f] at e
  subst e
  exact yes _ q hs m qst1_at (yag_st (by decide) ka)
theorem im_eatF {P : Int32 → zTs → Prop} {t : zTs} {g A4 A6 A9 A10 : Nat → Int32} {L v : Nat} {kd pl : Int32} (hf : YF L kd pl g) (h : P 0 (YM t g A4 A6 A9 A10)) : w_X12_eat (YM t g A4 A6 A9 A10) v P := by
  obtain ⟨h7, h9, h10, hk, -⟩ := hf
  refine ⟨fun z => ?_, fun _ => ⟨fun _ => ⟨.inl rfl, h⟩, fun z => absurd rfl z⟩⟩
  rw [YM_gf, h9] at z
  exfalso; lia
theorem im_wrong {P : zTs → Prop} {t : zTs} {g A4 A6 A9 A10 : Nat → Int32} {L p q : Nat} {kd : Int32} (h7 : g 7 = Int32.ofNat L) (h8 : g 8 = Int32.ofNat p) (hp : p ≤ 1000) (h9 : g 9 = 0) (hk : 0 < kd) (h : ∀ g', YF L kd (Int32.ofNat q) g' → yag [9, 10] g g' → P (YM t g' A4 A6 A9 A10)) : w_X12_wrong (YM t g A4 A6 A9 A10) kd (Int32.ofNat q) P := by
  refine ⟨fun _ a ea b eb => ?_, fun z => absurd (by rw [YM_gf, h9]; decide) z⟩
  rw [YM_f] at ea
  subst ea
  rw [YM_f] at eb
  subst eb
  exact h _ ⟨(qst1_ne (by decide)).trans ((qst1_ne (by decide)).trans h7), (qst1_ne (by decide)).trans qst1_at, qst1_at, hk, p, (qst1_ne (by decide)).trans ((qst1_ne (by decide)).trans h8), hp⟩ (yag_st (by decide) (yag_st (by decide) yag_rf))
theorem im_wrongF {P : zTs → Prop} {t : zTs} {g A4 A6 A9 A10 : Nat → Int32} {L : Nat} {kd pl a b : Int32} (hf : YF L kd pl g) (h : P (YM t g A4 A6 A9 A10)) : w_X12_wrong (YM t g A4 A6 A9 A10) a b P := by
  obtain ⟨h7, h9, h10, hk, -⟩ := hf
  refine ⟨fun z => ?_, fun _ => h⟩
  rw [YM_gf, h9] at z
  exfalso; lia
theorem im_numberF {P : Int32 → zTs → Prop} {t : zTs} {g A4 A6 A9 A10 : Nat → Int32} {L : Nat} {kd pl a b : Int32} (hf : YF L kd pl g) (h : P 0 (YM t g A4 A6 A9 A10)) : w_X12_number (YM t g A4 A6 A9 A10) a b P := by
  obtain ⟨h7, h9, h10, hk, -⟩ := hf
  refine ⟨fun z => ?_, fun _ => h⟩
  rw [YM_gf, h9] at z
  exfalso; lia
theorem im_signF {P : zTs → Prop} {t : zTs} {g A4 A6 A9 A10 : Nat → Int32} {L : Nat} {kd pl a : Int32} (hf : YF L kd pl g) (h : P (YM t g A4 A6 A9 A10)) : w_X12_sign (YM t g A4 A6 A9 A10) a P := by
  obtain ⟨h7, h9, h10, hk, -⟩ := hf
  refine ⟨fun z => ?_, fun _ => h⟩
  rw [YM_gf, h9] at z
  exfalso; lia
theorem im_emitsF {P : zTs → Prop} {t : zTs} {g A4 A6 A9 A10 : Nat → Int32} {L : Nat} {kd pl a b : Int32} (hf : YF L kd pl g) (h : P (YM t g A4 A6 A9 A10)) : w_X12_emits (YM t g A4 A6 A9 A10) a b P := by
  obtain ⟨h7, h9, h10, hk, -⟩ := hf
  refine ⟨fun z => ?_, fun _ => h⟩
  rw [YM_gf, h9] at z
  exfalso; lia
theorem im_emits {P : zTs → Prop} {t : zTs} {g A4 A6 A9 A10 : Nat → Int32} {k : Nat} {a b : Int32} (h9 : g 9 = 0) (h21 : g 21 = Int32.ofNat k) (hk : k < 800) (h : P (YM t (qst1 g 21 (Int32.ofNat (k + 1))) A4 A6 (qst1 A9 k a) (qst1 A10 k b))) : w_X12_emits (YM t g A4 A6 A9 A10) a b P := by
  refine ⟨fun _ => ⟨?_, fun x ex => ⟨?_, fun y ey z ez => ?_⟩⟩, fun z => absurd (by rw [YM_gf, h9]; decide) z⟩
  · rw [YM_gf, h21]; exact q_nv hk (by omega)
  · rw [YM_gf, h21, q_on (by omega), YM_9] at ex
    subst ex
    rw [YM_gf, h21]; exact q_nv hk (by omega)
  · rw [YM_gf, h21, q_on (by omega), YM_9] at ex
    subst ex
    rw [YM_gf, h21, q_on (by omega), YM_10] at ey
    subst ey
    rw [YM_gf, h21, YM_f, q_os (by omega)] at ez
    subst ez
    exact h
theorem im_sign {P : zTs → Prop} {t : zTs} {B g A4 A6 A9 A10 : Nat → Int32} {L p : Nat} {c : Int32} (hB : YB t B L) (h7 : g 7 = Int32.ofNat L) (h8 : g 8 = Int32.ofNat p) (h9 : g 9 = 0) (hp : p ≤ L) (hc : ¬ c = 0)
    (yes : ∀ g' q, ysk B L p q → B q = c → g' 8 = Int32.ofNat (q + 1) → yag [8] g g' → P (YM t g' A4 A6 A9 A10))
    (no : ∀ g' q, ysk B L p q → ¬ B q = c → YF L 1 (Int32.ofNat q) g' → yag [8, 9, 10] g g' → P (YM t g' A4 A6 A9 A10)) : w_X12_sign (YM t g A4 A6 A9 A10) c P := by
  have l4 := hB.1
  refine ⟨fun _ => im_blanks hB h7 h8 hp (fun g' q hs k8 ka => ?_), fun z => absurd (by rw [YM_gf, h9]; decide) z⟩
  have qL := hs.2.1
  have k7 : g' 7 = Int32.ofNat L := (ka 7 (by decide)).trans h7
  have k9 : g' 9 = 0 := (ka 9 (by decide)).trans h9
  have W : ¬ B q = c → w_X12_sign_48 P (YM t g' A4 A6 A9 A10) := by
    intro hn
    unfold w_X12_sign_48
    rw [YM_gf, k8]
    exact im_wrong k7 k8 (by omega) k9 (by decide) (fun g2 hf ha => no g2 q hs hn hf (yag_tr (yag_mo (by decide) ka) (yag_mo (by decide) ha)))
  rw [YM_gf, YM_gf, k7, k8]
  refine ⟨fun z => W ?_, fun z => im_byteAt hB k7 (by omega) ⟨fun y s e => ?_, fun y => W y⟩⟩
  · rw [q_nle (by omega) (by omega)] at z
    rw [hB.2.1 q z]
    exact fun e => hc e.symm
  · rw [YM_f, q_os (by omega)] at e
    subst e
    exact yes _ q hs y qst1_at (yag_st (by decide) ka)

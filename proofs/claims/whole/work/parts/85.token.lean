/-! strings, words, the class's next token -/
theorem y_len0 : ∀ v : Fin 34, (Int32.ofNat (zlen.getD v.1 0)) >>> ((0 : Int32) &&& 31) = Int32.ofNat (zlen.getD v.1 0) := by decide
theorem y_let : ∀ v : Fin 24, ∀ j : Fin 8, j.1 < zlen.getD v.1 0 → 97 ≤ (zbyt.getD v.1 []).getD j.1 0 ∧ (zbyt.getD v.1 []).getD j.1 0 ≤ 122 := by decide
theorem y_chr : ∀ v : Fin 24, ∀ j : Fin 8, ((((zbyt.getD v.1 []).getD j.1 0) &&& 255 : Int32).toUInt32 % 65536).toInt32 = (zbyt.getD v.1 []).getD j.1 0 ∧ (((zbyt.getD v.1 []).getD j.1 0).toUInt32 % 65536).toInt32 = (zbyt.getD v.1 []).getD j.1 0 := by decide
theorem y_l8 : ∀ v : Fin 24, zlen.getD v.1 0 < 8 := by decide
theorem y_l1 : ∀ v : Fin 24, 1 ≤ v.1 → 2 ≤ zlen.getD v.1 0 := by decide
theorem i_len {P : Int32 → Prop} {s : zTs} {v : Nat} (hv : v < 24) (h : P (Int32.ofNat (zlen.getD v 0))) : w_J0_length_8abf5_s s v P := by
  have v4 : v < 34 := by omega
  refine ⟨v4, v4, v4, v4, ?_⟩
  show P (Int32.ofNat (zlen.getD v 0) >>> ((0 : Int32) &&& 31))
  have e : Int32.ofNat (zlen.getD v 0) >>> ((0 : Int32) &&& 31) = Int32.ofNat (zlen.getD v 0) := y_len0 ⟨v, v4⟩
  rw [e]
  exact h
theorem i_char {P : Int32 → zTs → Prop} {s : zTs} {v j : Nat} (hv : v < 24) (hj : j < zlen.getD v 0) (h : P ((zbyt.getD v []).getD j 0) s) : w_J0_charAt_5068e_si s v (Int32.ofNat j) P := by
  have v4 : v < 34 := by omega
  have l8 := y_l8 ⟨v, hv⟩
  have j8 : j < 8 := by have : zlen.getD v 0 < 8 := l8; omega
  obtain ⟨c1, c2⟩ := y_chr ⟨v, hv⟩ ⟨j, j8⟩
  refine ⟨v4, v4, fun z => absurd z (by decide), fun _ => ⟨v4, v4, fun o => ⟨fun z => absurd z (q_n0 (by omega)), fun _ => ⟨fun _ => ⟨v4, q_nv hj (by have : zlen.getD v 0 < 8 := l8; omega), ?_, ?_⟩, fun z => ?_⟩⟩⟩⟩
  · rw [q_on (by omega), c1, c2]
  · rw [q_on (by omega), c1]
    exact ⟨c2, h⟩
  · exfalso
    rw [Int32.lt_iff_toInt_lt, q_of (by omega), q_of (by have : zlen.getD v 0 < 8 := l8; omega)] at z
    omega
theorem i_of37 {P : Nat → zTs → Prop} {K : zTs → Int32 → Int32 → Int32 → Prop} {s : zTs} {B : Nat → Int32} {L q p v : Nat} (hB : yTB (zgA s 43 0) B L) (hp : p ≤ L) (hv : v < 24) (yes : ymw B q p v → P v s) (no : ¬ ymw B q p v → K s (Int32.ofNat q) (Int32.ofNat p) (Int32.ofNat v + 1)) : ∀ (f j : Nat), j ≤ zlen.getD v 0 → q + j ≤ p → (∀ i, i < j → (zbyt.getD v []).getD i 0 = B (q + i)) → zlen.getD v 0 - j < f → w_X9_of_37 P K f s (Int32.ofNat q) (Int32.ofNat p) (Int32.ofNat v) v (Int32.ofNat j) := by
  obtain ⟨l4, hz, ht⟩ := id hB
  have l8 : zlen.getD v 0 < 8 := y_l8 ⟨v, hv⟩
  have v4 : v < 34 := by omega
  intro f
  induction f with
  | zero => intro j h0 h1 h2 h3; omega
  | succ f ih =>
    intro j h0 h1 h2 h3
    have qj : Int32.ofNat q + Int32.ofNat j = Int32.ofNat (q + j) := q_nadd (by omega)
    have eqN : ∀ a b : Nat, a < 2147483648 → b < 2147483648 → (Int32.ofNat a = Int32.ofNat b ↔ a = b) := by
      intro a b ha hb
      refine ⟨fun z => ?_, fun z => by rw [z]⟩
      have := congrArg Int32.toNatClampNeg z
      rwa [q_on ha, q_on hb] at this
    have fin : ¬ ymw B q p v → w_X9_of_77 P K s (Int32.ofNat q) (Int32.ofNat p) (Int32.ofNat v) v (Int32.ofNat j) := by
      intro hn
      refine ⟨v4, i_len hv ⟨fun z => ⟨fun z2 => ?_, fun _ x hx => by subst hx; exact no hn⟩, fun _ x hx => by subst hx; exact no hn⟩⟩
      exfalso
      rw [eqN _ _ (by omega) (by omega)] at z
      rw [qj, eqN _ _ (by omega) (by omega)] at z2
      exact hn ⟨by omega, fun i hi => h2 i (by omega)⟩
    rw [w_X9_of_37]
    refine ⟨v4, i_len hv ⟨fun z => ?_, fun z => ⟨fun z2 => ?_, fun z2 => ⟨?_, v4, ?_⟩⟩⟩⟩
    · rw [q_nle (by omega) (by omega)] at z
      by_cases hn : ymw B q p v
      · refine ⟨v4, i_len hv ⟨fun _ => ⟨fun _ => ⟨q_nv (by omega) (by omega), ?_⟩, fun z2 => ?_⟩, fun z1 => ?_⟩⟩
        · rw [q_on (by omega)]; exact yes hn
        · exfalso
          rw [qj, eqN _ _ (by omega) (by omega)] at z2
          exact z2 (by have := hn.1; omega)
        · exfalso
          rw [eqN _ _ (by omega) (by omega)] at z1
          omega
      · exact fin hn
    · rw [qj, q_nle (by omega) (by omega)] at z2
      rw [q_nle (by omega) (by omega)] at z
      exact fin (fun hn => by have := hn.1; omega)
    · rw [qj, q_nle (by omega) (by omega)] at z2
      rw [qj]
      exact q_nv (by omega) (by omega)
    · rw [qj, q_nle (by omega) (by omega)] at z2
      rw [q_nle (by omega) (by omega)] at z
      have lt : 97 ≤ (zbyt.getD v []).getD j 0 ∧ (zbyt.getD v []).getD j 0 ≤ 122 := y_let ⟨v, hv⟩ ⟨j, by omega⟩ (by show j < zlen.getD v 0; omega)
      refine i_char hv (by omega) ?_
      rw [qj, q_on (by omega)]
      obtain ⟨-, t⟩ := ht (q + j) (by omega)
      refine ⟨fun z3 x hx => ?_, fun z3 => fin (fun hn => z3 ?_)⟩
      · subst hx
        rw [q_os (by omega)]
        refine ih (j + 1) (by omega) (by omega) (fun i hi => ?_) (by omega)
        by_cases e : i = j
        · subst e; lia
        · exact h2 i (by omega)
      · have := hn.2 j (by omega)
        lia
theorem i_of {P : Nat → zTs → Prop} {s : zTs} {B : Nat → Int32} {L q p : Nat} (hB : yTB (zgA s 43 0) B L) (hp : p ≤ L) (hq : q < p) (h : ∀ w, ywd B q p w → P w s) : w_X9_of s (Int32.ofNat q) (Int32.ofNat p) P := by
  obtain ⟨l4, hz, ht⟩ := id hB
  refine ⟨fun z => absurd z (q_n0 (by omega)), fun _ => ⟨fun _ => ?_, fun z => ?_⟩⟩
  · have key : ∀ (f v : Nat), v ≤ 24 → (∀ u, 1 ≤ u → u < v → ¬ ymw B q p u) → 24 - v < f → w_X9_of_16 P f s (Int32.ofNat q) (Int32.ofNat p) (Int32.ofNat v) := by
      intro f
      induction f with
      | zero => intro v h0 h1 h2; omega
      | succ f ih =>
        intro v h0 h1 h2
        rw [w_X9_of_16, show (24 : Int32) = Int32.ofNat 24 from rfl]
        refine ⟨fun z => ?_, fun z => ?_⟩
        · rw [q_nle (by omega) (by omega)] at z
          exact h 0 ⟨by omega, fun z => absurd rfl z, fun _ u h3 h4 => h1 u h3 (by omega)⟩
        · rw [q_nle (by omega) (by omega)] at z
          rw [q_on (by omega)]
          refine ⟨q_nv (by omega) (by omega), by omega, i_of37 hB hp (by omega) (fun hm => ?_) (fun hn => ?_) zfu 0 (by omega) (by omega) (fun i hi => by omega) (by have : zlen.getD v 0 < 8 := y_l8 ⟨v, by omega⟩; unfold zfu; omega)⟩
          · refine h v ⟨by omega, fun _ => hm, fun e => ?_⟩
            subst e
            exfalso
            have := hm.1
            have e0 : zlen.getD 0 0 = 0 := rfl
            omega
          · rw [q_os (by omega)]
            refine ih (v + 1) (by omega) (fun u h3 h4 => ?_) (by omega)
            by_cases e : u = v
            · rw [e]; exact hn
            · exact h1 u h3 (by omega)
    exact key zfu 0 (by omega) (fun u h3 h4 => by omega) (by unfold zfu; omega)
  · exfalso
    rw [show (400 : Int32) = Int32.ofNat 400 from rfl, q_nle (by omega) (by omega)] at z
    omega
theorem y_255 {x : Int32} (h0 : 0 ≤ x) (h1 : x ≤ 255) : (x.toUInt32 % 65536).toInt32 = x := by
  have k : ∀ a : Fin 16, ∀ b : Fin 16, ((Int32.ofNat (16 * a.1 + b.1)).toUInt32 % 65536).toInt32 = Int32.ofNat (16 * a.1 + b.1) := by decide
  have e := q_of_toInt (q_t0 h0)
  have l : x.toNatClampNeg < 256 := by
    have := q_t0 h0
    rw [Int32.le_iff_toInt_le, show (255 : Int32).toInt = 255 from rfl] at h1
    omega
  have k2 := k ⟨x.toNatClampNeg / 16, by omega⟩ ⟨x.toNatClampNeg % 16, by omega⟩
  rw [show 16 * (x.toNatClampNeg / 16) + x.toNatClampNeg % 16 = x.toNatClampNeg by omega] at k2
  rw [e]
  exact k2
theorem y_nm {B : Nat → Int32} {q : Nat} : ∀ k, (∀ j, j < k → 48 ≤ B (q + j) ∧ B (q + j) ≤ 57) → 0 ≤ ynm B q k ∧ ynm B q k ≤ 10000 := by
  intro k
  induction k with
  | zero => intro _; unfold ynm; exact ⟨by decide, by decide⟩
  | succ k ih =>
    intro h
    obtain ⟨h1, h2⟩ := ih (fun j hj => h j (by omega))
    obtain ⟨h3, h4⟩ := h k (by omega)
    unfold ynm
    split
    · exact ⟨by decide, by decide⟩
    · constructor <;> lia
theorem i_adv74 {P : zTs → Prop} {s : zTs} {L q : Nat} {f0 S B : Nat → Int32} (hB : yTB (zgA s 43 0) B L) (hq : ylet (B q)) (hn : ¬ B q = 32)
    (h : ∀ w' f' p', YT B L w' f' q p' → yag [4, 5, 7, 8] f0 f' → P (YC s w' f' S)) : ∀ (u p : Nat) (f : Nat → Int32), f 3 = Int32.ofNat L → f 4 = Int32.ofNat q → f 5 = Int32.ofNat p → f 7 = -1 → f 8 = 0 → yag [4, 5, 7, 8] f0 f → q ≤ p → p ≤ L → (∀ j, q ≤ j → j < p → ylet (B j)) → L - p < u → w_X6_advance_74 P u (YC s 0 f S) := by
  intro u
  induction u with
  | zero => intro p f h3 h4 h5 h7 h8 ha h0 h1 h2 h9; omega
  | succ u ih =>
    intro p f h3 h4 h5 h7 h8 ha h0 h1 h2 h9
    have l4 := hB.1
    rw [w_X6_advance_74]
    refine i_within hB h3 h5 h1 (by decide) (by decide) (fun x1 x2 x3 => ⟨fun z => absurd z (by decide), fun _ t ht => ?_⟩) (fun x1 => ⟨fun _ => ?_, fun z => absurd rfl z⟩)
    · rw [YC_gf, YC_f, h5, q_os (by omega)] at ht
      subst ht
      refine ih (p + 1) _ ((qst1_ne (by decide)).trans h3) ((qst1_ne (by decide)).trans h4) qst1_at ((qst1_ne (by decide)).trans h7) ((qst1_ne (by decide)).trans h8) (yag_st (by decide) ha) (by omega) (by omega) (fun j j1 j2 => ?_) (by omega)
      by_cases e : j = p
      · rw [e]; exact ⟨x1, x2⟩
      · exact h2 j j1 (by omega)
    · have lt : q < p := by
        refine Nat.lt_of_le_of_ne h0 (fun e => x1 ?_)
        rw [← e]; exact hq
      rw [YC_gf, YC_gf, h4, h5]
      refine i_of (B := B) (L := L) (by rw [show zgA (YC s 0 f S) 43 0 = zgA s 43 0 from funext fun j => YC_ga (by decide)]; exact hB) h1 lt (fun w hw t ht => ?_)
      rw [YC_w] at ht
      subst ht
      exact h w f p ⟨h3, h4, h5, by omega, h1, hn, .inr (.inl ⟨hq, lt, h2, x1, hw, h7, h8⟩)⟩ ha
theorem i_adv136 {P : zTs → Prop} {s : zTs} {L q : Nat} {f0 S B : Nat → Int32} (hB : yTB (zgA s 43 0) B L) (hq : ydig (B q)) (hn : ¬ B q = 32)
    (h : ∀ w' f' p', YT B L w' f' q p' → yag [4, 5, 7, 8] f0 f' → P (YC s w' f' S)) : ∀ (u p : Nat) (f : Nat → Int32), f 3 = Int32.ofNat L → f 4 = Int32.ofNat q → f 5 = Int32.ofNat p → f 7 = ynm B q (p - q) → f 8 = 0 → yag [4, 5, 7, 8] f0 f → q ≤ p → p ≤ L → (∀ j, q ≤ j → j < p → ydig (B j)) → L - p < u → w_X6_advance_136 P u (YC s 0 f S) := by
  intro u
  induction u with
  | zero => intro p f h3 h4 h5 h7 h8 ha h0 h1 h2 h9; omega
  | succ u ih =>
    intro p f h3 h4 h5 h7 h8 ha h0 h1 h2 h9
    obtain ⟨l4, hz, ht⟩ := id hB
    rw [w_X6_advance_136]
    refine i_within hB h3 h5 h1 (by decide) (by decide) (fun x1 x2 x3 => ⟨fun z => absurd z (by decide), fun _ => ?_⟩) (fun x1 => ⟨fun _ => ?_, fun z => absurd rfl z⟩)
    · rw [YC_gf, YC_gf, h5, q_on (by omega), YC_ga (k := 43) (by decide), h7]
      obtain ⟨-, t⟩ := ht p x3
      have tB : zgA s 43 0 p = B p := by lia
      rw [tB]
      have e1 : p + 1 - q = (p - q) + 1 := by omega
      have e2 : q + (p - q) = p := by omega
      have nx : ∀ r, r = ynm B q (p + 1 - q) → w_X6_advance_136 P u (YC s 0 (qst1 (qst1 f 7 r) 5 (Int32.ofNat (p + 1))) S) := by
        intro r hr
        refine ih (p + 1) _ ((qst1_ne (by decide)).trans ((qst1_ne (by decide)).trans h3)) ((qst1_ne (by decide)).trans ((qst1_ne (by decide)).trans h4)) qst1_at ((qst1_ne (by decide)).trans (qst1_at.trans hr)) ((qst1_ne (by decide)).trans ((qst1_ne (by decide)).trans h8)) (yag_st (by decide) (yag_st (by decide) ha)) (by omega) (by omega) (fun j j1 j2 => ?_) (by omega)
        by_cases e : j = p
        · rw [e]; exact ⟨x1, x2⟩
        · exact h2 j j1 (by omega)
      have go : ∀ r, r = ynm B q (p + 1 - q) → ∀ s174 : zTs, s174 = zuF (YC s 0 f S) 13 0 7 r → (∀ s184 : zTs, s184 = zuF s174 13 0 5 ((zgF s174 13 0 5) + 1) → ((w_X6_advance_136 P u) s184)) := by
        intro r hr a ha' b hb
        rw [YC_f] at ha'
        subst ha'
        rw [YC_gf, YC_f, qst1_ne (by decide), h5, q_os (by omega)] at hb
        subst hb
        exact nx r hr
      refine ⟨q_nv (by omega) (by omega), fun z => go _ ?_, fun z => go _ ?_⟩
      · rw [e1, ynm, e2, if_pos z]
      · rw [e1, ynm, e2, if_neg z]
    · have lt : q < p := by
        refine Nat.lt_of_le_of_ne h0 (fun e => x1 ?_)
        rw [← e]; exact hq
      exact h 0 f p ⟨h3, h4, h5, by omega, h1, hn, .inr (.inr (.inl ⟨hq, lt, h2, x1, rfl, h7, h8⟩))⟩ ha
theorem i_adv55 {P : zTs → Prop} {s : zTs} {L q : Nat} {f0 f S B : Nat → Int32} (hB : yTB (zgA s 43 0) B L) (hn : ¬ B q = 32) (hq : q ≤ L) (h3 : f 3 = Int32.ofNat L) (h5 : f 5 = Int32.ofNat q) (h7 : f 7 = -1) (h8 : f 8 = 0) (ha : yag [4, 5, 7, 8] f0 f)
    (h : ∀ w' f' p', YT B L w' f' q p' → yag [4, 5, 7, 8] f0 f' → P (YC s w' f' S)) : w_X6_advance_55 P (YC s 0 f S) := by
  obtain ⟨l4, hz, ht⟩ := id hB
  intro t e
  rw [YC_gf, YC_f, h5] at e
  subst e
  have g3 : qst1 f 4 (Int32.ofNat q) 3 = Int32.ofNat L := (qst1_ne (by decide)).trans h3
  have g5 : qst1 f 4 (Int32.ofNat q) 5 = Int32.ofNat q := (qst1_ne (by decide)).trans h5
  have g7 : qst1 f 4 (Int32.ofNat q) 7 = -1 := (qst1_ne (by decide)).trans h7
  have g8 : qst1 f 4 (Int32.ofNat q) 8 = 0 := (qst1_ne (by decide)).trans h8
  have ga : yag [4, 5, 7, 8] f0 (qst1 f 4 (Int32.ofNat q)) := yag_st (by decide) ha
  refine i_within hB g3 g5 hq (by decide) (by decide) (fun x1 x2 x3 => ⟨fun z => absurd z (by decide), fun _ => ?_⟩) (fun x1 => ⟨fun _ => ?_, fun z => absurd rfl z⟩)
  · exact i_adv74 hB ⟨x1, x2⟩ hn h zfu q _ g3 qst1_at g5 g7 g8 ga (by omega) hq (fun j j1 j2 => by omega) (by unfold zfu; omega)
  · refine i_within hB g3 g5 hq (by decide) (by decide) (fun y1 y2 y3 => ⟨fun z => absurd z (by decide), fun _ t ht => ?_⟩) (fun y1 => ⟨fun _ => ?_, fun z => absurd rfl z⟩)
    · rw [YC_f] at ht
      subst ht
      refine i_adv136 hB ⟨y1, y2⟩ hn h zfu q _ ((qst1_ne (by decide)).trans g3) ((qst1_ne (by decide)).trans qst1_at) ((qst1_ne (by decide)).trans g5) ?_ ((qst1_ne (by decide)).trans g8) (yag_st (by decide) ga) (by omega) hq (fun j j1 j2 => by omega) (by unfold zfu; omega)
      rw [qst1_at, Nat.sub_self]
      rfl
    · rw [YC_gf, YC_gf, g3, g5]
      refine ⟨fun z => ?_, fun z => ⟨q_nv (by rw [q_nle (by omega) (by omega)] at z; omega) (by omega), fun a ea b eb => ?_⟩⟩
      · rw [q_nle (by omega) (by omega)] at z
        exact h 0 _ q ⟨g3, qst1_at, g5, hq, hq, hn, .inl ⟨by omega, rfl, rfl, g7, g8⟩⟩ ga
      · rw [q_nle (by omega) (by omega)] at z
        obtain ⟨t1, t2⟩ := ht q (by omega)
        rw [q_on (by omega), YC_ga (k := 43) (by decide), t1, y_255 (by lia) (by lia), YC_f] at ea
        subst ea
        rw [YC_gf, YC_f, qst1_ne (by decide), g5, q_os (by omega)] at eb
        subst eb
        refine h 0 _ (q + 1) ⟨(qst1_ne (by decide)).trans ((qst1_ne (by decide)).trans g3), (qst1_ne (by decide)).trans ((qst1_ne (by decide)).trans qst1_at), qst1_at, hq, by omega, hn, .inr (.inr (.inr ⟨by omega, rfl, x1, y1, rfl, (qst1_ne (by decide)).trans ((qst1_ne (by decide)).trans g7), (qst1_ne (by decide)).trans qst1_at⟩))⟩ (yag_st (by decide) (yag_st (by decide) ga))
theorem i_adv17 {P : zTs → Prop} {s : zTs} {L p0 : Nat} {f0 S B : Nat → Int32} (hB : yTB (zgA s 43 0) B L)
    (h : ∀ w' f' q' p', ysk B L p0 q' → YT B L w' f' q' p' → yag [4, 5, 7, 8] f0 f' → P (YC s w' f' S)) : ∀ (u p : Nat) (f : Nat → Int32), f 3 = Int32.ofNat L → f 5 = Int32.ofNat p → f 7 = -1 → f 8 = 0 → yag [4, 5, 7, 8] f0 f → p0 ≤ p → p ≤ L → (∀ j, p0 ≤ j → j < p → B j = 32) → L - p < u → w_X6_advance_17 P u (YC s 0 f S) := by
  obtain ⟨l4, hz, ht⟩ := id hB
  intro u
  induction u with
  | zero => intro p f h3 h5 h7 h8 ha h0 h1 h2 h9; omega
  | succ u ih =>
    intro p f h3 h5 h7 h8 ha h0 h1 h2 h9
    rw [w_X6_advance_17, YC_gf, YC_gf, h3, h5, q_on (by omega), YC_ga (k := 43) (by decide)]
    have fin : ¬ B p = 32 → w_X6_advance_55 P (YC s 0 f S) := fun hn => i_adv55 hB hn h1 h3 h5 h7 h8 ha (fun w' f' p' => h w' f' p p' ⟨h0, h1, h2, hn⟩)
    refine ⟨fun z => ?_, fun z => ⟨q_nv (by rw [q_nle (by omega) (by omega)] at z; omega) (by omega), fun y t e => ?_, fun y => ?_⟩⟩
    · rw [q_nle (by omega) (by omega)] at z
      exact fin (by rw [hz p z]; decide)
    · rw [q_nle (by omega) (by omega)] at z
      rw [YC_f, q_os (by omega)] at e
      subst e
      obtain ⟨-, t⟩ := ht p (by omega)
      refine ih (p + 1) _ ((qst1_ne (by decide)).trans h3) qst1_at ((qst1_ne (by decide)).trans h7) ((qst1_ne (by decide)).trans h8) (yag_st (by decide) ha) (by omega) (by omega) (fun j j1 j2 => ?_) (by omega)
      by_cases e : j = p
      · rw [e]; lia
      · exact h2 j j1 (by omega)
    · rw [q_nle (by omega) (by omega)] at z
      obtain ⟨-, t⟩ := ht p (by omega)
      exact fin (by lia)
/-- the class's next token -/
theorem i_adv {P : zTs → Prop} {s : zTs} {L w p : Nat} {f S B : Nat → Int32} (hB : yTB (zgA s 43 0) B L) (h3 : f 3 = Int32.ofNat L) (h5 : f 5 = Int32.ofNat p) (hp : p ≤ L)
    (h : ∀ w' f' q' p', ysk B L p q' → YT B L w' f' q' p' → yag [4, 5, 7, 8] f f' → P (YC s w' f' S)) : w_X6_advance (YC s w f S) P := by
  intro a ea b eb c ec
  rw [YC_w] at ea
  subst ea
  rw [YC_f] at eb
  subst eb
  rw [YC_f] at ec
  subst ec
  refine i_adv17 hB h zfu p _ ((qst1_ne (by decide)).trans ((qst1_ne (by decide)).trans h3)) ((qst1_ne (by decide)).trans ((qst1_ne (by decide)).trans h5)) ((qst1_ne (by decide)).trans qst1_at) qst1_at (yag_st (by decide) (yag_st (by decide) yag_rf)) (by omega) hp (fun j j1 j2 => by omega) (by have := hB.1; unfold zfu; omega)

/-! the tables filled -/
def qab (x : Int32) : Int32 := if 0 ≤ x then x else -x
def qds2 (pa pb : Nat → Int32) (n m p q : Nat) : Int32 := qab (pa (n - (p + 1)) - pb (m - (q + 1)))
theorem QT_row {D : Nat → Nat → Int32} {near : Int32} {n m i : Nat} {A B : Nat → Int32} (h : QT D near n m (i + 1) 0 A B) : QT D near n m i (m + 1) A B := by
  intro i' j' h1 h2 h3
  exact h i' j' h1 h2 (by omega)
/-- one place of the table -/
theorem qtb_at {pa pb : Nat → Int32} {near : Int32} {n m i j : Nat} (hi : i < n) (hj : j < m) : qtb (qds2 pa pb n m) near (n - i) (m - j) = if near < qab (pa i - pb j) then qup (qup (0, 0) (qtb (qds2 pa pb n m) near (n - (i + 1)) (m - j))) (qtb (qds2 pa pb n m) near (n - i) (m - (j + 1))) else qup (qup (qup (0, 0) (qtb (qds2 pa pb n m) near (n - (i + 1)) (m - j))) (qtb (qds2 pa pb n m) near (n - i) (m - (j + 1)))) ((qtb (qds2 pa pb n m) near (n - (i + 1)) (m - (j + 1))).1 + 1, (qtb (qds2 pa pb n m) near (n - (i + 1)) (m - (j + 1))).2 + qab (pa i - pb j)) := by
  obtain ⟨p, rfl⟩ : ∃ p, n = i + (p + 1) := ⟨n - i - 1, by omega⟩
  obtain ⟨q, rfl⟩ : ∃ q, m = j + (q + 1) := ⟨m - j - 1, by omega⟩
  rw [show i + (p + 1) - i = p + 1 by omega, show j + (q + 1) - j = q + 1 by omega, show i + (p + 1) - (i + 1) = p by omega, show j + (q + 1) - (j + 1) = q by omega]
  show qrw _ near (qtb _ near p) (q + 1) = _
  rw [qrw]
  have e : qds2 pa pb (i + (p + 1)) (j + (q + 1)) p q = qab (pa i - pb j) := by
    unfold qds2
    rw [show i + (p + 1) - (p + 1) = i by omega, show j + (q + 1) - (q + 1) = j by omega]
  rw [e]
  rfl
theorem l_fill1 {P : zTs → Prop} {K6 : zTs → Nat → Nat → Int32 → Int32 → Prop} {s : zTs} {a1 a2 n m i : Nat} {near : Int32} {C : Nat → Int32} (hn : zgF s 22 a1 3 = Int32.ofNat n) (hm : zgF s 22 a2 3 = Int32.ofNat m) (n20 : n ≤ 20) (m20 : m ≤ 20) (hi : i ≤ n)
    (fin : ∀ A B, QT (qds2 (zgA s 62 a1) (zgA s 62 a2) n m) near n m i 0 A B → K6 (qj s A B C) a1 a2 near (Int32.ofNat i + -1)) : ∀ (f k : Nat) (A B : Nat → Int32), k ≤ m + 1 → k < f → QT (qds2 (zgA s 62 a1) (zgA s 62 a2) n m) near n m i k A B → w_X3_fillFromTheEnd_17 P K6 f (qj s A B C) a1 a2 near (Int32.ofNat i) (qdn k) := by
  intro f
  induction f with
  | zero => intro k A B h0 h1; omega
  | succ f ih =>
    intro k A B h0 h1 hq
    rw [w_X3_fillFromTheEnd_17]
    cases k with
    | zero =>
      rw [qdn_0]
      refine ⟨fun _ x hx => ?_, fun z => absurd (by decide) z⟩
      subst hx
      exact fin A B hq
    | succ j =>
      rw [qdn_s (by omega)]
      obtain ⟨vx, ex⟩ := q_c21 (i := i) (j := j) (by omega) (by omega)
      have e21 := q_c21e (i := i) (j := j) (by omega) (by omega)
      refine ⟨fun z => absurd z (q_n0 (by omega)), fun _ x hx => ?_⟩
      rw [e21] at vx ex hx
      subst hx
      rw [ex]
      refine ⟨vx, fun u1 g1 => ⟨vx, fun u2 g2 => ?_⟩⟩
      rw [qj_a] at g1
      subst g1
      rw [qj_b] at g2
      subst g2
      have nx : ∀ A' B', A' = qst1 A (21 * i + j) (qtb (qds2 (zgA s 62 a1) (zgA s 62 a2) n m) near (n - i) (m - j)).1 → B' = qst1 B (21 * i + j) (qtb (qds2 (zgA s 62 a1) (zgA s 62 a2) n m) near (n - i) (m - j)).2 → w_X3_fillFromTheEnd_177 P K6 (w_X3_fillFromTheEnd_17 P K6 f) (qj s A' B' C) a1 a2 near (Int32.ofNat i) (Int32.ofNat j) := by
        intro A' B' e1 e2 x hx
        subst e1
        subst e2
        subst hx
        exact ih j _ _ (by omega) (by omega) (QT_step m20 (by omega) hq)
      unfold w_X7_cracks
      rw [qj_F, hn, hm]
      refine ⟨fun z => ?_, fun z => ⟨fun z2 => ?_, fun z2 => ?_⟩⟩
      · have e : i = n := by
          have := congrArg Int32.toInt z
          rw [q_of (by omega), q_of (by omega)] at this
          omega
        subst e
        refine nx _ _ ?_ ?_ <;> rw [Nat.sub_self] <;> rfl
      · have e : j = m := by
          have := congrArg Int32.toInt z2
          rw [q_of (by omega), q_of (by omega)] at this
          omega
        subst e
        refine nx _ _ ?_ ?_ <;> rw [Nat.sub_self, qtb_0]
      · have hi' : i < n := by
          refine Classical.byContradiction (fun y => z ?_)
          rw [show i = n by omega]
        have hj' : j < m := by
          refine Classical.byContradiction (fun y => z2 ?_)
          rw [show j = m by omega]
        have tt := qtb_at (pa := zgA s 62 a1) (pb := zgA s 62 a2) (near := near) hi' hj'
        obtain ⟨p1, p2⟩ := hq (i + 1) j (by omega) (by omega) (by omega)
        obtain ⟨p3, p4⟩ := hq i (j + 1) (by omega) (by omega) (by omega)
        obtain ⟨p5, p6⟩ := hq (i + 1) (j + 1) (by omega) (by omega) (by omega)
        have x21 : Int32.ofNat (21 * i + j) + 21 = Int32.ofNat (21 * (i + 1) + j) := by
          have := q_nadd (a := 21 * i + j) (b := 21) (by omega)
          rw [show 21 * i + j + 21 = 21 * (i + 1) + j by omega] at this
          exact this
        have x1 : Int32.ofNat (21 * i + j) + 1 = Int32.ofNat (21 * i + (j + 1)) := by
          have := q_nadd (a := 21 * i + j) (b := 1) (by omega)
          rw [show 21 * i + j + 1 = 21 * i + (j + 1) by omega] at this
          exact this
        have x22 : Int32.ofNat (21 * (i + 1) + j) + 1 = Int32.ofNat (21 * (i + 1) + (j + 1)) := by
          have := q_nadd (a := 21 * (i + 1) + j) (b := 1) (by omega)
          rw [show 21 * (i + 1) + j + 1 = 21 * (i + 1) + (j + 1) by omega] at this
          exact this
        have vq : ∀ w, w < 441 → vp_in (Int32.ofNat w) 441 := fun w hw => q_nv hw (by omega)
        rw [x21, q_on (by omega), qj_51, qj_52, qst1_ne (by omega), qst1_ne (by omega), p1, p2]
        refine ⟨vq _ (by omega), vq _ (by omega), i_offer vx ex ?_⟩
        rw [qst1_at, qst1_at, qst1_2, qst1_2, x1, q_on (by omega), qj_51, qj_52, qst1_ne (by omega), qst1_ne (by omega), p3, p4]
        refine ⟨vq _ (by omega), vq _ (by omega), i_offer vx ex ?_⟩
        rw [qst1_at, qst1_at, qst1_2, qst1_2]
        refine ⟨q_nv (by omega) (by omega), ?_⟩
        refine ⟨q_nv (by omega) (by omega), ?_⟩
        rw [q_on (by omega), q_on (by omega), qj_A (by decide) (by decide) (by decide), qj_A (by decide) (by decide) (by decide)]
        have go : ∀ r : Int32, r = qab (zgA s 62 a1 i - zgA s 62 a2 j) → (near < r → w_X3_fillFromTheEnd_177 P K6 (w_X3_fillFromTheEnd_17 P K6 f) (qj s (qst1 A (21 * i + j) (qup ((qup (0, 0) ((qtb (qds2 (zgA s 62 a1) (zgA s 62 a2) n m) near (n - (i + 1)) (m - j)).1, (qtb (qds2 (zgA s 62 a1) (zgA s 62 a2) n m) near (n - (i + 1)) (m - j)).2)).1, (qup (0, 0) ((qtb (qds2 (zgA s 62 a1) (zgA s 62 a2) n m) near (n - (i + 1)) (m - j)).1, (qtb (qds2 (zgA s 62 a1) (zgA s 62 a2) n m) near (n - (i + 1)) (m - j)).2)).2) ((qtb (qds2 (zgA s 62 a1) (zgA s 62 a2) n m) near (n - i) (m - (j + 1))).1, (qtb (qds2 (zgA s 62 a1) (zgA s 62 a2) n m) near (n - i) (m - (j + 1))).2)).1) (qst1 B (21 * i + j) (qup ((qup (0, 0) ((qtb (qds2 (zgA s 62 a1) (zgA s 62 a2) n m) near (n - (i + 1)) (m - j)).1, (qtb (qds2 (zgA s 62 a1) (zgA s 62 a2) n m) near (n - (i + 1)) (m - j)).2)).1, (qup (0, 0) ((qtb (qds2 (zgA s 62 a1) (zgA s 62 a2) n m) near (n - (i + 1)) (m - j)).1, (qtb (qds2 (zgA s 62 a1) (zgA s 62 a2) n m) near (n - (i + 1)) (m - j)).2)).2) ((qtb (qds2 (zgA s 62 a1) (zgA s 62 a2) n m) near (n - i) (m - (j + 1))).1, (qtb (qds2 (zgA s 62 a1) (zgA s 62 a2) n m) near (n - i) (m - (j + 1))).2)).2) C) a1 a2 near (Int32.ofNat i) (Int32.ofNat j)) ∧ (¬ near < r → ∀ x150 : Int32, x150 = (Int32.ofNat (21 * (i + 1) + j)) + 1 → (vp_in x150 441 ∧ (vp_in x150 441 ∧ (w_X3_offer (qj s (qst1 A (21 * i + j) (qup ((qup (0, 0) ((qtb (qds2 (zgA s 62 a1) (zgA s 62 a2) n m) near (n - (i + 1)) (m - j)).1, (qtb (qds2 (zgA s 62 a1) (zgA s 62 a2) n m) near (n - (i + 1)) (m - j)).2)).1, (qup (0, 0) ((qtb (qds2 (zgA s 62 a1) (zgA s 62 a2) n m) near (n - (i + 1)) (m - j)).1, (qtb (qds2 (zgA s 62 a1) (zgA s 62 a2) n m) near (n - (i + 1)) (m - j)).2)).2) ((qtb (qds2 (zgA s 62 a1) (zgA s 62 a2) n m) near (n - i) (m - (j + 1))).1, (qtb (qds2 (zgA s 62 a1) (zgA s 62 a2) n m) near (n - i) (m - (j + 1))).2)).1) (qst1 B (21 * i + j) (qup ((qup (0, 0) ((qtb (qds2 (zgA s 62 a1) (zgA s 62 a2) n m) near (n - (i + 1)) (m - j)).1, (qtb (qds2 (zgA s 62 a1) (zgA s 62 a2) n m) near (n - (i + 1)) (m - j)).2)).1, (qup (0, 0) ((qtb (qds2 (zgA s 62 a1) (zgA s 62 a2) n m) near (n - (i + 1)) (m - j)).1, (qtb (qds2 (zgA s 62 a1) (zgA s 62 a2) n m) near (n - (i + 1)) (m - j)).2)).2) ((qtb (qds2 (zgA s 62 a1) (zgA s 62 a2) n m) near (n - i) (m - (j + 1))).1, (qtb (qds2 (zgA s 62 a1) (zgA s 62 a2) n m) near (n - i) (m - (j + 1))).2)).2) C) (Int32.ofNat (21 * i + j)) ((zgA (qj s (qst1 A (21 * i + j) (qup ((qup (0, 0) ((qtb (qds2 (zgA s 62 a1) (zgA s 62 a2) n m) near (n - (i + 1)) (m - j)).1, (qtb (qds2 (zgA s 62 a1) (zgA s 62 a2) n m) near (n - (i + 1)) (m - j)).2)).1, (qup (0, 0) ((qtb (qds2 (zgA s 62 a1) (zgA s 62 a2) n m) near (n - (i + 1)) (m - j)).1, (qtb (qds2 (zgA s 62 a1) (zgA s 62 a2) n m) near (n - (i + 1)) (m - j)).2)).2) ((qtb (qds2 (zgA s 62 a1) (zgA s 62 a2) n m) near (n - i) (m - (j + 1))).1, (qtb (qds2 (zgA s 62 a1) (zgA s 62 a2) n m) near (n - i) (m - (j + 1))).2)).1) (qst1 B (21 * i + j) (qup ((qup (0, 0) ((qtb (qds2 (zgA s 62 a1) (zgA s 62 a2) n m) near (n - (i + 1)) (m - j)).1, (qtb (qds2 (zgA s 62 a1) (zgA s 62 a2) n m) near (n - (i + 1)) (m - j)).2)).1, (qup (0, 0) ((qtb (qds2 (zgA s 62 a1) (zgA s 62 a2) n m) near (n - (i + 1)) (m - j)).1, (qtb (qds2 (zgA s 62 a1) (zgA s 62 a2) n m) near (n - (i + 1)) (m - j)).2)).2) ((qtb (qds2 (zgA s 62 a1) (zgA s 62 a2) n m) near (n - i) (m - (j + 1))).1, (qtb (qds2 (zgA s 62 a1) (zgA s 62 a2) n m) near (n - i) (m - (j + 1))).2)).2) C) 51 0 (x150 : Int32).toNatClampNeg) + 1) ((zgA (qj s (qst1 A (21 * i + j) (qup ((qup (0, 0) ((qtb (qds2 (zgA s 62 a1) (zgA s 62 a2) n m) near (n - (i + 1)) (m - j)).1, (qtb (qds2 (zgA s 62 a1) (zgA s 62 a2) n m) near (n - (i + 1)) (m - j)).2)).1, (qup (0, 0) ((qtb (qds2 (zgA s 62 a1) (zgA s 62 a2) n m) near (n - (i + 1)) (m - j)).1, (qtb (qds2 (zgA s 62 a1) (zgA s 62 a2) n m) near (n - (i + 1)) (m - j)).2)).2) ((qtb (qds2 (zgA s 62 a1) (zgA s 62 a2) n m) near (n - i) (m - (j + 1))).1, (qtb (qds2 (zgA s 62 a1) (zgA s 62 a2) n m) near (n - i) (m - (j + 1))).2)).1) (qst1 B (21 * i + j) (qup ((qup (0, 0) ((qtb (qds2 (zgA s 62 a1) (zgA s 62 a2) n m) near (n - (i + 1)) (m - j)).1, (qtb (qds2 (zgA s 62 a1) (zgA s 62 a2) n m) near (n - (i + 1)) (m - j)).2)).1, (qup (0, 0) ((qtb (qds2 (zgA s 62 a1) (zgA s 62 a2) n m) near (n - (i + 1)) (m - j)).1, (qtb (qds2 (zgA s 62 a1) (zgA s 62 a2) n m) near (n - (i + 1)) (m - j)).2)).2) ((qtb (qds2 (zgA s 62 a1) (zgA s 62 a2) n m) near (n - i) (m - (j + 1))).1, (qtb (qds2 (zgA s 62 a1) (zgA s 62 a2) n m) near (n - i) (m - (j + 1))).2)).2) C) 52 0 (x150 : Int32).toNatClampNeg) + r) (fun (s174 : zTs) => (w_X3_fillFromTheEnd_177 P K6 (w_X3_fillFromTheEnd_17 P K6 f) s174 a1 a2 near (Int32.ofNat i) (Int32.ofNat j))))))) := by
          intro r hr
          rw [← hr] at tt
          refine ⟨fun c => ?_, fun c x hx => ?_⟩
          · rw [if_pos c] at tt
            exact nx _ _ (by rw [tt]) (by rw [tt])
          · rw [if_neg c] at tt
            rw [x22] at hx
            subst hx
            rw [q_on (by omega), qj_51, qj_52, qst1_ne (by omega), qst1_ne (by omega), p5, p6]
            refine ⟨vq _ (by omega), vq _ (by omega), i_offer vx ex ?_⟩
            rw [qst1_at, qst1_at, qst1_2, qst1_2]
            exact nx _ _ (by rw [tt]) (by rw [tt])
        refine ⟨fun c => go _ ?_, fun c => go _ ?_⟩
        · unfold qab; rw [if_pos c]
        · unfold qab; rw [if_neg c]

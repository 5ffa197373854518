/-! the class reads a rule -/
theorem i_readRule {s : zTs} {B : Nat → Int32} {L o : Nat} {P : Option Nat → zTs → Prop} (h0 : ∀ j, L ≤ j → B j = 0) (hT : yTB (zgA s 43 0) B L) (ho : zgN s 24 = o) (h66 : zgN s 66 = o) (h68 : zgN s 68 = o)
    (ok : ∀ s' w f S c q, c ≤ 20 → zgF s' 24 o 0 = Int32.ofNat c → YBF o (zuP (ynw s o) 13 0 10 o) s' → f 12 = -1 → ysk B L 0 q → YLO B L o (zuP (ynw s o) 13 0 10 o) s' q 0 c → P (some o) (YC s' w f S))
    (er : ∀ s' w f S kd pl q, YBF o (zuP (ynw s o) 13 0 10 o) s' → f 11 = kd → f 12 = pl → 0 < kd → ysk B L 0 q → YLE B L o (zuP (ynw s o) 13 0 10 o) q 0 kd pl → P none (YC s' w f S)) : w_X6_readRule s (Int32.ofNat L) P := by
  have l4 := hT.1
  intro n1 e1 s1 es1
  rw [ho] at e1
  subst e1
  subst es1
  refine i_new h66 h68 (fun s8 e8 => ⟨fun z => ?_, fun _ a ea b eb c ec d ed => ?_⟩)
  · exfalso
    rw [← Int32.not_le, show (400 : Int32) = Int32.ofNat 400 from rfl, q_nle (by omega) (by omega)] at z
    omega
  subst e8
  have hTb : yTB (zgA (zuP (ynw s n1) 13 0 10 n1) 43 0) B L := by
    rw [show zgA (zuP (ynw s n1) 13 0 10 n1) 43 0 = zgA s 43 0 from funext fun i => by rw [q_AuP]; exact ynw_A h66 (fun z => absurd z.1 (by decide)) (fun z => absurd z.1 (by decide))]
    exact hT
  have hF0 : zgF (zuP (ynw s n1) 13 0 10 n1) 24 n1 0 = Int32.ofNat 0 := by
    rw [q_FuP, ynw_24 ho]
    rfl
  have hP : zgP (zuP (ynw s n1) 13 0 10 n1) 13 0 10 = n1 := by rw [q_PuP, if_pos ⟨rfl, rfl, rfl⟩]
  rw [← YC_self (s := zuP (ynw s n1) 13 0 10 n1), YC_f] at ea
  subst ea
  rw [YC_f] at eb
  subst eb
  rw [YC_f] at ec
  subst ec
  rw [YC_f] at ed
  subst ed
  refine i_adv hTb ((qst1_ne (by decide)).trans ((qst1_ne (by decide)).trans ((qst1_ne (by decide)).trans qst1_at))) ((qst1_ne (by decide)).trans ((qst1_ne (by decide)).trans (qst1_at.trans rfl))) (Nat.zero_le _) (fun w1 f1 q1 p1 hs1 hY1 ha1 => ?_)
  have k12 : f1 12 = -1 := (ha1 12 (by decide)).trans qst1_at
  refine y_loop h0 22 0 _ w1 q1 p1 f1 _ (by omega) (by omega) (by omega) hTb hY1 hP hF0 ?_ ?_
  · intro s' w' f' S' c' hc hF hb ha mL
    exact ok s' w' f' S' c' q1 hc hF hb ((ha 12 (by decide)).trans k12) hs1 mL
  · intro s' w' f' S' kd pl hb e11 e12 hk ha mL
    exact er s' w' f' S' kd pl q1 hb e11 e12 hk hs1 mL
